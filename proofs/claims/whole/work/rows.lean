section
-- ===== PART A: goes FIRST, ahead of the names: the tables' words, and 'selects' of the private methods out of them =====
/-- a private method of a class that the tables say can be made, by its rows of tables_1 -/
def lw_okq (q : MethodName × Nat) : Prop := (q.1.cls ≠ "java/lang/invoke/MethodHandle" ∧ q.1.cls ≠ "java/lang/invoke/VarHandle") ∧ Cond.instantiable q.1.cls q.2 ∈ tables_1 ∧ Cond.privateMethod q.1 ∈ tables_1 ∧ Cond.instanceMethod q.1 ∈ tables_1
theorem lw_p0 : lw_okq (⟨"OrbitsWed", "bodiesFrom", "(III)I"⟩, 10) := ⟨⟨by decide +kernel, by decide +kernel⟩, List.mem_of_getElem? (i := 18) (by decide +kernel), List.mem_of_getElem? (i := 376) (by decide +kernel), List.mem_of_getElem? (i := 377) (by decide +kernel)⟩
theorem lw_p1 : lw_okq (⟨"OrbitsWed$Changes", "forgetOldest", "()V"⟩, 6) := ⟨⟨by decide +kernel, by decide +kernel⟩, List.mem_of_getElem? (i := 237) (by decide +kernel), List.mem_of_getElem? (i := 409) (by decide +kernel), List.mem_of_getElem? (i := 410) (by decide +kernel)⟩
theorem lw_p2 : lw_okq (⟨"OrbitsWed$Tape", "readsLine", "()Z"⟩, 6) := ⟨⟨by decide +kernel, by decide +kernel⟩, List.mem_of_getElem? (i := 84) (by decide +kernel), List.mem_of_getElem? (i := 438) (by decide +kernel), List.mem_of_getElem? (i := 439) (by decide +kernel)⟩
theorem lw_p3 : lw_okq (⟨"OrbitsWed$Tape", "readsEither", "(I)Z"⟩, 6) := ⟨⟨by decide +kernel, by decide +kernel⟩, List.mem_of_getElem? (i := 84) (by decide +kernel), List.mem_of_getElem? (i := 442) (by decide +kernel), List.mem_of_getElem? (i := 443) (by decide +kernel)⟩
theorem lw_p4 : lw_okq (⟨"OrbitsWed$Tape", "readsBoth", "(I)Z"⟩, 6) := ⟨⟨by decide +kernel, by decide +kernel⟩, List.mem_of_getElem? (i := 84) (by decide +kernel), List.mem_of_getElem? (i := 446) (by decide +kernel), List.mem_of_getElem? (i := 447) (by decide +kernel)⟩
theorem lw_p5 : lw_okq (⟨"OrbitsWed$Tape", "readsCompared", "(I)Z"⟩, 6) := ⟨⟨by decide +kernel, by decide +kernel⟩, List.mem_of_getElem? (i := 84) (by decide +kernel), List.mem_of_getElem? (i := 450) (by decide +kernel), List.mem_of_getElem? (i := 451) (by decide +kernel)⟩
theorem lw_p6 : lw_okq (⟨"OrbitsWed$Tape", "readsSum", "(I)Z"⟩, 6) := ⟨⟨by decide +kernel, by decide +kernel⟩, List.mem_of_getElem? (i := 84) (by decide +kernel), List.mem_of_getElem? (i := 454) (by decide +kernel), List.mem_of_getElem? (i := 455) (by decide +kernel)⟩
theorem lw_p7 : lw_okq (⟨"OrbitsWed$Tape", "readsProduct", "(I)Z"⟩, 6) := ⟨⟨by decide +kernel, by decide +kernel⟩, List.mem_of_getElem? (i := 84) (by decide +kernel), List.mem_of_getElem? (i := 458) (by decide +kernel), List.mem_of_getElem? (i := 459) (by decide +kernel)⟩
theorem lw_p8 : lw_okq (⟨"OrbitsWed$Tape", "readsOperand", "(I)Z"⟩, 6) := ⟨⟨by decide +kernel, by decide +kernel⟩, List.mem_of_getElem? (i := 84) (by decide +kernel), List.mem_of_getElem? (i := 462) (by decide +kernel), List.mem_of_getElem? (i := 463) (by decide +kernel)⟩
theorem lw_p9 : lw_okq (⟨"OrbitsWed$Tape", "next", "()I"⟩, 6) := ⟨⟨by decide +kernel, by decide +kernel⟩, List.mem_of_getElem? (i := 84) (by decide +kernel), List.mem_of_getElem? (i := 466) (by decide +kernel), List.mem_of_getElem? (i := 467) (by decide +kernel)⟩
theorem lw_p10 : lw_okq (⟨"OrbitsWed$Tape", "readNumber", "()V"⟩, 6) := ⟨⟨by decide +kernel, by decide +kernel⟩, List.mem_of_getElem? (i := 84) (by decide +kernel), List.mem_of_getElem? (i := 470) (by decide +kernel), List.mem_of_getElem? (i := 471) (by decide +kernel)⟩
theorem lw_p11 : lw_okq (⟨"OrbitsWed$Tape", "draft", "(II)V"⟩, 6) := ⟨⟨by decide +kernel, by decide +kernel⟩, List.mem_of_getElem? (i := 84) (by decide +kernel), List.mem_of_getElem? (i := 474) (by decide +kernel), List.mem_of_getElem? (i := 475) (by decide +kernel)⟩
theorem lw_p12 : lw_okq (⟨"OrbitsWed$Tape", "readsClosed", "(I)Z"⟩, 6) := ⟨⟨by decide +kernel, by decide +kernel⟩, List.mem_of_getElem? (i := 84) (by decide +kernel), List.mem_of_getElem? (i := 481) (by decide +kernel), List.mem_of_getElem? (i := 482) (by decide +kernel)⟩
theorem lw_p13 : lw_okq (⟨"OrbitsWed$Tape", "readsTurned", "(II)Z"⟩, 6) := ⟨⟨by decide +kernel, by decide +kernel⟩, List.mem_of_getElem? (i := 84) (by decide +kernel), List.mem_of_getElem? (i := 485) (by decide +kernel), List.mem_of_getElem? (i := 486) (by decide +kernel)⟩
theorem lw_p14 : lw_okq (⟨"OrbitsWed$Clock", "nextAtStart", "(IJJ)J"⟩, 1) := ⟨⟨by decide +kernel, by decide +kernel⟩, List.mem_of_getElem? (i := 74) (by decide +kernel), List.mem_of_getElem? (i := 588) (by decide +kernel), List.mem_of_getElem? (i := 589) (by decide +kernel)⟩
theorem lw_p15 : lw_okq (⟨"OrbitsWed$Clock", "isFree", "(II)Z"⟩, 1) := ⟨⟨by decide +kernel, by decide +kernel⟩, List.mem_of_getElem? (i := 74) (by decide +kernel), List.mem_of_getElem? (i := 624) (by decide +kernel), List.mem_of_getElem? (i := 625) (by decide +kernel)⟩
def lw_privs_1 : List (MethodName × Nat) := [(⟨"OrbitsWed", "bodiesFrom", "(III)I"⟩, 10), (⟨"OrbitsWed$Changes", "forgetOldest", "()V"⟩, 6), (⟨"OrbitsWed$Tape", "readsLine", "()Z"⟩, 6), (⟨"OrbitsWed$Tape", "readsEither", "(I)Z"⟩, 6), (⟨"OrbitsWed$Tape", "readsBoth", "(I)Z"⟩, 6), (⟨"OrbitsWed$Tape", "readsCompared", "(I)Z"⟩, 6), (⟨"OrbitsWed$Tape", "readsSum", "(I)Z"⟩, 6), (⟨"OrbitsWed$Tape", "readsProduct", "(I)Z"⟩, 6), (⟨"OrbitsWed$Tape", "readsOperand", "(I)Z"⟩, 6), (⟨"OrbitsWed$Tape", "next", "()I"⟩, 6), (⟨"OrbitsWed$Tape", "readNumber", "()V"⟩, 6), (⟨"OrbitsWed$Tape", "draft", "(II)V"⟩, 6), (⟨"OrbitsWed$Tape", "readsClosed", "(I)Z"⟩, 6), (⟨"OrbitsWed$Tape", "readsTurned", "(II)Z"⟩, 6), (⟨"OrbitsWed$Clock", "nextAtStart", "(IJJ)J"⟩, 1), (⟨"OrbitsWed$Clock", "isFree", "(II)Z"⟩, 1)]
theorem lw_r1 : ∀ q ∈ lw_privs_1, lw_okq q := List.forall_mem_cons.mpr ⟨lw_p0, List.forall_mem_cons.mpr ⟨lw_p1, List.forall_mem_cons.mpr ⟨lw_p2, List.forall_mem_cons.mpr ⟨lw_p3, List.forall_mem_cons.mpr ⟨lw_p4, List.forall_mem_cons.mpr ⟨lw_p5, List.forall_mem_cons.mpr ⟨lw_p6, List.forall_mem_cons.mpr ⟨lw_p7, List.forall_mem_cons.mpr ⟨lw_p8, List.forall_mem_cons.mpr ⟨lw_p9, List.forall_mem_cons.mpr ⟨lw_p10, List.forall_mem_cons.mpr ⟨lw_p11, List.forall_mem_cons.mpr ⟨lw_p12, List.forall_mem_cons.mpr ⟨lw_p13, List.forall_mem_cons.mpr ⟨lw_p14, List.forall_mem_cons.mpr ⟨lw_p15, fun _ h => absurd h List.not_mem_nil⟩⟩⟩⟩⟩⟩⟩⟩⟩⟩⟩⟩⟩⟩⟩⟩
theorem lw_p16 : lw_okq (⟨"OrbitsWed$Clock", "isLonely", "(IIII)Z"⟩, 1) := ⟨⟨by decide +kernel, by decide +kernel⟩, List.mem_of_getElem? (i := 74) (by decide +kernel), List.mem_of_getElem? (i := 656) (by decide +kernel), List.mem_of_getElem? (i := 657) (by decide +kernel)⟩
theorem lw_p17 : lw_okq (⟨"OrbitsWed$Walk", "look", "()V"⟩, 8) := ⟨⟨by decide +kernel, by decide +kernel⟩, List.mem_of_getElem? (i := 136) (by decide +kernel), List.mem_of_getElem? (i := 692) (by decide +kernel), List.mem_of_getElem? (i := 693) (by decide +kernel)⟩
theorem lw_p18 : lw_okq (⟨"OrbitsWed$Walk", "pushOf", "(II)I"⟩, 8) := ⟨⟨by decide +kernel, by decide +kernel⟩, List.mem_of_getElem? (i := 136) (by decide +kernel), List.mem_of_getElem? (i := 698) (by decide +kernel), List.mem_of_getElem? (i := 699) (by decide +kernel)⟩
theorem lw_p19 : lw_okq (⟨"OrbitsWed$Law", "workedOut", "()I"⟩, 5) := ⟨⟨by decide +kernel, by decide +kernel⟩, List.mem_of_getElem? (i := 114) (by decide +kernel), List.mem_of_getElem? (i := 710) (by decide +kernel), List.mem_of_getElem? (i := 711) (by decide +kernel)⟩
theorem lw_p20 : lw_okq (⟨"OrbitsWed$Law", "namedBy", "(I)I"⟩, 5) := ⟨⟨by decide +kernel, by decide +kernel⟩, List.mem_of_getElem? (i := 114) (by decide +kernel), List.mem_of_getElem? (i := 714) (by decide +kernel), List.mem_of_getElem? (i := 715) (by decide +kernel)⟩
theorem lw_p21 : lw_okq (⟨"OrbitsWed$Foresight", "firstSeen", "(I)I"⟩, 3) := ⟨⟨by decide +kernel, by decide +kernel⟩, List.mem_of_getElem? (i := 172) (by decide +kernel), List.mem_of_getElem? (i := 765) (by decide +kernel), List.mem_of_getElem? (i := 766) (by decide +kernel)⟩
theorem lw_p22 : lw_okq (⟨"OrbitsWed", "likings", "(IIIZ)I"⟩, 10) := ⟨⟨by decide +kernel, by decide +kernel⟩, List.mem_of_getElem? (i := 18) (by decide +kernel), List.mem_of_getElem? (i := 792) (by decide +kernel), List.mem_of_getElem? (i := 793) (by decide +kernel)⟩
theorem lw_p23 : lw_okq (⟨"OrbitsWed$Clock", "endsMet", "(IIIIIZ)Z"⟩, 1) := ⟨⟨by decide +kernel, by decide +kernel⟩, List.mem_of_getElem? (i := 74) (by decide +kernel), List.mem_of_getElem? (i := 808) (by decide +kernel), List.mem_of_getElem? (i := 809) (by decide +kernel)⟩
theorem lw_p24 : lw_okq (⟨"OrbitsWed$Clock", "arcFrom", "(III)I"⟩, 1) := ⟨⟨by decide +kernel, by decide +kernel⟩, List.mem_of_getElem? (i := 74) (by decide +kernel), List.mem_of_getElem? (i := 831) (by decide +kernel), List.mem_of_getElem? (i := 832) (by decide +kernel)⟩
theorem lw_p25 : lw_okq (⟨"OrbitsWed$Foresight", "slipped", "(II)I"⟩, 3) := ⟨⟨by decide +kernel, by decide +kernel⟩, List.mem_of_getElem? (i := 172) (by decide +kernel), List.mem_of_getElem? (i := 846) (by decide +kernel), List.mem_of_getElem? (i := 847) (by decide +kernel)⟩
theorem lw_p26 : lw_okq (⟨"OrbitsWed$Moods", "own", "(IIII)I"⟩, 4) := ⟨⟨by decide +kernel, by decide +kernel⟩, List.mem_of_getElem? (i := 296) (by decide +kernel), List.mem_of_getElem? (i := 923) (by decide +kernel), List.mem_of_getElem? (i := 924) (by decide +kernel)⟩
theorem lw_p27 : lw_okq (⟨"OrbitsWed$Moods", "ranFrom", "(IIIII)I"⟩, 4) := ⟨⟨by decide +kernel, by decide +kernel⟩, List.mem_of_getElem? (i := 296) (by decide +kernel), List.mem_of_getElem? (i := 927) (by decide +kernel), List.mem_of_getElem? (i := 928) (by decide +kernel)⟩
theorem lw_p28 : lw_okq (⟨"OrbitsWed$Moods", "note", "(I)V"⟩, 4) := ⟨⟨by decide +kernel, by decide +kernel⟩, List.mem_of_getElem? (i := 296) (by decide +kernel), List.mem_of_getElem? (i := 939) (by decide +kernel), List.mem_of_getElem? (i := 940) (by decide +kernel)⟩
theorem lw_p29 : lw_okq (⟨"OrbitsWed$Moods", "drawing", "(IIII)I"⟩, 4) := ⟨⟨by decide +kernel, by decide +kernel⟩, List.mem_of_getElem? (i := 296) (by decide +kernel), List.mem_of_getElem? (i := 943) (by decide +kernel), List.mem_of_getElem? (i := 944) (by decide +kernel)⟩
theorem lw_p30 : lw_okq (⟨"OrbitsWed$Moods", "above", "(IIIII)I"⟩, 4) := ⟨⟨by decide +kernel, by decide +kernel⟩, List.mem_of_getElem? (i := 296) (by decide +kernel), List.mem_of_getElem? (i := 947) (by decide +kernel), List.mem_of_getElem? (i := 948) (by decide +kernel)⟩
theorem lw_p31 : lw_okq (⟨"OrbitsWed$Moods", "meeting", "(IIII)I"⟩, 4) := ⟨⟨by decide +kernel, by decide +kernel⟩, List.mem_of_getElem? (i := 296) (by decide +kernel), List.mem_of_getElem? (i := 951) (by decide +kernel), List.mem_of_getElem? (i := 952) (by decide +kernel)⟩
def lw_privs_2 : List (MethodName × Nat) := [(⟨"OrbitsWed$Clock", "isLonely", "(IIII)Z"⟩, 1), (⟨"OrbitsWed$Walk", "look", "()V"⟩, 8), (⟨"OrbitsWed$Walk", "pushOf", "(II)I"⟩, 8), (⟨"OrbitsWed$Law", "workedOut", "()I"⟩, 5), (⟨"OrbitsWed$Law", "namedBy", "(I)I"⟩, 5), (⟨"OrbitsWed$Foresight", "firstSeen", "(I)I"⟩, 3), (⟨"OrbitsWed", "likings", "(IIIZ)I"⟩, 10), (⟨"OrbitsWed$Clock", "endsMet", "(IIIIIZ)Z"⟩, 1), (⟨"OrbitsWed$Clock", "arcFrom", "(III)I"⟩, 1), (⟨"OrbitsWed$Foresight", "slipped", "(II)I"⟩, 3), (⟨"OrbitsWed$Moods", "own", "(IIII)I"⟩, 4), (⟨"OrbitsWed$Moods", "ranFrom", "(IIIII)I"⟩, 4), (⟨"OrbitsWed$Moods", "note", "(I)V"⟩, 4), (⟨"OrbitsWed$Moods", "drawing", "(IIII)I"⟩, 4), (⟨"OrbitsWed$Moods", "above", "(IIIII)I"⟩, 4), (⟨"OrbitsWed$Moods", "meeting", "(IIII)I"⟩, 4)]
theorem lw_r2 : ∀ q ∈ lw_privs_2, lw_okq q := List.forall_mem_cons.mpr ⟨lw_p16, List.forall_mem_cons.mpr ⟨lw_p17, List.forall_mem_cons.mpr ⟨lw_p18, List.forall_mem_cons.mpr ⟨lw_p19, List.forall_mem_cons.mpr ⟨lw_p20, List.forall_mem_cons.mpr ⟨lw_p21, List.forall_mem_cons.mpr ⟨lw_p22, List.forall_mem_cons.mpr ⟨lw_p23, List.forall_mem_cons.mpr ⟨lw_p24, List.forall_mem_cons.mpr ⟨lw_p25, List.forall_mem_cons.mpr ⟨lw_p26, List.forall_mem_cons.mpr ⟨lw_p27, List.forall_mem_cons.mpr ⟨lw_p28, List.forall_mem_cons.mpr ⟨lw_p29, List.forall_mem_cons.mpr ⟨lw_p30, List.forall_mem_cons.mpr ⟨lw_p31, fun _ h => absurd h List.not_mem_nil⟩⟩⟩⟩⟩⟩⟩⟩⟩⟩⟩⟩⟩⟩⟩⟩
theorem lw_p32 : lw_okq (⟨"OrbitsWed$Moods", "shunning", "(IIII)I"⟩, 4) := ⟨⟨by decide +kernel, by decide +kernel⟩, List.mem_of_getElem? (i := 296) (by decide +kernel), List.mem_of_getElem? (i := 955) (by decide +kernel), List.mem_of_getElem? (i := 956) (by decide +kernel)⟩
theorem lw_p33 : lw_okq (⟨"OrbitsWed$Moods", "telling", "(IIII)I"⟩, 4) := ⟨⟨by decide +kernel, by decide +kernel⟩, List.mem_of_getElem? (i := 296) (by decide +kernel), List.mem_of_getElem? (i := 959) (by decide +kernel), List.mem_of_getElem? (i := 960) (by decide +kernel)⟩
theorem lw_p34 : lw_okq (⟨"OrbitsWedModel", "adds", "(III)V"⟩, 39) := ⟨⟨by decide +kernel, by decide +kernel⟩, List.mem_of_getElem? (i := 1036) (by decide +kernel), List.mem_of_getElem? (i := 1180) (by decide +kernel), List.mem_of_getElem? (i := 1181) (by decide +kernel)⟩
theorem lw_p35 : lw_okq (⟨"OrbitsWedModel", "placeOf", "(II)I"⟩, 39) := ⟨⟨by decide +kernel, by decide +kernel⟩, List.mem_of_getElem? (i := 1036) (by decide +kernel), List.mem_of_getElem? (i := 1197) (by decide +kernel), List.mem_of_getElem? (i := 1198) (by decide +kernel)⟩
theorem lw_p36 : lw_okq (⟨"OrbitsWedModel", "isOrb", "(J)Z"⟩, 39) := ⟨⟨by decide +kernel, by decide +kernel⟩, List.mem_of_getElem? (i := 1036) (by decide +kernel), List.mem_of_getElem? (i := 1201) (by decide +kernel), List.mem_of_getElem? (i := 1202) (by decide +kernel)⟩
theorem lw_p37 : lw_okq (⟨"OrbitsWedModel", "isAb", "(I)Z"⟩, 39) := ⟨⟨by decide +kernel, by decide +kernel⟩, List.mem_of_getElem? (i := 1036) (by decide +kernel), List.mem_of_getElem? (i := 1205) (by decide +kernel), List.mem_of_getElem? (i := 1206) (by decide +kernel)⟩
theorem lw_p38 : lw_okq (⟨"OrbitsWedModel", "mayBecome", "(III)Z"⟩, 39) := ⟨⟨by decide +kernel, by decide +kernel⟩, List.mem_of_getElem? (i := 1036) (by decide +kernel), List.mem_of_getElem? (i := 1209) (by decide +kernel), List.mem_of_getElem? (i := 1210) (by decide +kernel)⟩
theorem lw_p39 : lw_okq (⟨"OrbitsWedModel", "becomes", "(II)I"⟩, 39) := ⟨⟨by decide +kernel, by decide +kernel⟩, List.mem_of_getElem? (i := 1036) (by decide +kernel), List.mem_of_getElem? (i := 1215) (by decide +kernel), List.mem_of_getElem? (i := 1216) (by decide +kernel)⟩
theorem lw_p40 : lw_okq (⟨"OrbitsWedModel", "workOut", "(II)I"⟩, 39) := ⟨⟨by decide +kernel, by decide +kernel⟩, List.mem_of_getElem? (i := 1036) (by decide +kernel), List.mem_of_getElem? (i := 1233) (by decide +kernel), List.mem_of_getElem? (i := 1234) (by decide +kernel)⟩
theorem lw_p41 : lw_okq (⟨"OrbitsWedModel", "either", "()I"⟩, 39) := ⟨⟨by decide +kernel, by decide +kernel⟩, List.mem_of_getElem? (i := 1036) (by decide +kernel), List.mem_of_getElem? (i := 1237) (by decide +kernel), List.mem_of_getElem? (i := 1238) (by decide +kernel)⟩
theorem lw_p42 : lw_okq (⟨"OrbitsWedModel", "both", "()I"⟩, 39) := ⟨⟨by decide +kernel, by decide +kernel⟩, List.mem_of_getElem? (i := 1036) (by decide +kernel), List.mem_of_getElem? (i := 1241) (by decide +kernel), List.mem_of_getElem? (i := 1242) (by decide +kernel)⟩
theorem lw_p43 : lw_okq (⟨"OrbitsWedModel", "compared", "()I"⟩, 39) := ⟨⟨by decide +kernel, by decide +kernel⟩, List.mem_of_getElem? (i := 1036) (by decide +kernel), List.mem_of_getElem? (i := 1245) (by decide +kernel), List.mem_of_getElem? (i := 1246) (by decide +kernel)⟩
theorem lw_p44 : lw_okq (⟨"OrbitsWedModel", "sums", "()I"⟩, 39) := ⟨⟨by decide +kernel, by decide +kernel⟩, List.mem_of_getElem? (i := 1036) (by decide +kernel), List.mem_of_getElem? (i := 1249) (by decide +kernel), List.mem_of_getElem? (i := 1250) (by decide +kernel)⟩
theorem lw_p45 : lw_okq (⟨"OrbitsWedModel", "product", "()I"⟩, 39) := ⟨⟨by decide +kernel, by decide +kernel⟩, List.mem_of_getElem? (i := 1036) (by decide +kernel), List.mem_of_getElem? (i := 1253) (by decide +kernel), List.mem_of_getElem? (i := 1254) (by decide +kernel)⟩
theorem lw_p46 : lw_okq (⟨"OrbitsWedModel", "one", "()I"⟩, 39) := ⟨⟨by decide +kernel, by decide +kernel⟩, List.mem_of_getElem? (i := 1036) (by decide +kernel), List.mem_of_getElem? (i := 1257) (by decide +kernel), List.mem_of_getElem? (i := 1258) (by decide +kernel)⟩
theorem lw_p47 : lw_okq (⟨"OrbitsWedModel", "byteAt", "()I"⟩, 39) := ⟨⟨by decide +kernel, by decide +kernel⟩, List.mem_of_getElem? (i := 1036) (by decide +kernel), List.mem_of_getElem? (i := 1261) (by decide +kernel), List.mem_of_getElem? (i := 1262) (by decide +kernel)⟩
def lw_privs_3 : List (MethodName × Nat) := [(⟨"OrbitsWed$Moods", "shunning", "(IIII)I"⟩, 4), (⟨"OrbitsWed$Moods", "telling", "(IIII)I"⟩, 4), (⟨"OrbitsWedModel", "adds", "(III)V"⟩, 39), (⟨"OrbitsWedModel", "placeOf", "(II)I"⟩, 39), (⟨"OrbitsWedModel", "isOrb", "(J)Z"⟩, 39), (⟨"OrbitsWedModel", "isAb", "(I)Z"⟩, 39), (⟨"OrbitsWedModel", "mayBecome", "(III)Z"⟩, 39), (⟨"OrbitsWedModel", "becomes", "(II)I"⟩, 39), (⟨"OrbitsWedModel", "workOut", "(II)I"⟩, 39), (⟨"OrbitsWedModel", "either", "()I"⟩, 39), (⟨"OrbitsWedModel", "both", "()I"⟩, 39), (⟨"OrbitsWedModel", "compared", "()I"⟩, 39), (⟨"OrbitsWedModel", "sums", "()I"⟩, 39), (⟨"OrbitsWedModel", "product", "()I"⟩, 39), (⟨"OrbitsWedModel", "one", "()I"⟩, 39), (⟨"OrbitsWedModel", "byteAt", "()I"⟩, 39)]
theorem lw_r3 : ∀ q ∈ lw_privs_3, lw_okq q := List.forall_mem_cons.mpr ⟨lw_p32, List.forall_mem_cons.mpr ⟨lw_p33, List.forall_mem_cons.mpr ⟨lw_p34, List.forall_mem_cons.mpr ⟨lw_p35, List.forall_mem_cons.mpr ⟨lw_p36, List.forall_mem_cons.mpr ⟨lw_p37, List.forall_mem_cons.mpr ⟨lw_p38, List.forall_mem_cons.mpr ⟨lw_p39, List.forall_mem_cons.mpr ⟨lw_p40, List.forall_mem_cons.mpr ⟨lw_p41, List.forall_mem_cons.mpr ⟨lw_p42, List.forall_mem_cons.mpr ⟨lw_p43, List.forall_mem_cons.mpr ⟨lw_p44, List.forall_mem_cons.mpr ⟨lw_p45, List.forall_mem_cons.mpr ⟨lw_p46, List.forall_mem_cons.mpr ⟨lw_p47, fun _ h => absurd h List.not_mem_nil⟩⟩⟩⟩⟩⟩⟩⟩⟩⟩⟩⟩⟩⟩⟩⟩
theorem lw_p48 : lw_okq (⟨"OrbitsWedModel", "wrong", "()I"⟩, 39) := ⟨⟨by decide +kernel, by decide +kernel⟩, List.mem_of_getElem? (i := 1036) (by decide +kernel), List.mem_of_getElem? (i := 1265) (by decide +kernel), List.mem_of_getElem? (i := 1266) (by decide +kernel)⟩
theorem lw_p49 : lw_okq (⟨"OrbitsWedModel", "takes", "(I)Z"⟩, 39) := ⟨⟨by decide +kernel, by decide +kernel⟩, List.mem_of_getElem? (i := 1036) (by decide +kernel), List.mem_of_getElem? (i := 1269) (by decide +kernel), List.mem_of_getElem? (i := 1270) (by decide +kernel)⟩
theorem lw_p50 : lw_okq (⟨"OrbitsWedModel", "clock", "(IJ)I"⟩, 39) := ⟨⟨by decide +kernel, by decide +kernel⟩, List.mem_of_getElem? (i := 1036) (by decide +kernel), List.mem_of_getElem? (i := 1284) (by decide +kernel), List.mem_of_getElem? (i := 1285) (by decide +kernel)⟩
theorem lw_p51 : lw_okq (⟨"OrbitsWedModel", "degreesOf", "(II)I"⟩, 39) := ⟨⟨by decide +kernel, by decide +kernel⟩, List.mem_of_getElem? (i := 1036) (by decide +kernel), List.mem_of_getElem? (i := 1288) (by decide +kernel), List.mem_of_getElem? (i := 1289) (by decide +kernel)⟩
theorem lw_p52 : lw_okq (⟨"OrbitsWedModel", "apartOn", "(IIJ)I"⟩, 39) := ⟨⟨by decide +kernel, by decide +kernel⟩, List.mem_of_getElem? (i := 1036) (by decide +kernel), List.mem_of_getElem? (i := 1296) (by decide +kernel), List.mem_of_getElem? (i := 1297) (by decide +kernel)⟩
theorem lw_p53 : lw_okq (⟨"OrbitsWedModel", "meetOn", "(IIJ)Z"⟩, 39) := ⟨⟨by decide +kernel, by decide +kernel⟩, List.mem_of_getElem? (i := 1036) (by decide +kernel), List.mem_of_getElem? (i := 1303) (by decide +kernel), List.mem_of_getElem? (i := 1304) (by decide +kernel)⟩
theorem lw_p54 : lw_okq (⟨"OrbitsWedModel", "isSet", "(I)Z"⟩, 39) := ⟨⟨by decide +kernel, by decide +kernel⟩, List.mem_of_getElem? (i := 1036) (by decide +kernel), List.mem_of_getElem? (i := 1321) (by decide +kernel), List.mem_of_getElem? (i := 1322) (by decide +kernel)⟩
theorem lw_p55 : lw_okq (⟨"OrbitsWedModel", "moodOn", "(IJ)I"⟩, 39) := ⟨⟨by decide +kernel, by decide +kernel⟩, List.mem_of_getElem? (i := 1036) (by decide +kernel), List.mem_of_getElem? (i := 1341) (by decide +kernel), List.mem_of_getElem? (i := 1342) (by decide +kernel)⟩
theorem lw_p56 : lw_okq (⟨"OrbitsWedModel", "isQuiet", "(IJ)Z"⟩, 39) := ⟨⟨by decide +kernel, by decide +kernel⟩, List.mem_of_getElem? (i := 1036) (by decide +kernel), List.mem_of_getElem? (i := 1354) (by decide +kernel), List.mem_of_getElem? (i := 1355) (by decide +kernel)⟩
theorem lw_p57 : lw_okq (⟨"OrbitsWedModel", "meetsMoved", "(IIIJ)Z"⟩, 39) := ⟨⟨by decide +kernel, by decide +kernel⟩, List.mem_of_getElem? (i := 1036) (by decide +kernel), List.mem_of_getElem? (i := 1362) (by decide +kernel), List.mem_of_getElem? (i := 1363) (by decide +kernel)⟩
theorem lw_p58 : lw_okq (⟨"OrbitsWedModel", "ago", "(II)I"⟩, 39) := ⟨⟨by decide +kernel, by decide +kernel⟩, List.mem_of_getElem? (i := 1036) (by decide +kernel), List.mem_of_getElem? (i := 1374) (by decide +kernel), List.mem_of_getElem? (i := 1375) (by decide +kernel)⟩
theorem lw_p59 : lw_okq (⟨"OrbitsWedModel", "goes", "(I)V"⟩, 39) := ⟨⟨by decide +kernel, by decide +kernel⟩, List.mem_of_getElem? (i := 1036) (by decide +kernel), List.mem_of_getElem? (i := 1386) (by decide +kernel), List.mem_of_getElem? (i := 1387) (by decide +kernel)⟩
theorem lw_p60 : lw_okq (⟨"OrbitsWedModel", "begins", "()V"⟩, 39) := ⟨⟨by decide +kernel, by decide +kernel⟩, List.mem_of_getElem? (i := 1036) (by decide +kernel), List.mem_of_getElem? (i := 1390) (by decide +kernel), List.mem_of_getElem? (i := 1391) (by decide +kernel)⟩
theorem lw_p61 : lw_okq (⟨"OrbitsWedModel", "passes", "(I)V"⟩, 39) := ⟨⟨by decide +kernel, by decide +kernel⟩, List.mem_of_getElem? (i := 1036) (by decide +kernel), List.mem_of_getElem? (i := 1394) (by decide +kernel), List.mem_of_getElem? (i := 1395) (by decide +kernel)⟩
theorem lw_p62 : lw_okq (⟨"OrbitsWedModel", "meetNow", "(II)Z"⟩, 39) := ⟨⟨by decide +kernel, by decide +kernel⟩, List.mem_of_getElem? (i := 1036) (by decide +kernel), List.mem_of_getElem? (i := 1398) (by decide +kernel), List.mem_of_getElem? (i := 1399) (by decide +kernel)⟩
theorem lw_p63 : lw_okq (⟨"OrbitsWedModel", "apartNow", "(II)I"⟩, 39) := ⟨⟨by decide +kernel, by decide +kernel⟩, List.mem_of_getElem? (i := 1036) (by decide +kernel), List.mem_of_getElem? (i := 1402) (by decide +kernel), List.mem_of_getElem? (i := 1403) (by decide +kernel)⟩
def lw_privs_4 : List (MethodName × Nat) := [(⟨"OrbitsWedModel", "wrong", "()I"⟩, 39), (⟨"OrbitsWedModel", "takes", "(I)Z"⟩, 39), (⟨"OrbitsWedModel", "clock", "(IJ)I"⟩, 39), (⟨"OrbitsWedModel", "degreesOf", "(II)I"⟩, 39), (⟨"OrbitsWedModel", "apartOn", "(IIJ)I"⟩, 39), (⟨"OrbitsWedModel", "meetOn", "(IIJ)Z"⟩, 39), (⟨"OrbitsWedModel", "isSet", "(I)Z"⟩, 39), (⟨"OrbitsWedModel", "moodOn", "(IJ)I"⟩, 39), (⟨"OrbitsWedModel", "isQuiet", "(IJ)Z"⟩, 39), (⟨"OrbitsWedModel", "meetsMoved", "(IIIJ)Z"⟩, 39), (⟨"OrbitsWedModel", "ago", "(II)I"⟩, 39), (⟨"OrbitsWedModel", "goes", "(I)V"⟩, 39), (⟨"OrbitsWedModel", "begins", "()V"⟩, 39), (⟨"OrbitsWedModel", "passes", "(I)V"⟩, 39), (⟨"OrbitsWedModel", "meetNow", "(II)Z"⟩, 39), (⟨"OrbitsWedModel", "apartNow", "(II)I"⟩, 39)]
theorem lw_r4 : ∀ q ∈ lw_privs_4, lw_okq q := List.forall_mem_cons.mpr ⟨lw_p48, List.forall_mem_cons.mpr ⟨lw_p49, List.forall_mem_cons.mpr ⟨lw_p50, List.forall_mem_cons.mpr ⟨lw_p51, List.forall_mem_cons.mpr ⟨lw_p52, List.forall_mem_cons.mpr ⟨lw_p53, List.forall_mem_cons.mpr ⟨lw_p54, List.forall_mem_cons.mpr ⟨lw_p55, List.forall_mem_cons.mpr ⟨lw_p56, List.forall_mem_cons.mpr ⟨lw_p57, List.forall_mem_cons.mpr ⟨lw_p58, List.forall_mem_cons.mpr ⟨lw_p59, List.forall_mem_cons.mpr ⟨lw_p60, List.forall_mem_cons.mpr ⟨lw_p61, List.forall_mem_cons.mpr ⟨lw_p62, List.forall_mem_cons.mpr ⟨lw_p63, fun _ h => absurd h List.not_mem_nil⟩⟩⟩⟩⟩⟩⟩⟩⟩⟩⟩⟩⟩⟩⟩⟩
theorem lw_p64 : lw_okq (⟨"OrbitsWedModel", "pushOf", "(III)I"⟩, 39) := ⟨⟨by decide +kernel, by decide +kernel⟩, List.mem_of_getElem? (i := 1036) (by decide +kernel), List.mem_of_getElem? (i := 1406) (by decide +kernel), List.mem_of_getElem? (i := 1407) (by decide +kernel)⟩
theorem lw_p65 : lw_okq (⟨"OrbitsWedModel", "stoodAs", "(II)Z"⟩, 39) := ⟨⟨by decide +kernel, by decide +kernel⟩, List.mem_of_getElem? (i := 1036) (by decide +kernel), List.mem_of_getElem? (i := 1422) (by decide +kernel), List.mem_of_getElem? (i := 1423) (by decide +kernel)⟩
theorem lw_p66 : lw_okq (⟨"OrbitsWedModel", "bytesIs", "(I)I"⟩, 39) := ⟨⟨by decide +kernel, by decide +kernel⟩, List.mem_of_getElem? (i := 1036) (by decide +kernel), List.mem_of_getElem? (i := 1430) (by decide +kernel), List.mem_of_getElem? (i := 1431) (by decide +kernel)⟩
theorem lw_p67 : lw_okq (⟨"OrbitsWedModel", "firstFalse", "(II)I"⟩, 39) := ⟨⟨by decide +kernel, by decide +kernel⟩, List.mem_of_getElem? (i := 1036) (by decide +kernel), List.mem_of_getElem? (i := 1434) (by decide +kernel), List.mem_of_getElem? (i := 1435) (by decide +kernel)⟩
theorem lw_p68 : lw_okq (⟨"OrbitsWedModel", "gapBehind", "(III)I"⟩, 39) := ⟨⟨by decide +kernel, by decide +kernel⟩, List.mem_of_getElem? (i := 1036) (by decide +kernel), List.mem_of_getElem? (i := 1459) (by decide +kernel), List.mem_of_getElem? (i := 1460) (by decide +kernel)⟩
theorem lw_p69 : lw_okq (⟨"OrbitsWedModel", "meetsAnybody", "(I)Z"⟩, 39) := ⟨⟨by decide +kernel, by decide +kernel⟩, List.mem_of_getElem? (i := 1036) (by decide +kernel), List.mem_of_getElem? (i := 1469) (by decide +kernel), List.mem_of_getElem? (i := 1470) (by decide +kernel)⟩
theorem lw_p70 : lw_okq (⟨"OrbitsWedModel", "isBody", "(I)Z"⟩, 39) := ⟨⟨by decide +kernel, by decide +kernel⟩, List.mem_of_getElem? (i := 1036) (by decide +kernel), List.mem_of_getElem? (i := 1504) (by decide +kernel), List.mem_of_getElem? (i := 1505) (by decide +kernel)⟩
theorem lw_p71 : lw_okq (⟨"OrbitsWedModel", "drawsAs", "(II)I"⟩, 39) := ⟨⟨by decide +kernel, by decide +kernel⟩, List.mem_of_getElem? (i := 1036) (by decide +kernel), List.mem_of_getElem? (i := 1508) (by decide +kernel), List.mem_of_getElem? (i := 1509) (by decide +kernel)⟩
theorem lw_p72 : lw_okq (⟨"OrbitsWedModel", "runs", "(I)V"⟩, 39) := ⟨⟨by decide +kernel, by decide +kernel⟩, List.mem_of_getElem? (i := 1036) (by decide +kernel), List.mem_of_getElem? (i := 1512) (by decide +kernel), List.mem_of_getElem? (i := 1513) (by decide +kernel)⟩
theorem lw_p73 : lw_okq (⟨"OrbitsWedModel", "meetsAs", "(II)I"⟩, 39) := ⟨⟨by decide +kernel, by decide +kernel⟩, List.mem_of_getElem? (i := 1036) (by decide +kernel), List.mem_of_getElem? (i := 1516) (by decide +kernel), List.mem_of_getElem? (i := 1517) (by decide +kernel)⟩
theorem lw_p74 : lw_okq (⟨"OrbitsWedModel", "shunsAs", "(II)I"⟩, 39) := ⟨⟨by decide +kernel, by decide +kernel⟩, List.mem_of_getElem? (i := 1036) (by decide +kernel), List.mem_of_getElem? (i := 1520) (by decide +kernel), List.mem_of_getElem? (i := 1521) (by decide +kernel)⟩
theorem lw_p75 : lw_okq (⟨"OrbitsWedModel", "tellsAs", "(II)I"⟩, 39) := ⟨⟨by decide +kernel, by decide +kernel⟩, List.mem_of_getElem? (i := 1036) (by decide +kernel), List.mem_of_getElem? (i := 1524) (by decide +kernel), List.mem_of_getElem? (i := 1525) (by decide +kernel)⟩
theorem lw_p76 : lw_okq (⟨"OrbitsWedModel", "refusal", "(II)I"⟩, 39) := ⟨⟨by decide +kernel, by decide +kernel⟩, List.mem_of_getElem? (i := 1036) (by decide +kernel), List.mem_of_getElem? (i := 1545) (by decide +kernel), List.mem_of_getElem? (i := 1546) (by decide +kernel)⟩
theorem lw_p77 : lw_okq (⟨"OrbitsWedModel", "kindOf", "(I)I"⟩, 39) := ⟨⟨by decide +kernel, by decide +kernel⟩, List.mem_of_getElem? (i := 1036) (by decide +kernel), List.mem_of_getElem? (i := 1564) (by decide +kernel), List.mem_of_getElem? (i := 1565) (by decide +kernel)⟩
def lw_privs_5 : List (MethodName × Nat) := [(⟨"OrbitsWedModel", "pushOf", "(III)I"⟩, 39), (⟨"OrbitsWedModel", "stoodAs", "(II)Z"⟩, 39), (⟨"OrbitsWedModel", "bytesIs", "(I)I"⟩, 39), (⟨"OrbitsWedModel", "firstFalse", "(II)I"⟩, 39), (⟨"OrbitsWedModel", "gapBehind", "(III)I"⟩, 39), (⟨"OrbitsWedModel", "meetsAnybody", "(I)Z"⟩, 39), (⟨"OrbitsWedModel", "isBody", "(I)Z"⟩, 39), (⟨"OrbitsWedModel", "drawsAs", "(II)I"⟩, 39), (⟨"OrbitsWedModel", "runs", "(I)V"⟩, 39), (⟨"OrbitsWedModel", "meetsAs", "(II)I"⟩, 39), (⟨"OrbitsWedModel", "shunsAs", "(II)I"⟩, 39), (⟨"OrbitsWedModel", "tellsAs", "(II)I"⟩, 39), (⟨"OrbitsWedModel", "refusal", "(II)I"⟩, 39), (⟨"OrbitsWedModel", "kindOf", "(I)I"⟩, 39)]
theorem lw_r5 : ∀ q ∈ lw_privs_5, lw_okq q := List.forall_mem_cons.mpr ⟨lw_p64, List.forall_mem_cons.mpr ⟨lw_p65, List.forall_mem_cons.mpr ⟨lw_p66, List.forall_mem_cons.mpr ⟨lw_p67, List.forall_mem_cons.mpr ⟨lw_p68, List.forall_mem_cons.mpr ⟨lw_p69, List.forall_mem_cons.mpr ⟨lw_p70, List.forall_mem_cons.mpr ⟨lw_p71, List.forall_mem_cons.mpr ⟨lw_p72, List.forall_mem_cons.mpr ⟨lw_p73, List.forall_mem_cons.mpr ⟨lw_p74, List.forall_mem_cons.mpr ⟨lw_p75, List.forall_mem_cons.mpr ⟨lw_p76, List.forall_mem_cons.mpr ⟨lw_p77, fun _ h => absurd h List.not_mem_nil⟩⟩⟩⟩⟩⟩⟩⟩⟩⟩⟩⟩⟩⟩
def lw_privs : List (MethodName × Nat) := lw_privs_1 ++ (lw_privs_2 ++ (lw_privs_3 ++ (lw_privs_4 ++ (lw_privs_5))))
def lw_tbl : List Cond := k2_sels lw_privs ++ tables_1
theorem lw_privs_ok : ∀ q ∈ lw_privs, lw_okq q := by
  show ∀ q ∈ lw_privs_1 ++ (lw_privs_2 ++ (lw_privs_3 ++ (lw_privs_4 ++ (lw_privs_5)))), lw_okq q
  exact List.forall_mem_append.mpr ⟨lw_r1, List.forall_mem_append.mpr ⟨lw_r2, List.forall_mem_append.mpr ⟨lw_r3, List.forall_mem_append.mpr ⟨lw_r4, lw_r5⟩⟩⟩⟩

/-! ===== BEGIN words of one list among another's, by their places ===== -/
theorem goodIn_r {big : List Cond} (ws : List Cond) (ps : List Nat) (hp : ws = ps.filterMap (fun i => big[i]?)) (h : ws.all goodWord = true) : GoodIn big ws := by
  intro w hw
  have h1 := List.all_eq_true.mp h w hw
  rw [hp] at hw
  obtain ⟨i, -, hi⟩ := List.mem_filterMap.mp hw
  have hm : w ∈ big := by first | exact List.mem_of_getElem? hi | exact List.getElem?_mem hi
  exact ⟨hm, good_of_word h1⟩
theorem goodIn_app {big a b : List Cond} (ha : GoodIn big a) (hb : GoodIn big b) : GoodIn big (a ++ b) := fun w h => (List.mem_append.mp h).elim (ha w) (hb w)
theorem goodIn_ca {big a b : List Cond} {c : Cond} (ha : GoodIn big (c :: a)) (hb : GoodIn big b) : GoodIn big (c :: (a ++ b)) := fun w h => (List.mem_cons.mp h).elim (fun e => ha w (List.mem_cons.mpr (Or.inl e))) (fun h => (List.mem_append.mp h).elim (fun h => ha w (List.mem_cons.mpr (Or.inr h))) (hb w))
theorem goodIn_sub {big ws : List Cond} (hm : ∀ w ∈ ws, w ∈ big) (h : ws.all goodWord = true) : GoodIn big ws := fun w hw => ⟨hm w hw, good_of_word (List.all_eq_true.mp h w hw)⟩
/-! ===== END ===== -/

/-! ===== BEGIN new T[n][m]: the outer array a place, the inner ones among the pooled ===== -/
/-- f, but v at every address of l -/
def vr_up {α : Type} (f : Nat → α) (l : List Nat) (v : α) : Nat → α := fun a => if a ∈ l then v else f a
theorem vr_up_in {α : Type} {f : Nat → α} {l : List Nat} {v : α} {a : Nat} (h : a ∈ l) : vr_up f l v a = v := if_pos h
theorem vr_up_ne {α : Type} {f : Nat → α} {l : List Nat} {v : α} {a : Nat} (h : a ∉ l) : vr_up f l v a = f a := if_neg h
theorem vr_rows {L l : List Nat} {f : Nat → va_E} {e : va_E} (h : ∀ a, a ∈ l → a ∉ L) : va_pl L f ++ l.map (fun a => (a, e)) = va_pl (L ++ l) (vr_up f l e) := by
  unfold va_pl
  rw [List.map_append]
  congr 1
  · apply List.map_congr_left
    intro a ha
    rw [vr_up_ne (fun q => h a q ha)]
  · apply List.map_congr_left
    intro a ha
    rw [vr_up_in ha]
theorem vr_lay {X rows : va_W} {x : Nat × va_E} {pl : va_W} {D : va_G} {cl : List vw_C} {H : Heap} (hP : va_P D cl (((X ++ pl) ++ [x]) ++ rows) H) : va_P D cl ((X ++ [x]) ++ (pl ++ rows)) H := by
  rw [List.append_assoc (X ++ pl)] at hP
  have h := va_P.swap hP
  rw [← List.append_assoc X] at h
  have h2 := va_P.swap h
  rw [List.append_assoc (X ++ [x])] at h2
  exact h2
theorem vr_layD {X rows : va_W} {x : Nat × va_E} {pl : va_W} {A : Nat → Prop} (hD : va_D A (((X ++ pl) ++ [x]) ++ rows)) : va_D A ((X ++ [x]) ++ (pl ++ rows)) := by
  rw [List.append_assoc (X ++ pl)] at hD
  have h := va_D.swap hD
  rw [← List.append_assoc X] at h
  have h2 := va_D.swap h
  rw [List.append_assoc (X ++ [x])] at h2
  exact h2
theorem vr_outer (c : ClassId) (N h0 : Nat) : ∀ i : Nat, Jvm.Free.Multi.outerC c N h0 i = arrV c N (fun j => va_rf (if j < i then some (h0 + 1 + j) else none))
  | 0 => by
    show ({ cls := c, slots := Array.replicate N .null, vm := .none } : Cell) = _
    rw [arrV_new]
    refine congrArg (arrV c N) (funext fun j => ?_)
    simp [va_rf]
  | i + 1 => by
    show (Jvm.Free.Multi.outerC c N h0 i).setSlot i (.ref (h0 + 1 + i)) = _
    rw [vr_outer c N h0 i, arrV_store]
    refine congrArg (arrV c N) (funext fun j => ?_)
    by_cases e : j = i
    · subst e
      simp [updV, va_rf]
    · by_cases h : j < i
      · simp [updV, e, h, Nat.lt_succ_of_lt h]
      · simp [updV, e, h, show ¬ j < i + 1 by omega]
section VGM
variable {p : Program} {l : Launch} {e : Env} {R : Room} {s : State} {m : MethodId} {args : Array Value} {below : List Frame} {meth : Method} {c : Code} {H : Heap} {locs : List Loc} {cells slots : Nat} {Q : State → Prop}
variable {cc : ByteArray} {pc : Nat} {ls : Array Slot} {rest : List Value} {D : va_G} {cl : List vw_C} {A : Nat → Prop} {a : Nat} {tys : List (ClassId × FieldType)} {ws : va_W} {H0 : Heap}
theorem va_mna {X : va_W} {L : List Nat} {f : Nat → va_E} {cc : ByteArray} (hexec : p.tables.exec = Jvm.exec) (hb : c.code = cc) {own : String} {index : Nat} {ty : FieldType} {cy : ClassId} (hown : s.vm.findClass own = some m.cls) (hclink : (Cond.classLink own index ("[" ++ (FieldType.array ty).toString)).before args s = true) (hover : (Cond.arrayOver (.array ty)).before args s = true) (harr : (Cond.arrayClass ty).before args s = true) (hcy : s.vm.findClass (FieldType.array ty).toString = some cy)
    (hK : va_K D cl tys s) (hP : va_P D cl (X ++ va_pl L f) H) (hD : va_D A (X ++ va_pl L f)) (hS : va_S A H0 H locs) (hA : ∀ q, H0.size ≤ q → A q) {n k : Int32} {N' K' : Nat} {z : vp_A} (hn : ¬ n < 0) (hk : ¬ k < 0) (hN : n.toNatClampNeg = N') (hM : k.toNatClampNeg = K')
    (hb1 : N' * 4 ≤ 536870912) (hb2 : K' * componentBytes ty ≤ 536870912) (hb3 : K' ≤ 536870912) (hdf : fits ty (defaultValue ty) = true) (hdd : (defaultValue ty).isDefault = true) (hcells : cells + (1 + N') ≤ R.cells) (hslots : slots + (N' + N' * K') ≤ R.slots) (hz : ∀ c : ClassId, Jvm.Free.Multi.innerC c K' (defaultValue ty) = vp_cell c z) (hdg : decode cc pc = .ok (.multianewarray index 2, 4))
    (kk : ∀ (q : Nat) (r : Nat → Nat) (cA : ClassId) (H1 : Heap), (∀ i j : Nat, i < N' → j < N' → r i = r j → i = j) → (∀ i : Nat, i < N' → r i ∉ L) → va_K D cl (tys ++ [(cA, .array ty)]) s →
      va_P D cl ((X ++ [(q, .inl (cA, N', .inr (.inr (.inr (.inr (fun i => if i < N' then some (r i) else none))))))]) ++ va_pl (L ++ (List.range N').map r) (vr_up f ((List.range N').map r) (.inl (cy, z)))) H1 → va_D A ((X ++ [(q, .inl (cA, N', .inr (.inr (.inr (.inr (fun i => if i < N' then some (r i) else none))))))]) ++ va_pl (L ++ (List.range N').map r) (vr_up f ((List.range N').map r) (.inl (cy, z)))) → va_S A H0 H1 locs →
      W p l e R s m args below meth c H1 locs (cells + 1 + N') (slots + N' + N' * K') Q (F0 m (pc + 4) ls (.ref q :: rest))) : W p l e R s m args below meth c H locs cells slots Q (F0 m pc ls (.int k :: .int n :: rest)) := by
  subst hN
  subst hM
  intro T hT Xs
  obtain ⟨vm₁, cA, comp, -, fA, fC, hO, -, X', step⟩ := Xs.multianewarray2F hexec hown hclink hover harr (g := F0 m pc ls (.int k :: .int n :: rest)) rfl (by rw [hb]; exact hdg) rfl hn hk hb1 hb2 hb3 hdf hdd hcells hslots
  have ec : some cy = some comp := hcy.symm.trans fC
  cases ec
  generalize hF : Jvm.Free.Multi.fill (T.setVm vm₁) cA cy n.toNatClampNeg k.toNatClampNeg (defaultValue ty) n.toNatClampNeg = F at X' step
  have hTh : (T.setVm vm₁).heap = H := hT
  obtain ⟨f1, f2, -, -⟩ := Jvm.Free.Multi.fill_facts (T.setVm vm₁) cA cy n.toNatClampNeg k.toNatClampNeg (defaultValue ty) n.toNatClampNeg
  rw [hF, hTh] at f1 f2
  have hold : ∀ x : Nat, x < H.size → F.heap[x]? = H[x]? := fun x hx => by
    have := Jvm.Free.Multi.fill_old (T.setVm vm₁) cA cy n.toNatClampNeg k.toNatClampNeg (defaultValue ty) (a := x) (by rw [hTh]; exact hx) n.toNatClampNeg
    rw [hF, hTh] at this
    exact this
  have hrow : ∀ j : Nat, j < n.toNatClampNeg → F.heap[H.size + 1 + j]? = some (vp_cell cy z) := fun j hj => by
    have := Jvm.Free.Multi.fill_inner (T.setVm vm₁) cA cy n.toNatClampNeg k.toNatClampNeg (defaultValue ty) n.toNatClampNeg j hj
    rw [hF, hTh, hz] at this
    exact this
  have hout : Jvm.Free.Multi.outerC cA n.toNatClampNeg H.size n.toNatClampNeg = vp_cell cA (n.toNatClampNeg, .inr (.inr (.inr (.inr (fun i => if i < n.toNatClampNeg then some (H.size + 1 + i) else none))))) := by
    rw [vp_cell_q]
    exact vr_outer cA n.toNatClampNeg H.size n.toNatClampNeg
  rw [hout] at f2
  have hlt : ∀ a, a ∈ L → a < H.size := fun a ha => by
    obtain ⟨k9, hk9⟩ := va_pl_get (X := X) (f := f) ha
    exact (hP k9 _ hk9).lt
  have hnl : ∀ i : Nat, i < n.toNatClampNeg → H.size + 1 + i ∉ L := fun i _ h => by
    have := hlt _ h
    omega
  have hnm : ∀ a, a ∈ (List.range n.toNatClampNeg).map (fun i => H.size + 1 + i) → a ∉ L := fun a ha h => by
    obtain ⟨i, -, rfl⟩ := List.mem_map.mp ha
    have := hlt _ h
    omega
  have hP0 : va_P D cl (X ++ va_pl L f) F.heap := hP.kept (fun k9 x hx => hold x.1 ((hP k9 x hx).lt))
  have hP1 : va_P D cl ((X ++ va_pl L f) ++ [(H.size, .inl (cA, n.toNatClampNeg, .inr (.inr (.inr (.inr (fun i => if i < n.toNatClampNeg then some (H.size + 1 + i) else none))))))]) F.heap := hP0.app (fun k9 x hx => by
    have h0 : k9 < 1 := (List.getElem?_eq_some_iff.mp hx).1
    rw [show k9 = 0 by omega] at hx
    cases hx
    exact f2)
  have hP2 : va_P D cl (((X ++ va_pl L f) ++ [(H.size, .inl (cA, n.toNatClampNeg, .inr (.inr (.inr (.inr (fun i => if i < n.toNatClampNeg then some (H.size + 1 + i) else none))))))]) ++ ((List.range n.toNatClampNeg).map (fun i => H.size + 1 + i)).map (fun a => (a, .inl (cy, z)))) F.heap := hP1.app (fun k9 x hx => by
    obtain ⟨a, ha, rfl⟩ := List.mem_map.mp (List.mem_of_getElem? hx)
    obtain ⟨i, hi, rfl⟩ := List.mem_map.mp ha
    exact hrow i (List.mem_range.mp hi))
  have hD2 : va_D A (((X ++ va_pl L f) ++ [(H.size, .inl (cA, n.toNatClampNeg, .inr (.inr (.inr (.inr (fun i => if i < n.toNatClampNeg then some (H.size + 1 + i) else none))))))]) ++ ((List.range n.toNatClampNeg).map (fun i => H.size + 1 + i)).map (fun a => (a, .inl (cy, z)))) := by
    have hD1 := hD.push (e := .inl (cA, n.toNatClampNeg, .inr (.inr (.inr (.inr (fun i => if i < n.toNatClampNeg then some (H.size + 1 + i) else none)))))) hP rfl (hA _ hS.1)
    generalize hW1 : (X ++ va_pl L f) ++ [(H.size, .inl (cA, n.toNatClampNeg, .inr (.inr (.inr (.inr (fun i => if i < n.toNatClampNeg then some (H.size + 1 + i) else none))))))] = W1 at hD1 hP1 ⊢
    have hle : ∀ (k9 : Nat) (x : Nat × va_E), W1[k9]? = some x → x.1 ≤ H.size := fun k9 x hx => by
      rw [← hW1] at hx
      by_cases hl : k9 < (X ++ va_pl L f).length
      · rw [List.getElem?_append_left hl] at hx
        exact Nat.le_of_lt ((hP k9 x hx).lt)
      · rw [List.getElem?_append_right (by omega)] at hx
        have h0 : k9 - (X ++ va_pl L f).length < 1 := (List.getElem?_eq_some_iff.mp hx).1
        rw [show k9 - (X ++ va_pl L f).length = 0 by omega] at hx
        cases hx
        exact Nat.le_refl _
    have hr : ∀ (k9 : Nat) (x : Nat × va_E), (((List.range n.toNatClampNeg).map (fun i => H.size + 1 + i)).map (fun a => ((a, .inl (cy, z)) : Nat × va_E)))[k9]? = some x → x.1 = H.size + 1 + k9 := fun k9 x hx => by
      rw [List.getElem?_map, List.getElem?_map] at hx
      by_cases h9 : k9 < n.toNatClampNeg
      · rw [List.getElem?_range h9] at hx
        cases hx
        rfl
      · have hn0 : (List.range n.toNatClampNeg)[k9]? = none := List.getElem?_eq_none (by rw [List.length_range]; omega)
        rw [hn0] at hx
        cases hx
    refine ⟨fun i j x y hi hj hxy => ?_, fun k9 x hx => ?_⟩
    · by_cases h1 : i < W1.length <;> by_cases h2 : j < W1.length
      · rw [List.getElem?_append_left h1] at hi
        rw [List.getElem?_append_left h2] at hj
        exact hD1.1 i j x y hi hj hxy
      · rw [List.getElem?_append_left h1] at hi
        rw [List.getElem?_append_right (by omega)] at hj
        have := hle _ _ hi
        have := hr _ _ hj
        omega
      · rw [List.getElem?_append_right (by omega)] at hi
        rw [List.getElem?_append_left h2] at hj
        have := hle _ _ hj
        have := hr _ _ hi
        omega
      · rw [List.getElem?_append_right (by omega)] at hi hj
        have := hr _ _ hi
        have := hr _ _ hj
        omega
    · by_cases h1 : k9 < W1.length
      · rw [List.getElem?_append_left h1] at hx
        exact hD1.2 k9 x hx
      · rw [List.getElem?_append_right (by omega)] at hx
        have := hr _ _ hx
        exact hA _ (by have := hS.1; omega)
  have hAr : ArrOfT s cA (.array ty) := fun N9 z9 => by
    obtain ⟨-, k9, hk9, cm9, hkk9⟩ := (hO 0 0 0).1
    exact ⟨(fun q hq => by cases hq), k9, hk9, cm9, hkk9⟩
  have hK2 : va_K D cl (tys ++ [(cA, .array ty)]) s := ⟨hK.1, fun k9 x hx => by
    by_cases hl : k9 < tys.length
    · rw [List.getElem?_append_left hl] at hx
      exact hK.2 k9 x hx
    · rw [List.getElem?_append_right (by omega)] at hx
      have h0 : k9 - tys.length < 1 := (List.getElem?_eq_some_iff.mp hx).1
      rw [show k9 - tys.length = 0 by omega] at hx
      cases hx
      exact ⟨hAr, fA⟩⟩
  obtain ⟨t, a1, b1⟩ := kk H.size (fun i => H.size + 1 + i) cA F.heap (fun i j _ _ h => by have h9 : H.size + 1 + i = H.size + 1 + j := h; omega) hnl hK2 (by rw [← vr_rows hnm]; exact vr_lay hP2) (by rw [← vr_rows hnm]; exact vr_layD hD2) ⟨by rw [f1]; have := hS.1; omega, fun x h1 h2 => (hold x (Nat.lt_of_lt_of_le h1 hS.1)).trans (hS.2.1 x h1 h2), hS.2.2⟩ F rfl X'
  refine ⟨t, step t ?_, b1⟩
  have e : T.heap.size = H.size := by rw [hT]
  rw [e]
  exact a1
end VGM
/-! ===== END ===== -/

def RX0 : String := "OrbitsWed$Changes"
def TX0 : u_T := fun k => match k with
  | 0 => ("OrbitsWed$Changes", "numbers", "[I", true)
  | 1 => ("OrbitsWed$Changes", "whats", "[I", true)
  | 2 => ("OrbitsWed$Changes", "olds", "[I", true)
  | 3 => ("OrbitsWed$Changes", "news", "[I", true)
  | 4 => ("OrbitsWed$Changes", "done", "I", false)
  | _ => ("OrbitsWed$Changes", "size", "I", false)
def tyX0 : Nat → FieldType := fun k => match k with
  | 0 => .array .int
  | 1 => .array .int
  | 2 => .array .int
  | 3 => .array .int
  | 4 => .int
  | _ => .int
abbrev wsX00 : List Cond := u_ws RX0 TX0 6
theorem nmX0 : ∀ a, a < 6 → ∀ b, b < 6 → a ≠ b → (TX0 a).2.1 ≠ (TX0 b).2.1 := by decide +kernel
theorem tyX0_ok : ∀ k, k < 6 → parseFieldDescriptor (TX0 k).2.2.1 = some (tyX0 k) := by decide +kernel
abbrev cX0_init : ByteArray := prog_2_method_1_code
def yX0_init : MethodName := ⟨RX0, "<init>", "()V"⟩
abbrev cX0_add : ByteArray := prog_2_method_2_code
def yX0_add : MethodName := ⟨RX0, "add", "(IIII)V"⟩
abbrev cX0_forgetOldest : ByteArray := prog_2_method_3_code
def yX0_forgetOldest : MethodName := ⟨RX0, "forgetOldest", "()V"⟩
def RX1 : String := "OrbitsWed$Clock"
def TX1 : u_T := fun k => match k with
  | _ => ("OrbitsWed$Clock", "sky", "LOrbitsWed$Sky;", true)
def tyX1 : Nat → FieldType := fun k => match k with
  | _ => .object "OrbitsWed$Sky"
abbrev wsX10 : List Cond := u_ws RX1 TX1 1
theorem nmX1 : ∀ a, a < 1 → ∀ b, b < 1 → a ≠ b → (TX1 a).2.1 ≠ (TX1 b).2.1 := by decide +kernel
theorem tyX1_ok : ∀ k, k < 1 → parseFieldDescriptor (TX1 k).2.2.1 = some (tyX1 k) := by decide +kernel
abbrev cX1_init : ByteArray := prog_3_method_1_code
def yX1_init : MethodName := ⟨RX1, "<init>", "(LOrbitsWed$Sky;)V"⟩
abbrev cX1_firstMeeting : ByteArray := prog_3_method_2_code
def yX1_firstMeeting : MethodName := ⟨RX1, "firstMeeting", "(III)I"⟩
abbrev cX1_meetingsIn : ByteArray := prog_3_method_3_code
def yX1_meetingsIn : MethodName := ⟨RX1, "meetingsIn", "(IIII)I"⟩
abbrev cX1_togetherAgain : ByteArray := prog_3_method_4_code
def yX1_togetherAgain : MethodName := ⟨RX1, "togetherAgain", "(I)J"⟩
abbrev cX1_allAtStart : ByteArray := prog_3_method_5_code
def yX1_allAtStart : MethodName := ⟨RX1, "allAtStart", "(I)J"⟩
abbrev cX1_nextAtStart : ByteArray := prog_3_method_6_code
def yX1_nextAtStart : MethodName := ⟨RX1, "nextAtStart", "(IJJ)J"⟩
abbrev cX1_leastCommon : ByteArray := prog_3_method_7_code
def yX1_leastCommon : MethodName := ⟨RX1, "leastCommon", "(JJ)J"⟩
abbrev cX1_moodOn : ByteArray := prog_3_method_8_code
def yX1_moodOn : MethodName := ⟨RX1, "moodOn", "(II)I"⟩
abbrev cX1_bestDay : ByteArray := prog_3_method_9_code
def yX1_bestDay : MethodName := ⟨RX1, "bestDay", "(III)I"⟩
abbrev cX1_metOn : ByteArray := prog_3_method_10_code
def yX1_metOn : MethodName := ⟨RX1, "metOn", "(II)I"⟩
abbrev cX1_isFree : ByteArray := prog_3_method_11_code
def yX1_isFree : MethodName := ⟨RX1, "isFree", "(II)Z"⟩
abbrev cX1_firstFreeDay : ByteArray := prog_3_method_12_code
def yX1_firstFreeDay : MethodName := ⟨RX1, "firstFreeDay", "(II)I"⟩
abbrev cX1_freeDaysIn : ByteArray := prog_3_method_13_code
def yX1_freeDaysIn : MethodName := ⟨RX1, "freeDaysIn", "(III)I"⟩
abbrev cX1_leastNudge : ByteArray := prog_3_method_14_code
def yX1_leastNudge : MethodName := ⟨RX1, "leastNudge", "(III)I"⟩
abbrev cX1_isLonely : ByteArray := prog_3_method_15_code
def yX1_isLonely : MethodName := ⟨RX1, "isLonely", "(IIII)Z"⟩
abbrev cX1_lonelyPlaces : ByteArray := prog_3_method_16_code
def yX1_lonelyPlaces : MethodName := ⟨RX1, "lonelyPlaces", "(III)I"⟩
abbrev cX1_leastLonelyPlace : ByteArray := prog_3_method_17_code
def yX1_leastLonelyPlace : MethodName := ⟨RX1, "leastLonelyPlace", "(III)I"⟩
abbrev cX1_daysSinceScene : ByteArray := prog_3_method_18_code
def yX1_daysSinceScene : MethodName := ⟨RX1, "daysSinceScene", "(II)I"⟩
abbrev cX1_firstWinningNudge : ByteArray := prog_3_method_19_code
def yX1_firstWinningNudge : MethodName := ⟨RX1, "firstWinningNudge", "(IIII)I"⟩
abbrev cX1_endsMet : ByteArray := prog_3_method_20_code
def yX1_endsMet : MethodName := ⟨RX1, "endsMet", "(IIIIIZ)Z"⟩
abbrev cX1_leastArc : ByteArray := prog_3_method_21_code
def yX1_leastArc : MethodName := ⟨RX1, "leastArc", "(II)I"⟩
abbrev cX1_arcFrom : ByteArray := prog_3_method_22_code
def yX1_arcFrom : MethodName := ⟨RX1, "arcFrom", "(III)I"⟩
def RX2 : String := "OrbitsWed$Deeds"
def TX2 : u_T := fun k => match k with
  | 0 => ("OrbitsWed$Deeds", "sky", "LOrbitsWed$Sky;", true)
  | 1 => ("OrbitsWed$Deeds", "days", "I", false)
  | 2 => ("OrbitsWed$Deeds", "pushes", "I", false)
  | 3 => ("OrbitsWed$Deeds", "meetings", "I", false)
  | 4 => ("OrbitsWed$Deeds", "nudges", "I", false)
  | 5 => ("OrbitsWed$Deeds", "hasImage", "Z", false)
  | 6 => ("OrbitsWed$Deeds", "imagePlaces", "[I", true)
  | 7 => ("OrbitsWed$Deeds", "imageSize", "I", false)
  | 8 => ("OrbitsWed$Deeds", "imageDays", "I", false)
  | 9 => ("OrbitsWed$Deeds", "imagePushes", "I", false)
  | 10 => ("OrbitsWed$Deeds", "imageMeetings", "I", false)
  | _ => ("OrbitsWed$Deeds", "imageNudges", "I", false)
def tyX2 : Nat → FieldType := fun k => match k with
  | 0 => .object "OrbitsWed$Sky"
  | 1 => .int
  | 2 => .int
  | 3 => .int
  | 4 => .int
  | 5 => .boolean
  | 6 => .array .int
  | 7 => .int
  | 8 => .int
  | 9 => .int
  | 10 => .int
  | _ => .int
abbrev wsX20 : List Cond := u_ws RX2 TX2 12
theorem nmX2 : ∀ a, a < 12 → ∀ b, b < 12 → a ≠ b → (TX2 a).2.1 ≠ (TX2 b).2.1 := by decide +kernel
theorem tyX2_ok : ∀ k, k < 12 → parseFieldDescriptor (TX2 k).2.2.1 = some (tyX2 k) := by decide +kernel
abbrev cX2_init : ByteArray := prog_4_method_1_code
def yX2_init : MethodName := ⟨RX2, "<init>", "(LOrbitsWed$Sky;)V"⟩
abbrev cX2_keepImage : ByteArray := prog_4_method_2_code
def yX2_keepImage : MethodName := ⟨RX2, "keepImage", "()V"⟩
abbrev cX2_layBack : ByteArray := prog_4_method_3_code
def yX2_layBack : MethodName := ⟨RX2, "layBack", "()V"⟩
def RX3 : String := "OrbitsWed$Foresight"
def TX3 : u_T := fun k => match k with
  | 0 => ("OrbitsWed$Foresight", "sky", "LOrbitsWed$Sky;", true)
  | 1 => ("OrbitsWed$Foresight", "walk", "LOrbitsWed$Walk;", true)
  | _ => ("OrbitsWed$Foresight", "seen", "[J", true)
def tyX3 : Nat → FieldType := fun k => match k with
  | 0 => .object "OrbitsWed$Sky"
  | 1 => .object "OrbitsWed$Walk"
  | _ => .array .long
abbrev wsX30 : List Cond := u_ws RX3 TX3 3
theorem nmX3 : ∀ a, a < 3 → ∀ b, b < 3 → a ≠ b → (TX3 a).2.1 ≠ (TX3 b).2.1 := by decide +kernel
theorem tyX3_ok : ∀ k, k < 3 → parseFieldDescriptor (TX3 k).2.2.1 = some (tyX3 k) := by decide +kernel
abbrev cX3_init : ByteArray := prog_5_method_1_code
def yX3_init : MethodName := ⟨RX3, "<init>", "(LOrbitsWed$Sky;LOrbitsWed$Walk;)V"⟩
abbrev cX3_placeBehind : ByteArray := prog_5_method_2_code
def yX3_placeBehind : MethodName := ⟨RX3, "placeBehind", "(II)I"⟩
abbrev cX3_pushesIn : ByteArray := prog_5_method_3_code
def yX3_pushesIn : MethodName := ⟨RX3, "pushesIn", "(I)I"⟩
abbrev cX3_firstPushIn : ByteArray := prog_5_method_4_code
def yX3_firstPushIn : MethodName := ⟨RX3, "firstPushIn", "(I)I"⟩
abbrev cX3_meetingsIn : ByteArray := prog_5_method_5_code
def yX3_meetingsIn : MethodName := ⟨RX3, "meetingsIn", "(III)I"⟩
abbrev cX3_roundAgain : ByteArray := prog_5_method_6_code
def yX3_roundAgain : MethodName := ⟨RX3, "roundAgain", "(Z)I"⟩
abbrev cX3_firstSeen : ByteArray := prog_5_method_7_code
def yX3_firstSeen : MethodName := ⟨RX3, "firstSeen", "(I)I"⟩
abbrev cX3_firstUnlike : ByteArray := prog_5_method_8_code
def yX3_firstUnlike : MethodName := ⟨RX3, "firstUnlike", "([JII)I"⟩
abbrev cX3_drawnYears : ByteArray := prog_5_method_9_code
def yX3_drawnYears : MethodName := ⟨RX3, "drawnYears", "(IIIII)I"⟩
abbrev cX3_slipped : ByteArray := prog_5_method_10_code
def yX3_slipped : MethodName := ⟨RX3, "slipped", "(II)I"⟩
def RX4 : String := "OrbitsWed$Law"
def TX4 : u_T := fun k => match k with
  | 0 => ("OrbitsWed$Law", "steps", "[I", true)
  | 1 => ("OrbitsWed$Law", "values", "[I", true)
  | 2 => ("OrbitsWed$Law", "size", "I", false)
  | 3 => ("OrbitsWed$Law", "named", "[I", true)
  | _ => ("OrbitsWed$Law", "stack", "[I", true)
def tyX4 : Nat → FieldType := fun k => match k with
  | 0 => .array .int
  | 1 => .array .int
  | 2 => .int
  | 3 => .array .int
  | _ => .array .int
abbrev wsX40 : List Cond := u_ws RX4 TX4 5
theorem nmX4 : ∀ a, a < 5 → ∀ b, b < 5 → a ≠ b → (TX4 a).2.1 ≠ (TX4 b).2.1 := by decide +kernel
theorem tyX4_ok : ∀ k, k < 5 → parseFieldDescriptor (TX4 k).2.2.1 = some (tyX4 k) := by decide +kernel
abbrev cX4_init : ByteArray := prog_6_method_1_code
def yX4_init : MethodName := ⟨RX4, "<init>", "()V"⟩
abbrev cX4_nameOf : ByteArray := prog_6_method_2_code
def yX4_nameOf : MethodName := ⟨RX4, "nameOf", "(I)I"⟩
abbrev cX4_become : ByteArray := prog_6_method_3_code
def yX4_become : MethodName := ⟨RX4, "become", "(LOrbitsWed$Tape;)V"⟩
abbrev cX4_turnTo : ByteArray := prog_6_method_4_code
def yX4_turnTo : MethodName := ⟨RX4, "turnTo", "(III)V"⟩
abbrev cX4_push : ByteArray := prog_6_method_5_code
def yX4_push : MethodName := ⟨RX4, "push", "(III)I"⟩
abbrev cX4_workedOut : ByteArray := prog_6_method_6_code
def yX4_workedOut : MethodName := ⟨RX4, "workedOut", "()I"⟩
abbrev cX4_namedBy : ByteArray := prog_6_method_7_code
def yX4_namedBy : MethodName := ⟨RX4, "namedBy", "(I)I"⟩
abbrev cX4_turned : ByteArray := prog_6_method_8_code
def yX4_turned : MethodName := ⟨RX4, "turned", "(II)I"⟩
abbrev cX4_joined : ByteArray := prog_6_method_9_code
def yX4_joined : MethodName := ⟨RX4, "joined", "(III)I"⟩
def RX5 : String := "OrbitsWed$Moods"
def TX5 : u_T := fun k => match k with
  | 0 => ("OrbitsWed$Moods", "kinds", "[I", true)
  | 1 => ("OrbitsWed$Moods", "size", "I", false)
  | 2 => ("OrbitsWed$Moods", "traced", "[I", true)
  | _ => ("OrbitsWed$Moods", "ran", "I", false)
def tyX5 : Nat → FieldType := fun k => match k with
  | 0 => .array .int
  | 1 => .int
  | 2 => .array .int
  | _ => .int
abbrev wsX50 : List Cond := u_ws RX5 TX5 4
theorem nmX5 : ∀ a, a < 4 → ∀ b, b < 4 → a ≠ b → (TX5 a).2.1 ≠ (TX5 b).2.1 := by decide +kernel
theorem tyX5_ok : ∀ k, k < 4 → parseFieldDescriptor (TX5 k).2.2.1 = some (tyX5 k) := by decide +kernel
abbrev cX5_init : ByteArray := prog_7_method_1_code
def yX5_init : MethodName := ⟨RX5, "<init>", "()V"⟩
abbrev cX5_isKind : ByteArray := prog_7_method_2_code
def yX5_isKind : MethodName := ⟨RX5, "isKind", "(I)Z"⟩
abbrev cX5_isUnder : ByteArray := prog_7_method_3_code
def yX5_isUnder : MethodName := ⟨RX5, "isUnder", "(II)Z"⟩
abbrev cX5_has : ByteArray := prog_7_method_4_code
def yX5_has : MethodName := ⟨RX5, "has", "(I)Z"⟩
abbrev cX5_added : ByteArray := prog_7_method_5_code
def yX5_added : MethodName := ⟨RX5, "added", "(I)I"⟩
abbrev cX5_acted : ByteArray := prog_7_method_6_code
def yX5_acted : MethodName := ⟨RX5, "acted", "(III)I"⟩
abbrev cX5_own : ByteArray := prog_7_method_7_code
def yX5_own : MethodName := ⟨RX5, "own", "(IIII)I"⟩
abbrev cX5_above : ByteArray := prog_7_method_8_code
def yX5_above : MethodName := ⟨RX5, "above", "(IIIII)I"⟩
abbrev cX5_ranFrom : ByteArray := prog_7_method_9_code
def yX5_ranFrom : MethodName := ⟨RX5, "ranFrom", "(IIIII)I"⟩
abbrev cX5_codeFrom : ByteArray := prog_7_method_10_code
def yX5_codeFrom : MethodName := ⟨RX5, "codeFrom", "(II)I"⟩
abbrev cX5_note : ByteArray := prog_7_method_11_code
def yX5_note : MethodName := ⟨RX5, "note", "(I)V"⟩
abbrev cX5_drawing : ByteArray := prog_7_method_12_code
def yX5_drawing : MethodName := ⟨RX5, "drawing", "(IIII)I"⟩
abbrev cX5_meeting : ByteArray := prog_7_method_13_code
def yX5_meeting : MethodName := ⟨RX5, "meeting", "(IIII)I"⟩
abbrev cX5_shunning : ByteArray := prog_7_method_14_code
def yX5_shunning : MethodName := ⟨RX5, "shunning", "(IIII)I"⟩
abbrev cX5_telling : ByteArray := prog_7_method_15_code
def yX5_telling : MethodName := ⟨RX5, "telling", "(IIII)I"⟩
def RX6 : String := "OrbitsWed$Shelves"
def TX6 : u_T := fun k => match k with
  | 0 => ("OrbitsWed$Shelves", "holds", "[I", true)
  | 1 => ("OrbitsWed$Shelves", "held", "[I", true)
  | 2 => ("OrbitsWed$Shelves", "sorts", "[I", true)
  | 3 => ("OrbitsWed$Shelves", "lengths", "[I", true)
  | _ => ("OrbitsWed$Shelves", "values", "[[J", true)
def tyX6 : Nat → FieldType := fun k => match k with
  | 0 => .array .int
  | 1 => .array .int
  | 2 => .array .int
  | 3 => .array .int
  | _ => .array (.array .long)
abbrev wsX60 : List Cond := u_ws RX6 TX6 5
theorem nmX6 : ∀ a, a < 5 → ∀ b, b < 5 → a ≠ b → (TX6 a).2.1 ≠ (TX6 b).2.1 := by decide +kernel
theorem tyX6_ok : ∀ k, k < 5 → parseFieldDescriptor (TX6 k).2.2.1 = some (tyX6 k) := by decide +kernel
abbrev cX6_init : ByteArray := prog_8_method_1_code
def yX6_init : MethodName := ⟨RX6, "<init>", "()V"⟩
abbrev cX6_isShelf : ByteArray := prog_8_method_2_code
def yX6_isShelf : MethodName := ⟨RX6, "isShelf", "(I)Z"⟩
abbrev cX6_isEmpty : ByteArray := prog_8_method_3_code
def yX6_isEmpty : MethodName := ⟨RX6, "isEmpty", "(I)Z"⟩
abbrev cX6_isMood : ByteArray := prog_8_method_4_code
def yX6_isMood : MethodName := ⟨RX6, "isMood", "(I)Z"⟩
abbrev cX6_isBook : ByteArray := prog_8_method_5_code
def yX6_isBook : MethodName := ⟨RX6, "isBook", "(I)Z"⟩
abbrev cX6_clear : ByteArray := prog_8_method_6_code
def yX6_clear : MethodName := ⟨RX6, "clear", "(I)V"⟩
abbrev cX6_holdMood : ByteArray := prog_8_method_7_code
def yX6_holdMood : MethodName := ⟨RX6, "holdMood", "(II)V"⟩
abbrev cX6_holdRow : ByteArray := prog_8_method_8_code
def yX6_holdRow : MethodName := ⟨RX6, "holdRow", "(III)V"⟩
abbrev cX6_rowRefusal : ByteArray := prog_8_method_9_code
def yX6_rowRefusal : MethodName := ⟨RX6, "rowRefusal", "(I)I"⟩
abbrev cX6_bookRefusal : ByteArray := prog_8_method_10_code
def yX6_bookRefusal : MethodName := ⟨RX6, "bookRefusal", "(I)I"⟩
abbrev cX6_placeRefusal : ByteArray := prog_8_method_11_code
def yX6_placeRefusal : MethodName := ⟨RX6, "placeRefusal", "(II)I"⟩
abbrev cX6_pairRefusal : ByteArray := prog_8_method_12_code
def yX6_pairRefusal : MethodName := ⟨RX6, "pairRefusal", "(II)I"⟩
abbrev cX6_hasSpan : ByteArray := prog_8_method_13_code
def yX6_hasSpan : MethodName := ⟨RX6, "hasSpan", "(III)Z"⟩
abbrev cX6_lowest : ByteArray := prog_8_method_14_code
def yX6_lowest : MethodName := ⟨RX6, "lowest", "(IJ)J"⟩
def RX7 : String := "OrbitsWed$Sky"
def TX7 : u_T := fun k => match k with
  | 0 => ("OrbitsWed$Sky", "rounds", "[I", true)
  | 1 => ("OrbitsWed$Sky", "places", "[I", true)
  | 2 => ("OrbitsWed$Sky", "weights", "[I", true)
  | 3 => ("OrbitsWed$Sky", "likes", "[[I", true)
  | 4 => ("OrbitsWed$Sky", "near", "I", false)
  | _ => ("OrbitsWed$Sky", "size", "I", false)
def tyX7 : Nat → FieldType := fun k => match k with
  | 0 => .array .int
  | 1 => .array .int
  | 2 => .array .int
  | 3 => .array (.array .int)
  | 4 => .int
  | _ => .int
abbrev wsX70 : List Cond := u_ws RX7 TX7 6
theorem nmX7 : ∀ a, a < 6 → ∀ b, b < 6 → a ≠ b → (TX7 a).2.1 ≠ (TX7 b).2.1 := by decide +kernel
theorem tyX7_ok : ∀ k, k < 6 → parseFieldDescriptor (TX7 k).2.2.1 = some (tyX7 k) := by decide +kernel
abbrev cX7_init : ByteArray := prog_9_method_1_code
def yX7_init : MethodName := ⟨RX7, "<init>", "()V"⟩
abbrev cX7_fitsBody : ByteArray := prog_9_method_2_code
def yX7_fitsBody : MethodName := ⟨RX7, "fitsBody", "(III)Z"⟩
abbrev cX7_added : ByteArray := prog_9_method_3_code
def yX7_added : MethodName := ⟨RX7, "added", "(III)I"⟩
abbrev cX7_has : ByteArray := prog_9_method_4_code
def yX7_has : MethodName := ⟨RX7, "has", "(I)Z"⟩
abbrev cX7_hasPair : ByteArray := prog_9_method_5_code
def yX7_hasPair : MethodName := ⟨RX7, "hasPair", "(I)Z"⟩
abbrev cX7_hasAll : ByteArray := prog_9_method_6_code
def yX7_hasAll : MethodName := ⟨RX7, "hasAll", "(I)Z"⟩
abbrev cX7_hasNumber : ByteArray := prog_9_method_7_code
def yX7_hasNumber : MethodName := ⟨RX7, "hasNumber", "(II)Z"⟩
abbrev cX7_fitsNumber : ByteArray := prog_9_method_8_code
def yX7_fitsNumber : MethodName := ⟨RX7, "fitsNumber", "(III)Z"⟩
abbrev cX7_told : ByteArray := prog_9_method_9_code
def yX7_told : MethodName := ⟨RX7, "told", "(II)I"⟩
abbrev cX7_tell : ByteArray := prog_9_method_10_code
def yX7_tell : MethodName := ⟨RX7, "tell", "(III)V"⟩
abbrev cX7_degrees : ByteArray := prog_9_method_11_code
def yX7_degrees : MethodName := ⟨RX7, "degrees", "(II)I"⟩
abbrev cX7_gap : ByteArray := prog_9_method_12_code
def yX7_gap : MethodName := ⟨RX7, "gap", "(II)I"⟩
abbrev cX7_placeOn : ByteArray := prog_9_method_13_code
def yX7_placeOn : MethodName := ⟨RX7, "placeOn", "(II)I"⟩
abbrev cX7_degreesOn : ByteArray := prog_9_method_14_code
def yX7_degreesOn : MethodName := ⟨RX7, "degreesOn", "(II)I"⟩
abbrev cX7_gapOn : ByteArray := prog_9_method_15_code
def yX7_gapOn : MethodName := ⟨RX7, "gapOn", "(III)I"⟩
abbrev cX7_meetOn : ByteArray := prog_9_method_16_code
def yX7_meetOn : MethodName := ⟨RX7, "meetOn", "(III)Z"⟩
abbrev cX7_meetMoved : ByteArray := prog_9_method_17_code
def yX7_meetMoved : MethodName := ⟨RX7, "meetMoved", "(IIII)Z"⟩
def RX8 : String := "OrbitsWed$Tape"
def TX8 : u_T := fun k => match k with
  | 0 => ("OrbitsWed$Tape", "bytes", "[I", true)
  | 1 => ("OrbitsWed$Tape", "length", "I", false)
  | 2 => ("OrbitsWed$Tape", "place", "I", false)
  | 3 => ("OrbitsWed$Tape", "steps", "[I", true)
  | 4 => ("OrbitsWed$Tape", "values", "[I", true)
  | _ => ("OrbitsWed$Tape", "size", "I", false)
def tyX8 : Nat → FieldType := fun k => match k with
  | 0 => .array .int
  | 1 => .int
  | 2 => .int
  | 3 => .array .int
  | 4 => .array .int
  | _ => .int
abbrev wsX80 : List Cond := u_ws RX8 TX8 6
theorem nmX8 : ∀ a, a < 6 → ∀ b, b < 6 → a ≠ b → (TX8 a).2.1 ≠ (TX8 b).2.1 := by decide +kernel
theorem tyX8_ok : ∀ k, k < 6 → parseFieldDescriptor (TX8 k).2.2.1 = some (tyX8 k) := by decide +kernel
abbrev cX8_init : ByteArray := prog_10_method_1_code
def yX8_init : MethodName := ⟨RX8, "<init>", "()V"⟩
abbrev cX8_fed : ByteArray := prog_10_method_2_code
def yX8_fed : MethodName := ⟨RX8, "fed", "(I)I"⟩
abbrev cX8_isText : ByteArray := prog_10_method_3_code
def yX8_isText : MethodName := ⟨RX8, "isText", "()Z"⟩
abbrev cX8_next : ByteArray := prog_10_method_4_code
def yX8_next : MethodName := ⟨RX8, "next", "()I"⟩
abbrev cX8_draft : ByteArray := prog_10_method_5_code
def yX8_draft : MethodName := ⟨RX8, "draft", "(II)V"⟩
abbrev cX8_readsLine : ByteArray := prog_10_method_6_code
def yX8_readsLine : MethodName := ⟨RX8, "readsLine", "()Z"⟩
abbrev cX8_readsEither : ByteArray := prog_10_method_7_code
def yX8_readsEither : MethodName := ⟨RX8, "readsEither", "(I)Z"⟩
abbrev cX8_readsBoth : ByteArray := prog_10_method_8_code
def yX8_readsBoth : MethodName := ⟨RX8, "readsBoth", "(I)Z"⟩
abbrev cX8_readsCompared : ByteArray := prog_10_method_9_code
def yX8_readsCompared : MethodName := ⟨RX8, "readsCompared", "(I)Z"⟩
abbrev cX8_readsSum : ByteArray := prog_10_method_10_code
def yX8_readsSum : MethodName := ⟨RX8, "readsSum", "(I)Z"⟩
abbrev cX8_readsProduct : ByteArray := prog_10_method_11_code
def yX8_readsProduct : MethodName := ⟨RX8, "readsProduct", "(I)Z"⟩
abbrev cX8_readsOperand : ByteArray := prog_10_method_12_code
def yX8_readsOperand : MethodName := ⟨RX8, "readsOperand", "(I)Z"⟩
abbrev cX8_readsClosed : ByteArray := prog_10_method_13_code
def yX8_readsClosed : MethodName := ⟨RX8, "readsClosed", "(I)Z"⟩
abbrev cX8_readsTurned : ByteArray := prog_10_method_14_code
def yX8_readsTurned : MethodName := ⟨RX8, "readsTurned", "(II)Z"⟩
abbrev cX8_readNumber : ByteArray := prog_10_method_15_code
def yX8_readNumber : MethodName := ⟨RX8, "readNumber", "()V"⟩
def RX9 : String := "OrbitsWed$Walk"
def TX9 : u_T := fun k => match k with
  | 0 => ("OrbitsWed$Walk", "sky", "LOrbitsWed$Sky;", true)
  | 1 => ("OrbitsWed$Walk", "law", "LOrbitsWed$Law;", true)
  | 2 => ("OrbitsWed$Walk", "places", "[I", true)
  | 3 => ("OrbitsWed$Walk", "degrees", "[I", true)
  | 4 => ("OrbitsWed$Walk", "sums", "[I", true)
  | 5 => ("OrbitsWed$Walk", "metBits", "[I", true)
  | 6 => ("OrbitsWed$Walk", "meetings", "I", false)
  | _ => ("OrbitsWed$Walk", "pushes", "I", false)
def tyX9 : Nat → FieldType := fun k => match k with
  | 0 => .object "OrbitsWed$Sky"
  | 1 => .object "OrbitsWed$Law"
  | 2 => .array .int
  | 3 => .array .int
  | 4 => .array .int
  | 5 => .array .int
  | 6 => .int
  | _ => .int
abbrev wsX90 : List Cond := u_ws RX9 TX9 8
theorem nmX9 : ∀ a, a < 8 → ∀ b, b < 8 → a ≠ b → (TX9 a).2.1 ≠ (TX9 b).2.1 := by decide +kernel
theorem tyX9_ok : ∀ k, k < 8 → parseFieldDescriptor (TX9 k).2.2.1 = some (tyX9 k) := by decide +kernel
abbrev cX9_init : ByteArray := prog_11_method_1_code
def yX9_init : MethodName := ⟨RX9, "<init>", "(LOrbitsWed$Sky;LOrbitsWed$Law;)V"⟩
abbrev cX9_begin : ByteArray := prog_11_method_2_code
def yX9_begin : MethodName := ⟨RX9, "begin", "()V"⟩
abbrev cX9_keepPlaces : ByteArray := prog_11_method_3_code
def yX9_keepPlaces : MethodName := ⟨RX9, "keepPlaces", "()V"⟩
abbrev cX9_pass : ByteArray := prog_11_method_4_code
def yX9_pass : MethodName := ⟨RX9, "pass", "(I)V"⟩
abbrev cX9_move : ByteArray := prog_11_method_5_code
def yX9_move : MethodName := ⟨RX9, "move", "(II)V"⟩
abbrev cX9_look : ByteArray := prog_11_method_6_code
def yX9_look : MethodName := ⟨RX9, "look", "()V"⟩
abbrev cX9_pushOf : ByteArray := prog_11_method_7_code
def yX9_pushOf : MethodName := ⟨RX9, "pushOf", "(II)I"⟩
abbrev cX9_allPlaces : ByteArray := prog_11_method_8_code
def yX9_allPlaces : MethodName := ⟨RX9, "allPlaces", "()J"⟩
abbrev cX9_areAllAtStart : ByteArray := prog_11_method_9_code
def yX9_areAllAtStart : MethodName := ⟨RX9, "areAllAtStart", "()Z"⟩
def RX10 : String := "OrbitsWed"
def TX10 : u_T := fun k => match k with
  | 0 => ("OrbitsWed", "sky", "LOrbitsWed$Sky;", true)
  | 1 => ("OrbitsWed", "clock", "LOrbitsWed$Clock;", true)
  | 2 => ("OrbitsWed", "tape", "LOrbitsWed$Tape;", true)
  | 3 => ("OrbitsWed", "law", "LOrbitsWed$Law;", true)
  | 4 => ("OrbitsWed", "walk", "LOrbitsWed$Walk;", true)
  | 5 => ("OrbitsWed", "foresight", "LOrbitsWed$Foresight;", true)
  | 6 => ("OrbitsWed", "deeds", "LOrbitsWed$Deeds;", true)
  | 7 => ("OrbitsWed", "changes", "LOrbitsWed$Changes;", true)
  | 8 => ("OrbitsWed", "shelves", "LOrbitsWed$Shelves;", true)
  | _ => ("OrbitsWed", "moods", "LOrbitsWed$Moods;", true)
def tyX10 : Nat → FieldType := fun k => match k with
  | 0 => .object "OrbitsWed$Sky"
  | 1 => .object "OrbitsWed$Clock"
  | 2 => .object "OrbitsWed$Tape"
  | 3 => .object "OrbitsWed$Law"
  | 4 => .object "OrbitsWed$Walk"
  | 5 => .object "OrbitsWed$Foresight"
  | 6 => .object "OrbitsWed$Deeds"
  | 7 => .object "OrbitsWed$Changes"
  | 8 => .object "OrbitsWed$Shelves"
  | _ => .object "OrbitsWed$Moods"
abbrev wsX100 : List Cond := u_ws RX10 TX10 10
theorem nmX10 : ∀ a, a < 10 → ∀ b, b < 10 → a ≠ b → (TX10 a).2.1 ≠ (TX10 b).2.1 := by decide +kernel
theorem tyX10_ok : ∀ k, k < 10 → parseFieldDescriptor (TX10 k).2.2.1 = some (tyX10 k) := by decide +kernel
abbrev cX10_init : ByteArray := prog_1_method_1_code
def yX10_init : MethodName := ⟨RX10, "<init>", "()V"⟩
abbrev cX10_orb : ByteArray := prog_1_method_2_code
def yX10_orb : MethodName := ⟨RX10, "orb", "(II)I"⟩
abbrev cX10_orbs : ByteArray := prog_1_method_3_code
def yX10_orbs : MethodName := ⟨RX10, "orbs", "(III)I"⟩
abbrev cX10_mend : ByteArray := prog_1_method_4_code
def yX10_mend : MethodName := ⟨RX10, "mend", "(III)I"⟩
abbrev cX10_of : ByteArray := prog_1_method_5_code
def yX10_of : MethodName := ⟨RX10, "of", "(II)I"⟩
abbrev cX10_feed : ByteArray := prog_1_method_6_code
def yX10_feed : MethodName := ⟨RX10, "feed", "(I)I"⟩
abbrev cX10_law : ByteArray := prog_1_method_7_code
def yX10_law : MethodName := ⟨RX10, "law", "()I"⟩
abbrev cX10_at : ByteArray := prog_1_method_8_code
def yX10_at : MethodName := ⟨RX10, "at", "(III)I"⟩
abbrev cX10_apart : ByteArray := prog_1_method_9_code
def yX10_apart : MethodName := ⟨RX10, "apart", "(III)I"⟩
abbrev cX10_meets : ByteArray := prog_1_method_10_code
def yX10_meets : MethodName := ⟨RX10, "meets", "(II)I"⟩
abbrev cX10_often : ByteArray := prog_1_method_11_code
def yX10_often : MethodName := ⟨RX10, "often", "(III)I"⟩
abbrev cX10_together : ByteArray := prog_1_method_12_code
def yX10_together : MethodName := ⟨RX10, "together", "(I)J"⟩
abbrev cX10_start : ByteArray := prog_1_method_13_code
def yX10_start : MethodName := ⟨RX10, "start", "(I)J"⟩
abbrev cX10_mood : ByteArray := prog_1_method_14_code
def yX10_mood : MethodName := ⟨RX10, "mood", "(II)I"⟩
abbrev cX10_best : ByteArray := prog_1_method_15_code
def yX10_best : MethodName := ⟨RX10, "best", "(III)I"⟩
abbrev cX10_sign : ByteArray := prog_1_method_16_code
def yX10_sign : MethodName := ⟨RX10, "sign", "(III)I"⟩
abbrev cX10_nudge : ByteArray := prog_1_method_17_code
def yX10_nudge : MethodName := ⟨RX10, "nudge", "(II)I"⟩
abbrev cX10_never : ByteArray := prog_1_method_18_code
def yX10_never : MethodName := ⟨RX10, "never", "(III)I"⟩
abbrev cX10_scene : ByteArray := prog_1_method_19_code
def yX10_scene : MethodName := ⟨RX10, "scene", "(I)I"⟩
abbrev cX10_later : ByteArray := prog_1_method_20_code
def yX10_later : MethodName := ⟨RX10, "later", "(II)I"⟩
abbrev cX10_pushes : ByteArray := prog_1_method_21_code
def yX10_pushes : MethodName := ⟨RX10, "pushes", "(II)I"⟩
abbrev cX10_met : ByteArray := prog_1_method_22_code
def yX10_met : MethodName := ⟨RX10, "met", "(II)I"⟩
abbrev cX10_again : ByteArray := prog_1_method_23_code
def yX10_again : MethodName := ⟨RX10, "again", "(I)I"⟩
abbrev cX10_judge : ByteArray := prog_1_method_24_code
def yX10_judge : MethodName := ⟨RX10, "judge", "(II)I"⟩
abbrev cX10_liking : ByteArray := prog_1_method_25_code
def yX10_liking : MethodName := ⟨RX10, "liking", "(IIII)I"⟩
abbrev cX10_whose : ByteArray := prog_1_method_26_code
def yX10_whose : MethodName := ⟨RX10, "whose", "(I)I"⟩
abbrev cX10_byTurns : ByteArray := prog_1_method_27_code
def yX10_byTurns : MethodName := ⟨RX10, "byTurns", "(III)I"⟩
abbrev cX10_crowd : ByteArray := prog_1_method_28_code
def yX10_crowd : MethodName := ⟨RX10, "crowd", "(III)I"⟩
abbrev cX10_arc : ByteArray := prog_1_method_29_code
def yX10_arc : MethodName := ⟨RX10, "arc", "(II)I"⟩
abbrev cX10_drawn : ByteArray := prog_1_method_30_code
def yX10_drawn : MethodName := ⟨RX10, "drawn", "(III)I"⟩
abbrev cX10_day : ByteArray := prog_1_method_31_code
def yX10_day : MethodName := ⟨RX10, "day", "()I"⟩
abbrev cX10_nudged : ByteArray := prog_1_method_32_code
def yX10_nudged : MethodName := ⟨RX10, "nudged", "(II)I"⟩
abbrev cX10_led : ByteArray := prog_1_method_33_code
def yX10_led : MethodName := ⟨RX10, "led", "(I)I"⟩
abbrev cX10_image : ByteArray := prog_1_method_34_code
def yX10_image : MethodName := ⟨RX10, "image", "()I"⟩
abbrev cX10_back : ByteArray := prog_1_method_35_code
def yX10_back : MethodName := ⟨RX10, "back", "()I"⟩
abbrev cX10_undo : ByteArray := prog_1_method_36_code
def yX10_undo : MethodName := ⟨RX10, "undo", "()I"⟩
abbrev cX10_redo : ByteArray := prog_1_method_37_code
def yX10_redo : MethodName := ⟨RX10, "redo", "()I"⟩
abbrev cX10_body : ByteArray := prog_1_method_38_code
def yX10_body : MethodName := ⟨RX10, "body", "(I)I"⟩
abbrev cX10_act : ByteArray := prog_1_method_39_code
def yX10_act : MethodName := ⟨RX10, "act", "(III)I"⟩
abbrev cX10_trace : ByteArray := prog_1_method_40_code
def yX10_trace : MethodName := ⟨RX10, "trace", "(I)I"⟩
abbrev cX10_keep : ByteArray := prog_1_method_41_code
def yX10_keep : MethodName := ⟨RX10, "keep", "(II)I"⟩
abbrev cX10_row : ByteArray := prog_1_method_42_code
def yX10_row : MethodName := ⟨RX10, "row", "(III)I"⟩
abbrev cX10_put : ByteArray := prog_1_method_43_code
def yX10_put : MethodName := ⟨RX10, "put", "(IIJ)I"⟩
abbrev cX10_element : ByteArray := prog_1_method_44_code
def yX10_element : MethodName := ⟨RX10, "element", "(II)J"⟩
abbrev cX10_shift : ByteArray := prog_1_method_45_code
def yX10_shift : MethodName := ⟨RX10, "shift", "(IIIII)I"⟩
abbrev cX10_taken : ByteArray := prog_1_method_46_code
def yX10_taken : MethodName := ⟨RX10, "taken", "(II)I"⟩
abbrev cX10_count : ByteArray := prog_1_method_47_code
def yX10_count : MethodName := ⟨RX10, "count", "(I)I"⟩
abbrev cX10_isDay : ByteArray := prog_1_method_48_code
def yX10_isDay : MethodName := ⟨RX10, "isDay", "(I)Z"⟩
abbrev cX10_isWhat : ByteArray := prog_1_method_49_code
def yX10_isWhat : MethodName := ⟨RX10, "isWhat", "(I)Z"⟩
abbrev cX10_isSpan : ByteArray := prog_1_method_50_code
def yX10_isSpan : MethodName := ⟨RX10, "isSpan", "(I)Z"⟩
abbrev cX10_isPushedSpan : ByteArray := prog_1_method_51_code
def yX10_isPushedSpan : MethodName := ⟨RX10, "isPushedSpan", "(I)Z"⟩
abbrev cX10_bodiesFrom : ByteArray := prog_1_method_52_code
def yX10_bodiesFrom : MethodName := ⟨RX10, "bodiesFrom", "(III)I"⟩
abbrev cX10_likings : ByteArray := prog_1_method_53_code
def yX10_likings : MethodName := ⟨RX10, "likings", "(IIIZ)I"⟩
def RX11 : String := "OrbitsWedModel"
def TX11 : u_T := fun k => match k with
  | 0 => ("OrbitsWedModel", "may", "[I", true)
  | 1 => ("OrbitsWedModel", "changeAt", "[I", true)
  | 2 => ("OrbitsWedModel", "changeWas", "[I", true)
  | 3 => ("OrbitsWedModel", "changeIs", "[I", true)
  | 4 => ("OrbitsWedModel", "keptMany", "I", false)
  | 5 => ("OrbitsWedModel", "done", "I", false)
  | 6 => ("OrbitsWedModel", "orbs", "I", false)
  | 7 => ("OrbitsWedModel", "round", "[I", true)
  | 8 => ("OrbitsWedModel", "tape", "[I", true)
  | 9 => ("OrbitsWedModel", "tapeMany", "I", false)
  | 10 => ("OrbitsWedModel", "text", "[I", true)
  | 11 => ("OrbitsWedModel", "textMany", "I", false)
  | 12 => ("OrbitsWedModel", "base", "I", false)
  | 13 => ("OrbitsWedModel", "at", "I", false)
  | 14 => ("OrbitsWedModel", "ends", "I", false)
  | 15 => ("OrbitsWedModel", "fault", "I", false)
  | 16 => ("OrbitsWedModel", "opened", "I", false)
  | 17 => ("OrbitsWedModel", "names", "[I", true)
  | 18 => ("OrbitsWedModel", "place", "[I", true)
  | 19 => ("OrbitsWedModel", "pushes", "I", false)
  | 20 => ("OrbitsWedModel", "meetings", "I", false)
  | 21 => ("OrbitsWedModel", "on", "[I", true)
  | 22 => ("OrbitsWedModel", "stood", "[I", true)
  | 23 => ("OrbitsWedModel", "whether", "[I", true)
  | 24 => ("OrbitsWedModel", "ledNow", "[I", true)
  | 25 => ("OrbitsWedModel", "isKept", "Z", false)
  | 26 => ("OrbitsWedModel", "imageOrbs", "I", false)
  | 27 => ("OrbitsWedModel", "imagePlace", "[I", true)
  | 28 => ("OrbitsWedModel", "imageLed", "[I", true)
  | 29 => ("OrbitsWedModel", "bodies", "I", false)
  | 30 => ("OrbitsWedModel", "bodyKind", "[I", true)
  | 31 => ("OrbitsWedModel", "trace", "[I", true)
  | 32 => ("OrbitsWedModel", "ran", "I", false)
  | 33 => ("OrbitsWedModel", "ownKind", "I", false)
  | 34 => ("OrbitsWedModel", "ownNumber", "I", false)
  | 35 => ("OrbitsWedModel", "shelf", "[I", true)
  | 36 => ("OrbitsWedModel", "many", "[I", true)
  | 37 => ("OrbitsWedModel", "items", "[J", true)
  | _ => ("OrbitsWedModel", "carried", "[J", true)
def tyX11 : Nat → FieldType := fun k => match k with
  | 0 => .array .int
  | 1 => .array .int
  | 2 => .array .int
  | 3 => .array .int
  | 4 => .int
  | 5 => .int
  | 6 => .int
  | 7 => .array .int
  | 8 => .array .int
  | 9 => .int
  | 10 => .array .int
  | 11 => .int
  | 12 => .int
  | 13 => .int
  | 14 => .int
  | 15 => .int
  | 16 => .int
  | 17 => .array .int
  | 18 => .array .int
  | 19 => .int
  | 20 => .int
  | 21 => .array .int
  | 22 => .array .int
  | 23 => .array .int
  | 24 => .array .int
  | 25 => .boolean
  | 26 => .int
  | 27 => .array .int
  | 28 => .array .int
  | 29 => .int
  | 30 => .array .int
  | 31 => .array .int
  | 32 => .int
  | 33 => .int
  | 34 => .int
  | 35 => .array .int
  | 36 => .array .int
  | 37 => .array .long
  | _ => .array .long
abbrev wsX110 : List Cond := u_ws RX11 TX11 39
theorem nmX11 : ∀ a, a < 39 → ∀ b, b < 39 → a ≠ b → (TX11 a).2.1 ≠ (TX11 b).2.1 := by decide +kernel
theorem tyX11_ok : ∀ k, k < 39 → parseFieldDescriptor (TX11 k).2.2.1 = some (tyX11 k) := by decide +kernel
abbrev cX11_within : ByteArray := prog_13_method_1_code
def yX11_within : MethodName := ⟨RX11, "within", "(JJJ)Z"⟩
abbrev cX11_isIn : ByteArray := prog_13_method_2_code
def yX11_isIn : MethodName := ⟨RX11, "isIn", "(II)Z"⟩
abbrev cX11_init : ByteArray := prog_13_method_3_code
def yX11_init : MethodName := ⟨RX11, "<init>", "()V"⟩
abbrev cX11_becomes : ByteArray := prog_13_method_4_code
def yX11_becomes : MethodName := ⟨RX11, "becomes", "(II)I"⟩
abbrev cX11_undo : ByteArray := prog_13_method_5_code
def yX11_undo : MethodName := ⟨RX11, "undo", "()I"⟩
abbrev cX11_redo : ByteArray := prog_13_method_6_code
def yX11_redo : MethodName := ⟨RX11, "redo", "()I"⟩
abbrev cX11_isOrb : ByteArray := prog_13_method_7_code
def yX11_isOrb : MethodName := ⟨RX11, "isOrb", "(J)Z"⟩
abbrev cX11_isAb : ByteArray := prog_13_method_8_code
def yX11_isAb : MethodName := ⟨RX11, "isAb", "(I)Z"⟩
abbrev cX11_mayCome : ByteArray := prog_13_method_9_code
def yX11_mayCome : MethodName := ⟨RX11, "mayCome", "(JJJ)Z"⟩
abbrev cX11_adds : ByteArray := prog_13_method_10_code
def yX11_adds : MethodName := ⟨RX11, "adds", "(III)V"⟩
abbrev cX11_orb : ByteArray := prog_13_method_11_code
def yX11_orb : MethodName := ⟨RX11, "orb", "(II)I"⟩
abbrev cX11_orbs : ByteArray := prog_13_method_12_code
def yX11_orbs : MethodName := ⟨RX11, "orbs", "(III)I"⟩
abbrev cX11_placeOf : ByteArray := prog_13_method_13_code
def yX11_placeOf : MethodName := ⟨RX11, "placeOf", "(II)I"⟩
abbrev cX11_mayBecome : ByteArray := prog_13_method_14_code
def yX11_mayBecome : MethodName := ⟨RX11, "mayBecome", "(III)Z"⟩
abbrev cX11_mend : ByteArray := prog_13_method_15_code
def yX11_mend : MethodName := ⟨RX11, "mend", "(III)I"⟩
abbrev cX11_of : ByteArray := prog_13_method_16_code
def yX11_of : MethodName := ⟨RX11, "of", "(II)I"⟩
abbrev cX11_feed : ByteArray := prog_13_method_17_code
def yX11_feed : MethodName := ⟨RX11, "feed", "(I)I"⟩
abbrev cX11_byteAt : ByteArray := prog_13_method_18_code
def yX11_byteAt : MethodName := ⟨RX11, "byteAt", "()I"⟩
abbrev cX11_wrong : ByteArray := prog_13_method_19_code
def yX11_wrong : MethodName := ⟨RX11, "wrong", "()I"⟩
abbrev cX11_takes : ByteArray := prog_13_method_20_code
def yX11_takes : MethodName := ⟨RX11, "takes", "(I)Z"⟩
abbrev cX11_either : ByteArray := prog_13_method_21_code
def yX11_either : MethodName := ⟨RX11, "either", "()I"⟩
abbrev cX11_both : ByteArray := prog_13_method_22_code
def yX11_both : MethodName := ⟨RX11, "both", "()I"⟩
abbrev cX11_compared : ByteArray := prog_13_method_23_code
def yX11_compared : MethodName := ⟨RX11, "compared", "()I"⟩
abbrev cX11_sums : ByteArray := prog_13_method_24_code
def yX11_sums : MethodName := ⟨RX11, "sums", "()I"⟩
abbrev cX11_product : ByteArray := prog_13_method_25_code
def yX11_product : MethodName := ⟨RX11, "product", "()I"⟩
abbrev cX11_nameOf : ByteArray := prog_13_method_26_code
def yX11_nameOf : MethodName := ⟨RX11, "nameOf", "(I)I"⟩
abbrev cX11_one : ByteArray := prog_13_method_27_code
def yX11_one : MethodName := ⟨RX11, "one", "()I"⟩
abbrev cX11_workOut : ByteArray := prog_13_method_28_code
def yX11_workOut : MethodName := ⟨RX11, "workOut", "(II)I"⟩
abbrev cX11_law : ByteArray := prog_13_method_29_code
def yX11_law : MethodName := ⟨RX11, "law", "()I"⟩
abbrev cX11_isDay : ByteArray := prog_13_method_30_code
def yX11_isDay : MethodName := ⟨RX11, "isDay", "(I)Z"⟩
abbrev cX11_clock : ByteArray := prog_13_method_31_code
def yX11_clock : MethodName := ⟨RX11, "clock", "(IJ)I"⟩
abbrev cX11_degreesOf : ByteArray := prog_13_method_32_code
def yX11_degreesOf : MethodName := ⟨RX11, "degreesOf", "(II)I"⟩
abbrev cX11_arcOf : ByteArray := prog_13_method_33_code
def yX11_arcOf : MethodName := ⟨RX11, "arcOf", "(II)I"⟩
abbrev cX11_apartOn : ByteArray := prog_13_method_34_code
def yX11_apartOn : MethodName := ⟨RX11, "apartOn", "(IIJ)I"⟩
abbrev cX11_meetOn : ByteArray := prog_13_method_35_code
def yX11_meetOn : MethodName := ⟨RX11, "meetOn", "(IIJ)Z"⟩
abbrev cX11_at : ByteArray := prog_13_method_36_code
def yX11_at : MethodName := ⟨RX11, "at", "(III)I"⟩
abbrev cX11_apart : ByteArray := prog_13_method_37_code
def yX11_apart : MethodName := ⟨RX11, "apart", "(III)I"⟩
abbrev cX11_meets : ByteArray := prog_13_method_38_code
def yX11_meets : MethodName := ⟨RX11, "meets", "(II)I"⟩
abbrev cX11_often : ByteArray := prog_13_method_39_code
def yX11_often : MethodName := ⟨RX11, "often", "(III)I"⟩
abbrev cX11_common : ByteArray := prog_13_method_40_code
def yX11_common : MethodName := ⟨RX11, "common", "(JJ)J"⟩
abbrev cX11_isSet : ByteArray := prog_13_method_41_code
def yX11_isSet : MethodName := ⟨RX11, "isSet", "(I)Z"⟩
abbrev cX11_together : ByteArray := prog_13_method_42_code
def yX11_together : MethodName := ⟨RX11, "together", "(I)J"⟩
abbrev cX11_start : ByteArray := prog_13_method_43_code
def yX11_start : MethodName := ⟨RX11, "start", "(I)J"⟩
abbrev cX11_moodOn : ByteArray := prog_13_method_44_code
def yX11_moodOn : MethodName := ⟨RX11, "moodOn", "(IJ)I"⟩
abbrev cX11_mood : ByteArray := prog_13_method_45_code
def yX11_mood : MethodName := ⟨RX11, "mood", "(II)I"⟩
abbrev cX11_best : ByteArray := prog_13_method_46_code
def yX11_best : MethodName := ⟨RX11, "best", "(III)I"⟩
abbrev cX11_isQuiet : ByteArray := prog_13_method_47_code
def yX11_isQuiet : MethodName := ⟨RX11, "isQuiet", "(IJ)Z"⟩
abbrev cX11_sign : ByteArray := prog_13_method_48_code
def yX11_sign : MethodName := ⟨RX11, "sign", "(III)I"⟩
abbrev cX11_meetsMoved : ByteArray := prog_13_method_49_code
def yX11_meetsMoved : MethodName := ⟨RX11, "meetsMoved", "(IIIJ)Z"⟩
abbrev cX11_nudge : ByteArray := prog_13_method_50_code
def yX11_nudge : MethodName := ⟨RX11, "nudge", "(II)I"⟩
abbrev cX11_never : ByteArray := prog_13_method_51_code
def yX11_never : MethodName := ⟨RX11, "never", "(III)I"⟩
abbrev cX11_ago : ByteArray := prog_13_method_52_code
def yX11_ago : MethodName := ⟨RX11, "ago", "(II)I"⟩
abbrev cX11_scene : ByteArray := prog_13_method_53_code
def yX11_scene : MethodName := ⟨RX11, "scene", "(I)I"⟩
abbrev cX11_begins : ByteArray := prog_13_method_54_code
def yX11_begins : MethodName := ⟨RX11, "begins", "()V"⟩
abbrev cX11_apartNow : ByteArray := prog_13_method_55_code
def yX11_apartNow : MethodName := ⟨RX11, "apartNow", "(II)I"⟩
abbrev cX11_meetNow : ByteArray := prog_13_method_56_code
def yX11_meetNow : MethodName := ⟨RX11, "meetNow", "(II)Z"⟩
abbrev cX11_meetsAnybody : ByteArray := prog_13_method_57_code
def yX11_meetsAnybody : MethodName := ⟨RX11, "meetsAnybody", "(I)Z"⟩
abbrev cX11_pushOf : ByteArray := prog_13_method_58_code
def yX11_pushOf : MethodName := ⟨RX11, "pushOf", "(III)I"⟩
abbrev cX11_passes : ByteArray := prog_13_method_59_code
def yX11_passes : MethodName := ⟨RX11, "passes", "(I)V"⟩
abbrev cX11_goes : ByteArray := prog_13_method_60_code
def yX11_goes : MethodName := ⟨RX11, "goes", "(I)V"⟩
abbrev cX11_isPushed : ByteArray := prog_13_method_61_code
def yX11_isPushed : MethodName := ⟨RX11, "isPushed", "(I)Z"⟩
abbrev cX11_later : ByteArray := prog_13_method_62_code
def yX11_later : MethodName := ⟨RX11, "later", "(II)I"⟩
abbrev cX11_pushes : ByteArray := prog_13_method_63_code
def yX11_pushes : MethodName := ⟨RX11, "pushes", "(II)I"⟩
abbrev cX11_met : ByteArray := prog_13_method_64_code
def yX11_met : MethodName := ⟨RX11, "met", "(II)I"⟩
abbrev cX11_stoodAs : ByteArray := prog_13_method_65_code
def yX11_stoodAs : MethodName := ⟨RX11, "stoodAs", "(II)Z"⟩
abbrev cX11_again : ByteArray := prog_13_method_66_code
def yX11_again : MethodName := ⟨RX11, "again", "(I)I"⟩
abbrev cX11_bytesIs : ByteArray := prog_13_method_67_code
def yX11_bytesIs : MethodName := ⟨RX11, "bytesIs", "(I)I"⟩
abbrev cX11_firstFalse : ByteArray := prog_13_method_68_code
def yX11_firstFalse : MethodName := ⟨RX11, "firstFalse", "(II)I"⟩
abbrev cX11_judge : ByteArray := prog_13_method_69_code
def yX11_judge : MethodName := ⟨RX11, "judge", "(II)I"⟩
abbrev cX11_liking : ByteArray := prog_13_method_70_code
def yX11_liking : MethodName := ⟨RX11, "liking", "(IIII)I"⟩
abbrev cX11_whose : ByteArray := prog_13_method_71_code
def yX11_whose : MethodName := ⟨RX11, "whose", "(I)I"⟩
abbrev cX11_byTurns : ByteArray := prog_13_method_72_code
def yX11_byTurns : MethodName := ⟨RX11, "byTurns", "(III)I"⟩
abbrev cX11_crowd : ByteArray := prog_13_method_73_code
def yX11_crowd : MethodName := ⟨RX11, "crowd", "(III)I"⟩
abbrev cX11_gapBehind : ByteArray := prog_13_method_74_code
def yX11_gapBehind : MethodName := ⟨RX11, "gapBehind", "(III)I"⟩
abbrev cX11_arc : ByteArray := prog_13_method_75_code
def yX11_arc : MethodName := ⟨RX11, "arc", "(II)I"⟩
abbrev cX11_drawn : ByteArray := prog_13_method_76_code
def yX11_drawn : MethodName := ⟨RX11, "drawn", "(III)I"⟩
abbrev cX11_day : ByteArray := prog_13_method_77_code
def yX11_day : MethodName := ⟨RX11, "day", "()I"⟩
abbrev cX11_nudged : ByteArray := prog_13_method_78_code
def yX11_nudged : MethodName := ⟨RX11, "nudged", "(II)I"⟩
abbrev cX11_led : ByteArray := prog_13_method_79_code
def yX11_led : MethodName := ⟨RX11, "led", "(I)I"⟩
abbrev cX11_image : ByteArray := prog_13_method_80_code
def yX11_image : MethodName := ⟨RX11, "image", "()I"⟩
abbrev cX11_back : ByteArray := prog_13_method_81_code
def yX11_back : MethodName := ⟨RX11, "back", "()I"⟩
abbrev cX11_isBody : ByteArray := prog_13_method_82_code
def yX11_isBody : MethodName := ⟨RX11, "isBody", "(I)Z"⟩
abbrev cX11_kindOf : ByteArray := prog_13_method_83_code
def yX11_kindOf : MethodName := ⟨RX11, "kindOf", "(I)I"⟩
abbrev cX11_body : ByteArray := prog_13_method_84_code
def yX11_body : MethodName := ⟨RX11, "body", "(I)I"⟩
abbrev cX11_above : ByteArray := prog_13_method_85_code
def yX11_above : MethodName := ⟨RX11, "above", "(I)I"⟩
abbrev cX11_runs : ByteArray := prog_13_method_86_code
def yX11_runs : MethodName := ⟨RX11, "runs", "(I)V"⟩
abbrev cX11_drawsAs : ByteArray := prog_13_method_87_code
def yX11_drawsAs : MethodName := ⟨RX11, "drawsAs", "(II)I"⟩
abbrev cX11_meetsAs : ByteArray := prog_13_method_88_code
def yX11_meetsAs : MethodName := ⟨RX11, "meetsAs", "(II)I"⟩
abbrev cX11_shunsAs : ByteArray := prog_13_method_89_code
def yX11_shunsAs : MethodName := ⟨RX11, "shunsAs", "(II)I"⟩
abbrev cX11_tellsAs : ByteArray := prog_13_method_90_code
def yX11_tellsAs : MethodName := ⟨RX11, "tellsAs", "(II)I"⟩
abbrev cX11_act : ByteArray := prog_13_method_91_code
def yX11_act : MethodName := ⟨RX11, "act", "(III)I"⟩
abbrev cX11_trace : ByteArray := prog_13_method_92_code
def yX11_trace : MethodName := ⟨RX11, "trace", "(I)I"⟩
abbrev cX11_isShelf : ByteArray := prog_13_method_93_code
def yX11_isShelf : MethodName := ⟨RX11, "isShelf", "(I)Z"⟩
abbrev cX11_keep : ByteArray := prog_13_method_94_code
def yX11_keep : MethodName := ⟨RX11, "keep", "(II)I"⟩
abbrev cX11_row : ByteArray := prog_13_method_95_code
def yX11_row : MethodName := ⟨RX11, "row", "(III)I"⟩
abbrev cX11_refusal : ByteArray := prog_13_method_96_code
def yX11_refusal : MethodName := ⟨RX11, "refusal", "(II)I"⟩
abbrev cX11_asSort : ByteArray := prog_13_method_97_code
def yX11_asSort : MethodName := ⟨RX11, "asSort", "(IJ)J"⟩
abbrev cX11_put : ByteArray := prog_13_method_98_code
def yX11_put : MethodName := ⟨RX11, "put", "(IIJ)I"⟩
abbrev cX11_element : ByteArray := prog_13_method_99_code
def yX11_element : MethodName := ⟨RX11, "element", "(II)J"⟩
abbrev cX11_shift : ByteArray := prog_13_method_100_code
def yX11_shift : MethodName := ⟨RX11, "shift", "(IIIII)I"⟩
abbrev cX11_taken : ByteArray := prog_13_method_101_code
def yX11_taken : MethodName := ⟨RX11, "taken", "(II)I"⟩
abbrev cX11_count : ByteArray := prog_13_method_102_code
def yX11_count : MethodName := ⟨RX11, "count", "(I)I"⟩
def RJ6 : String := "java/lang/Integer"
abbrev cJ6_bitCount_0f7a4 : ByteArray := prog_14_method_49_code
def yJ6_bitCount_0f7a4 : MethodName := ⟨RJ6, "bitCount", "(I)I"⟩
def RJ9 : String := "java/lang/Math"
abbrev cJ9_floorMod_7cf53 : ByteArray := prog_15_method_50_code
def yJ9_floorMod_7cf53 : MethodName := ⟨RJ9, "floorMod", "(II)I"⟩
abbrev cJ9_abs_0f7a4 : ByteArray := prog_15_method_59_code
def yJ9_abs_0f7a4 : MethodName := ⟨RJ9, "abs", "(I)I"⟩
abbrev cJ9_max_7cf53 : ByteArray := prog_15_method_65_code
def yJ9_max_7cf53 : MethodName := ⟨RJ9, "max", "(II)I"⟩
abbrev cJ9_min_7cf53 : ByteArray := prog_15_method_69_code
def yJ9_min_7cf53 : MethodName := ⟨RJ9, "min", "(II)I"⟩
abbrev cJ9_min_f86c9 : ByteArray := prog_15_method_70_code
def yJ9_min_f86c9 : MethodName := ⟨RJ9, "min", "(JJ)J"⟩
def RJ10 : String := "java/lang/System"
def RJ7 : String := "java/util/Arrays"
abbrev cJ7_fill_d0a16 : ByteArray := prog_17_method_101_code
def yJ7_fill_d0a16 : MethodName := ⟨RJ7, "fill", "([JJ)V"⟩
abbrev cJ7_fill_53178 : ByteArray := prog_17_method_103_code
def yJ7_fill_53178 : MethodName := ⟨RJ7, "fill", "([II)V"⟩
def RL : String := "OrbitsWedLaw"
abbrev cL_law : ByteArray := code
def yL_law : MethodName := ⟨RL, "law", "([I)Z"⟩
abbrev vwCl : List vw_C := [(RX0, TX0, 6), (RX1, TX1, 1), (RX2, TX2, 12), (RX3, TX3, 3), (RX4, TX4, 5), (RX5, TX5, 4), (RX6, TX6, 5), (RX7, TX7, 6), (RX8, TX8, 6), (RX9, TX9, 8), (RX10, TX10, 10), (RX11, TX11, 39)]
end
section
/-! THE TABLES, by program: methods, words -/
/-- methods: owner, name, bytes, locals, answer, static, parameters, places of its words -/
abbrev Am_m : Type := Nat × MethodName × ByteArray × Nat × Option FieldType × Bool × Nat × List Nat
def am_mt0 : List Am_m := [(0, ⟨RX0, "add", "(IIII)V"⟩, cX0_add, 5, (Option.none : Option Jvm.ClassFile.FieldType), false, 4, [613, 481, 614, 615]), (0, ⟨RX0, "forgetOldest", "()V"⟩, cX0_forgetOldest, 2, (Option.none : Option Jvm.ClassFile.FieldType), false, 0, [616, 481, 617, 618]), (1, ⟨RX1, "firstMeeting", "(III)I"⟩, cX1_firstMeeting, 6, (Option.some Jvm.ClassFile.FieldType.int), false, 3, [619, 482, 620, 621]), (1, ⟨RX1, "meetingsIn", "(IIII)I"⟩, cX1_meetingsIn, 7, (Option.some Jvm.ClassFile.FieldType.int), false, 4, [622, 482, 623, 624]), (1, ⟨RX1, "togetherAgain", "(I)J"⟩, cX1_togetherAgain, 5, (Option.some Jvm.ClassFile.FieldType.long), false, 1, [625, 482, 626, 627]), (1, ⟨RX1, "allAtStart", "(I)J"⟩, cX1_allAtStart, 7, (Option.some Jvm.ClassFile.FieldType.long), false, 1, [628, 482, 629, 630]), (1, ⟨RX1, "nextAtStart", "(IJJ)J"⟩, cX1_nextAtStart, 9, (Option.some Jvm.ClassFile.FieldType.long), false, 3, [631, 482, 632, 633]), (1, ⟨RX1, "leastCommon", "(JJ)J"⟩, cX1_leastCommon, 11, (Option.some Jvm.ClassFile.FieldType.long), true, 2, [634, 482, 635]), (1, ⟨RX1, "moodOn", "(II)I"⟩, cX1_moodOn, 5, (Option.some Jvm.ClassFile.FieldType.int), false, 2, [636, 482, 637, 638]), (1, ⟨RX1, "bestDay", "(III)I"⟩, cX1_bestDay, 8, (Option.some Jvm.ClassFile.FieldType.int), false, 3, [639, 482, 640, 641]), (1, ⟨RX1, "metOn", "(II)I"⟩, cX1_metOn, 5, (Option.some Jvm.ClassFile.FieldType.int), false, 2, [642, 482, 643, 644]), (1, ⟨RX1, "isFree", "(II)Z"⟩, cX1_isFree, 4, (Option.some Jvm.ClassFile.FieldType.boolean), false, 2, [645, 482, 646, 647]), (1, ⟨RX1, "firstFreeDay", "(II)I"⟩, cX1_firstFreeDay, 6, (Option.some Jvm.ClassFile.FieldType.int), false, 2, [648, 482, 649, 650]), (1, ⟨RX1, "freeDaysIn", "(III)I"⟩, cX1_freeDaysIn, 6, (Option.some Jvm.ClassFile.FieldType.int), false, 3, [651, 482, 652, 653]), (1, ⟨RX1, "leastNudge", "(III)I"⟩, cX1_leastNudge, 5, (Option.some Jvm.ClassFile.FieldType.int), false, 3, [654, 482, 655, 656]), (1, ⟨RX1, "isLonely", "(IIII)Z"⟩, cX1_isLonely, 7, (Option.some Jvm.ClassFile.FieldType.boolean), false, 4, [657, 482, 658, 659]), (1, ⟨RX1, "lonelyPlaces", "(III)I"⟩, cX1_lonelyPlaces, 6, (Option.some Jvm.ClassFile.FieldType.int), false, 3, [660, 482, 661, 662]), (1, ⟨RX1, "leastLonelyPlace", "(III)I"⟩, cX1_leastLonelyPlace, 5, (Option.some Jvm.ClassFile.FieldType.int), false, 3, [663, 482, 664, 665]), (1, ⟨RX1, "daysSinceScene", "(II)I"⟩, cX1_daysSinceScene, 4, (Option.some Jvm.ClassFile.FieldType.int), false, 2, [666, 482, 667, 668]), (1, ⟨RX1, "firstWinningNudge", "(IIII)I"⟩, cX1_firstWinningNudge, 6, (Option.some Jvm.ClassFile.FieldType.int), false, 4, [669, 482, 670, 671])]
def am_mt1 : List Am_m := [(1, ⟨RX1, "endsMet", "(IIIIIZ)Z"⟩, cX1_endsMet, 8, (Option.some Jvm.ClassFile.FieldType.boolean), false, 6, [672, 482, 673, 674]), (1, ⟨RX1, "leastArc", "(II)I"⟩, cX1_leastArc, 5, (Option.some Jvm.ClassFile.FieldType.int), false, 2, [675, 482, 676, 677]), (1, ⟨RX1, "arcFrom", "(III)I"⟩, cX1_arcFrom, 7, (Option.some Jvm.ClassFile.FieldType.int), false, 3, [678, 482, 679, 680]), (2, ⟨RX2, "keepImage", "()V"⟩, cX2_keepImage, 2, (Option.none : Option Jvm.ClassFile.FieldType), false, 0, [681, 483, 682, 683]), (2, ⟨RX2, "layBack", "()V"⟩, cX2_layBack, 2, (Option.none : Option Jvm.ClassFile.FieldType), false, 0, [684, 483, 685, 686]), (3, ⟨RX3, "placeBehind", "(II)I"⟩, cX3_placeBehind, 4, (Option.some Jvm.ClassFile.FieldType.int), false, 2, [687, 484, 688, 689]), (3, ⟨RX3, "pushesIn", "(I)I"⟩, cX3_pushesIn, 4, (Option.some Jvm.ClassFile.FieldType.int), false, 1, [690, 484, 691, 692]), (3, ⟨RX3, "firstPushIn", "(I)I"⟩, cX3_firstPushIn, 3, (Option.some Jvm.ClassFile.FieldType.int), false, 1, [693, 484, 694, 695]), (3, ⟨RX3, "meetingsIn", "(III)I"⟩, cX3_meetingsIn, 6, (Option.some Jvm.ClassFile.FieldType.int), false, 3, [696, 484, 697, 698]), (3, ⟨RX3, "roundAgain", "(Z)I"⟩, cX3_roundAgain, 4, (Option.some Jvm.ClassFile.FieldType.int), false, 1, [699, 484, 700, 701]), (3, ⟨RX3, "firstSeen", "(I)I"⟩, cX3_firstSeen, 3, (Option.some Jvm.ClassFile.FieldType.int), false, 1, [702, 484, 703, 704]), (3, ⟨RX3, "firstUnlike", "([JII)I"⟩, cX3_firstUnlike, 5, (Option.some Jvm.ClassFile.FieldType.int), false, 3, [705, 484, 706, 707]), (3, ⟨RX3, "drawnYears", "(IIIII)I"⟩, cX3_drawnYears, 11, (Option.some Jvm.ClassFile.FieldType.int), false, 5, [708, 484, 709, 710]), (3, ⟨RX3, "slipped", "(II)I"⟩, cX3_slipped, 5, (Option.some Jvm.ClassFile.FieldType.int), false, 2, [711, 484, 712, 713]), (4, ⟨RX4, "nameOf", "(I)I"⟩, cX4_nameOf, 1, (Option.some Jvm.ClassFile.FieldType.int), true, 1, [714, 485, 715]), (4, ⟨RX4, "become", "(LOrbitsWed$Tape;)V"⟩, cX4_become, 3, (Option.none : Option Jvm.ClassFile.FieldType), false, 1, [716, 485, 717, 718]), (4, ⟨RX4, "turnTo", "(III)V"⟩, cX4_turnTo, 4, (Option.none : Option Jvm.ClassFile.FieldType), false, 3, [719, 485, 720, 721]), (4, ⟨RX4, "push", "(III)I"⟩, cX4_push, 5, (Option.some Jvm.ClassFile.FieldType.int), false, 3, [722, 485, 723, 724]), (4, ⟨RX4, "workedOut", "()I"⟩, cX4_workedOut, 6, (Option.some Jvm.ClassFile.FieldType.int), false, 0, [725, 485, 726, 727]), (4, ⟨RX4, "namedBy", "(I)I"⟩, cX4_namedBy, 2, (Option.some Jvm.ClassFile.FieldType.int), false, 1, [728, 485, 729, 730])]
def am_mt2 : List Am_m := [(4, ⟨RX4, "turned", "(II)I"⟩, cX4_turned, 2, (Option.some Jvm.ClassFile.FieldType.int), true, 2, [731, 485, 732]), (4, ⟨RX4, "joined", "(III)I"⟩, cX4_joined, 3, (Option.some Jvm.ClassFile.FieldType.int), true, 3, [733, 485, 734]), (5, ⟨RX5, "isKind", "(I)Z"⟩, cX5_isKind, 1, (Option.some Jvm.ClassFile.FieldType.boolean), true, 1, [735, 486, 736]), (5, ⟨RX5, "isUnder", "(II)Z"⟩, cX5_isUnder, 4, (Option.some Jvm.ClassFile.FieldType.boolean), true, 2, [737, 486, 738]), (5, ⟨RX5, "has", "(I)Z"⟩, cX5_has, 2, (Option.some Jvm.ClassFile.FieldType.boolean), false, 1, [739, 486, 740, 741]), (5, ⟨RX5, "added", "(I)I"⟩, cX5_added, 2, (Option.some Jvm.ClassFile.FieldType.int), false, 1, [742, 486, 743, 744]), (5, ⟨RX5, "acted", "(III)I"⟩, cX5_acted, 4, (Option.some Jvm.ClassFile.FieldType.int), false, 3, [745, 486, 746, 747]), (5, ⟨RX5, "own", "(IIII)I"⟩, cX5_own, 5, (Option.some Jvm.ClassFile.FieldType.int), false, 4, [748, 486, 749, 750]), (5, ⟨RX5, "above", "(IIIII)I"⟩, cX5_above, 6, (Option.some Jvm.ClassFile.FieldType.int), false, 5, [751, 486, 752, 753]), (5, ⟨RX5, "ranFrom", "(IIIII)I"⟩, cX5_ranFrom, 7, (Option.some Jvm.ClassFile.FieldType.int), false, 5, [754, 486, 755, 756]), (5, ⟨RX5, "codeFrom", "(II)I"⟩, cX5_codeFrom, 5, (Option.some Jvm.ClassFile.FieldType.int), true, 2, [757, 486, 758]), (5, ⟨RX5, "note", "(I)V"⟩, cX5_note, 2, (Option.none : Option Jvm.ClassFile.FieldType), false, 1, [759, 486, 760, 761]), (5, ⟨RX5, "drawing", "(IIII)I"⟩, cX5_drawing, 5, (Option.some Jvm.ClassFile.FieldType.int), false, 4, [762, 486, 763, 764]), (5, ⟨RX5, "meeting", "(IIII)I"⟩, cX5_meeting, 5, (Option.some Jvm.ClassFile.FieldType.int), false, 4, [765, 486, 766, 767]), (5, ⟨RX5, "shunning", "(IIII)I"⟩, cX5_shunning, 5, (Option.some Jvm.ClassFile.FieldType.int), false, 4, [768, 486, 769, 770]), (5, ⟨RX5, "telling", "(IIII)I"⟩, cX5_telling, 5, (Option.some Jvm.ClassFile.FieldType.int), false, 4, [771, 486, 772, 773]), (6, ⟨RX6, "isShelf", "(I)Z"⟩, cX6_isShelf, 1, (Option.some Jvm.ClassFile.FieldType.boolean), true, 1, [774, 487, 775]), (6, ⟨RX6, "isEmpty", "(I)Z"⟩, cX6_isEmpty, 2, (Option.some Jvm.ClassFile.FieldType.boolean), false, 1, [776, 487, 777, 778]), (6, ⟨RX6, "isMood", "(I)Z"⟩, cX6_isMood, 2, (Option.some Jvm.ClassFile.FieldType.boolean), false, 1, [779, 487, 780, 781]), (6, ⟨RX6, "isBook", "(I)Z"⟩, cX6_isBook, 2, (Option.some Jvm.ClassFile.FieldType.boolean), false, 1, [782, 487, 783, 784])]
def am_mt3 : List Am_m := [(6, ⟨RX6, "clear", "(I)V"⟩, cX6_clear, 2, (Option.none : Option Jvm.ClassFile.FieldType), false, 1, [785, 487, 786, 787]), (6, ⟨RX6, "holdMood", "(II)V"⟩, cX6_holdMood, 3, (Option.none : Option Jvm.ClassFile.FieldType), false, 2, [788, 487, 789, 790]), (6, ⟨RX6, "holdRow", "(III)V"⟩, cX6_holdRow, 4, (Option.none : Option Jvm.ClassFile.FieldType), false, 3, [791, 487, 792, 793]), (6, ⟨RX6, "rowRefusal", "(I)I"⟩, cX6_rowRefusal, 2, (Option.some Jvm.ClassFile.FieldType.int), false, 1, [794, 487, 795, 796]), (6, ⟨RX6, "bookRefusal", "(I)I"⟩, cX6_bookRefusal, 3, (Option.some Jvm.ClassFile.FieldType.int), false, 1, [797, 487, 798, 799]), (6, ⟨RX6, "placeRefusal", "(II)I"⟩, cX6_placeRefusal, 4, (Option.some Jvm.ClassFile.FieldType.int), false, 2, [800, 487, 801, 802]), (6, ⟨RX6, "pairRefusal", "(II)I"⟩, cX6_pairRefusal, 3, (Option.some Jvm.ClassFile.FieldType.int), false, 2, [803, 487, 804, 805]), (6, ⟨RX6, "hasSpan", "(III)Z"⟩, cX6_hasSpan, 4, (Option.some Jvm.ClassFile.FieldType.boolean), false, 3, [806, 487, 807, 808]), (6, ⟨RX6, "lowest", "(IJ)J"⟩, cX6_lowest, 3, (Option.some Jvm.ClassFile.FieldType.long), true, 2, [809, 487, 810]), (7, ⟨RX7, "fitsBody", "(III)Z"⟩, cX7_fitsBody, 3, (Option.some Jvm.ClassFile.FieldType.boolean), true, 3, [811, 488, 812]), (7, ⟨RX7, "added", "(III)I"⟩, cX7_added, 4, (Option.some Jvm.ClassFile.FieldType.int), false, 3, [813, 488, 814, 815]), (7, ⟨RX7, "has", "(I)Z"⟩, cX7_has, 2, (Option.some Jvm.ClassFile.FieldType.boolean), false, 1, [816, 488, 817, 818]), (7, ⟨RX7, "hasPair", "(I)Z"⟩, cX7_hasPair, 2, (Option.some Jvm.ClassFile.FieldType.boolean), false, 1, [819, 488, 820, 821]), (7, ⟨RX7, "hasAll", "(I)Z"⟩, cX7_hasAll, 2, (Option.some Jvm.ClassFile.FieldType.boolean), false, 1, [822, 488, 823, 824]), (7, ⟨RX7, "hasNumber", "(II)Z"⟩, cX7_hasNumber, 3, (Option.some Jvm.ClassFile.FieldType.boolean), false, 2, [825, 488, 826, 827]), (7, ⟨RX7, "fitsNumber", "(III)Z"⟩, cX7_fitsNumber, 4, (Option.some Jvm.ClassFile.FieldType.boolean), false, 3, [828, 488, 829, 830]), (7, ⟨RX7, "told", "(II)I"⟩, cX7_told, 3, (Option.some Jvm.ClassFile.FieldType.int), false, 2, [831, 488, 832, 833]), (7, ⟨RX7, "tell", "(III)V"⟩, cX7_tell, 4, (Option.none : Option Jvm.ClassFile.FieldType), false, 3, [834, 488, 835, 836]), (7, ⟨RX7, "degrees", "(II)I"⟩, cX7_degrees, 3, (Option.some Jvm.ClassFile.FieldType.int), false, 2, [837, 488, 838, 839]), (7, ⟨RX7, "gap", "(II)I"⟩, cX7_gap, 3, (Option.some Jvm.ClassFile.FieldType.int), true, 2, [840, 488, 841])]
def am_mt4 : List Am_m := [(7, ⟨RX7, "placeOn", "(II)I"⟩, cX7_placeOn, 3, (Option.some Jvm.ClassFile.FieldType.int), false, 2, [842, 488, 843, 844]), (7, ⟨RX7, "degreesOn", "(II)I"⟩, cX7_degreesOn, 3, (Option.some Jvm.ClassFile.FieldType.int), false, 2, [845, 488, 846, 847]), (7, ⟨RX7, "gapOn", "(III)I"⟩, cX7_gapOn, 4, (Option.some Jvm.ClassFile.FieldType.int), false, 3, [848, 488, 849, 850]), (7, ⟨RX7, "meetOn", "(III)Z"⟩, cX7_meetOn, 4, (Option.some Jvm.ClassFile.FieldType.boolean), false, 3, [851, 488, 852, 853]), (7, ⟨RX7, "meetMoved", "(IIII)Z"⟩, cX7_meetMoved, 5, (Option.some Jvm.ClassFile.FieldType.boolean), false, 4, [854, 488, 855, 856]), (8, ⟨RX8, "fed", "(I)I"⟩, cX8_fed, 2, (Option.some Jvm.ClassFile.FieldType.int), false, 1, [857, 489, 858, 859]), (8, ⟨RX8, "isText", "()Z"⟩, cX8_isText, 2, (Option.some Jvm.ClassFile.FieldType.boolean), false, 0, [860, 489, 861, 862]), (8, ⟨RX8, "next", "()I"⟩, cX8_next, 1, (Option.some Jvm.ClassFile.FieldType.int), false, 0, [863, 489, 864, 865]), (8, ⟨RX8, "draft", "(II)V"⟩, cX8_draft, 3, (Option.none : Option Jvm.ClassFile.FieldType), false, 2, [866, 489, 867, 868]), (8, ⟨RX8, "readsLine", "()Z"⟩, cX8_readsLine, 2, (Option.some Jvm.ClassFile.FieldType.boolean), false, 0, [869, 489, 870, 871]), (8, ⟨RX8, "readsEither", "(I)Z"⟩, cX8_readsEither, 3, (Option.some Jvm.ClassFile.FieldType.boolean), false, 1, [872, 489, 873, 874]), (8, ⟨RX8, "readsBoth", "(I)Z"⟩, cX8_readsBoth, 3, (Option.some Jvm.ClassFile.FieldType.boolean), false, 1, [875, 489, 876, 877]), (8, ⟨RX8, "readsCompared", "(I)Z"⟩, cX8_readsCompared, 3, (Option.some Jvm.ClassFile.FieldType.boolean), false, 1, [878, 489, 879, 880]), (8, ⟨RX8, "readsSum", "(I)Z"⟩, cX8_readsSum, 4, (Option.some Jvm.ClassFile.FieldType.boolean), false, 1, [881, 489, 882, 883]), (8, ⟨RX8, "readsProduct", "(I)Z"⟩, cX8_readsProduct, 4, (Option.some Jvm.ClassFile.FieldType.boolean), false, 1, [884, 489, 885, 886]), (8, ⟨RX8, "readsOperand", "(I)Z"⟩, cX8_readsOperand, 4, (Option.some Jvm.ClassFile.FieldType.boolean), false, 1, [887, 489, 888, 889]), (8, ⟨RX8, "readsClosed", "(I)Z"⟩, cX8_readsClosed, 2, (Option.some Jvm.ClassFile.FieldType.boolean), false, 1, [890, 489, 891, 892]), (8, ⟨RX8, "readsTurned", "(II)Z"⟩, cX8_readsTurned, 3, (Option.some Jvm.ClassFile.FieldType.boolean), false, 2, [893, 489, 894, 895]), (8, ⟨RX8, "readNumber", "()V"⟩, cX8_readNumber, 3, (Option.none : Option Jvm.ClassFile.FieldType), false, 0, [896, 489, 897, 898]), (9, ⟨RX9, "begin", "()V"⟩, cX9_begin, 2, (Option.none : Option Jvm.ClassFile.FieldType), false, 0, [899, 490, 900, 901])]
def am_mt5 : List Am_m := [(9, ⟨RX9, "keepPlaces", "()V"⟩, cX9_keepPlaces, 2, (Option.none : Option Jvm.ClassFile.FieldType), false, 0, [902, 490, 903, 904]), (9, ⟨RX9, "pass", "(I)V"⟩, cX9_pass, 3, (Option.none : Option Jvm.ClassFile.FieldType), false, 1, [905, 490, 906, 907]), (9, ⟨RX9, "move", "(II)V"⟩, cX9_move, 3, (Option.none : Option Jvm.ClassFile.FieldType), false, 2, [908, 490, 909, 910]), (9, ⟨RX9, "look", "()V"⟩, cX9_look, 3, (Option.none : Option Jvm.ClassFile.FieldType), false, 0, [911, 490, 912, 913]), (9, ⟨RX9, "pushOf", "(II)I"⟩, cX9_pushOf, 7, (Option.some Jvm.ClassFile.FieldType.int), false, 2, [914, 490, 915, 916]), (9, ⟨RX9, "allPlaces", "()J"⟩, cX9_allPlaces, 4, (Option.some Jvm.ClassFile.FieldType.long), false, 0, [917, 490, 918, 919]), (9, ⟨RX9, "areAllAtStart", "()Z"⟩, cX9_areAllAtStart, 1, (Option.some Jvm.ClassFile.FieldType.boolean), false, 0, [920, 490, 921, 922]), (10, ⟨RX10, "orb", "(II)I"⟩, cX10_orb, 3, (Option.some Jvm.ClassFile.FieldType.int), false, 2, [923, 491, 924, 925]), (10, ⟨RX10, "orbs", "(III)I"⟩, cX10_orbs, 4, (Option.some Jvm.ClassFile.FieldType.int), false, 3, [926, 491, 927, 928]), (10, ⟨RX10, "mend", "(III)I"⟩, cX10_mend, 5, (Option.some Jvm.ClassFile.FieldType.int), false, 3, [929, 491, 930, 931]), (10, ⟨RX10, "of", "(II)I"⟩, cX10_of, 3, (Option.some Jvm.ClassFile.FieldType.int), false, 2, [932, 491, 933, 934]), (10, ⟨RX10, "feed", "(I)I"⟩, cX10_feed, 2, (Option.some Jvm.ClassFile.FieldType.int), false, 1, [935, 491, 936, 937]), (10, ⟨RX10, "law", "()I"⟩, cX10_law, 3, (Option.some Jvm.ClassFile.FieldType.int), false, 0, [938, 491, 939, 940]), (10, ⟨RX10, "at", "(III)I"⟩, cX10_at, 4, (Option.some Jvm.ClassFile.FieldType.int), false, 3, [941, 491, 942, 943]), (10, ⟨RX10, "apart", "(III)I"⟩, cX10_apart, 5, (Option.some Jvm.ClassFile.FieldType.int), false, 3, [944, 491, 945, 946]), (10, ⟨RX10, "meets", "(II)I"⟩, cX10_meets, 3, (Option.some Jvm.ClassFile.FieldType.int), false, 2, [947, 491, 948, 949]), (10, ⟨RX10, "often", "(III)I"⟩, cX10_often, 4, (Option.some Jvm.ClassFile.FieldType.int), false, 3, [950, 491, 951, 952]), (10, ⟨RX10, "together", "(I)J"⟩, cX10_together, 2, (Option.some Jvm.ClassFile.FieldType.long), false, 1, [953, 491, 954, 955]), (10, ⟨RX10, "start", "(I)J"⟩, cX10_start, 2, (Option.some Jvm.ClassFile.FieldType.long), false, 1, [956, 491, 957, 958]), (10, ⟨RX10, "mood", "(II)I"⟩, cX10_mood, 3, (Option.some Jvm.ClassFile.FieldType.int), false, 2, [959, 491, 960, 961])]
def am_mt6 : List Am_m := [(10, ⟨RX10, "best", "(III)I"⟩, cX10_best, 7, (Option.some Jvm.ClassFile.FieldType.int), false, 3, [962, 491, 963, 964]), (10, ⟨RX10, "sign", "(III)I"⟩, cX10_sign, 4, (Option.some Jvm.ClassFile.FieldType.int), false, 3, [965, 491, 966, 967]), (10, ⟨RX10, "nudge", "(II)I"⟩, cX10_nudge, 3, (Option.some Jvm.ClassFile.FieldType.int), false, 2, [968, 491, 969, 970]), (10, ⟨RX10, "never", "(III)I"⟩, cX10_never, 6, (Option.some Jvm.ClassFile.FieldType.int), false, 3, [971, 491, 972, 973]), (10, ⟨RX10, "scene", "(I)I"⟩, cX10_scene, 2, (Option.some Jvm.ClassFile.FieldType.int), false, 1, [974, 491, 975, 976]), (10, ⟨RX10, "later", "(II)I"⟩, cX10_later, 3, (Option.some Jvm.ClassFile.FieldType.int), false, 2, [977, 491, 978, 979]), (10, ⟨RX10, "pushes", "(II)I"⟩, cX10_pushes, 3, (Option.some Jvm.ClassFile.FieldType.int), false, 2, [980, 491, 981, 982]), (10, ⟨RX10, "met", "(II)I"⟩, cX10_met, 3, (Option.some Jvm.ClassFile.FieldType.int), false, 2, [983, 491, 984, 985]), (10, ⟨RX10, "again", "(I)I"⟩, cX10_again, 2, (Option.some Jvm.ClassFile.FieldType.int), false, 1, [986, 491, 987, 988]), (10, ⟨RX10, "judge", "(II)I"⟩, cX10_judge, 4, (Option.some Jvm.ClassFile.FieldType.int), false, 2, [989, 491, 990, 991]), (10, ⟨RX10, "liking", "(IIII)I"⟩, cX10_liking, 5, (Option.some Jvm.ClassFile.FieldType.int), false, 4, [992, 491, 993, 994]), (10, ⟨RX10, "whose", "(I)I"⟩, cX10_whose, 5, (Option.some Jvm.ClassFile.FieldType.int), false, 1, [995, 491, 996, 997]), (10, ⟨RX10, "byTurns", "(III)I"⟩, cX10_byTurns, 7, (Option.some Jvm.ClassFile.FieldType.int), false, 3, [998, 491, 999, 1000]), (10, ⟨RX10, "crowd", "(III)I"⟩, cX10_crowd, 5, (Option.some Jvm.ClassFile.FieldType.int), false, 3, [1001, 491, 1002, 1003]), (10, ⟨RX10, "arc", "(II)I"⟩, cX10_arc, 3, (Option.some Jvm.ClassFile.FieldType.int), false, 2, [1004, 491, 1005, 1006]), (10, ⟨RX10, "drawn", "(III)I"⟩, cX10_drawn, 7, (Option.some Jvm.ClassFile.FieldType.int), false, 3, [1007, 491, 1008, 1009]), (10, ⟨RX10, "day", "()I"⟩, cX10_day, 1, (Option.some Jvm.ClassFile.FieldType.int), false, 0, [1010, 491, 1011, 1012]), (10, ⟨RX10, "nudged", "(II)I"⟩, cX10_nudged, 3, (Option.some Jvm.ClassFile.FieldType.int), false, 2, [1013, 491, 1014, 1015]), (10, ⟨RX10, "led", "(I)I"⟩, cX10_led, 2, (Option.some Jvm.ClassFile.FieldType.int), false, 1, [1016, 491, 1017, 1018]), (10, ⟨RX10, "image", "()I"⟩, cX10_image, 1, (Option.some Jvm.ClassFile.FieldType.int), false, 0, [1019, 491, 1020, 1021])]
def am_mt7 : List Am_m := [(10, ⟨RX10, "back", "()I"⟩, cX10_back, 1, (Option.some Jvm.ClassFile.FieldType.int), false, 0, [1022, 491, 1023, 1024]), (10, ⟨RX10, "undo", "()I"⟩, cX10_undo, 2, (Option.some Jvm.ClassFile.FieldType.int), false, 0, [1025, 491, 1026, 1027]), (10, ⟨RX10, "redo", "()I"⟩, cX10_redo, 2, (Option.some Jvm.ClassFile.FieldType.int), false, 0, [1028, 491, 1029, 1030]), (10, ⟨RX10, "body", "(I)I"⟩, cX10_body, 2, (Option.some Jvm.ClassFile.FieldType.int), false, 1, [1031, 491, 1032, 1033]), (10, ⟨RX10, "act", "(III)I"⟩, cX10_act, 4, (Option.some Jvm.ClassFile.FieldType.int), false, 3, [1034, 491, 1035, 1036]), (10, ⟨RX10, "trace", "(I)I"⟩, cX10_trace, 2, (Option.some Jvm.ClassFile.FieldType.int), false, 1, [1037, 491, 1038, 1039]), (10, ⟨RX10, "keep", "(II)I"⟩, cX10_keep, 3, (Option.some Jvm.ClassFile.FieldType.int), false, 2, [1040, 491, 1041, 1042]), (10, ⟨RX10, "row", "(III)I"⟩, cX10_row, 4, (Option.some Jvm.ClassFile.FieldType.int), false, 3, [1043, 491, 1044, 1045]), (10, ⟨RX10, "put", "(IIJ)I"⟩, cX10_put, 6, (Option.some Jvm.ClassFile.FieldType.int), false, 3, [1046, 491, 1047, 1048]), (10, ⟨RX10, "element", "(II)J"⟩, cX10_element, 3, (Option.some Jvm.ClassFile.FieldType.long), false, 2, [1049, 491, 1050, 1051]), (10, ⟨RX10, "shift", "(IIIII)I"⟩, cX10_shift, 7, (Option.some Jvm.ClassFile.FieldType.int), false, 5, [1052, 491, 1053, 1054]), (10, ⟨RX10, "taken", "(II)I"⟩, cX10_taken, 4, (Option.some Jvm.ClassFile.FieldType.int), false, 2, [1055, 491, 1056, 1057]), (10, ⟨RX10, "count", "(I)I"⟩, cX10_count, 2, (Option.some Jvm.ClassFile.FieldType.int), false, 1, [1058, 491, 1059, 1060]), (10, ⟨RX10, "isDay", "(I)Z"⟩, cX10_isDay, 1, (Option.some Jvm.ClassFile.FieldType.boolean), true, 1, [1061, 491, 1062]), (10, ⟨RX10, "isWhat", "(I)Z"⟩, cX10_isWhat, 1, (Option.some Jvm.ClassFile.FieldType.boolean), true, 1, [1063, 491, 1064]), (10, ⟨RX10, "isSpan", "(I)Z"⟩, cX10_isSpan, 1, (Option.some Jvm.ClassFile.FieldType.boolean), true, 1, [1065, 491, 1066]), (10, ⟨RX10, "isPushedSpan", "(I)Z"⟩, cX10_isPushedSpan, 1, (Option.some Jvm.ClassFile.FieldType.boolean), true, 1, [1067, 491, 1068]), (10, ⟨RX10, "bodiesFrom", "(III)I"⟩, cX10_bodiesFrom, 12, (Option.some Jvm.ClassFile.FieldType.int), false, 3, [1069, 491, 1070, 1071]), (10, ⟨RX10, "likings", "(IIIZ)I"⟩, cX10_likings, 9, (Option.some Jvm.ClassFile.FieldType.int), false, 4, [1072, 491, 1073, 1074]), (11, ⟨RX11, "within", "(JJJ)Z"⟩, cX11_within, 6, (Option.some Jvm.ClassFile.FieldType.boolean), true, 3, [1075, 492, 1076])]
def am_mt8 : List Am_m := [(11, ⟨RX11, "isIn", "(II)Z"⟩, cX11_isIn, 2, (Option.some Jvm.ClassFile.FieldType.boolean), true, 2, [1077, 492, 1078]), (11, ⟨RX11, "becomes", "(II)I"⟩, cX11_becomes, 5, (Option.some Jvm.ClassFile.FieldType.int), false, 2, [1079, 492, 1080, 1081]), (11, ⟨RX11, "undo", "()I"⟩, cX11_undo, 1, (Option.some Jvm.ClassFile.FieldType.int), false, 0, [1082, 492, 1083, 1084]), (11, ⟨RX11, "redo", "()I"⟩, cX11_redo, 1, (Option.some Jvm.ClassFile.FieldType.int), false, 0, [1085, 492, 1086, 1087]), (11, ⟨RX11, "isOrb", "(J)Z"⟩, cX11_isOrb, 3, (Option.some Jvm.ClassFile.FieldType.boolean), false, 1, [1088, 492, 1089, 1090]), (11, ⟨RX11, "isAb", "(I)Z"⟩, cX11_isAb, 2, (Option.some Jvm.ClassFile.FieldType.boolean), false, 1, [1091, 492, 1092, 1093]), (11, ⟨RX11, "mayCome", "(JJJ)Z"⟩, cX11_mayCome, 6, (Option.some Jvm.ClassFile.FieldType.boolean), true, 3, [1094, 492, 1095]), (11, ⟨RX11, "adds", "(III)V"⟩, cX11_adds, 4, (Option.none : Option Jvm.ClassFile.FieldType), false, 3, [1096, 492, 1097, 1098]), (11, ⟨RX11, "orb", "(II)I"⟩, cX11_orb, 3, (Option.some Jvm.ClassFile.FieldType.int), false, 2, [1099, 492, 1100, 1101]), (11, ⟨RX11, "orbs", "(III)I"⟩, cX11_orbs, 7, (Option.some Jvm.ClassFile.FieldType.int), false, 3, [1102, 492, 1103, 1104]), (11, ⟨RX11, "placeOf", "(II)I"⟩, cX11_placeOf, 3, (Option.some Jvm.ClassFile.FieldType.int), false, 2, [1105, 492, 1106, 1107]), (11, ⟨RX11, "mayBecome", "(III)Z"⟩, cX11_mayBecome, 4, (Option.some Jvm.ClassFile.FieldType.boolean), false, 3, [1108, 492, 1109, 1110]), (11, ⟨RX11, "mend", "(III)I"⟩, cX11_mend, 5, (Option.some Jvm.ClassFile.FieldType.int), false, 3, [1111, 492, 1112, 1113]), (11, ⟨RX11, "of", "(II)I"⟩, cX11_of, 4, (Option.some Jvm.ClassFile.FieldType.int), false, 2, [1114, 492, 1115, 1116]), (11, ⟨RX11, "feed", "(I)I"⟩, cX11_feed, 2, (Option.some Jvm.ClassFile.FieldType.int), false, 1, [1117, 492, 1118, 1119]), (11, ⟨RX11, "byteAt", "()I"⟩, cX11_byteAt, 1, (Option.some Jvm.ClassFile.FieldType.int), false, 0, [1120, 492, 1121, 1122]), (11, ⟨RX11, "wrong", "()I"⟩, cX11_wrong, 1, (Option.some Jvm.ClassFile.FieldType.int), false, 0, [1123, 492, 1124, 1125]), (11, ⟨RX11, "takes", "(I)Z"⟩, cX11_takes, 2, (Option.some Jvm.ClassFile.FieldType.boolean), false, 1, [1126, 492, 1127, 1128]), (11, ⟨RX11, "either", "()I"⟩, cX11_either, 3, (Option.some Jvm.ClassFile.FieldType.int), false, 0, [1129, 492, 1130, 1131]), (11, ⟨RX11, "both", "()I"⟩, cX11_both, 3, (Option.some Jvm.ClassFile.FieldType.int), false, 0, [1132, 492, 1133, 1134])]
def am_mt9 : List Am_m := [(11, ⟨RX11, "compared", "()I"⟩, cX11_compared, 4, (Option.some Jvm.ClassFile.FieldType.int), false, 0, [1135, 492, 1136, 1137]), (11, ⟨RX11, "sums", "()I"⟩, cX11_sums, 4, (Option.some Jvm.ClassFile.FieldType.int), false, 0, [1138, 492, 1139, 1140]), (11, ⟨RX11, "product", "()I"⟩, cX11_product, 4, (Option.some Jvm.ClassFile.FieldType.int), false, 0, [1141, 492, 1142, 1143]), (11, ⟨RX11, "nameOf", "(I)I"⟩, cX11_nameOf, 1, (Option.some Jvm.ClassFile.FieldType.int), true, 1, [1144, 492, 1145]), (11, ⟨RX11, "one", "()I"⟩, cX11_one, 5, (Option.some Jvm.ClassFile.FieldType.int), false, 0, [1146, 492, 1147, 1148]), (11, ⟨RX11, "workOut", "(II)I"⟩, cX11_workOut, 8, (Option.some Jvm.ClassFile.FieldType.int), false, 2, [1149, 492, 1150, 1151]), (11, ⟨RX11, "law", "()I"⟩, cX11_law, 4, (Option.some Jvm.ClassFile.FieldType.int), false, 0, [1152, 492, 1153, 1154]), (11, ⟨RX11, "isDay", "(I)Z"⟩, cX11_isDay, 1, (Option.some Jvm.ClassFile.FieldType.boolean), true, 1, [1155, 492, 1156]), (11, ⟨RX11, "clock", "(IJ)I"⟩, cX11_clock, 4, (Option.some Jvm.ClassFile.FieldType.int), false, 2, [1157, 492, 1158, 1159]), (11, ⟨RX11, "degreesOf", "(II)I"⟩, cX11_degreesOf, 3, (Option.some Jvm.ClassFile.FieldType.int), false, 2, [1160, 492, 1161, 1162]), (11, ⟨RX11, "arcOf", "(II)I"⟩, cX11_arcOf, 3, (Option.some Jvm.ClassFile.FieldType.int), true, 2, [1163, 492, 1164]), (11, ⟨RX11, "apartOn", "(IIJ)I"⟩, cX11_apartOn, 5, (Option.some Jvm.ClassFile.FieldType.int), false, 3, [1165, 492, 1166, 1167]), (11, ⟨RX11, "meetOn", "(IIJ)Z"⟩, cX11_meetOn, 5, (Option.some Jvm.ClassFile.FieldType.boolean), false, 3, [1168, 492, 1169, 1170]), (11, ⟨RX11, "at", "(III)I"⟩, cX11_at, 4, (Option.some Jvm.ClassFile.FieldType.int), false, 3, [1171, 492, 1172, 1173]), (11, ⟨RX11, "apart", "(III)I"⟩, cX11_apart, 4, (Option.some Jvm.ClassFile.FieldType.int), false, 3, [1174, 492, 1175, 1176]), (11, ⟨RX11, "meets", "(II)I"⟩, cX11_meets, 4, (Option.some Jvm.ClassFile.FieldType.int), false, 2, [1177, 492, 1178, 1179]), (11, ⟨RX11, "often", "(III)I"⟩, cX11_often, 6, (Option.some Jvm.ClassFile.FieldType.int), false, 3, [1180, 492, 1181, 1182]), (11, ⟨RX11, "common", "(JJ)J"⟩, cX11_common, 10, (Option.some Jvm.ClassFile.FieldType.long), true, 2, [1183, 492, 1184]), (11, ⟨RX11, "isSet", "(I)Z"⟩, cX11_isSet, 2, (Option.some Jvm.ClassFile.FieldType.boolean), false, 1, [1185, 492, 1186, 1187]), (11, ⟨RX11, "together", "(I)J"⟩, cX11_together, 5, (Option.some Jvm.ClassFile.FieldType.long), false, 1, [1188, 492, 1189, 1190])]
def am_mt10 : List Am_m := [(11, ⟨RX11, "start", "(I)J"⟩, cX11_start, 8, (Option.some Jvm.ClassFile.FieldType.long), false, 1, [1191, 492, 1192, 1193]), (11, ⟨RX11, "moodOn", "(IJ)I"⟩, cX11_moodOn, 6, (Option.some Jvm.ClassFile.FieldType.int), false, 2, [1194, 492, 1195, 1196]), (11, ⟨RX11, "mood", "(II)I"⟩, cX11_mood, 3, (Option.some Jvm.ClassFile.FieldType.int), false, 2, [1197, 492, 1198, 1199]), (11, ⟨RX11, "best", "(III)I"⟩, cX11_best, 9, (Option.some Jvm.ClassFile.FieldType.int), false, 3, [1200, 492, 1201, 1202]), (11, ⟨RX11, "isQuiet", "(IJ)Z"⟩, cX11_isQuiet, 6, (Option.some Jvm.ClassFile.FieldType.boolean), false, 2, [1203, 492, 1204, 1205]), (11, ⟨RX11, "sign", "(III)I"⟩, cX11_sign, 6, (Option.some Jvm.ClassFile.FieldType.int), false, 3, [1206, 492, 1207, 1208]), (11, ⟨RX11, "meetsMoved", "(IIIJ)Z"⟩, cX11_meetsMoved, 7, (Option.some Jvm.ClassFile.FieldType.boolean), false, 4, [1209, 492, 1210, 1211]), (11, ⟨RX11, "nudge", "(II)I"⟩, cX11_nudge, 5, (Option.some Jvm.ClassFile.FieldType.int), false, 2, [1212, 492, 1213, 1214]), (11, ⟨RX11, "never", "(III)I"⟩, cX11_never, 10, (Option.some Jvm.ClassFile.FieldType.int), false, 3, [1215, 492, 1216, 1217]), (11, ⟨RX11, "ago", "(II)I"⟩, cX11_ago, 3, (Option.some Jvm.ClassFile.FieldType.int), false, 2, [1218, 492, 1219, 1220]), (11, ⟨RX11, "scene", "(I)I"⟩, cX11_scene, 3, (Option.some Jvm.ClassFile.FieldType.int), false, 1, [1221, 492, 1222, 1223]), (11, ⟨RX11, "begins", "()V"⟩, cX11_begins, 2, (Option.none : Option Jvm.ClassFile.FieldType), false, 0, [1224, 492, 1225, 1226]), (11, ⟨RX11, "apartNow", "(II)I"⟩, cX11_apartNow, 3, (Option.some Jvm.ClassFile.FieldType.int), false, 2, [1227, 492, 1228, 1229]), (11, ⟨RX11, "meetNow", "(II)Z"⟩, cX11_meetNow, 3, (Option.some Jvm.ClassFile.FieldType.boolean), false, 2, [1230, 492, 1231, 1232]), (11, ⟨RX11, "meetsAnybody", "(I)Z"⟩, cX11_meetsAnybody, 3, (Option.some Jvm.ClassFile.FieldType.boolean), false, 1, [1233, 492, 1234, 1235]), (11, ⟨RX11, "pushOf", "(III)I"⟩, cX11_pushOf, 6, (Option.some Jvm.ClassFile.FieldType.int), false, 3, [1236, 492, 1237, 1238]), (11, ⟨RX11, "passes", "(I)V"⟩, cX11_passes, 5, (Option.none : Option Jvm.ClassFile.FieldType), false, 1, [1239, 492, 1240, 1241]), (11, ⟨RX11, "goes", "(I)V"⟩, cX11_goes, 3, (Option.none : Option Jvm.ClassFile.FieldType), false, 1, [1242, 492, 1243, 1244]), (11, ⟨RX11, "isPushed", "(I)Z"⟩, cX11_isPushed, 1, (Option.some Jvm.ClassFile.FieldType.boolean), true, 1, [1245, 492, 1246]), (11, ⟨RX11, "later", "(II)I"⟩, cX11_later, 3, (Option.some Jvm.ClassFile.FieldType.int), false, 2, [1247, 492, 1248, 1249])]
def am_mt11 : List Am_m := [(11, ⟨RX11, "pushes", "(II)I"⟩, cX11_pushes, 5, (Option.some Jvm.ClassFile.FieldType.int), false, 2, [1250, 492, 1251, 1252]), (11, ⟨RX11, "met", "(II)I"⟩, cX11_met, 5, (Option.some Jvm.ClassFile.FieldType.int), false, 2, [1253, 492, 1254, 1255]), (11, ⟨RX11, "stoodAs", "(II)Z"⟩, cX11_stoodAs, 4, (Option.some Jvm.ClassFile.FieldType.boolean), false, 2, [1256, 492, 1257, 1258]), (11, ⟨RX11, "again", "(I)I"⟩, cX11_again, 4, (Option.some Jvm.ClassFile.FieldType.int), false, 1, [1259, 492, 1260, 1261]), (11, ⟨RX11, "bytesIs", "(I)I"⟩, cX11_bytesIs, 2, (Option.some Jvm.ClassFile.FieldType.int), false, 1, [1262, 492, 1263, 1264]), (11, ⟨RX11, "firstFalse", "(II)I"⟩, cX11_firstFalse, 4, (Option.some Jvm.ClassFile.FieldType.int), false, 2, [1265, 492, 1266, 1267]), (11, ⟨RX11, "judge", "(II)I"⟩, cX11_judge, 3, (Option.some Jvm.ClassFile.FieldType.int), false, 2, [1268, 492, 1269, 1270]), (11, ⟨RX11, "liking", "(IIII)I"⟩, cX11_liking, 10, (Option.some Jvm.ClassFile.FieldType.int), false, 4, [1271, 492, 1272, 1273]), (11, ⟨RX11, "whose", "(I)I"⟩, cX11_whose, 4, (Option.some Jvm.ClassFile.FieldType.int), false, 1, [1274, 492, 1275, 1276]), (11, ⟨RX11, "byTurns", "(III)I"⟩, cX11_byTurns, 13, (Option.some Jvm.ClassFile.FieldType.int), false, 3, [1277, 492, 1278, 1279]), (11, ⟨RX11, "crowd", "(III)I"⟩, cX11_crowd, 7, (Option.some Jvm.ClassFile.FieldType.int), false, 3, [1280, 492, 1281, 1282]), (11, ⟨RX11, "gapBehind", "(III)I"⟩, cX11_gapBehind, 8, (Option.some Jvm.ClassFile.FieldType.int), false, 3, [1283, 492, 1284, 1285]), (11, ⟨RX11, "arc", "(II)I"⟩, cX11_arc, 6, (Option.some Jvm.ClassFile.FieldType.int), false, 2, [1286, 492, 1287, 1288]), (11, ⟨RX11, "drawn", "(III)I"⟩, cX11_drawn, 10, (Option.some Jvm.ClassFile.FieldType.int), false, 3, [1289, 492, 1290, 1291]), (11, ⟨RX11, "day", "()I"⟩, cX11_day, 2, (Option.some Jvm.ClassFile.FieldType.int), false, 0, [1292, 492, 1293, 1294]), (11, ⟨RX11, "nudged", "(II)I"⟩, cX11_nudged, 3, (Option.some Jvm.ClassFile.FieldType.int), false, 2, [1295, 492, 1296, 1297]), (11, ⟨RX11, "led", "(I)I"⟩, cX11_led, 2, (Option.some Jvm.ClassFile.FieldType.int), false, 1, [1298, 492, 1299, 1300]), (11, ⟨RX11, "image", "()I"⟩, cX11_image, 2, (Option.some Jvm.ClassFile.FieldType.int), false, 0, [1301, 492, 1302, 1303]), (11, ⟨RX11, "back", "()I"⟩, cX11_back, 2, (Option.some Jvm.ClassFile.FieldType.int), false, 0, [1304, 492, 1305, 1306]), (11, ⟨RX11, "isBody", "(I)Z"⟩, cX11_isBody, 2, (Option.some Jvm.ClassFile.FieldType.boolean), false, 1, [1307, 492, 1308, 1309])]
def am_mt12 : List Am_m := [(11, ⟨RX11, "kindOf", "(I)I"⟩, cX11_kindOf, 2, (Option.some Jvm.ClassFile.FieldType.int), false, 1, [1310, 492, 1311, 1312]), (11, ⟨RX11, "body", "(I)I"⟩, cX11_body, 2, (Option.some Jvm.ClassFile.FieldType.int), false, 1, [1313, 492, 1314, 1315]), (11, ⟨RX11, "above", "(I)I"⟩, cX11_above, 1, (Option.some Jvm.ClassFile.FieldType.int), true, 1, [1316, 492, 1317]), (11, ⟨RX11, "runs", "(I)V"⟩, cX11_runs, 2, (Option.none : Option Jvm.ClassFile.FieldType), false, 1, [1318, 492, 1319, 1320]), (11, ⟨RX11, "drawsAs", "(II)I"⟩, cX11_drawsAs, 3, (Option.some Jvm.ClassFile.FieldType.int), false, 2, [1321, 492, 1322, 1323]), (11, ⟨RX11, "meetsAs", "(II)I"⟩, cX11_meetsAs, 4, (Option.some Jvm.ClassFile.FieldType.int), false, 2, [1324, 492, 1325, 1326]), (11, ⟨RX11, "shunsAs", "(II)I"⟩, cX11_shunsAs, 4, (Option.some Jvm.ClassFile.FieldType.int), false, 2, [1327, 492, 1328, 1329]), (11, ⟨RX11, "tellsAs", "(II)I"⟩, cX11_tellsAs, 4, (Option.some Jvm.ClassFile.FieldType.int), false, 2, [1330, 492, 1331, 1332]), (11, ⟨RX11, "act", "(III)I"⟩, cX11_act, 4, (Option.some Jvm.ClassFile.FieldType.int), false, 3, [1333, 492, 1334, 1335]), (11, ⟨RX11, "trace", "(I)I"⟩, cX11_trace, 2, (Option.some Jvm.ClassFile.FieldType.int), false, 1, [1336, 492, 1337, 1338]), (11, ⟨RX11, "isShelf", "(I)Z"⟩, cX11_isShelf, 1, (Option.some Jvm.ClassFile.FieldType.boolean), true, 1, [1339, 492, 1340]), (11, ⟨RX11, "keep", "(II)I"⟩, cX11_keep, 3, (Option.some Jvm.ClassFile.FieldType.int), false, 2, [1341, 492, 1342, 1343]), (11, ⟨RX11, "row", "(III)I"⟩, cX11_row, 5, (Option.some Jvm.ClassFile.FieldType.int), false, 3, [1344, 492, 1345, 1346]), (11, ⟨RX11, "refusal", "(II)I"⟩, cX11_refusal, 3, (Option.some Jvm.ClassFile.FieldType.int), false, 2, [1347, 492, 1348, 1349]), (11, ⟨RX11, "asSort", "(IJ)J"⟩, cX11_asSort, 3, (Option.some Jvm.ClassFile.FieldType.long), true, 2, [1350, 492, 1351]), (11, ⟨RX11, "put", "(IIJ)I"⟩, cX11_put, 6, (Option.some Jvm.ClassFile.FieldType.int), false, 3, [1352, 492, 1353, 1354]), (11, ⟨RX11, "element", "(II)J"⟩, cX11_element, 3, (Option.some Jvm.ClassFile.FieldType.long), false, 2, [1355, 492, 1356, 1357]), (11, ⟨RX11, "shift", "(IIIII)I"⟩, cX11_shift, 7, (Option.some Jvm.ClassFile.FieldType.int), false, 5, [1358, 492, 1359, 1360]), (11, ⟨RX11, "taken", "(II)I"⟩, cX11_taken, 4, (Option.some Jvm.ClassFile.FieldType.int), false, 2, [1361, 492, 1362, 1363]), (11, ⟨RX11, "count", "(I)I"⟩, cX11_count, 2, (Option.some Jvm.ClassFile.FieldType.int), false, 1, [1364, 492, 1365, 1366])]
def am_mt13 : List Am_m := [(14, ⟨"java/lang/Integer", "bitCount", "(I)I"⟩, cJ6_bitCount_0f7a4, 1, (Option.some Jvm.ClassFile.FieldType.int), true, 1, [1367, 495, 1368]), (13, ⟨"java/lang/Math", "floorMod", "(II)I"⟩, cJ9_floorMod_7cf53, 3, (Option.some Jvm.ClassFile.FieldType.int), true, 2, [1369, 494, 1370]), (15, ⟨"java/util/Arrays", "fill", "([JJ)V"⟩, cJ7_fill_d0a16, 5, (Option.none : Option Jvm.ClassFile.FieldType), true, 2, [1371, 496, 1372])]
def am_mtL : List Am_m := am_mt0 ++ (am_mt1 ++ (am_mt2 ++ (am_mt3 ++ (am_mt4 ++ (am_mt5 ++ (am_mt6 ++ (am_mt7 ++ (am_mt8 ++ (am_mt9 ++ (am_mt10 ++ (am_mt11 ++ (am_mt12 ++ (am_mt13)))))))))))))
def am_NM : Nat := 263
def am_mt (j : Nat) : Am_m := am_mtL.getD j (99, yL_law, cL_law, 0, none, false, 0, [])
def am_own (o : Nat) : String := ([RX0, RX1, RX2, RX3, RX4, RX5, RX6, RX7, RX8, RX9, RX10, RX11, RL, "java/lang/Math", "java/lang/Integer", "java/util/Arrays", "java/lang/System"] : List String).getD o ""
def am_T (ci : Nat) : u_T := (vwCl.getD ci ("", fun _ => ("", "", "", true), 0)).2.1
def am_R (ci : Nat) : String := (vwCl.getD ci ("", fun _ => ("", "", "", true), 0)).1
def am_nf (ci : Nat) : Nat := (vwCl.getD ci ("", fun _ => ("", "", "", true), 0)).2.2
def am_tyq (ci : Nat) : Nat → FieldType := ([tyX0, tyX1, tyX2, tyX3, tyX4, tyX5, tyX6, tyX7, tyX8, tyX9, tyX10, tyX11] : List (Nat → FieldType)).getD ci (fun _ => .byte)
def am_iz (e : Nat) : Bool := match am_tyq (e / 64) (e % 64) with
  | .int => true
  | .boolean => true
  | _ => false
theorem am_iz_e {e : Nat} (h : am_iz e = true) : am_tyq (e / 64) (e % 64) = .int ∨ am_tyq (e / 64) (e % 64) = .boolean := by
  unfold am_iz at h
  split at h
  · left; assumption
  · right; assumption
  · cases h
theorem am_cl {ci : Nat} (h : ci < 12) : vwCl[ci]? = some (am_R ci, am_T ci, am_nf ci) := by
  have e : vwCl[ci]? = some (vwCl.getD ci ("", fun _ => ("", "", "", true), 0)) := by
    rw [List.getD_eq_getElem?_getD, List.getElem?_eq_getElem (show ci < vwCl.length from h)]
    rfl
  exact e
def am_nmx : Nat → MethodName
  | 0 => Lib.Math.abs.name
  | 1 => Lib.Math.min.name
  | 2 => Lib.Math.max.name
  | 3 => Lib.MathLoose.min_long.x
  | _ => arraycopyName
/-- a word by numbers -/
def am_word : Nat × Nat × Nat × Nat → Cond
  | (0, o, k, e) => .fieldLink (am_own o) k (am_T (e / 64) (e % 64)).1 (am_T (e / 64) (e % 64)).2.1 (am_T (e / 64) (e % 64)).2.2.1
  | (1, o, k, j) => .methodLink (am_own o) k (am_mt j).2.1
  | (2, o, k, t) => .methodLink (am_own o) k (am_nmx t)
  | (3, o, k, v) => .constant (am_own o) k (Int32.ofNat v)
  | (4, o, k, v) => .constantLong (am_own o) k (Int64.ofNat v)
  | (5, j, _, _) => .code (am_mt j).2.1 (am_mt j).2.2.1 (am_mt j).2.2.2.1 (am_mt j).2.2.2.2.1
  | (6, j, _, _) => .instanceMethod (am_mt j).2.1
  | (7, j, _, _) => .selects (am_mt j).2.1.cls (am_mt j).2.1 (am_mt j).2.1
  | (8, o, _, _) => .initialized (am_own o)
  | (9, j, _, _) => .static (am_mt j).2.1
  | (10, o, k, 0) => .fieldLink (am_own o) k "OrbitsWed$Moods" "ABOVE" "[I"
  | (10, o, k, _) => .fieldLink (am_own o) k "OrbitsWed$Moods" "OWN" "[I"
  | (11, ci, k, _) => u_lay (am_R ci) (am_T ci) k
  | (12, t, _, _) => .static (am_nmx t)
  | (13, _, _, _) => .native arraycopyName
  | (15, 0, _, _) => .code Lib.Math.abs.name Lib.Math.abs.code 1 (some .int)
  | (15, 1, _, _) => .code Lib.Math.min.name Lib.Math.min.code 2 (some .int)
  | (15, 2, _, _) => .code Lib.Math.max.name Lib.Math.max.code 2 (some .int)
  | (15, _, _, _) => .code Lib.MathLoose.min_long.x Lib.MathLoose.min_long.code 4 (some .long)
  | _ => .initialized (am_own 0)
def am_K : Nat := 75
def am_cellL : List (Nat × Nat) := [(3, 10), (3, 7), (0, 8), (0, 8), (0, 8), (2, 8), (0, 8), (0, 8), (0, 8), (0, 8), (0, 8), (0, 8), (0, 8), (0, 8), (3, 1), (3, 8), (0, 120), (0, 121), (0, 121), (3, 4), (0, 121), (0, 121), (0, 6), (0, 121), (3, 9), (0, 8), (0, 8), (0, 8), (0, 8), (3, 3), (1, 301), (3, 2), (0, 8), (3, 0), (0, 40), (0, 40), (0, 40), (0, 40), (3, 6), (0, 6), (0, 6), (0, 6), (0, 6), (4, 6), (1, 60), (1, 60), (1, 60), (1, 60), (1, 60), (1, 60), (3, 5), (0, 50), (0, 24), (3, 11), (0, 81), (0, 40), (0, 40), (0, 40), (0, 8), (0, 120), (0, 120), (0, 6), (0, 8), (0, 8), (0, 2408), (0, 91), (0, 4), (0, 8), (0, 4), (0, 50), (0, 24), (0, 6), (0, 6), (1, 360), (1, 60)]
def am_rtL : List (List Nat) := [[2, 15, 16, 20, 25, 30, 32, 34, 39, 51], [3, 4, 5, 6, 0, 0], [], [], [], [6], [], [], [], [], [], [], [], [], [2], [17, 0, 0, 18, 19, 0], [], [], [], [21, 22, 0, 23, 24], [], [], [], [], [2, 20, 26, 27, 28, 29, 0, 0], [], [], [], [], [2, 25, 31], [], [2, 0, 0, 0, 0, 0, 33, 0, 0, 0, 0, 0], [], [35, 36, 37, 38, 0, 0], [], [], [], [], [40, 41, 42, 43, 44], [], [], [], [], [44], [], [], [], [], [], [], [52, 0, 53, 0], [], [], [55, 56, 57, 58, 0, 0, 0, 59, 60, 0, 61, 0, 0, 0, 0, 0, 0, 62, 63, 0, 0, 64, 65, 66, 67, 0, 0, 68, 69, 0, 70, 71, 0, 0, 0, 72, 73, 74, 75], [], [], [], [], [], [], [], [], [], [], [], [], [], [], [], [], [], [], [], [], []]
def am_WC0 : List (Nat × Nat × Nat × Nat) := [(0, 0, 22, 4), (1, 0, 26, 1), (0, 0, 9, 0), (0, 0, 13, 1), (0, 0, 16, 2), (0, 0, 19, 3), (0, 0, 29, 5), (3, 1, 15, 99999), (0, 1, 9, 64), (0, 1, 16, 448), (2, 1, 22, 1), (1, 1, 28, 83), (0, 1, 32, 453), (1, 1, 36, 7), (1, 1, 40, 6), (4, 1, 44, 18446744073709551614), (0, 1, 46, 449), (4, 1, 49, 18446744073709551615), (0, 1, 51, 451), (1, 1, 55, 8), (1, 1, 58, 10), (4, 1, 61, 99999), (1, 1, 63, 4), (2, 1, 67, 3), (1, 1, 69, 11), (1, 1, 73, 84), (1, 1, 77, 15), (1, 1, 80, 80), (1, 1, 83, 20), (1, 1, 87, 22), (1, 1, 91, 81), (1, 1, 94, 261), (2, 1, 97, 2), (0, 2, 19, 133), (0, 2, 9, 128), (0, 2, 23, 453), (0, 2, 29, 135), (0, 2, 15, 134), (0, 2, 32, 449), (0, 2, 35, 129), (0, 2, 38, 136), (0, 2, 41, 130), (0, 2, 44, 137), (0, 2, 47, 131), (0, 2, 50, 138), (0, 2, 53, 132), (0, 2, 56, 139), (0, 3, 15, 193), (1, 3, 23, 99), (1, 3, 28, 101)]
def am_WP0 : List Nat := [328, 486, 320, 322, 324, 326, 330, 624, 157, 115, 625, 626, 134, 653, 665, 670, 121, 669, 127, 687, 705, 696, 697, 698, 701, 721, 733, 749, 885, 908, 912, 913, 914, 281, 272, 132, 284, 283, 120, 273, 285, 275, 286, 277, 287, 279, 288, 256, 761, 765]
set_option maxRecDepth 20000 in
theorem am_wr0 : am_WC0.map am_word = am_WP0.filterMap (fun i => lw_tbl[i]?) := rfl
def am_WC1 : List (Nat × Nat × Nat × Nat) := [(0, 3, 32, 578), (0, 3, 36, 583), (0, 3, 40, 581), (0, 3, 19, 194), (1, 3, 43, 105), (1, 3, 47, 30), (1, 3, 51, 33), (1, 3, 55, 106), (0, 3, 9, 192), (0, 3, 59, 453), (3, 3, 64, 1103515245), (1, 3, 65, 102), (0, 4, 24, 517), (0, 4, 28, 258), (0, 4, 11, 256), (0, 4, 29, 515), (0, 4, 15, 257), (0, 4, 30, 516), (0, 4, 18, 259), (1, 4, 31, 38), (2, 4, 35, 1), (2, 4, 41, 2), (0, 4, 21, 260), (1, 4, 44, 39), (1, 4, 48, 41), (1, 4, 52, 40), (1, 5, 18, 42), (10, 5, 22, 0), (0, 5, 25, 321), (0, 5, 11, 320), (0, 5, 29, 323), (1, 5, 32, 44), (1, 5, 35, 47), (1, 5, 39, 49), (1, 5, 43, 50), (1, 5, 47, 51), (1, 5, 51, 52), (1, 5, 54, 53), (1, 5, 57, 54), (1, 5, 60, 55), (10, 5, 63, 1), (0, 5, 15, 322), (1, 5, 66, 48), (0, 6, 11, 384), (0, 6, 18, 386), (0, 6, 15, 385), (0, 6, 21, 387), (0, 6, 26, 388), (1, 6, 29, 262), (1, 6, 35, 56)]
def am_WP1 : List Nat := [222, 229, 226, 257, 838, 842, 923, 929, 255, 135, 927, 928, 176, 199, 197, 173, 198, 175, 200, 787, 801, 802, 201, 791, 795, 798, 1011, 1014, 381, 379, 385, 996, 1000, 1004, 1008, 1016, 1020, 1028, 1032, 1036, 1012, 383, 1024, 353, 356, 354, 358, 360, 1065, 858]
set_option maxRecDepth 20000 in
theorem am_wr1 : am_WC1.map am_word = am_WP1.filterMap (fun i => lw_tbl[i]?) := rfl
def am_WC2 : List (Nat × Nat × Nat × Nat) := [(1, 6, 39, 57), (1, 6, 42, 63), (1, 6, 46, 59), (0, 7, 36, 453), (0, 7, 9, 448), (0, 7, 21, 449), (0, 7, 24, 450), (1, 7, 39, 71), (1, 7, 43, 72), (0, 7, 29, 451), (0, 7, 32, 452), (2, 7, 46, 0), (2, 7, 52, 1), (1, 7, 56, 261), (1, 7, 59, 80), (1, 7, 62, 78), (1, 7, 65, 81), (1, 7, 68, 79), (0, 8, 23, 513), (0, 8, 11, 512), (0, 8, 27, 514), (0, 8, 30, 517), (1, 8, 33, 89), (1, 8, 37, 87), (0, 8, 17, 515), (0, 8, 20, 516), (1, 8, 41, 90), (1, 8, 45, 88), (1, 8, 49, 91), (1, 8, 52, 92), (1, 8, 55, 93), (1, 8, 58, 94), (1, 8, 61, 95), (1, 8, 64, 98), (1, 8, 67, 34), (1, 8, 71, 96), (1, 8, 74, 97), (0, 9, 9, 576), (0, 9, 32, 453), (0, 9, 19, 578), (0, 9, 38, 449), (1, 9, 39, 103), (0, 9, 42, 583), (0, 9, 26, 580), (1, 9, 45, 104), (1, 9, 49, 102), (0, 9, 53, 448), (1, 9, 56, 261), (0, 9, 61, 582), (0, 9, 23, 579)]
def am_WP2 : List Nat := [859, 854, 860, 133, 114, 118, 123, 465, 469, 125, 128, 610, 613, 585, 592, 593, 606, 607, 168, 167, 170, 177, 515, 543, 172, 174, 519, 551, 523, 527, 531, 535, 539, 547, 555, 558, 562, 219, 131, 221, 119, 769, 230, 224, 775, 805, 116, 809, 227, 223]
set_option maxRecDepth 20000 in
theorem am_wr2 : am_WC2.map am_word = am_WP2.filterMap (fun i => lw_tbl[i]?) := rfl
def am_WC3 : List (Nat × Nat × Nat × Nat) := [(1, 9, 64, 78), (0, 9, 29, 581), (1, 9, 66, 79), (0, 9, 69, 452), (0, 9, 15, 577), (1, 9, 72, 36), (0, 9, 78, 451), (0, 9, 82, 450), (1, 9, 85, 37), (1, 9, 89, 105), (1, 10, 85, 69), (0, 10, 10, 640), (1, 10, 89, 70), (1, 10, 93, 56), (0, 10, 74, 648), (1, 10, 97, 57), (1, 10, 100, 59), (1, 10, 103, 157), (1, 10, 106, 74), (1, 10, 110, 75), (3, 10, 113, 2294967296), (1, 10, 114, 76), (0, 10, 67, 647), (1, 10, 118, 0), (1, 10, 122, 77), (1, 10, 126, 71), (0, 10, 129, 448), (0, 10, 28, 642), (1, 10, 133, 85), (1, 10, 137, 86), (0, 10, 141, 514), (0, 10, 35, 643), (1, 10, 145, 35), (0, 10, 149, 513), (1, 10, 152, 153), (1, 10, 155, 154), (1, 10, 158, 80), (1, 10, 161, 81), (1, 10, 164, 72), (1, 10, 167, 82), (0, 10, 170, 452), (0, 10, 21, 641), (1, 10, 173, 2), (1, 10, 176, 155), (1, 10, 179, 3), (1, 10, 183, 73), (1, 10, 186, 4), (4, 10, 192, 9223372036854775808), (1, 10, 194, 5), (1, 10, 197, 8)]
def am_WP3 : List Nat := [773, 225, 774, 129, 220, 779, 126, 124, 783, 933, 431, 396, 434, 442, 404, 445, 449, 453, 461, 473, 477, 478, 403, 482, 490, 498, 117, 398, 503, 511, 171, 399, 566, 169, 574, 578, 581, 588, 601, 602, 130, 397, 620, 634, 637, 645, 649, 656, 661, 675]
set_option maxRecDepth 20000 in
theorem am_wr3 : am_WC3.map am_word = am_WP3.filterMap (fun i => lw_tbl[i]?) := rfl
def am_WC4 : List (Nat × Nat × Nat × Nat) := [(1, 10, 200, 9), (1, 10, 203, 12), (1, 10, 206, 13), (1, 10, 209, 14), (1, 10, 212, 16), (1, 10, 215, 17), (1, 10, 218, 18), (1, 10, 221, 156), (0, 10, 53, 645), (1, 10, 224, 25), (1, 10, 227, 26), (1, 10, 230, 27), (1, 10, 233, 28), (1, 10, 235, 29), (1, 10, 239, 64), (0, 10, 242, 388), (0, 10, 246, 387), (1, 10, 249, 31), (1, 10, 253, 158), (0, 10, 257, 453), (1, 10, 260, 19), (1, 10, 263, 10), (1, 10, 266, 260), (1, 10, 271, 21), (1, 10, 274, 32), (0, 10, 44, 644), (1, 10, 278, 99), (1, 10, 281, 101), (1, 10, 285, 100), (0, 10, 60, 646), (0, 10, 288, 129), (0, 10, 291, 130), (0, 10, 294, 583), (0, 10, 295, 131), (0, 10, 298, 582), (0, 10, 299, 449), (1, 10, 302, 261), (0, 10, 307, 132), (1, 10, 310, 23), (0, 10, 313, 133), (1, 10, 317, 24), (0, 10, 320, 4), (0, 10, 323, 0), (0, 10, 326, 1), (0, 10, 329, 2), (0, 10, 332, 5), (0, 10, 333, 3), (1, 10, 336, 42), (0, 10, 81, 649), (1, 10, 339, 45)]
def am_WP4 : List Nat := [683, 692, 709, 717, 729, 737, 745, 754, 401, 757, 814, 818, 826, 834, 850, 361, 359, 861, 869, 136, 881, 893, 894, 904, 919, 400, 938, 939, 940, 402, 274, 276, 231, 278, 228, 122, 948, 280, 957, 282, 965, 329, 321, 323, 325, 331, 327, 981, 405, 984]
set_option maxRecDepth 20000 in
theorem am_wr4 : am_WC4.map am_word = am_WP4.filterMap (fun i => lw_tbl[i]?) := rfl
def am_WC5 : List (Nat × Nat × Nat × Nat) := [(1, 10, 341, 46), (0, 10, 344, 323), (0, 10, 347, 322), (1, 10, 350, 44), (1, 10, 351, 60), (1, 10, 354, 61), (1, 10, 358, 62), (1, 10, 361, 65), (0, 10, 364, 386), (1, 10, 367, 68), (1, 10, 371, 66), (1, 10, 374, 67), (2, 10, 377, 4), (1, 10, 383, 58), (0, 10, 386, 320), (0, 10, 389, 385), (1, 10, 392, 43), (0, 10, 395, 321), (3, 10, 396, 99999), (0, 11, 9, 704), (0, 11, 78, 709), (0, 11, 13, 705), (0, 11, 16, 706), (0, 11, 19, 707), (0, 11, 81, 708), (0, 11, 84, 710), (1, 11, 87, 159), (1, 11, 91, 164), (4, 11, 95, 60), (4, 11, 97, 9), (0, 11, 22, 711), (1, 11, 99, 166), (1, 11, 102, 167), (1, 11, 106, 250), (4, 11, 110, 8), (0, 11, 61, 739), (0, 11, 64, 740), (0, 11, 67, 741), (1, 11, 112, 165), (4, 11, 115, 18446744073709551607), (4, 11, 117, 90), (1, 11, 119, 170), (1, 11, 123, 171), (1, 11, 127, 161), (3, 11, 130, 2294967296), (4, 11, 131, 255), (0, 11, 133, 713), (0, 11, 25, 712), (0, 11, 136, 717), (0, 11, 139, 718)]
def am_WP5 : List Nat := [992, 386, 384, 1048, 1049, 1053, 1061, 1072, 357, 1076, 1087, 1091, 1095, 1102, 380, 355, 1106, 382, 577, 1119, 1124, 1120, 1121, 1122, 1123, 1125, 1253, 1278, 1252, 1256, 1126, 1249, 1257, 1265, 1269, 1154, 1155, 1156, 1282, 1290, 1291, 1274, 1286, 1292, 1296, 1305, 1128, 1127, 1132, 1133]
set_option maxRecDepth 20000 in
theorem am_wr5 : am_WC5.map am_word = am_WP5.filterMap (fun i => lw_tbl[i]?) := rfl
def am_WC6 : List (Nat × Nat × Nat × Nat) := [(0, 11, 142, 716), (0, 11, 28, 714), (0, 11, 145, 719), (1, 11, 148, 175), (1, 11, 152, 179), (1, 11, 155, 177), (1, 11, 158, 180), (1, 11, 161, 181), (1, 11, 164, 182), (1, 11, 167, 184), (0, 11, 170, 720), (1, 11, 173, 176), (1, 11, 176, 178), (1, 11, 179, 183), (0, 11, 31, 721), (1, 11, 183, 185), (0, 11, 74, 715), (4, 11, 186, 99999), (1, 11, 188, 188), (1, 11, 192, 189), (1, 11, 195, 190), (1, 11, 198, 191), (1, 11, 202, 187), (1, 11, 205, 192), (3, 11, 209, 99999), (4, 11, 210, 999), (1, 11, 212, 198), (4, 11, 217, 9223372036854775808), (1, 11, 219, 160), (1, 11, 223, 197), (4, 11, 227, 18446744073709551614), (1, 11, 229, 201), (4, 11, 232, 9999), (1, 11, 234, 204), (1, 11, 238, 206), (1, 11, 242, 209), (0, 11, 34, 722), (0, 11, 245, 723), (0, 11, 248, 724), (1, 11, 251, 212), (1, 11, 254, 213), (0, 11, 37, 725), (1, 11, 257, 215), (1, 11, 261, 211), (1, 11, 264, 216), (4, 11, 268, 200), (1, 11, 270, 218), (1, 11, 273, 217), (0, 11, 40, 726), (1, 11, 276, 222)]
def am_WP6 : List Nat := [1131, 1129, 1134, 1338, 1318, 1346, 1322, 1326, 1330, 1334, 1135, 1342, 1314, 1350, 1136, 1310, 1130, 1360, 1361, 1365, 1377, 1373, 1357, 1380, 1388, 1393, 1398, 1402, 1403, 1406, 1413, 1418, 1426, 1431, 1439, 1451, 1137, 1138, 1139, 1479, 1475, 1140, 1483, 1467, 1471, 1462, 1459, 1463, 1141, 1499]
set_option maxRecDepth 20000 in
theorem am_wr6 : am_WC6.map am_word = am_WP6.filterMap (fun i => lw_tbl[i]?) := rfl
def am_WC7 : List (Nat × Nat × Nat × Nat) := [(1, 11, 279, 224), (1, 11, 282, 225), (4, 11, 285, 6), (0, 11, 43, 727), (1, 11, 287, 231), (4, 11, 290, 30), (4, 11, 292, 12), (1, 11, 294, 214), (3, 11, 297, 1103515245), (0, 11, 46, 728), (4, 11, 298, 3), (0, 11, 300, 729), (0, 11, 304, 730), (0, 11, 49, 731), (0, 11, 52, 732), (0, 11, 307, 733), (0, 11, 55, 734), (4, 11, 310, 7), (0, 11, 312, 736), (0, 11, 58, 735), (1, 11, 315, 243), (1, 11, 318, 244), (0, 11, 321, 738), (1, 11, 324, 245), (0, 11, 327, 737), (1, 11, 330, 246), (1, 11, 333, 247), (1, 11, 336, 239), (4, 11, 339, 5), (4, 11, 341, 4), (1, 11, 343, 253), (1, 11, 346, 254), (0, 11, 71, 742), (1, 11, 350, 240), (1, 11, 353, 242), (3, 14, 265, 1431655765), (3, 14, 266, 858993459), (3, 14, 267, 252645135), (1, 12, 13, 107), (1, 12, 17, 168), (1, 12, 18, 108), (1, 12, 22, 169), (1, 12, 23, 109), (1, 12, 26, 172), (1, 12, 27, 110), (1, 12, 30, 173), (1, 12, 31, 111), (1, 12, 35, 174), (1, 12, 36, 112), (1, 12, 40, 186)]
def am_WP7 : List Nat := [1507, 1511, 1527, 1142, 1536, 1544, 1545, 1546, 1550, 1143, 1563, 1144, 1145, 1146, 1147, 1148, 1149, 1576, 1151, 1150, 1589, 1585, 1153, 1593, 1152, 1597, 1601, 1581, 1268, 1617, 1622, 1626, 1157, 1641, 1645, 897, 898, 899, 427, 1245, 438, 1261, 457, 1270, 494, 1297, 499, 1301, 507, 1306]
set_option maxRecDepth 20000 in
theorem am_wr7 : am_WC7.map am_word = am_WP7.filterMap (fun i => lw_tbl[i]?) := rfl
def am_WC8 : List (Nat × Nat × Nat × Nat) := [(1, 12, 41, 113), (1, 12, 44, 193), (1, 12, 45, 114), (1, 12, 48, 194), (1, 12, 49, 115), (1, 12, 52, 195), (1, 12, 53, 116), (1, 12, 56, 196), (1, 12, 57, 117), (1, 12, 61, 199), (1, 12, 62, 118), (1, 12, 65, 200), (1, 12, 66, 119), (1, 12, 69, 202), (1, 12, 70, 120), (1, 12, 73, 203), (1, 12, 74, 121), (1, 12, 77, 205), (1, 12, 78, 122), (1, 12, 81, 207), (1, 12, 82, 123), (1, 12, 85, 208), (1, 12, 86, 124), (1, 12, 89, 210), (1, 12, 90, 125), (1, 12, 93, 219), (1, 12, 94, 126), (1, 12, 97, 220), (1, 12, 98, 127), (1, 12, 101, 221), (1, 12, 102, 128), (1, 12, 105, 223), (1, 12, 106, 129), (1, 12, 109, 226), (1, 12, 110, 130), (1, 12, 114, 227), (1, 12, 115, 131), (1, 12, 118, 228), (1, 12, 119, 132), (1, 12, 122, 229), (1, 12, 123, 133), (1, 12, 126, 230), (1, 12, 127, 134), (1, 12, 130, 232), (1, 12, 131, 135), (1, 12, 134, 233), (1, 12, 135, 136), (1, 12, 138, 234), (1, 12, 139, 137), (1, 12, 142, 235)]
def am_WP8 : List Nat := [570, 1353, 597, 1369, 616, 1384, 630, 1389, 641, 1394, 657, 1409, 671, 1414, 679, 1422, 688, 1427, 713, 1435, 725, 1443, 741, 1447, 750, 1455, 810, 1487, 822, 1491, 830, 1495, 846, 1503, 865, 1515, 873, 1519, 877, 1523, 889, 1528, 900, 1532, 915, 1540, 934, 1551, 944, 1555]
set_option maxRecDepth 20000 in
theorem am_wr8 : am_WC8.map am_word = am_WP8.filterMap (fun i => lw_tbl[i]?) := rfl
def am_WC9 : List (Nat × Nat × Nat × Nat) := [(1, 12, 143, 138), (1, 12, 146, 236), (1, 12, 147, 139), (1, 12, 150, 237), (1, 12, 151, 140), (1, 12, 154, 238), (1, 12, 155, 141), (1, 12, 158, 162), (1, 12, 159, 142), (1, 12, 162, 163), (1, 12, 163, 143), (1, 12, 166, 241), (1, 12, 167, 144), (1, 12, 170, 248), (1, 12, 171, 145), (1, 12, 174, 249), (1, 12, 175, 146), (1, 12, 178, 251), (1, 12, 179, 147), (1, 12, 182, 252), (4, 12, 183, 4294967295), (1, 12, 185, 148), (1, 12, 189, 255), (1, 12, 190, 149), (1, 12, 194, 256), (1, 12, 195, 150), (1, 12, 199, 257), (1, 12, 200, 151), (1, 12, 203, 258), (1, 12, 204, 152), (1, 12, 207, 259), (8, 0, 0, 0), (8, 1, 0, 0), (8, 2, 0, 0), (8, 3, 0, 0), (8, 4, 0, 0), (8, 5, 0, 0), (8, 6, 0, 0), (8, 7, 0, 0), (8, 8, 0, 0), (8, 9, 0, 0), (8, 10, 0, 0), (8, 11, 0, 0), (8, 12, 0, 0), (8, 13, 0, 0), (8, 14, 0, 0), (8, 15, 0, 0), (8, 16, 0, 0), (12, 0, 0, 0), (12, 1, 0, 0)]
def am_WP9 : List Nat := [949, 1559, 953, 1564, 961, 1568, 969, 1237, 973, 1241, 977, 1572, 988, 1577, 1040, 1605, 1044, 1609, 1057, 1613, 1652, 1068, 1618, 1079, 1629, 1083, 1633, 1098, 1637, 1109, 1648, 88, 82, 87, 86, 84, 90, 89, 80, 83, 85, 79, 91, 78, 92, 93, 81, 94, 611, 614]
set_option maxRecDepth 20000 in
theorem am_wr9 : am_WC9.map am_word = am_WP9.filterMap (fun i => lw_tbl[i]?) := rfl
def am_WC10 : List (Nat × Nat × Nat × Nat) := [(12, 2, 0, 0), (12, 3, 0, 0), (12, 4, 0, 0), (13, 0, 0, 0), (15, 0, 0, 0), (15, 1, 0, 0), (15, 2, 0, 0), (15, 3, 0, 0), (11, 0, 0, 0), (11, 0, 1, 0), (11, 0, 2, 0), (11, 0, 3, 0), (11, 0, 4, 0), (11, 0, 5, 0), (11, 1, 0, 0), (11, 2, 0, 0), (11, 2, 1, 0), (11, 2, 2, 0), (11, 2, 3, 0), (11, 2, 4, 0), (11, 2, 5, 0), (11, 2, 6, 0), (11, 2, 7, 0), (11, 2, 8, 0), (11, 2, 9, 0), (11, 2, 10, 0), (11, 2, 11, 0), (11, 3, 0, 0), (11, 3, 1, 0), (11, 3, 2, 0), (11, 4, 0, 0), (11, 4, 1, 0), (11, 4, 2, 0), (11, 4, 3, 0), (11, 4, 4, 0), (11, 5, 0, 0), (11, 5, 1, 0), (11, 5, 2, 0), (11, 5, 3, 0), (11, 6, 0, 0), (11, 6, 1, 0), (11, 6, 2, 0), (11, 6, 3, 0), (11, 6, 4, 0), (11, 7, 0, 0), (11, 7, 1, 0), (11, 7, 2, 0), (11, 7, 3, 0), (11, 7, 4, 0), (11, 7, 5, 0)]
def am_WP10 : List Nat := [803, 699, 1096, 1097, 612, 615, 804, 700, 332, 334, 336, 338, 340, 342, 158, 289, 291, 293, 295, 297, 299, 301, 303, 305, 307, 309, 311, 258, 260, 262, 202, 204, 206, 208, 210, 387, 389, 391, 393, 362, 364, 366, 368, 370, 137, 139, 141, 143, 145, 147]
set_option maxRecDepth 20000 in
theorem am_wr10 : am_WC10.map am_word = am_WP10.filterMap (fun i => lw_tbl[i]?) := rfl
def am_WC11 : List (Nat × Nat × Nat × Nat) := [(11, 8, 0, 0), (11, 8, 1, 0), (11, 8, 2, 0), (11, 8, 3, 0), (11, 8, 4, 0), (11, 8, 5, 0), (11, 9, 0, 0), (11, 9, 1, 0), (11, 9, 2, 0), (11, 9, 3, 0), (11, 9, 4, 0), (11, 9, 5, 0), (11, 9, 6, 0), (11, 9, 7, 0), (11, 10, 0, 0), (11, 10, 1, 0), (11, 10, 2, 0), (11, 10, 3, 0), (11, 10, 4, 0), (11, 10, 5, 0), (11, 10, 6, 0), (11, 10, 7, 0), (11, 10, 8, 0), (11, 10, 9, 0), (11, 11, 0, 0), (11, 11, 1, 0), (11, 11, 2, 0), (11, 11, 3, 0), (11, 11, 4, 0), (11, 11, 5, 0), (11, 11, 6, 0), (11, 11, 7, 0), (11, 11, 8, 0), (11, 11, 9, 0), (11, 11, 10, 0), (11, 11, 11, 0), (11, 11, 12, 0), (11, 11, 13, 0), (11, 11, 14, 0), (11, 11, 15, 0), (11, 11, 16, 0), (11, 11, 17, 0), (11, 11, 18, 0), (11, 11, 19, 0), (11, 11, 20, 0), (11, 11, 21, 0), (11, 11, 22, 0), (11, 11, 23, 0), (11, 11, 24, 0), (11, 11, 25, 0)]
def am_WP11 : List Nat := [178, 180, 182, 184, 186, 188, 232, 234, 236, 238, 240, 242, 244, 246, 406, 408, 410, 412, 414, 416, 418, 420, 422, 424, 1158, 1160, 1162, 1164, 1166, 1168, 1170, 1172, 1174, 1176, 1178, 1180, 1182, 1184, 1186, 1188, 1190, 1192, 1194, 1196, 1198, 1200, 1202, 1204, 1206, 1208]
set_option maxRecDepth 20000 in
theorem am_wr11 : am_WC11.map am_word = am_WP11.filterMap (fun i => lw_tbl[i]?) := rfl
def am_WC12 : List (Nat × Nat × Nat × Nat) := [(11, 11, 26, 0), (11, 11, 27, 0), (11, 11, 28, 0), (11, 11, 29, 0), (11, 11, 30, 0), (11, 11, 31, 0), (11, 11, 32, 0), (11, 11, 33, 0), (11, 11, 34, 0), (11, 11, 35, 0), (11, 11, 36, 0), (11, 11, 37, 0), (11, 11, 38, 0), (5, 0, 0, 0), (6, 0, 0, 0), (7, 0, 0, 0), (5, 1, 0, 0), (6, 1, 0, 0), (7, 1, 0, 0), (5, 2, 0, 0), (6, 2, 0, 0), (7, 2, 0, 0), (5, 3, 0, 0), (6, 3, 0, 0), (7, 3, 0, 0), (5, 4, 0, 0), (6, 4, 0, 0), (7, 4, 0, 0), (5, 5, 0, 0), (6, 5, 0, 0), (7, 5, 0, 0), (5, 6, 0, 0), (6, 6, 0, 0), (7, 6, 0, 0), (5, 7, 0, 0), (9, 7, 0, 0), (5, 8, 0, 0), (6, 8, 0, 0), (7, 8, 0, 0), (5, 9, 0, 0), (6, 9, 0, 0), (7, 9, 0, 0), (5, 10, 0, 0), (6, 10, 0, 0), (7, 10, 0, 0), (5, 11, 0, 0), (6, 11, 0, 0), (7, 11, 0, 0), (5, 12, 0, 0), (6, 12, 0, 0)]
def am_WP12 : List Nat := [1210, 1212, 1214, 1216, 1218, 1220, 1222, 1224, 1226, 1228, 1230, 1232, 1234, 485, 483, 484, 489, 488, 1, 623, 621, 622, 640, 638, 639, 652, 650, 651, 664, 662, 663, 668, 667, 14, 655, 654, 678, 676, 677, 686, 684, 685, 708, 706, 707, 704, 703, 15, 695, 693]
set_option maxRecDepth 20000 in
theorem am_wr12 : am_WC12.map am_word = am_WP12.filterMap (fun i => lw_tbl[i]?) := rfl
def am_WC13 : List (Nat × Nat × Nat × Nat) := [(7, 12, 0, 0), (5, 13, 0, 0), (6, 13, 0, 0), (7, 13, 0, 0), (5, 14, 0, 0), (6, 14, 0, 0), (7, 14, 0, 0), (5, 15, 0, 0), (6, 15, 0, 0), (7, 15, 0, 0), (5, 16, 0, 0), (6, 16, 0, 0), (7, 16, 0, 0), (5, 17, 0, 0), (6, 17, 0, 0), (7, 17, 0, 0), (5, 18, 0, 0), (6, 18, 0, 0), (7, 18, 0, 0), (5, 19, 0, 0), (6, 19, 0, 0), (7, 19, 0, 0), (5, 20, 0, 0), (6, 20, 0, 0), (7, 20, 0, 0), (5, 21, 0, 0), (6, 21, 0, 0), (7, 21, 0, 0), (5, 22, 0, 0), (6, 22, 0, 0), (7, 22, 0, 0), (5, 23, 0, 0), (6, 23, 0, 0), (7, 23, 0, 0), (5, 24, 0, 0), (6, 24, 0, 0), (7, 24, 0, 0), (5, 25, 0, 0), (6, 25, 0, 0), (7, 25, 0, 0), (5, 26, 0, 0), (6, 26, 0, 0), (7, 26, 0, 0), (5, 27, 0, 0), (6, 27, 0, 0), (7, 27, 0, 0), (5, 28, 0, 0), (6, 28, 0, 0), (7, 28, 0, 0), (5, 29, 0, 0)]
def am_WP13 : List Nat := [694, 712, 710, 711, 720, 718, 719, 736, 735, 16, 732, 730, 731, 740, 738, 739, 748, 746, 747, 884, 882, 883, 888, 887, 23, 907, 905, 906, 911, 910, 24, 960, 958, 959, 968, 966, 967, 760, 758, 759, 817, 815, 816, 821, 819, 820, 829, 827, 828, 837]
set_option maxRecDepth 20000 in
theorem am_wr13 : am_WC13.map am_word = am_WP13.filterMap (fun i => lw_tbl[i]?) := rfl
def am_WC14 : List (Nat × Nat × Nat × Nat) := [(6, 29, 0, 0), (7, 29, 0, 0), (5, 30, 0, 0), (6, 30, 0, 0), (7, 30, 0, 0), (5, 31, 0, 0), (6, 31, 0, 0), (7, 31, 0, 0), (5, 32, 0, 0), (6, 32, 0, 0), (7, 32, 0, 0), (5, 33, 0, 0), (6, 33, 0, 0), (7, 33, 0, 0), (5, 34, 0, 0), (9, 34, 0, 0), (5, 35, 0, 0), (6, 35, 0, 0), (7, 35, 0, 0), (5, 36, 0, 0), (6, 36, 0, 0), (7, 36, 0, 0), (5, 37, 0, 0), (6, 37, 0, 0), (7, 37, 0, 0), (5, 38, 0, 0), (6, 38, 0, 0), (7, 38, 0, 0), (5, 39, 0, 0), (6, 39, 0, 0), (7, 39, 0, 0), (5, 40, 0, 0), (9, 40, 0, 0), (5, 41, 0, 0), (9, 41, 0, 0), (5, 42, 0, 0), (9, 42, 0, 0), (5, 43, 0, 0), (9, 43, 0, 0), (5, 44, 0, 0), (6, 44, 0, 0), (7, 44, 0, 0), (5, 45, 0, 0), (6, 45, 0, 0), (7, 45, 0, 0), (5, 46, 0, 0), (6, 46, 0, 0), (7, 46, 0, 0), (5, 47, 0, 0), (6, 47, 0, 0)]
def am_WP14 : List Nat := [835, 836, 845, 844, 21, 864, 862, 863, 922, 920, 921, 926, 925, 25, 557, 556, 569, 567, 568, 782, 780, 781, 786, 784, 785, 790, 789, 19, 794, 793, 20, 800, 799, 797, 796, 983, 982, 1108, 1107, 999, 997, 998, 987, 985, 986, 995, 993, 994, 1003, 1002]
set_option maxRecDepth 20000 in
theorem am_wr14 : am_WC14.map am_word = am_WP14.filterMap (fun i => lw_tbl[i]?) := rfl
def am_WC15 : List (Nat × Nat × Nat × Nat) := [(7, 47, 0, 0), (5, 48, 0, 0), (6, 48, 0, 0), (7, 48, 0, 0), (5, 49, 0, 0), (6, 49, 0, 0), (7, 49, 0, 0), (5, 50, 0, 0), (9, 50, 0, 0), (5, 51, 0, 0), (6, 51, 0, 0), (7, 51, 0, 0), (5, 52, 0, 0), (6, 52, 0, 0), (7, 52, 0, 0), (5, 53, 0, 0), (6, 53, 0, 0), (7, 53, 0, 0), (5, 54, 0, 0), (6, 54, 0, 0), (7, 54, 0, 0), (5, 55, 0, 0), (6, 55, 0, 0), (7, 55, 0, 0), (5, 56, 0, 0), (9, 56, 0, 0), (5, 57, 0, 0), (6, 57, 0, 0), (7, 57, 0, 0), (5, 58, 0, 0), (6, 58, 0, 0), (7, 58, 0, 0), (5, 59, 0, 0), (6, 59, 0, 0), (7, 59, 0, 0), (5, 60, 0, 0), (6, 60, 0, 0), (7, 60, 0, 0), (5, 61, 0, 0), (6, 61, 0, 0), (7, 61, 0, 0), (5, 62, 0, 0), (6, 62, 0, 0), (7, 62, 0, 0), (5, 63, 0, 0), (6, 63, 0, 0), (7, 63, 0, 0), (5, 64, 0, 0), (6, 64, 0, 0), (7, 64, 0, 0)]
def am_WP15 : List Nat := [26, 1027, 1026, 30, 1007, 1006, 27, 1010, 1009, 1019, 1018, 28, 1023, 1022, 29, 1031, 1030, 31, 1035, 1034, 32, 1039, 1038, 33, 444, 443, 448, 446, 447, 1105, 1103, 1104, 452, 450, 451, 1052, 1050, 1051, 1056, 1054, 1055, 1064, 1062, 1063, 857, 855, 856, 853, 851, 852]
set_option maxRecDepth 20000 in
theorem am_wr15 : am_WC15.map am_word = am_WP15.filterMap (fun i => lw_tbl[i]?) := rfl
def am_WC16 : List (Nat × Nat × Nat × Nat) := [(5, 65, 0, 0), (6, 65, 0, 0), (7, 65, 0, 0), (5, 66, 0, 0), (6, 66, 0, 0), (7, 66, 0, 0), (5, 67, 0, 0), (6, 67, 0, 0), (7, 67, 0, 0), (5, 68, 0, 0), (9, 68, 0, 0), (5, 69, 0, 0), (9, 69, 0, 0), (5, 70, 0, 0), (6, 70, 0, 0), (7, 70, 0, 0), (5, 71, 0, 0), (6, 71, 0, 0), (7, 71, 0, 0), (5, 72, 0, 0), (6, 72, 0, 0), (7, 72, 0, 0), (5, 73, 0, 0), (6, 73, 0, 0), (7, 73, 0, 0), (5, 74, 0, 0), (6, 74, 0, 0), (7, 74, 0, 0), (5, 75, 0, 0), (6, 75, 0, 0), (7, 75, 0, 0), (5, 76, 0, 0), (6, 76, 0, 0), (7, 76, 0, 0), (5, 77, 0, 0), (6, 77, 0, 0), (7, 77, 0, 0), (5, 78, 0, 0), (6, 78, 0, 0), (7, 78, 0, 0), (5, 79, 0, 0), (9, 79, 0, 0), (5, 80, 0, 0), (6, 80, 0, 0), (7, 80, 0, 0), (5, 81, 0, 0), (6, 81, 0, 0), (7, 81, 0, 0), (5, 82, 0, 0), (6, 82, 0, 0)]
def am_WP16 : List Nat := [1075, 1073, 1074, 1090, 1088, 1089, 1094, 1092, 1093, 1078, 1077, 433, 432, 437, 435, 436, 468, 466, 467, 472, 470, 471, 648, 646, 647, 464, 462, 463, 476, 474, 475, 481, 479, 480, 493, 491, 492, 596, 594, 595, 609, 608, 584, 582, 583, 591, 589, 590, 605, 603]
set_option maxRecDepth 20000 in
theorem am_wr16 : am_WC16.map am_word = am_WP16.filterMap (fun i => lw_tbl[i]?) := rfl
def am_WC17 : List (Nat × Nat × Nat × Nat) := [(7, 82, 0, 0), (5, 83, 0, 0), (6, 83, 0, 0), (7, 83, 0, 0), (5, 84, 0, 0), (6, 84, 0, 0), (7, 84, 0, 0), (5, 85, 0, 0), (6, 85, 0, 0), (7, 85, 0, 0), (5, 86, 0, 0), (6, 86, 0, 0), (7, 86, 0, 0), (5, 87, 0, 0), (6, 87, 0, 0), (7, 87, 0, 0), (5, 88, 0, 0), (6, 88, 0, 0), (7, 88, 0, 0), (5, 89, 0, 0), (6, 89, 0, 0), (7, 89, 0, 0), (5, 90, 0, 0), (6, 90, 0, 0), (7, 90, 0, 0), (5, 91, 0, 0), (6, 91, 0, 0), (7, 91, 0, 0), (5, 92, 0, 0), (6, 92, 0, 0), (7, 92, 0, 0), (5, 93, 0, 0), (6, 93, 0, 0), (7, 93, 0, 0), (5, 94, 0, 0), (6, 94, 0, 0), (7, 94, 0, 0), (5, 95, 0, 0), (6, 95, 0, 0), (7, 95, 0, 0), (5, 96, 0, 0), (6, 96, 0, 0), (7, 96, 0, 0), (5, 97, 0, 0), (6, 97, 0, 0), (7, 97, 0, 0), (5, 98, 0, 0), (6, 98, 0, 0), (7, 98, 0, 0), (5, 99, 0, 0)]
def am_WP17 : List Nat := [604, 629, 627, 628, 724, 722, 723, 506, 504, 505, 514, 512, 513, 546, 545, 9, 554, 553, 11, 518, 517, 2, 522, 521, 3, 526, 525, 4, 530, 529, 5, 534, 533, 6, 538, 537, 7, 542, 541, 8, 561, 560, 12, 565, 564, 13, 550, 549, 10, 764]
set_option maxRecDepth 20000 in
theorem am_wr17 : am_WC17.map am_word = am_WP17.filterMap (fun i => lw_tbl[i]?) := rfl
def am_WC18 : List (Nat × Nat × Nat × Nat) := [(6, 99, 0, 0), (7, 99, 0, 0), (5, 100, 0, 0), (6, 100, 0, 0), (7, 100, 0, 0), (5, 101, 0, 0), (6, 101, 0, 0), (7, 101, 0, 0), (5, 102, 0, 0), (6, 102, 0, 0), (7, 102, 0, 0), (5, 103, 0, 0), (6, 103, 0, 0), (7, 103, 0, 0), (5, 104, 0, 0), (6, 104, 0, 0), (7, 104, 0, 0), (5, 105, 0, 0), (6, 105, 0, 0), (7, 105, 0, 0), (5, 106, 0, 0), (6, 106, 0, 0), (7, 106, 0, 0), (5, 107, 0, 0), (6, 107, 0, 0), (7, 107, 0, 0), (5, 108, 0, 0), (6, 108, 0, 0), (7, 108, 0, 0), (5, 109, 0, 0), (6, 109, 0, 0), (7, 109, 0, 0), (5, 110, 0, 0), (6, 110, 0, 0), (7, 110, 0, 0), (5, 111, 0, 0), (6, 111, 0, 0), (7, 111, 0, 0), (5, 112, 0, 0), (6, 112, 0, 0), (7, 112, 0, 0), (5, 113, 0, 0), (6, 113, 0, 0), (7, 113, 0, 0), (5, 114, 0, 0), (6, 114, 0, 0), (7, 114, 0, 0), (5, 115, 0, 0), (6, 115, 0, 0), (7, 115, 0, 0)]
def am_WP18 : List Nat := [762, 763, 943, 941, 942, 768, 766, 767, 808, 806, 807, 772, 771, 17, 778, 777, 18, 841, 839, 840, 932, 930, 931, 430, 428, 429, 441, 439, 440, 460, 458, 459, 497, 495, 496, 502, 500, 501, 510, 508, 509, 573, 571, 572, 600, 598, 599, 619, 617, 618]
set_option maxRecDepth 20000 in
theorem am_wr18 : am_WC18.map am_word = am_WP18.filterMap (fun i => lw_tbl[i]?) := rfl
def am_WC19 : List (Nat × Nat × Nat × Nat) := [(5, 116, 0, 0), (6, 116, 0, 0), (7, 116, 0, 0), (5, 117, 0, 0), (6, 117, 0, 0), (7, 117, 0, 0), (5, 118, 0, 0), (6, 118, 0, 0), (7, 118, 0, 0), (5, 119, 0, 0), (6, 119, 0, 0), (7, 119, 0, 0), (5, 120, 0, 0), (6, 120, 0, 0), (7, 120, 0, 0), (5, 121, 0, 0), (6, 121, 0, 0), (7, 121, 0, 0), (5, 122, 0, 0), (6, 122, 0, 0), (7, 122, 0, 0), (5, 123, 0, 0), (6, 123, 0, 0), (7, 123, 0, 0), (5, 124, 0, 0), (6, 124, 0, 0), (7, 124, 0, 0), (5, 125, 0, 0), (6, 125, 0, 0), (7, 125, 0, 0), (5, 126, 0, 0), (6, 126, 0, 0), (7, 126, 0, 0), (5, 127, 0, 0), (6, 127, 0, 0), (7, 127, 0, 0), (5, 128, 0, 0), (6, 128, 0, 0), (7, 128, 0, 0), (5, 129, 0, 0), (6, 129, 0, 0), (7, 129, 0, 0), (5, 130, 0, 0), (6, 130, 0, 0), (7, 130, 0, 0), (5, 131, 0, 0), (6, 131, 0, 0), (7, 131, 0, 0), (5, 132, 0, 0), (6, 132, 0, 0)]
def am_WP19 : List Nat := [633, 631, 632, 644, 642, 643, 660, 658, 659, 674, 672, 673, 682, 680, 681, 691, 689, 690, 716, 714, 715, 728, 726, 727, 744, 742, 743, 753, 751, 752, 813, 811, 812, 825, 823, 824, 833, 831, 832, 849, 847, 848, 868, 866, 867, 876, 874, 875, 880, 878]
set_option maxRecDepth 20000 in
theorem am_wr19 : am_WC19.map am_word = am_WP19.filterMap (fun i => lw_tbl[i]?) := rfl
def am_WC20 : List (Nat × Nat × Nat × Nat) := [(7, 132, 0, 0), (5, 133, 0, 0), (6, 133, 0, 0), (7, 133, 0, 0), (5, 134, 0, 0), (6, 134, 0, 0), (7, 134, 0, 0), (5, 135, 0, 0), (6, 135, 0, 0), (7, 135, 0, 0), (5, 136, 0, 0), (6, 136, 0, 0), (7, 136, 0, 0), (5, 137, 0, 0), (6, 137, 0, 0), (7, 137, 0, 0), (5, 138, 0, 0), (6, 138, 0, 0), (7, 138, 0, 0), (5, 139, 0, 0), (6, 139, 0, 0), (7, 139, 0, 0), (5, 140, 0, 0), (6, 140, 0, 0), (7, 140, 0, 0), (5, 141, 0, 0), (6, 141, 0, 0), (7, 141, 0, 0), (5, 142, 0, 0), (6, 142, 0, 0), (7, 142, 0, 0), (5, 143, 0, 0), (6, 143, 0, 0), (7, 143, 0, 0), (5, 144, 0, 0), (6, 144, 0, 0), (7, 144, 0, 0), (5, 145, 0, 0), (6, 145, 0, 0), (7, 145, 0, 0), (5, 146, 0, 0), (6, 146, 0, 0), (7, 146, 0, 0), (5, 147, 0, 0), (6, 147, 0, 0), (7, 147, 0, 0), (5, 148, 0, 0), (6, 148, 0, 0), (7, 148, 0, 0), (5, 149, 0, 0)]
def am_WP20 : List Nat := [879, 892, 890, 891, 903, 901, 902, 918, 916, 917, 937, 935, 936, 947, 945, 946, 952, 950, 951, 956, 954, 955, 964, 962, 963, 972, 970, 971, 976, 974, 975, 980, 978, 979, 991, 989, 990, 1043, 1041, 1042, 1047, 1045, 1046, 1060, 1058, 1059, 1071, 1069, 1070, 1082]
set_option maxRecDepth 20000 in
theorem am_wr20 : am_WC20.map am_word = am_WP20.filterMap (fun i => lw_tbl[i]?) := rfl
def am_WC21 : List (Nat × Nat × Nat × Nat) := [(6, 149, 0, 0), (7, 149, 0, 0), (5, 150, 0, 0), (6, 150, 0, 0), (7, 150, 0, 0), (5, 151, 0, 0), (6, 151, 0, 0), (7, 151, 0, 0), (5, 152, 0, 0), (6, 152, 0, 0), (7, 152, 0, 0), (5, 153, 0, 0), (9, 153, 0, 0), (5, 154, 0, 0), (9, 154, 0, 0), (5, 155, 0, 0), (9, 155, 0, 0), (5, 156, 0, 0), (9, 156, 0, 0), (5, 157, 0, 0), (6, 157, 0, 0), (7, 157, 0, 0), (5, 158, 0, 0), (6, 158, 0, 0), (7, 158, 0, 0), (5, 159, 0, 0), (9, 159, 0, 0), (5, 160, 0, 0), (9, 160, 0, 0), (5, 161, 0, 0), (6, 161, 0, 0), (7, 161, 0, 0), (5, 162, 0, 0), (6, 162, 0, 0), (7, 162, 0, 0), (5, 163, 0, 0), (6, 163, 0, 0), (7, 163, 0, 0), (5, 164, 0, 0), (6, 164, 0, 0), (7, 164, 0, 0), (5, 165, 0, 0), (6, 165, 0, 0), (7, 165, 0, 0), (5, 166, 0, 0), (9, 166, 0, 0), (5, 167, 0, 0), (6, 167, 0, 0), (7, 167, 0, 0), (5, 168, 0, 0)]
def am_WP21 : List Nat := [1080, 1081, 1086, 1084, 1085, 1101, 1099, 1100, 1112, 1110, 1111, 576, 575, 580, 579, 636, 635, 756, 755, 456, 455, 0, 872, 871, 22, 1255, 1254, 1405, 1404, 1295, 1294, 39, 1240, 1238, 1239, 1244, 1242, 1243, 1281, 1280, 36, 1285, 1284, 37, 1251, 1250, 1260, 1259, 34, 1248]
set_option maxRecDepth 20000 in
theorem am_wr21 : am_WC21.map am_word = am_WP21.filterMap (fun i => lw_tbl[i]?) := rfl
def am_WC22 : List (Nat × Nat × Nat × Nat) := [(6, 168, 0, 0), (7, 168, 0, 0), (5, 169, 0, 0), (6, 169, 0, 0), (7, 169, 0, 0), (5, 170, 0, 0), (6, 170, 0, 0), (7, 170, 0, 0), (5, 171, 0, 0), (6, 171, 0, 0), (7, 171, 0, 0), (5, 172, 0, 0), (6, 172, 0, 0), (7, 172, 0, 0), (5, 173, 0, 0), (6, 173, 0, 0), (7, 173, 0, 0), (5, 174, 0, 0), (6, 174, 0, 0), (7, 174, 0, 0), (5, 175, 0, 0), (6, 175, 0, 0), (7, 175, 0, 0), (5, 176, 0, 0), (6, 176, 0, 0), (7, 176, 0, 0), (5, 177, 0, 0), (6, 177, 0, 0), (7, 177, 0, 0), (5, 178, 0, 0), (6, 178, 0, 0), (7, 178, 0, 0), (5, 179, 0, 0), (6, 179, 0, 0), (7, 179, 0, 0), (5, 180, 0, 0), (6, 180, 0, 0), (7, 180, 0, 0), (5, 181, 0, 0), (6, 181, 0, 0), (7, 181, 0, 0), (5, 182, 0, 0), (6, 182, 0, 0), (7, 182, 0, 0), (5, 183, 0, 0), (9, 183, 0, 0), (5, 184, 0, 0), (6, 184, 0, 0), (7, 184, 0, 0), (5, 185, 0, 0)]
def am_WP22 : List Nat := [1246, 1247, 1264, 1262, 1263, 1277, 1276, 35, 1289, 1288, 38, 1273, 1271, 1272, 1300, 1298, 1299, 1304, 1302, 1303, 1341, 1340, 47, 1345, 1344, 48, 1349, 1348, 49, 1317, 1316, 41, 1321, 1320, 42, 1325, 1324, 43, 1329, 1328, 44, 1333, 1332, 45, 1352, 1351, 1337, 1336, 46, 1313]
set_option maxRecDepth 20000 in
theorem am_wr22 : am_WC22.map am_word = am_WP22.filterMap (fun i => lw_tbl[i]?) := rfl
def am_WC23 : List (Nat × Nat × Nat × Nat) := [(6, 185, 0, 0), (7, 185, 0, 0), (5, 186, 0, 0), (6, 186, 0, 0), (7, 186, 0, 0), (5, 187, 0, 0), (9, 187, 0, 0), (5, 188, 0, 0), (6, 188, 0, 0), (7, 188, 0, 0), (5, 189, 0, 0), (6, 189, 0, 0), (7, 189, 0, 0), (5, 190, 0, 0), (9, 190, 0, 0), (5, 191, 0, 0), (6, 191, 0, 0), (7, 191, 0, 0), (5, 192, 0, 0), (6, 192, 0, 0), (7, 192, 0, 0), (5, 193, 0, 0), (6, 193, 0, 0), (7, 193, 0, 0), (5, 194, 0, 0), (6, 194, 0, 0), (7, 194, 0, 0), (5, 195, 0, 0), (6, 195, 0, 0), (7, 195, 0, 0), (5, 196, 0, 0), (6, 196, 0, 0), (7, 196, 0, 0), (5, 197, 0, 0), (9, 197, 0, 0), (5, 198, 0, 0), (6, 198, 0, 0), (7, 198, 0, 0), (5, 199, 0, 0), (6, 199, 0, 0), (7, 199, 0, 0), (5, 200, 0, 0), (6, 200, 0, 0), (7, 200, 0, 0), (5, 201, 0, 0), (6, 201, 0, 0), (7, 201, 0, 0), (5, 202, 0, 0), (6, 202, 0, 0), (7, 202, 0, 0)]
def am_WP23 : List Nat := [1312, 40, 1309, 1307, 1308, 1359, 1358, 1364, 1363, 50, 1368, 1367, 51, 1379, 1378, 1376, 1375, 52, 1383, 1382, 53, 1356, 1354, 1355, 1372, 1370, 1371, 1387, 1385, 1386, 1392, 1390, 1391, 1408, 1407, 1401, 1400, 54, 1397, 1395, 1396, 1412, 1410, 1411, 1421, 1420, 55, 1417, 1415, 1416]
set_option maxRecDepth 20000 in
theorem am_wr23 : am_WC23.map am_word = am_WP23.filterMap (fun i => lw_tbl[i]?) := rfl
def am_WC24 : List (Nat × Nat × Nat × Nat) := [(5, 203, 0, 0), (6, 203, 0, 0), (7, 203, 0, 0), (5, 204, 0, 0), (6, 204, 0, 0), (7, 204, 0, 0), (5, 205, 0, 0), (6, 205, 0, 0), (7, 205, 0, 0), (5, 206, 0, 0), (6, 206, 0, 0), (7, 206, 0, 0), (5, 207, 0, 0), (6, 207, 0, 0), (7, 207, 0, 0), (5, 208, 0, 0), (6, 208, 0, 0), (7, 208, 0, 0), (5, 209, 0, 0), (6, 209, 0, 0), (7, 209, 0, 0), (5, 210, 0, 0), (6, 210, 0, 0), (7, 210, 0, 0), (5, 211, 0, 0), (6, 211, 0, 0), (7, 211, 0, 0), (5, 212, 0, 0), (6, 212, 0, 0), (7, 212, 0, 0), (5, 213, 0, 0), (6, 213, 0, 0), (7, 213, 0, 0), (5, 214, 0, 0), (6, 214, 0, 0), (7, 214, 0, 0), (5, 215, 0, 0), (6, 215, 0, 0), (7, 215, 0, 0), (5, 216, 0, 0), (6, 216, 0, 0), (7, 216, 0, 0), (5, 217, 0, 0), (6, 217, 0, 0), (7, 217, 0, 0), (5, 218, 0, 0), (9, 218, 0, 0), (5, 219, 0, 0), (6, 219, 0, 0), (7, 219, 0, 0)]
def am_WP24 : List Nat := [1425, 1423, 1424, 1434, 1433, 56, 1430, 1428, 1429, 1442, 1441, 57, 1438, 1436, 1437, 1446, 1444, 1445, 1454, 1453, 58, 1450, 1448, 1449, 1470, 1469, 60, 1482, 1481, 63, 1478, 1477, 62, 1549, 1548, 69, 1486, 1485, 64, 1474, 1473, 61, 1466, 1465, 59, 1461, 1460, 1458, 1456, 1457]
set_option maxRecDepth 20000 in
theorem am_wr24 : am_WC24.map am_word = am_WP24.filterMap (fun i => lw_tbl[i]?) := rfl
def am_WC25 : List (Nat × Nat × Nat × Nat) := [(5, 220, 0, 0), (6, 220, 0, 0), (7, 220, 0, 0), (5, 221, 0, 0), (6, 221, 0, 0), (7, 221, 0, 0), (5, 222, 0, 0), (6, 222, 0, 0), (7, 222, 0, 0), (5, 223, 0, 0), (6, 223, 0, 0), (7, 223, 0, 0), (5, 224, 0, 0), (6, 224, 0, 0), (7, 224, 0, 0), (5, 225, 0, 0), (6, 225, 0, 0), (7, 225, 0, 0), (5, 226, 0, 0), (6, 226, 0, 0), (7, 226, 0, 0), (5, 227, 0, 0), (6, 227, 0, 0), (7, 227, 0, 0), (5, 228, 0, 0), (6, 228, 0, 0), (7, 228, 0, 0), (5, 229, 0, 0), (6, 229, 0, 0), (7, 229, 0, 0), (5, 230, 0, 0), (6, 230, 0, 0), (7, 230, 0, 0), (5, 231, 0, 0), (6, 231, 0, 0), (7, 231, 0, 0), (5, 232, 0, 0), (6, 232, 0, 0), (7, 232, 0, 0), (5, 233, 0, 0), (6, 233, 0, 0), (7, 233, 0, 0), (5, 234, 0, 0), (6, 234, 0, 0), (7, 234, 0, 0), (5, 235, 0, 0), (6, 235, 0, 0), (7, 235, 0, 0), (5, 236, 0, 0), (6, 236, 0, 0)]
def am_WP25 : List Nat := [1490, 1488, 1489, 1494, 1492, 1493, 1502, 1501, 65, 1498, 1496, 1497, 1510, 1509, 66, 1514, 1513, 67, 1506, 1504, 1505, 1518, 1516, 1517, 1522, 1520, 1521, 1526, 1524, 1525, 1531, 1529, 1530, 1539, 1538, 68, 1535, 1533, 1534, 1543, 1541, 1542, 1554, 1552, 1553, 1558, 1556, 1557, 1562, 1560]
set_option maxRecDepth 20000 in
theorem am_wr25 : am_WC25.map am_word = am_WP25.filterMap (fun i => lw_tbl[i]?) := rfl
def am_WC26 : List (Nat × Nat × Nat × Nat) := [(7, 236, 0, 0), (5, 237, 0, 0), (6, 237, 0, 0), (7, 237, 0, 0), (5, 238, 0, 0), (6, 238, 0, 0), (7, 238, 0, 0), (5, 239, 0, 0), (6, 239, 0, 0), (7, 239, 0, 0), (5, 240, 0, 0), (6, 240, 0, 0), (7, 240, 0, 0), (5, 241, 0, 0), (6, 241, 0, 0), (7, 241, 0, 0), (5, 242, 0, 0), (9, 242, 0, 0), (5, 243, 0, 0), (6, 243, 0, 0), (7, 243, 0, 0), (5, 244, 0, 0), (6, 244, 0, 0), (7, 244, 0, 0), (5, 245, 0, 0), (6, 245, 0, 0), (7, 245, 0, 0), (5, 246, 0, 0), (6, 246, 0, 0), (7, 246, 0, 0), (5, 247, 0, 0), (6, 247, 0, 0), (7, 247, 0, 0), (5, 248, 0, 0), (6, 248, 0, 0), (7, 248, 0, 0), (5, 249, 0, 0), (6, 249, 0, 0), (7, 249, 0, 0), (5, 250, 0, 0), (9, 250, 0, 0), (5, 251, 0, 0), (6, 251, 0, 0), (7, 251, 0, 0), (5, 252, 0, 0), (6, 252, 0, 0), (7, 252, 0, 0), (5, 253, 0, 0), (6, 253, 0, 0), (7, 253, 0, 0)]
def am_WP26 : List Nat := [1561, 1567, 1565, 1566, 1571, 1569, 1570, 1584, 1583, 70, 1644, 1643, 77, 1575, 1573, 1574, 1647, 1646, 1592, 1591, 72, 1588, 1587, 71, 1596, 1595, 73, 1600, 1599, 74, 1604, 1603, 75, 1580, 1578, 1579, 1608, 1606, 1607, 1267, 1266, 1612, 1610, 1611, 1616, 1614, 1615, 1625, 1624, 76]
set_option maxRecDepth 20000 in
theorem am_wr26 : am_WC26.map am_word = am_WP26.filterMap (fun i => lw_tbl[i]?) := rfl
def am_WC27 : List (Nat × Nat × Nat × Nat) := [(5, 254, 0, 0), (9, 254, 0, 0), (5, 255, 0, 0), (6, 255, 0, 0), (7, 255, 0, 0), (5, 256, 0, 0), (6, 256, 0, 0), (7, 256, 0, 0), (5, 257, 0, 0), (6, 257, 0, 0), (7, 257, 0, 0), (5, 258, 0, 0), (6, 258, 0, 0), (7, 258, 0, 0), (5, 259, 0, 0), (6, 259, 0, 0), (7, 259, 0, 0), (5, 260, 0, 0), (9, 260, 0, 0), (5, 261, 0, 0), (9, 261, 0, 0), (5, 262, 0, 0), (9, 262, 0, 0)]
def am_WP27 : List Nat := [1628, 1627, 1621, 1619, 1620, 1632, 1630, 1631, 1636, 1634, 1635, 1640, 1638, 1639, 1651, 1649, 1650, 896, 895, 587, 586, 1067, 1066]
set_option maxRecDepth 20000 in
theorem am_wr27 : am_WC27.map am_word = am_WP27.filterMap (fun i => lw_tbl[i]?) := rfl
def am_WC : List (Nat × Nat × Nat × Nat) := am_WC0 ++ (am_WC1 ++ (am_WC2 ++ (am_WC3 ++ (am_WC4 ++ (am_WC5 ++ (am_WC6 ++ (am_WC7 ++ (am_WC8 ++ (am_WC9 ++ (am_WC10 ++ (am_WC11 ++ (am_WC12 ++ (am_WC13 ++ (am_WC14 ++ (am_WC15 ++ (am_WC16 ++ (am_WC17 ++ (am_WC18 ++ (am_WC19 ++ (am_WC20 ++ (am_WC21 ++ (am_WC22 ++ (am_WC23 ++ (am_WC24 ++ (am_WC25 ++ (am_WC26 ++ (am_WC27)))))))))))))))))))))))))))
def am_WP : List Nat := am_WP0 ++ (am_WP1 ++ (am_WP2 ++ (am_WP3 ++ (am_WP4 ++ (am_WP5 ++ (am_WP6 ++ (am_WP7 ++ (am_WP8 ++ (am_WP9 ++ (am_WP10 ++ (am_WP11 ++ (am_WP12 ++ (am_WP13 ++ (am_WP14 ++ (am_WP15 ++ (am_WP16 ++ (am_WP17 ++ (am_WP18 ++ (am_WP19 ++ (am_WP20 ++ (am_WP21 ++ (am_WP22 ++ (am_WP23 ++ (am_WP24 ++ (am_WP25 ++ (am_WP26 ++ (am_WP27)))))))))))))))))))))))))))
theorem am_wr_app {a b : List (Nat × Nat × Nat × Nat)} {c d : List Nat} (h : a.map am_word = c.filterMap (fun i => lw_tbl[i]?)) (h2 : b.map am_word = d.filterMap (fun i => lw_tbl[i]?)) : (a ++ b).map am_word = (c ++ d).filterMap (fun i => lw_tbl[i]?) := by
  rw [List.map_append, List.filterMap_append, h, h2]
theorem am_wr : am_WC.map am_word = am_WP.filterMap (fun i => lw_tbl[i]?) := am_wr_app am_wr0 (am_wr_app am_wr1 (am_wr_app am_wr2 (am_wr_app am_wr3 (am_wr_app am_wr4 (am_wr_app am_wr5 (am_wr_app am_wr6 (am_wr_app am_wr7 (am_wr_app am_wr8 (am_wr_app am_wr9 (am_wr_app am_wr10 (am_wr_app am_wr11 (am_wr_app am_wr12 (am_wr_app am_wr13 (am_wr_app am_wr14 (am_wr_app am_wr15 (am_wr_app am_wr16 (am_wr_app am_wr17 (am_wr_app am_wr18 (am_wr_app am_wr19 (am_wr_app am_wr20 (am_wr_app am_wr21 (am_wr_app am_wr22 (am_wr_app am_wr23 (am_wr_app am_wr24 (am_wr_app am_wr25 (am_wr_app am_wr26 am_wr27))))))))))))))))))))))))))
def am_TB : List Cond := am_WC.map am_word
theorem am_TB_in : ∀ w ∈ am_TB, w ∈ lw_tbl := by
  intro w hw
  unfold am_TB at hw
  rw [am_wr] at hw
  obtain ⟨i, -, hi⟩ := List.mem_filterMap.mp hw
  exact List.mem_of_getElem? hi
theorem am_word_good (e : Nat × Nat × Nat × Nat) : ((am_word e).onTables && (am_word e).keeps) = true := by
  unfold am_word
  split <;> first | rfl | (unfold u_lay; split <;> rfl)
theorem am_TB_good : ∀ w ∈ am_TB, (w.onTables && w.keeps) = true := by
  intro w hw
  obtain ⟨e, -, rfl⟩ := List.mem_map.mp hw
  exact am_word_good e
def am_wq (p : Nat) (e : Nat × Nat × Nat × Nat) : Bool := decide (am_WC[p]? = some e)
theorem am_wd_in {p : Nat} {e : Nat × Nat × Nat × Nat} (h : am_wq p e = true) : am_word e ∈ am_TB := List.mem_map_of_mem (List.mem_of_getElem? (of_decide_eq_true h))
end
section
/-! THE ABSTRACT MACHINE: cells by number, values of Int32/Int64, one step an instruction; and that the JVM does what it does -/
abbrev Am_M : Type := (Nat → Nat → Int32) × (Nat → Nat → Int64)
abbrev Am_C : Type := Nat → List Value → Am_M → Option Value → Am_M → Prop
def am_upI (M : Am_M) (k i : Nat) (x : Int32) : Am_M := (fun k' i' => if k' = k ∧ i' = i then x else M.1 k' i', M.2)
def am_upL (M : Am_M) (k i : Nat) (x : Int64) : Am_M := (M.1, fun k' i' => if k' = k ∧ i' = i then x else M.2 k' i')
def am_cpL (M : Am_M) (a0 a sp dp n : Nat) : Am_M := (M.1, fun k' => if k' = a then va_cpy (M.2 a0) (M.2 a) sp dp n else M.2 k')
/-! values and cells -/
def am_cv (ad : Nat → Nat) : Value → Value
  | .ref k => .ref (ad k)
  | v => v
theorem am_cv_cat (ad : Nat → Nat) (v : Value) : (am_cv ad v).category = v.category := by cases v <;> rfl
theorem am_cv_null {ad : Nat → Nat} {v : Value} (h : v ≠ .null) : am_cv ad v ≠ .null := by cases v <;> first | (intro q; cases q; done) | exact absurd rfl h
def am_shp (q : Nat) : Nat × Nat := am_cellL.getD q (9, 0)
/-- what a field or a place of an array of arrays points at: 0: it is an int; t + 1: cell t -/
def am_rt (q k : Nat) : Nat := (am_rtL.getD q []).getD k 0
def am_rb (q : Nat) : Nat := (am_rtL.getD q []).getD 0 0
def am_fv (q k : Nat) (M : Am_M) : Value := if am_rt q k = 0 then .int (M.1 q k) else .ref (am_rt q k - 1)
def am_e (ad : Nat → Nat) (cA : Nat → ClassId) (q : Nat) (M : Am_M) : va_E :=
  match am_shp q with
  | (0, n) => .inl (cA 0, n, .inl (M.1 q))
  | (1, n) => .inl (cA 1, n, .inr (.inl (M.2 q)))
  | (2, n) => .inl (cA 2, n, .inr (.inr (.inr (.inr (fun i => if i < n then some (ad (am_rb q + i)) else none)))))
  | (3, ci) => .inr (ci, (List.range (am_nf ci)).map (fun k => am_cv ad (am_fv q k M)))
  | (_, n) => .inl (cA 3, n, .inr (.inr (.inr (.inr (fun i => if i < n then some (ad (am_rb q + i)) else none)))))
theorem am_e_congr {ad : Nat → Nat} {cA : Nat → ClassId} {q : Nat} {M M' : Am_M} (h1 : M'.1 q = M.1 q) (h2 : M'.2 q = M.2 q) : am_e ad cA q M' = am_e ad cA q M := by
  unfold am_e
  split <;> first | rw [h1] | rw [h2] | rfl | skip
  congr 1
  congr 1
  apply List.map_congr_left
  intro k _
  unfold am_fv
  rw [h1]
def am_ws (ad : Nat → Nat) (cA : Nat → ClassId) (M : Am_M) : va_W := (List.range am_K).map (fun q => (ad q, am_e ad cA q M))
theorem am_ws_get {ad : Nat → Nat} {cA : Nat → ClassId} {M : Am_M} {q : Nat} (h : q < am_K) : (am_ws ad cA M)[q]? = some (ad q, am_e ad cA q M) := by
  simp [am_ws, h]
theorem am_ws_set {ad : Nat → Nat} {cA : Nat → ClassId} {M M' : Am_M} {q : Nat} (h : ∀ k, k ≠ q → M'.1 k = M.1 k ∧ M'.2 k = M.2 k) : (am_ws ad cA M).set q (ad q, am_e ad cA q M') = am_ws ad cA M' := by
  apply List.ext_getElem?
  intro k
  by_cases hk : k < am_K
  · by_cases e : k = q
    · subst e
      rw [List.getElem?_set_self (by simp [am_ws, hk]), am_ws_get hk]
    · rw [List.getElem?_set_ne (Ne.symm e), am_ws_get hk, am_ws_get hk, am_e_congr (h k e).1 (h k e).2]
  · rw [List.getElem?_eq_none (by simp [am_ws]; omega), List.getElem?_eq_none (by simp [am_ws]; omega)]
def am_tys (cA : Nat → ClassId) : List (ClassId × FieldType) := [(cA 0, .int), (cA 1, .long), (cA 2, .array .int), (cA 3, .array .long)]
/-- all that is fixed: addresses, the arrays' classes, classes, slots, where the new cells begin, the script -/
abbrev Am_G : Type := (Nat → Nat) × (Nat → ClassId) × (Nat → ClassId) × (Nat → Nat → Nat) × Nat × Nat × (Nat → Int32)
abbrev am_ad (G : Am_G) : Nat → Nat := G.1
abbrev am_cA (G : Am_G) : Nat → ClassId := G.2.1
abbrev am_D (G : Am_G) : va_G := (G.2.2.1, G.2.2.2.1)
abbrev am_lo (G : Am_G) : Nat := G.2.2.2.2.1
abbrev am_sL (G : Am_G) : Nat := G.2.2.2.2.2.1
abbrev am_xs (G : Am_G) : Nat → Int32 := G.2.2.2.2.2.2
abbrev am_A (G : Am_G) : Nat → Prop := fun q => am_lo G ≤ q
abbrev am_W (G : Am_G) (M : Am_M) : va_W := am_ws (am_ad G) (am_cA G) M
def am_fA (k : Nat) : Int32 := ([-1, 0, 0, 2, 1, 3, 0, 4] : List Int32).getD k 0
def am_fO (k : Nat) : Int32 := ([1, 10, 11, 2, 20, 0, 0, 0, 0, 30, 0, 0, 0, 41, 40, 0, 0, 0, 50, 0, 0, 0, 0, 60, 70, 0, 0, 0, 0, 80, 0, 81] : List Int32).getD k 0
/-- what nobody writes: the two static rows, the script -/
def am_St (G : Am_G) (U : State) (H : Heap) : Prop :=
  va_Z "OrbitsWed$Moods" "ABOVE" "[I" (.ref (am_ad G 901)) (am_A G) U H ∧ va_T .int (am_ad G 901) 8 (fun k => .int (am_fA k)) (am_A G) U H ∧
  va_Z "OrbitsWed$Moods" "OWN" "[I" (.ref (am_ad G 902)) (am_A G) U H ∧ va_T .int (am_ad G 902) 32 (fun k => .int (am_fO k)) (am_A G) U H ∧
  va_X (am_ad G 900) (am_sL G) (am_xs G) U H ∧ am_ad G 900 < am_lo G ∧ am_lo G ≤ H.size
theorem am_St.moved {G : Am_G} {u U : State} {H : Heap} (hvm : u.vm.Alike U.vm) (h : am_St G u H) : am_St G U H :=
  ⟨h.1.moved hvm, h.2.1.moved hvm, h.2.2.1.moved hvm, h.2.2.2.1.moved hvm, h.2.2.2.2.1.moved hvm, h.2.2.2.2.2⟩
theorem am_St.kept {G : Am_G} {U : State} {H H1 : Heap} (h : am_St G U H) (hz : H.size ≤ H1.size) (hq : ∀ a : Nat, a < H.size → ¬ am_A G a → H1[a]? = H[a]?) : am_St G U H1 :=
  ⟨h.1.kept hq, h.2.1.kept hq, h.2.2.1.kept hq, h.2.2.2.1.kept hq, h.2.2.2.2.1.kept (hq _ (Nat.lt_of_lt_of_le h.2.2.2.2.2.1 h.2.2.2.2.2.2) (Nat.not_le.mpr h.2.2.2.2.2.1)), h.2.2.2.2.2.1, Nat.le_trans h.2.2.2.2.2.2 hz⟩
/-- the world -/
def am_Wd (G : Am_G) (M : Am_M) (U : State) : Prop := va_P (am_D G) vwCl (am_W G M) U.heap ∧ va_K (am_D G) vwCl (am_tys (am_cA G)) U ∧ va_D (am_A G) (am_W G M) ∧ am_St G U U.heap
/-! locals -/
def am_prs (ad : Nat → Nat) : Nat → List Value → List (Nat × Value)
  | _, [] => []
  | i, v :: r => (if v = .null then [] else [(i, am_cv ad v)]) ++ am_prs ad (i + 1) r
theorem am_prs_mem {ad : Nat → Nat} {x : Nat × Value} : ∀ (l : List Value) (i : Nat), x ∈ am_prs ad i l ↔ ∃ (j : Nat) (v : Value), l[j]? = some v ∧ v ≠ .null ∧ x = (i + j, am_cv ad v)
  | [], i => by simp [am_prs]
  | u :: r, i => by
    simp only [am_prs, List.mem_append]
    rw [am_prs_mem r (i + 1)]
    constructor
    · rintro (h | ⟨j, v, h1, h2, h3⟩)
      · by_cases hu : u = .null
        · simp [hu] at h
        · rw [if_neg hu] at h
          exact ⟨0, u, rfl, hu, by simpa using h⟩
      · exact ⟨j + 1, v, by simpa using h1, h2, by rw [h3]; congr 1; omega⟩
    · rintro ⟨j, v, h1, h2, h3⟩
      cases j with
      | zero =>
        simp at h1
        subst h1
        left
        rw [if_neg h2]
        simpa using h3
      | succ j => exact Or.inr ⟨j, v, by simpa using h1, h2, by rw [h3]; congr 1; omega⟩
def am_st (i : Nat) (v : Value) : Nat → List Value → List Value
  | _, [] => []
  | j, u :: r => (if j = i then v else if (j + 1 = i ∧ u.category = 2) ∨ (v.category = 2 ∧ j = i + 1) then .null else u) :: am_st i v (j + 1) r
theorem am_st_len (i : Nat) (v : Value) : ∀ (l : List Value) (j : Nat), (am_st i v j l).length = l.length
  | [], _ => rfl
  | _ :: r, j => by simp [am_st, am_st_len i v r (j + 1)]
theorem am_st_get (i : Nat) (v : Value) : ∀ (l : List Value) (j k : Nat), (am_st i v j l)[k]? = (l[k]?).map (fun u => if j + k = i then v else if (j + k + 1 = i ∧ u.category = 2) ∨ (v.category = 2 ∧ j + k = i + 1) then .null else u)
  | [], _, _ => by simp [am_st]
  | u :: r, j, k => by
    cases k with
    | zero => simp [am_st]
    | succ k =>
      simp only [am_st, List.getElem?_cons_succ]
      rw [am_st_get i v r (j + 1) k, show j + 1 + k = j + (k + 1) by omega]
def am_lv (ad : Nat → Nat) (ls : Array Slot) (nL : Nat) (lv : List Value) : Prop := lv.length = nL ∧ lv_has ls nL (am_prs ad 0 lv)
theorem am_lv_at {ad : Nat → Nat} {ls : Array Slot} {nL : Nat} {lv : List Value} (h : am_lv ad ls nL lv) {k : Nat} {v : Value} (hk : lv[k]? = some v) (hv : v ≠ .null) : ls[k]? = some (.val (am_cv ad v)) :=
  h.2.2.2 (k, am_cv ad v) ((am_prs_mem lv 0).mpr ⟨k, v, hk, hv, by rw [Nat.zero_add]⟩)
theorem am_lv_set {ad : Nat → Nat} {ls : Array Slot} {nL : Nat} {lv : List Value} {l' : List (Nat × Value)} {i : Nat} {v : Value} (h0 : lv.length = nL) (h : lv_has ls nL l')
    (hin : ∀ x, x ∈ am_prs ad 0 (am_st i v 0 lv) → x ∈ l') : am_lv ad ls nL (am_st i v 0 lv) := ⟨by rw [am_st_len]; exact h0, h.1, h.2.1, fun q hq => h.2.2 q (hin q hq)⟩
theorem am_in1 {ad : Nat → Nat} {lv : List Value} {i : Nat} {v : Value} (hv : v ≠ .null) (hc : v.category = 1) : ∀ x, x ∈ am_prs ad 0 (am_st i v 0 lv) → x ∈ (i, am_cv ad v) :: (am_prs ad 0 lv).filter (fun q => !(q.1 == i) && !(q.1 + 1 == i && q.2.category == 2)) := by
  intro x hx
  obtain ⟨k, w, h1, h2, h3⟩ := (am_prs_mem _ 0).mp hx
  rw [am_st_get, Nat.zero_add] at h1
  obtain ⟨u, hu, hw⟩ := Option.map_eq_some_iff.mp h1
  rw [Nat.zero_add] at h3
  by_cases e : k = i
  · subst e
    rw [if_pos rfl] at hw
    subst hw
    rw [h3]
    exact List.mem_cons_self
  · rw [if_neg e] at hw
    by_cases e2 : (k + 1 = i ∧ u.category = 2) ∨ (v.category = 2 ∧ k = i + 1)
    · rw [if_pos e2] at hw
      exact absurd hw.symm h2
    · rw [if_neg e2] at hw
      subst hw
      refine List.mem_cons_of_mem _ (List.mem_filter.mpr ⟨(am_prs_mem lv 0).mpr ⟨k, u, hu, h2, by rw [h3, Nat.zero_add]⟩, ?_⟩)
      rw [h3]
      have e3 : ¬ (k + 1 = i ∧ u.category = 2) := fun q => e2 (Or.inl q)
      have := am_cv_cat ad u
      simp only [Bool.and_eq_true, Bool.not_eq_true', beq_eq_false_iff_ne, ne_eq]
      refine ⟨e, ?_⟩
      simp only [this, Bool.and_eq_false_iff, beq_eq_false_iff_ne, ne_eq]
      by_cases q : k + 1 = i
      · exact Or.inr (fun z => e3 ⟨q, z⟩)
      · exact Or.inl q
theorem am_in2 {ad : Nat → Nat} {lv : List Value} {i : Nat} {v : Value} (hv : v ≠ .null) (hc : v.category = 2) : ∀ x, x ∈ am_prs ad 0 (am_st i v 0 lv) → x ∈ (i, am_cv ad v) :: (am_prs ad 0 lv).filter (fun q => !(q.1 == i) && (!(q.1 == i + 1) && !(q.1 + 1 == i && q.2.category == 2))) := by
  intro x hx
  obtain ⟨k, w, h1, h2, h3⟩ := (am_prs_mem _ 0).mp hx
  rw [am_st_get, Nat.zero_add] at h1
  obtain ⟨u, hu, hw⟩ := Option.map_eq_some_iff.mp h1
  rw [Nat.zero_add] at h3
  by_cases e : k = i
  · subst e
    rw [if_pos rfl] at hw
    subst hw
    rw [h3]
    exact List.mem_cons_self
  · rw [if_neg e] at hw
    by_cases e2 : (k + 1 = i ∧ u.category = 2) ∨ (v.category = 2 ∧ k = i + 1)
    · rw [if_pos e2] at hw
      exact absurd hw.symm h2
    · rw [if_neg e2] at hw
      subst hw
      refine List.mem_cons_of_mem _ (List.mem_filter.mpr ⟨(am_prs_mem lv 0).mpr ⟨k, u, hu, h2, by rw [h3, Nat.zero_add]⟩, ?_⟩)
      rw [h3]
      have e3 : ¬ (k + 1 = i ∧ u.category = 2) := fun q => e2 (Or.inl q)
      have e4 : ¬ k = i + 1 := fun q => e2 (Or.inr ⟨hc, q⟩)
      have := am_cv_cat ad u
      simp only [Bool.and_eq_true, Bool.not_eq_true', beq_eq_false_iff_ne, ne_eq]
      refine ⟨e, e4, ?_⟩
      simp only [this, Bool.and_eq_false_iff, beq_eq_false_iff_ne, ne_eq]
      by_cases q : k + 1 = i
      · exact Or.inr (fun z => e3 ⟨q, z⟩)
      · exact Or.inl q
/-- the locals with which a method begins -/
def am_en : List Value → List Value
  | [] => []
  | v :: r => if v.category = 2 then v :: .null :: am_en r else v :: am_en r
def am_ent (nL : Nat) (as : List Value) : List Value := am_en as ++ List.replicate (nL - (am_en as).length) .null
theorem am_en_len (ad : Nat → Nat) : ∀ as : List Value, (lg_sl (as.map (am_cv ad))).length = (am_en as).length
  | [] => rfl
  | v :: r => by
    have ih := am_en_len ad r
    simp only [lg_sl] at ih
    by_cases h : v.category = 2
    · simp [lg_sl, am_en, am_cv_cat, h, ih]
    · simp [lg_sl, am_en, am_cv_cat, h, ih]
theorem am_en_args {ad : Nat → Nat} : ∀ (as : List Value) (i j : Nat) (v : Value), (am_en as)[j]? = some v → v ≠ .null → (i + j, am_cv ad v) ∈ lv_args i (as.map (am_cv ad))
  | [], i, j, v, h, _ => by simp [am_en] at h
  | u :: r, i, j, v, h, hv => by
    by_cases hc : u.category = 2
    · simp only [am_en, hc, if_true] at h
      simp only [List.map_cons, lv_args, am_cv_cat, hc, if_true]
      match j, h with
      | 0, h => simp at h; subst h; exact List.mem_cons_self
      | 1, h => simp at h; exact absurd h.symm hv
      | j + 2, h =>
        have := am_en_args (ad := ad) r (i + 2) j v (by simpa using h) hv
        rw [show i + 2 + j = i + (j + 2) by omega] at this
        exact List.mem_cons_of_mem _ this
    · simp only [am_en, hc, if_false] at h
      simp only [List.map_cons, lv_args, am_cv_cat, hc, if_false]
      match j, h with
      | 0, h => simp at h; subst h; exact List.mem_cons_self
      | j + 1, h =>
        have := am_en_args (ad := ad) r (i + 1) j v (by simpa using h) hv
        rw [show i + 1 + j = i + (j + 1) by omega] at this
        exact List.mem_cons_of_mem _ this
theorem am_lv_entry {ad : Nat → Nat} {nL : Nat} {as : List Value} (h : (am_en as).length ≤ nL) : am_lv ad ((lg_sl (as.map (am_cv ad)) ++ List.replicate (nL - (lg_sl (as.map (am_cv ad))).length) Slot.unset).toArray) nL (am_ent nL as) := by
  have h0 := lv_entry (as.map (am_cv ad)) (n := nL) (by rw [am_en_len]; exact h)
  refine ⟨by simp [am_ent]; omega, h0.1, h0.2.1, fun q hq => h0.2.2 q ?_⟩
  obtain ⟨j, v, h1, h2, h3⟩ := (am_prs_mem _ 0).mp hq
  rw [h3]
  unfold am_ent at h1
  by_cases hj : j < (am_en as).length
  · rw [List.getElem?_append_left hj] at h1
    exact am_en_args as 0 j v h1 h2
  · rw [List.getElem?_append_right (by omega)] at h1
    exact absurd (List.eq_of_mem_replicate (List.mem_of_getElem? h1)) h2
end
section
/-! one step; a run; that it is sound -/
def am_i1 (st : List Value) (f : Int32 → List Value → Prop) : Prop := match st with
  | .int x :: r => f x r
  | _ => False
def am_i2 (st : List Value) (f : Int32 → Int32 → List Value → Prop) : Prop := match st with
  | .int y :: .int x :: r => f x y r
  | _ => False
def am_l1 (st : List Value) (f : Int64 → List Value → Prop) : Prop := match st with
  | .long x :: r => f x r
  | _ => False
def am_l2 (st : List Value) (f : Int64 → Int64 → List Value → Prop) : Prop := match st with
  | .long y :: .long x :: r => f x y r
  | _ => False
def am_li (st : List Value) (f : Int64 → Int32 → List Value → Prop) : Prop := match st with
  | .int y :: .long x :: r => f x y r
  | _ => False
def am_r1 (st : List Value) (f : Nat → List Value → Prop) : Prop := match st with
  | .ref q :: r => f q r
  | _ => False
def am_ri (st : List Value) (f : Nat → Int32 → List Value → Prop) : Prop := match st with
  | .int i :: .ref q :: r => f q i r
  | _ => False
def am_rii (st : List Value) (f : Nat → Int32 → Int32 → List Value → Prop) : Prop := match st with
  | .int x :: .int i :: .ref q :: r => f q i x r
  | _ => False
def am_ril (st : List Value) (f : Nat → Int32 → Int64 → List Value → Prop) : Prop := match st with
  | .long x :: .int i :: .ref q :: r => f q i x r
  | _ => False
def am_ipr (st : List Value) (f : Nat → Int32 → List Value → Prop) : Prop := match st with
  | .int x :: .ref q :: r => f q x r
  | _ => False
def am_acp (st : List Value) (f : Nat → Int32 → Nat → Int32 → Int32 → List Value → Prop) : Prop := match st with
  | .int n :: .int dp :: .ref a :: .int sp :: .ref a0 :: r => f a0 sp a dp n r
  | _ => False
def am_gi (lv : List Value) (k : Nat) (f : Int32 → Prop) : Prop := match lv[k]? with
  | some (.int x) => f x
  | _ => False
def am_gl (lv : List Value) (k : Nat) (f : Int64 → Prop) : Prop := match lv[k]? with
  | some (.long x) => f x
  | _ => False
def am_gr (lv : List Value) (k : Nat) (f : Nat → Prop) : Prop := match lv[k]? with
  | some (.ref x) => f x
  | _ => False
theorem am_i1_e {st : List Value} {f : Int32 → List Value → Prop} (h : am_i1 st f) : ∃ x r, st = .int x :: r ∧ f x r := by
  unfold am_i1 at h; split at h <;> first | exact ⟨_, _, rfl, h⟩ | exact h.elim
theorem am_i2_e {st : List Value} {f : Int32 → Int32 → List Value → Prop} (h : am_i2 st f) : ∃ x y r, st = .int y :: .int x :: r ∧ f x y r := by
  unfold am_i2 at h; split at h <;> first | exact ⟨_, _, _, rfl, h⟩ | exact h.elim
theorem am_l1_e {st : List Value} {f : Int64 → List Value → Prop} (h : am_l1 st f) : ∃ x r, st = .long x :: r ∧ f x r := by
  unfold am_l1 at h; split at h <;> first | exact ⟨_, _, rfl, h⟩ | exact h.elim
theorem am_l2_e {st : List Value} {f : Int64 → Int64 → List Value → Prop} (h : am_l2 st f) : ∃ x y r, st = .long y :: .long x :: r ∧ f x y r := by
  unfold am_l2 at h; split at h <;> first | exact ⟨_, _, _, rfl, h⟩ | exact h.elim
theorem am_li_e {st : List Value} {f : Int64 → Int32 → List Value → Prop} (h : am_li st f) : ∃ x y r, st = .int y :: .long x :: r ∧ f x y r := by
  unfold am_li at h; split at h <;> first | exact ⟨_, _, _, rfl, h⟩ | exact h.elim
theorem am_r1_e {st : List Value} {f : Nat → List Value → Prop} (h : am_r1 st f) : ∃ x r, st = .ref x :: r ∧ f x r := by
  unfold am_r1 at h; split at h <;> first | exact ⟨_, _, rfl, h⟩ | exact h.elim
theorem am_ri_e {st : List Value} {f : Nat → Int32 → List Value → Prop} (h : am_ri st f) : ∃ q i r, st = .int i :: .ref q :: r ∧ f q i r := by
  unfold am_ri at h; split at h <;> first | exact ⟨_, _, _, rfl, h⟩ | exact h.elim
theorem am_rii_e {st : List Value} {f : Nat → Int32 → Int32 → List Value → Prop} (h : am_rii st f) : ∃ q i x r, st = .int x :: .int i :: .ref q :: r ∧ f q i x r := by
  unfold am_rii at h; split at h <;> first | exact ⟨_, _, _, _, rfl, h⟩ | exact h.elim
theorem am_ril_e {st : List Value} {f : Nat → Int32 → Int64 → List Value → Prop} (h : am_ril st f) : ∃ q i x r, st = .long x :: .int i :: .ref q :: r ∧ f q i x r := by
  unfold am_ril at h; split at h <;> first | exact ⟨_, _, _, _, rfl, h⟩ | exact h.elim
theorem am_ipr_e {st : List Value} {f : Nat → Int32 → List Value → Prop} (h : am_ipr st f) : ∃ q x r, st = .int x :: .ref q :: r ∧ f q x r := by
  unfold am_ipr at h; split at h <;> first | exact ⟨_, _, _, rfl, h⟩ | exact h.elim
theorem am_acp_e {st : List Value} {f : Nat → Int32 → Nat → Int32 → Int32 → List Value → Prop} (h : am_acp st f) : ∃ a0 sp a dp n r, st = .int n :: .int dp :: .ref a :: .int sp :: .ref a0 :: r ∧ f a0 sp a dp n r := by
  unfold am_acp at h; split at h <;> first | exact ⟨_, _, _, _, _, _, rfl, h⟩ | exact h.elim
theorem am_gi_e {lv : List Value} {k : Nat} {f : Int32 → Prop} (h : am_gi lv k f) : ∃ x, lv[k]? = some (.int x) ∧ f x := by
  unfold am_gi at h; split at h <;> first | exact ⟨_, by assumption, h⟩ | exact h.elim
theorem am_gl_e {lv : List Value} {k : Nat} {f : Int64 → Prop} (h : am_gl lv k f) : ∃ x, lv[k]? = some (.long x) ∧ f x := by
  unfold am_gl at h; split at h <;> first | exact ⟨_, by assumption, h⟩ | exact h.elim
theorem am_gr_e {lv : List Value} {k : Nat} {f : Nat → Prop} (h : am_gr lv k f) : ∃ x, lv[k]? = some (.ref x) ∧ f x := by
  unfold am_gr at h; split at h <;> first | exact ⟨_, by assumption, h⟩ | exact h.elim
def am_cnd (c : ClassFile.Cond) (x y : Int32) : Prop := match c with
  | .eq => x = y
  | .ne => ¬ x = y
  | .lt => x < y
  | .ge => y ≤ x
  | .gt => y < x
  | .le => x ≤ y
def am_sw (ps : List (Int × Int)) (d x : Int) : Int := match ps with
  | [] => d
  | (a, o) :: r => if x = a then o else am_sw r d x
def am_cat (st : List Value) : Nat := (st.map fun v => v.category).sum
def am_i4 (n : Nat) (q : Nat) (i : Int32) (sL : Nat) (xs : Nat → Int32) (M : Am_M) (f : Int32 → Prop) : Prop :=
  if q = 900 then vp_in i sL ∧ f (xs i.toNatClampNeg)
  else if q = 901 then vp_in i 8 ∧ f (am_fA i.toNatClampNeg)
  else if q = 902 then vp_in i 32 ∧ f (am_fO i.toNatClampNeg)
  else (am_shp q).1 = 0 ∧ q < n ∧ vp_in i (am_shp q).2 ∧ f (M.1 q i.toNatClampNeg)
def am_stp (mt : Nat → Am_m) (C : Am_C) (sL : Nat) (xs : Nat → Int32) (rt : Nat) (rv : Option Value) (rM : Am_M) (i : Instr) (pn : Nat) (lv st : List Value) (M : Am_M) (K : Nat → List Value → List Value → Am_M → Prop) : Prop :=
  match i with
  | .iconst n => K pn lv (.int (Int32.ofInt n) :: st) M
  | .ldc2_w n => K pn lv (.long (Int64.ofNat n) :: st) M
  | .iload k => am_gi lv k fun x => K pn lv (.int x :: st) M
  | .lload k => am_gl lv k fun x => K pn lv (.long x :: st) M
  | .aload k => am_gr lv k fun q => K pn lv (.ref q :: st) M
  | .istore k => am_i1 st fun x r => k < lv.length ∧ K pn (am_st k (.int x) 0 lv) r M
  | .lstore k => am_l1 st fun x r => k + 1 < lv.length ∧ K pn (am_st k (.long x) 0 lv) r M
  | .astore k => am_r1 st fun q r => k < lv.length ∧ K pn (am_st k (.ref q) 0 lv) r M
  | .iinc k n => am_gi lv k fun x => K pn (am_st k (.int (x + Int32.ofInt n)) 0 lv) st M
  | .iadd => am_i2 st fun x y r => K pn lv (.int (x + y) :: r) M
  | .isub => am_i2 st fun x y r => K pn lv (.int (x - y) :: r) M
  | .imul => am_i2 st fun x y r => K pn lv (.int (x * y) :: r) M
  | .iand => am_i2 st fun x y r => K pn lv (.int (x &&& y) :: r) M
  | .ior => am_i2 st fun x y r => K pn lv (.int (x ||| y) :: r) M
  | .ixor => am_i2 st fun x y r => K pn lv (.int (x ^^^ y) :: r) M
  | .idiv => am_i2 st fun x y r => ¬ y = 0 ∧ K pn lv (.int (x / y) :: r) M
  | .irem => am_i2 st fun x y r => ¬ y = 0 ∧ K pn lv (.int (x - x / y * y) :: r) M
  | .ineg => am_i1 st fun x r => K pn lv (.int (-x) :: r) M
  | .ishl => am_i2 st fun x y r => K pn lv (.int (x <<< (y &&& 31)) :: r) M
  | .ishr => am_i2 st fun x y r => K pn lv (.int (x >>> (y &&& 31)) :: r) M
  | .iushr => am_i2 st fun x y r => K pn lv (.int (x.toUInt32 >>> (y.toUInt32 &&& Int32.toUInt32 31)).toInt32 :: r) M
  | .ladd => am_l2 st fun x y r => K pn lv (.long (x + y) :: r) M
  | .lsub => am_l2 st fun x y r => K pn lv (.long (x - y) :: r) M
  | .lmul => am_l2 st fun x y r => K pn lv (.long (x * y) :: r) M
  | .land => am_l2 st fun x y r => K pn lv (.long (x &&& y) :: r) M
  | .lor => am_l2 st fun x y r => K pn lv (.long (x ||| y) :: r) M
  | .ldiv => am_l2 st fun x y r => ¬ y = 0 ∧ K pn lv (.long (x / y) :: r) M
  | .lrem => am_l2 st fun x y r => ¬ y = 0 ∧ K pn lv (.long (x - x / y * y) :: r) M
  | .lshl => am_li st fun x y r => K pn lv (.long (x <<< (y.toInt64 &&& 63)) :: r) M
  | .lcmp => am_l2 st fun x y r => K pn lv (.int (lg_cmp x y) :: r) M
  | .i2l => am_i1 st fun x r => K pn lv (.long x.toInt64 :: r) M
  | .l2i => am_l1 st fun x r => K pn lv (.int x.toInt32 :: r) M
  | .i2b => am_i1 st fun x r => K pn lv (.int x.toInt8.toInt32 :: r) M
  | .i2s => am_i1 st fun x r => K pn lv (.int x.toInt16.toInt32 :: r) M
  | .dup => match st with
    | v :: r => v.category = 1 ∧ K pn lv (v :: v :: r) M
    | _ => False
  | .dup2 => match st with
    | v :: w :: r => v.category = 1 ∧ w.category = 1 ∧ K pn lv (v :: w :: v :: w :: r) M
    | _ => False
  | .ifCond c t => am_i1 st fun x r => (am_cnd c x 0 → K t.toNat lv r M) ∧ (¬ am_cnd c x 0 → K pn lv r M)
  | .if_icmp c t => am_i2 st fun x y r => (am_cnd c x y → K t.toNat lv r M) ∧ (¬ am_cnd c x y → K pn lv r M)
  | .goto t => K t.toNat lv st M
  | .tableswitch d lo hi offs => am_i1 st fun x r => K (if x.toInt < lo ∨ hi < x.toInt then d else offs.toList.getD (x.toInt - lo).toNat 0).toNat lv r M
  | .lookupswitch d ps => am_i1 st fun x r => K (am_sw ps.toList d x.toInt).toNat lv r M
  | .getfield e => am_r1 st fun q r => am_shp q = (3, e / 64) ∧ q < am_K ∧ K pn lv (am_fv q (e % 64) M :: r) M
  | .putfield e => am_ipr st fun q x r => am_shp q = (3, e / 64) ∧ q < am_K ∧ am_rt q (e % 64) = 0 ∧ (am_tyq (e / 64) (e % 64) = .boolean → x = 0 ∨ x = 1) ∧ K pn lv r (am_upI M q (e % 64) x)
  | .getstatic e => K pn lv (.ref e :: st) M
  | .iaload => am_ri st fun q i r => am_i4 am_K q i sL xs M fun x => K pn lv (.int x :: r) M
  | .laload => am_ri st fun q i r => (am_shp q).1 = 1 ∧ q < am_K ∧ vp_in i (am_shp q).2 ∧ K pn lv (.long (M.2 q i.toNatClampNeg) :: r) M
  | .aaload => am_ri st fun q i r => ((am_shp q).1 = 2 ∨ (am_shp q).1 = 4) ∧ q < am_K ∧ vp_in i (am_shp q).2 ∧ K pn lv (.ref (am_rb q + i.toNatClampNeg) :: r) M
  | .iastore => am_rii st fun q i x r => (am_shp q).1 = 0 ∧ q < am_K ∧ vp_in i (am_shp q).2 ∧ K pn lv r (am_upI M q i.toNatClampNeg x)
  | .lastore => am_ril st fun q i x r => (am_shp q).1 = 1 ∧ q < am_K ∧ vp_in i (am_shp q).2 ∧ K pn lv r (am_upL M q i.toNatClampNeg x)
  | .arraylength => am_r1 st fun q r => if q = 900 then K pn lv (.int (Int32.ofNat sL) :: r) M else (am_shp q).1 = 0 ∧ q < am_K ∧ K pn lv (.int (Int32.ofNat (am_shp q).2) :: r) M
  | .invokevirtual j => match st.drop (mt j).2.2.2.2.2.2.1 with
    | .ref q :: r => am_shp q = (3, (mt j).1) ∧ q < am_K ∧ (mt j).2.2.2.2.2.2.1 ≤ st.length ∧ am_cat r ≤ 8 ∧ ∃ v M', C j (.ref q :: (st.take (mt j).2.2.2.2.2.2.1).reverse) M v M' ∧ K pn lv (v.toList ++ r) M'
    | _ => False
  | .invokestatic j => (mt j).2.2.2.2.2.2.1 ≤ st.length ∧ am_cat (st.drop (mt j).2.2.2.2.2.2.1) ≤ 8 ∧ ∃ v M', C j (st.take (mt j).2.2.2.2.2.2.1).reverse M v M' ∧ K pn lv (v.toList ++ st.drop (mt j).2.2.2.2.2.2.1) M'
  | .invokespecial 0 => am_i1 st fun x r => am_cat r ≤ 8 ∧ K pn lv (.int (if 0 ≤ x then x else 0 - x) :: r) M
  | .invokespecial 1 => am_i2 st fun x y r => am_cat r ≤ 8 ∧ K pn lv (.int (if y < x then y else x) :: r) M
  | .invokespecial 2 => am_i2 st fun x y r => am_cat r ≤ 8 ∧ K pn lv (.int (if x < y then y else x) :: r) M
  | .invokespecial 3 => am_l2 st fun x y r => am_cat r ≤ 8 ∧ K pn lv (.long (if y < x then y else x) :: r) M
  | .invokespecial 4 => am_acp st fun a0 sp a dp n r => (am_shp a0).1 = 1 ∧ a0 < am_K ∧ (am_shp a).1 = 1 ∧ a < am_K ∧ ¬ sp < 0 ∧ ¬ dp < 0 ∧ ¬ n < 0 ∧ sp.toNatClampNeg + n.toNatClampNeg ≤ (am_shp a0).2 ∧ dp.toNatClampNeg + n.toNatClampNeg ≤ (am_shp a).2 ∧ am_cat r ≤ 8 ∧ K pn lv r (am_cpL M a0 a sp.toNatClampNeg dp.toNatClampNeg n.toNatClampNeg)
  | .ireturn => match st with
    | [.int x] => (rt = 1 ∨ (rt = 2 ∧ (x = 0 ∨ x = 1))) ∧ rv = some (.int x) ∧ rM = M
    | _ => False
  | .lreturn => match st with
    | [.long x] => rt = 3 ∧ rv = some (.long x) ∧ rM = M
    | _ => False
  | .return_ => match st with
    | [] => rt = 0 ∧ rv = none ∧ rM = M
    | _ => False
  | _ => False
def am_run (mt : Nat → Am_m) (C : Am_C) (sL : Nat) (xs : Nat → Int32) (P : Nat → Option (Instr × Nat)) (rt : Nat) (rv : Option Value) (rM : Am_M) : Nat → Nat → List Value → List Value → Am_M → Prop
  | 0, _, _, _, _ => False
  | n + 1, pc, lv, st, M => match P pc with
    | none => False
    | some (i, len) => am_stp mt C sL xs rt rv rM i (pc + len) lv st M (am_run mt C sL xs P rt rv rM n)
/-- a program: place, length, the step, the instruction as it is decoded, the place of the instruction's word -/
abbrev Am_p : Type := List (Nat × Nat × Instr × Instr × Nat)
def am_lk (P : Am_p) (pc : Nat) : Option (Instr × Nat) := match P with
  | [] => none
  | e :: r => if pc = e.1 then some (e.2.2.1, e.2.1) else am_lk r pc
/-- the owner's name, the step against the instruction -/
def am_pair (o pc : Nat) (i r : Instr) (len w : Nat) : Bool :=
  match i with
  | .iconst b => match r with
    | .iconst a => decide (a = b) && decide (len = 1)
    | .bipush a => decide (len = 2) && decide ((Int8.ofInt a).toInt32 = Int32.ofInt b)
    | .sipush a => decide (len = 3) && decide ((Int16.ofInt a).toInt32 = Int32.ofInt b)
    | .ldc k => decide (len = 2) && am_wq w (3, o, k, (b % 4294967296).toNat) && decide (Int32.ofNat (b % 4294967296).toNat = Int32.ofInt b)
    | .ldc_w k => decide (len = 3) && am_wq w (3, o, k, (b % 4294967296).toNat) && decide (Int32.ofNat (b % 4294967296).toNat = Int32.ofInt b)
    | _ => false
  | .ldc2_w b => match r with
    | .lconst a => decide (len = 1) && decide (Int64.ofNat (a : Nat) = Int64.ofNat b)
    | .ldc2_w k => decide (len = 3) && am_wq w (4, o, k, b)
    | _ => false
  | .iload b => (match r with | .iload_n a => decide ((a : Nat) = b) && decide (len = 1) | .iload a => decide (a = b) && decide (len = 2) | _ => false)
  | .lload b => (match r with | .lload_n a => decide ((a : Nat) = b) && decide (len = 1) | .lload a => decide (a = b) && decide (len = 2) | _ => false)
  | .aload b => (match r with | .aload_n a => decide ((a : Nat) = b) && decide (len = 1) | .aload a => decide (a = b) && decide (len = 2) | _ => false)
  | .istore b => (match r with | .istore_n a => decide ((a : Nat) = b) && decide (len = 1) | .istore a => decide (a = b) && decide (len = 2) | _ => false)
  | .lstore b => (match r with | .lstore_n a => decide ((a : Nat) = b) && decide (len = 1) | .lstore a => decide (a = b) && decide (len = 2) | _ => false)
  | .astore b => (match r with | .astore_n a => decide ((a : Nat) = b) && decide (len = 1) | .astore a => decide (a = b) && decide (len = 2) | _ => false)
  | .iinc k n => decide (r = .iinc k n) && decide (len = 3)
  | .ifCond c t => (match r with | .ifCond c' o => decide (c = c') && decide (len = 3) && decide ((pc : Int) + o = t) && decide (0 ≤ t) | _ => false)
  | .if_icmp c t => (match r with | .if_icmp c' o => decide (c = c') && decide (len = 3) && decide ((pc : Int) + o = t) && decide (0 ≤ t) | _ => false)
  | .goto t => (match r with | .goto o => decide (len = 3) && decide ((pc : Int) + o = t) && decide (0 ≤ t) | _ => false)
  | .tableswitch d lo hi offs => (match r with | .tableswitch d' lo' hi' offs' => decide (lo = lo') && decide (hi = hi') && decide ((pc : Int) + d' = d) && decide (0 ≤ d) && decide (offs.toList = offs'.toList.map (fun o => (pc : Int) + o)) && offs.toList.all (fun o => decide (0 ≤ o)) && decide ((offs'.toList.length : Int) = hi - lo + 1) | _ => false)
  | .lookupswitch d ps => (match r with | .lookupswitch d' ps' => decide ((pc : Int) + d' = d) && decide (0 ≤ d) && decide (ps.toList = ps'.toList.map (fun q => (q.1, (pc : Int) + q.2))) && ps.toList.all (fun q => decide (0 ≤ q.2)) && (ps'.toList.zip (ps'.toList.drop 1)).all (fun (a, next) => a.1 < next.1) | _ => false)
  | .getfield e => (match r with | .getfield k => decide (len = 3) && decide (e / 64 < 12) && decide (e % 64 < am_nf (e / 64)) && am_wq w (0, o, k, e) | _ => false)
  | .putfield e => (match r with | .putfield k => decide (len = 3) && decide (e / 64 < 12) && decide (e % 64 < am_nf (e / 64)) && decide ((am_T (e / 64) (e % 64)).2.2.2 = false) && am_iz e && am_wq w (0, o, k, e) | _ => false)
  | .getstatic e => (match r with | .getstatic k => decide (len = 3) && ((decide (e = 901) && am_wq w (10, o, k, 0)) || (decide (e = 902) && am_wq w (10, o, k, 1))) | _ => false)
  | .invokevirtual j => (match r with | .invokevirtual k => decide (len = 3) && decide ((am_mt j).2.2.2.2.2.1 = false) && am_wq w (1, o, k, j) | _ => false)
  | .invokestatic j => (match r with | .invokestatic k => decide (len = 3) && decide ((am_mt j).2.2.2.2.2.1 = true) && am_wq w (1, o, k, j) | _ => false)
  | .invokespecial t => (match r with | .invokestatic k => decide (len = 3) && am_wq w (2, o, k, t) | _ => false)
  | .iadd => decide (r = .iadd) && decide (len = 1)
  | .isub => decide (r = .isub) && decide (len = 1)
  | .imul => decide (r = .imul) && decide (len = 1)
  | .iand => decide (r = .iand) && decide (len = 1)
  | .ior => decide (r = .ior) && decide (len = 1)
  | .ixor => decide (r = .ixor) && decide (len = 1)
  | .idiv => decide (r = .idiv) && decide (len = 1)
  | .irem => decide (r = .irem) && decide (len = 1)
  | .ineg => decide (r = .ineg) && decide (len = 1)
  | .ishl => decide (r = .ishl) && decide (len = 1)
  | .ishr => decide (r = .ishr) && decide (len = 1)
  | .iushr => decide (r = .iushr) && decide (len = 1)
  | .ladd => decide (r = .ladd) && decide (len = 1)
  | .lsub => decide (r = .lsub) && decide (len = 1)
  | .lmul => decide (r = .lmul) && decide (len = 1)
  | .land => decide (r = .land) && decide (len = 1)
  | .lor => decide (r = .lor) && decide (len = 1)
  | .ldiv => decide (r = .ldiv) && decide (len = 1)
  | .lrem => decide (r = .lrem) && decide (len = 1)
  | .lshl => decide (r = .lshl) && decide (len = 1)
  | .lcmp => decide (r = .lcmp) && decide (len = 1)
  | .i2l => decide (r = .i2l) && decide (len = 1)
  | .l2i => decide (r = .l2i) && decide (len = 1)
  | .i2b => decide (r = .i2b) && decide (len = 1)
  | .i2s => decide (r = .i2s) && decide (len = 1)
  | .dup => decide (r = .dup) && decide (len = 1)
  | .dup2 => decide (r = .dup2) && decide (len = 1)
  | .iaload => decide (r = .iaload) && decide (len = 1)
  | .laload => decide (r = .laload) && decide (len = 1)
  | .aaload => decide (r = .aaload) && decide (len = 1)
  | .iastore => decide (r = .iastore) && decide (len = 1)
  | .lastore => decide (r = .lastore) && decide (len = 1)
  | .arraylength => decide (r = .arraylength) && decide (len = 1)
  | .ireturn => decide (r = .ireturn) && decide (len = 1)
  | .lreturn => decide (r = .lreturn) && decide (len = 1)
  | .return_ => decide (r = .return_) && decide (len = 1)
  | _ => false
def am_chk (o : Nat) (cc : ByteArray) (P : Am_p) : Bool := P.all fun e => decide (decode cc e.1 = .ok (e.2.2.2.1, e.2.1)) && am_pair o e.1 e.2.2.1 e.2.2.2.1 e.2.1 e.2.2.2.2
theorem am_chk_at {o : Nat} {cc : ByteArray} : ∀ {P : Am_p}, am_chk o cc P = true → ∀ {pc : Nat} {i : Instr} {len : Nat}, am_lk P pc = some (i, len) → ∃ (r : Instr) (w : Nat), decode cc pc = .ok (r, len) ∧ am_pair o pc i r len w = true
  | [], _, pc, i, len, h => by simp [am_lk] at h
  | e :: P, hc, pc, i, len, h => by
    have hc' : (decide (decode cc e.1 = .ok (e.2.2.2.1, e.2.1)) && am_pair o e.1 e.2.2.1 e.2.2.2.1 e.2.1 e.2.2.2.2) = true ∧ am_chk o cc P = true := by
      have := hc
      unfold am_chk at this
      rw [List.all_cons, Bool.and_eq_true] at this
      exact this
    unfold am_lk at h
    by_cases e1 : pc = e.1
    · rw [if_pos e1] at h
      cases h
      have h2 := hc'.1
      rw [Bool.and_eq_true, decide_eq_true_eq] at h2
      subst e1
      exact ⟨_, _, h2.1, h2.2⟩
    · rw [if_neg e1] at h
      exact am_chk_at hc'.2 h
end
section
/-! the JVM does what the abstract machine does: one step -/
theorem am_lays : ∀ ci, ci < 12 → ∀ w ∈ u_ws (am_R ci) (am_T ci) (am_nf ci), w ∈ am_TB := by
  intro ci hci w hw
  obtain ⟨k, hk, rfl⟩ := List.mem_map.mp hw
  have h : ∀ ci, ci < 12 → ∀ k, k < am_nf ci → am_WC.any (fun e => decide (e = (11, ci, k, 0))) = true := by decide +kernel
  obtain ⟨e, he, h2⟩ := List.any_eq_true.mp (h ci hci k (List.mem_range.mp hk))
  rw [of_decide_eq_true h2] at he
  exact List.mem_map.mpr ⟨(11, ci, k, 0), he, rfl⟩
theorem am_ty_ok : ∀ ci, ci < 12 → ∀ k, k < am_nf ci → parseFieldDescriptor (am_T ci k).2.2.1 = some (am_tyq ci k) := by decide +kernel
theorem am_nm_ok : ∀ ci, ci < 12 → ∀ a, a < am_nf ci → ∀ b, b < am_nf ci → a ≠ b → (am_T ci a).2.1 ≠ (am_T ci b).2.1 := by
  intro ci hci
  rcases (show ci = 0 ∨ ci = 1 ∨ ci = 2 ∨ ci = 3 ∨ ci = 4 ∨ ci = 5 ∨ ci = 6 ∨ ci = 7 ∨ ci = 8 ∨ ci = 9 ∨ ci = 10 ∨ ci = 11 by omega) with rfl | rfl | rfl | rfl | rfl | rfl | rfl | rfl | rfl | rfl | rfl | rfl
  · exact nmX0
  · exact nmX1
  · exact nmX2
  · exact nmX3
  · exact nmX4
  · exact nmX5
  · exact nmX6
  · exact nmX7
  · exact nmX8
  · exact nmX9
  · exact nmX10
  · exact nmX11
theorem am_wm {e : Nat × Nat × Nat × Nat} (h : e ∈ am_WC) : am_word e ∈ am_TB := List.mem_map_of_mem h
theorem am_math : (Cond.static Lib.Math.abs.name ∈ am_TB ∧ Cond.static Lib.Math.min.name ∈ am_TB ∧ Cond.static Lib.Math.max.name ∈ am_TB ∧ Cond.static Lib.MathLoose.min_long.x ∈ am_TB ∧ Cond.static arraycopyName ∈ am_TB) ∧ Cond.native arraycopyName ∈ am_TB ∧ Cond.initialized "java/lang/Math" ∈ am_TB ∧ Cond.initialized "java/lang/System" ∈ am_TB :=
  ⟨⟨am_wm (e := (12, 0, 0, 0)) (by decide +kernel), am_wm (e := (12, 1, 0, 0)) (by decide +kernel), am_wm (e := (12, 2, 0, 0)) (by decide +kernel), am_wm (e := (12, 3, 0, 0)) (by decide +kernel), am_wm (e := (12, 4, 0, 0)) (by decide +kernel)⟩, am_wm (e := (13, 0, 0, 0)) (by decide +kernel), am_wm (e := (8, 13, 0, 0)) (by decide +kernel), am_wm (e := (8, 16, 0, 0)) (by decide +kernel)⟩
theorem am_mcode : Cond.code Lib.Math.abs.name Lib.Math.abs.code 1 (some .int) ∈ am_TB ∧ Cond.code Lib.Math.min.name Lib.Math.min.code 2 (some .int) ∈ am_TB ∧ Cond.code Lib.Math.max.name Lib.Math.max.code 2 (some .int) ∈ am_TB ∧ Cond.code Lib.MathLoose.min_long.x Lib.MathLoose.min_long.code 4 (some .long) ∈ am_TB :=
  ⟨am_wm (e := (15, 0, 0, 0)) (by decide +kernel), am_wm (e := (15, 1, 0, 0)) (by decide +kernel), am_wm (e := (15, 2, 0, 0)) (by decide +kernel), am_wm (e := (15, 3, 0, 0)) (by decide +kernel)⟩
theorem am_sw_eq (d x : Int) : ∀ ps : List (Int × Int), Op.lookupswitch.offset ps d x = am_sw ps d x
  | [] => rfl
  | (a, o) :: r => by
    rw [Op.lookupswitch.offset_cons, am_sw_eq d x r]
    simp only [am_sw, eq_comm]
theorem am_sw_shift (c d x : Int) : ∀ ps : List (Int × Int), am_sw (ps.map (fun q => (q.1, c + q.2))) (c + d) x = c + am_sw ps d x
  | [] => rfl
  | (a, o) :: r => by
    simp only [List.map_cons, am_sw]
    split
    · rfl
    · exact am_sw_shift c d x r
theorem am_sw_pos {d x : Int} (hd : 0 ≤ d) : ∀ ps : List (Int × Int), (∀ q ∈ ps, 0 ≤ q.2) → 0 ≤ am_sw ps d x
  | [], _ => hd
  | (a, o) :: r, h => by
    simp only [am_sw]
    split
    · exact h (a, o) List.mem_cons_self
    · exact am_sw_pos hd r (fun q hq => h q (List.mem_cons_of_mem _ hq))
section SND
variable {p : Program} {l : Launch} {e : Env} {R : Room} {s : State} {m : MethodId} {args : Array Value} {below : List Frame} {meth : Method} {c : Code} {Q0 : State → Prop} {G : Am_G} {cells slots nL : Nat} {cc : ByteArray} {o : Nat}
/-- from this place of the abstract machine the JVM comes to Q0 -/
def am_V (p : Program) (l : Launch) (e : Env) (R : Room) (s : State) (m : MethodId) (args : Array Value) (below : List Frame) (meth : Method) (c : Code) (Q0 : State → Prop) (G : Am_G) (cells slots nL : Nat) (pc : Nat) (lv st : List Value) (M : Am_M) : Prop :=
  ∀ (H : Heap) (locs : List Loc) (ls : Array Slot), am_lv (am_ad G) ls nL lv → va_P (am_D G) vwCl (am_W G M) H → va_D (am_A G) (am_W G M) → va_S (am_A G) s.heap H locs → W p l e R s m args below meth c H locs cells slots Q0 (F0 m pc ls (st.map (am_cv (am_ad G))))
/-- what holds of a frame -/
def am_Fr (p : Program) (s : State) (m : MethodId) (args : Array Value) (c : Code) (cc : ByteArray) (o : Nat) (G : Am_G) (nL : Nat) : Prop :=
  p.tables.exec = Jvm.exec ∧ c.code = cc ∧ c.maxLocals = nL ∧ s.vm.findClass (am_own o) = some m.cls ∧ (∀ w ∈ am_TB, w.before args s = true) ∧ va_K (am_D G) vwCl (am_tys (am_cA G)) s ∧ am_St G s s.heap
def am_mok (j : Nat) : Prop :=
  ((am_mt j).2.2.2.2.2.1 = false → Cond.instanceMethod (am_mt j).2.1 ∈ am_TB ∧ Cond.selects (am_mt j).2.1.cls (am_mt j).2.1 (am_mt j).2.1 ∈ am_TB ∧ (am_mt j).1 < 12 ∧ (am_mt j).2.1.cls = am_R (am_mt j).1) ∧ ((am_mt j).2.2.2.2.2.1 = true → Cond.static (am_mt j).2.1 ∈ am_TB) ∧
  Cond.initialized (am_mt j).2.1.cls ∈ am_TB ∧ Cond.code (am_mt j).2.1 (am_mt j).2.2.1 (am_mt j).2.2.2.1 (am_mt j).2.2.2.2.1 ∈ am_TB ∧ ((am_mt j).2.1.cls ≠ "java/lang/invoke/MethodHandle" ∧ (am_mt j).2.1.cls ≠ "java/lang/invoke/VarHandle") ∧
  (parseMethodDescriptor (am_mt j).2.1.desc).map (fun d => d.parameters.length) = some (am_mt j).2.2.2.2.2.2.1 ∧ (am_mt j).2.2.2.1 ≤ 20 ∧ plainFor (am_mt j).2.1 = true
def am_wsm (j : Nat) : List Cond := Cond.code (am_mt j).2.1 (am_mt j).2.2.1 (am_mt j).2.2.2.1 (am_mt j).2.2.2.2.1 :: am_TB
theorem am_wsm_good {j : Nat} (h : am_mok j) : GoodIn am_TB (am_wsm j) := by
  intro w hw
  have hm : w ∈ am_TB := by
    rcases List.mem_cons.mp hw with e | e
    · rw [e]; exact h.2.2.2.1
    · exact e
  exact ⟨hm, Or.inl (am_TB_good w hm)⟩
def am_Qc (G : Am_G) (v : Option Value) (M' : Am_M) : Array Value → State → Outcome → State → Prop := fun _ st oc t => (oc = .returned (v.map (am_cv (am_ad G))) ∧ am_Wd G M' t) ∧ va_F (am_A G) st t
def am_Mt (l : Launch) (G : Am_G) (rm : Room) (j : Nat) (as : List Value) (M : Am_M) (v : Option Value) (M' : Am_M) : Prop :=
  Met l (am_mt j).2.1 (am_wsm j) rm (va_Pc (as.map (am_cv (am_ad G))) (am_Wd G M)) (am_Qc G v M') 0 0 (am_A G)
theorem am_callg {v0 : Option Value} {M' : Am_M} {a : Array Value} {H : Heap} {locs : List Loc} {pc : Nat} {ls : Array Slot} {st0 rest : List Value} (hr : va_Run p l e R s m args below meth c H locs cells slots 0 0 (F0 m pc ls st0) rest (am_Qc G v0 M' a) (am_A G)) (hS : va_S (am_A G) s.heap H locs)
    (kk : ∀ (H1 : Heap) (locs1 : List Loc), va_P (am_D G) vwCl (am_W G M') H1 → va_D (am_A G) (am_W G M') → va_S (am_A G) s.heap H1 locs1 → W p l e R s m args below meth c H1 locs1 cells slots Q0 (F0 m (pc + 3) ls ((v0.map (am_cv (am_ad G))).toList ++ rest))) : W p l e R s m args below meth c H locs cells slots Q0 (F0 m pc ls st0) := by
  intro T hT X
  obtain ⟨v, st₀, t, T', L, h0, X', hL, e1, e2, ⟨⟨hv, hP, -, hD, -⟩, hz, hk⟩, st⟩ := hr T hT X
  cases hv
  rw [h0] at hz hk
  obtain ⟨t2, a1, b1⟩ := kk T'.heap (locs ++ L) (by rw [e1]; exact hP) hD
    ⟨Nat.le_trans hS.1 (by rw [e1]; exact hz), fun q h1 h2 => by rw [e1, hk q (Nat.lt_of_lt_of_le h1 hS.1) h2]; exact hS.2.1 q h1 h2, fun q hq => by
      rcases List.mem_append.mp hq with h | h
      · exact hS.2.2 q h
      · exact hL q h⟩ T' rfl X'
  exact ⟨t2, st t2 a1, b1⟩
theorem am_Wd_blind {G : Am_G} {av : List Value} {M : Am_M} : FrameBlind (va_Pc av (am_Wd G M)) := fun _ U _ _ q => ⟨q.1, q.2.1, va_K.moved (u := U) (Vm.Alike.refl U.vm) q.2.2.1, q.2.2.2.1, am_St.moved (u := U) (Vm.Alike.refl U.vm) q.2.2.2.2⟩
theorem am_Wd_at {M : Am_M} {H : Heap} {locs : List Loc} {U : State} (hK : va_K (am_D G) vwCl (am_tys (am_cA G)) s) (hSt : am_St G s s.heap) (hP : va_P (am_D G) vwCl (am_W G M) H) (hD : va_D (am_A G) (am_W G M)) (hS : va_S (am_A G) s.heap H locs) (hU : U.heap = H) (hW : s.WarmedH U.vm) : am_Wd G M U := by
  refine ⟨by rw [hU]; exact hP, va_K.moved hW.alike hK, hD, ?_⟩
  rw [hU]
  exact (hSt.moved hW.alike).kept hS.1 hS.2.1
theorem am_obj {q ci : Nat} {M : Am_M} (h : am_shp q = (3, ci)) (hq : q < am_K) : (am_W G M)[q]? = some (am_ad G q, .inr (ci, (List.range (am_nf ci)).map (fun k => am_cv (am_ad G) (am_fv q k M)))) := by
  have := am_ws_get (ad := am_ad G) (cA := am_cA G) (M := M) hq
  unfold am_e at this
  rw [h] at this
  exact this
theorem am_ari {q n : Nat} {M : Am_M} (h : am_shp q = (0, n)) (hq : q < am_K) : (am_W G M)[q]? = some (am_ad G q, .inl (am_cA G 0, n, .inl (M.1 q))) := by
  have := am_ws_get (ad := am_ad G) (cA := am_cA G) (M := M) hq
  unfold am_e at this
  rw [h] at this
  exact this
theorem am_arl {q n : Nat} {M : Am_M} (h : am_shp q = (1, n)) (hq : q < am_K) : (am_W G M)[q]? = some (am_ad G q, .inl (am_cA G 1, n, .inr (.inl (M.2 q)))) := by
  have := am_ws_get (ad := am_ad G) (cA := am_cA G) (M := M) hq
  unfold am_e at this
  rw [h] at this
  exact this
theorem am_arr2 {q n : Nat} {M : Am_M} (h : am_shp q = (2, n)) (hq : q < am_K) : (am_W G M)[q]? = some (am_ad G q, .inl (am_cA G 2, n, .inr (.inr (.inr (.inr (fun i => if i < n then some (am_ad G (am_rb q + i)) else none)))))) := by
  have := am_ws_get (ad := am_ad G) (cA := am_cA G) (M := M) hq
  unfold am_e at this
  rw [h] at this
  exact this
theorem am_arr4 {q n : Nat} {M : Am_M} (h : am_shp q = (4, n)) (hq : q < am_K) : (am_W G M)[q]? = some (am_ad G q, .inl (am_cA G 3, n, .inr (.inr (.inr (.inr (fun i => if i < n then some (am_ad G (am_rb q + i)) else none)))))) := by
  have := am_ws_get (ad := am_ad G) (cA := am_cA G) (M := M) hq
  unfold am_e at this
  rw [h] at this
  exact this
theorem am_shp_e {q a : Nat} (h : (am_shp q).1 = a) : am_shp q = (a, (am_shp q).2) := by rw [← h]
theorem am_W_putI {q n i : Nat} {x : Int32} {M : Am_M} (h : am_shp q = (0, n)) : (am_W G M).set q (am_ad G q, .inl (am_cA G 0, n, .inl (upd (M.1 q) i x))) = am_W G (am_upI M q i x) := by
  have h2 : am_e (am_ad G) (am_cA G) q (am_upI M q i x) = .inl (am_cA G 0, n, .inl (upd (M.1 q) i x)) := by
    unfold am_e
    rw [h]
    show (Sum.inl (am_cA G 0, n, .inl ((am_upI M q i x).1 q)) : va_E) = _
    congr 4
    funext j
    simp [am_upI, upd]
  rw [← h2]
  exact am_ws_set (fun k hk => ⟨by funext j; simp [am_upI, hk], rfl⟩)
theorem am_W_putL {q n i : Nat} {x : Int64} {M : Am_M} (h : am_shp q = (1, n)) : (am_W G M).set q (am_ad G q, .inl (am_cA G 1, n, .inr (.inl (vp_updL (M.2 q) i x)))) = am_W G (am_upL M q i x) := by
  have h2 : am_e (am_ad G) (am_cA G) q (am_upL M q i x) = .inl (am_cA G 1, n, .inr (.inl (vp_updL (M.2 q) i x))) := by
    unfold am_e
    rw [h]
    show (Sum.inl (am_cA G 1, n, .inr (.inl ((am_upL M q i x).2 q))) : va_E) = _
    congr 5
    funext j
    simp [am_upL, vp_updL]
  rw [← h2]
  exact am_ws_set (fun k hk => ⟨rfl, by funext j; simp [am_upL, hk]⟩)
theorem am_W_cpL {q n q0 sp dp k : Nat} {M : Am_M} (h : am_shp q = (1, n)) : (am_W G M).set q (am_ad G q, .inl (am_cA G 1, n, .inr (.inl (va_cpy (M.2 q0) (M.2 q) sp dp k)))) = am_W G (am_cpL M q0 q sp dp k) := by
  have h2 : am_e (am_ad G) (am_cA G) q (am_cpL M q0 q sp dp k) = .inl (am_cA G 1, n, .inr (.inl (va_cpy (M.2 q0) (M.2 q) sp dp k))) := by
    unfold am_e
    rw [h]
    show (Sum.inl (am_cA G 1, n, .inr (.inl ((am_cpL M q0 q sp dp k).2 q))) : va_E) = _
    simp [am_cpL]
  rw [← h2]
  exact am_ws_set (fun j hj => ⟨rfl, by simp [am_cpL, hj]⟩)
theorem am_W_putF {q ci f : Nat} {x : Int32} {M : Am_M} (h : am_shp q = (3, ci)) (hr : am_rt q f = 0) (hf : f < am_nf ci) : (am_W G M).set q (am_ad G q, .inr (ci, ((List.range (am_nf ci)).map (fun k => am_cv (am_ad G) (am_fv q k M))).set f (.int x))) = am_W G (am_upI M q f x) := by
  have h2 : am_e (am_ad G) (am_cA G) q (am_upI M q f x) = .inr (ci, ((List.range (am_nf ci)).map (fun k => am_cv (am_ad G) (am_fv q k M))).set f (.int x)) := by
    unfold am_e
    rw [h]
    show (Sum.inr (ci, (List.range (am_nf ci)).map (fun k => am_cv (am_ad G) (am_fv q k (am_upI M q f x)))) : va_E) = _
    congr 2
    apply List.ext_getElem?
    intro j
    by_cases hj : j < am_nf ci
    · by_cases e : j = f
      · subst e
        rw [List.getElem?_set_self (by simpa using hj)]
        simp [hj, am_fv, hr, am_upI, am_cv]
      · rw [List.getElem?_set_ne (Ne.symm e)]
        simp [hj, am_fv, am_upI, e]
    · rw [List.getElem?_eq_none (by simp; omega), List.getElem?_eq_none (by simp; omega)]
  rw [← h2]
  exact am_ws_set (fun k hk => ⟨by funext j; simp [am_upI, hk], rfl⟩)
theorem am_parse_I {ty : FieldType} {x : Int32} (h : ty = .int ∨ ty = .boolean) (hz : ty = .boolean → x = 0 ∨ x = 1) : narrow ty (.int x) = .int x ∧ fits ty (.int x) = true := by
  rcases h with rfl | rfl
  · exact ⟨rfl, rfl⟩
  · rcases hz rfl with rfl | rfl <;> exact ⟨by decide +kernel, by decide +kernel⟩
end SND
end
section
section STP
variable {p : Program} {l : Launch} {e : Env} {R : Room} {s : State} {m : MethodId} {args : Array Value} {below : List Frame} {meth : Method} {c : Code} {Q0 : State → Prop} {G : Am_G} {cells slots nL : Nat} {cc : ByteArray} {o : Nat}
/-- what stands at the end of a method -/
def am_fin (rt : Nat) (rv : Option Value) (i : Instr) (st : List Value) : Prop := match i with
  | .ireturn => ∃ x, st = [.int x] ∧ rv = some (.int x) ∧ (rt = 1 ∨ (rt = 2 ∧ (x = 0 ∨ x = 1)))
  | .lreturn => ∃ x, st = [.long x] ∧ rv = some (.long x) ∧ rt = 3
  | .return_ => st = [] ∧ rv = none ∧ rt = 0
  | _ => False
def am_Hfin (p : Program) (l : Launch) (e : Env) (R : Room) (s : State) (m : MethodId) (args : Array Value) (below : List Frame) (meth : Method) (c : Code) (cc : ByteArray) (Q0 : State → Prop) (G : Am_G) (cells slots : Nat) (rt : Nat) (rv : Option Value) (rM : Am_M) : Prop :=
  ∀ (H : Heap) (locs : List Loc) (ls : Array Slot) (pc : Nat) (i : Instr) (st : List Value), decode cc pc = .ok (i, 1) → am_fin rt rv i st → va_P (am_D G) vwCl (am_W G rM) H → va_D (am_A G) (am_W G rM) → va_S (am_A G) s.heap H locs → W p l e R s m args below meth c H locs cells slots Q0 (F0 m pc ls st)
set_option maxHeartbeats 4000000 in
set_option maxRecDepth 100000 in
theorem am_step {C : Am_C} {rm : Room} {rt : Nat} {rv : Option Value} {rM : Am_M} (F : am_Fr p s m args c cc o G nL)
    (hR : rm.cells = 0 ∧ rm.slots = 0 ∧ rm.frames + 1 ≤ R.frames ∧ 31 + 8 + rm.locals ≤ R.locals) (hcs : cells ≤ R.cells ∧ slots ≤ R.slots)
    (hC : ∀ j as M v M', C j as M v M' → am_mok j ∧ am_Mt l G rm j as M v M')
    (hfin : am_Hfin p l e R s m args below meth c cc Q0 G cells slots rt rv rM)
    {pc len w : Nat} {i r : Instr} (hd : decode cc pc = .ok (r, len)) (hp : am_pair o pc i r len w = true)
    {lv st : List Value} {M : Am_M} {K : Nat → List Value → List Value → Am_M → Prop}
    (ih : ∀ pc lv st M, K pc lv st M → am_V p l e R s m args below meth c Q0 G cells slots nL pc lv st M)
    (h : am_stp am_mt C (am_sL G) (am_xs G) rt rv rM i (pc + len) lv st M K) : am_V p l e R s m args below meth c Q0 G cells slots nL pc lv st M := by
  obtain ⟨hx, hb, hml, hown, hts, hK, hSt⟩ := F
  intro H locs ls hl hP hD hS
  have hml2 : c.maxLocals = ls.size := by rw [hml]; exact hl.2.1.symm
  have hfr1 : 1 ≤ R.frames := by omega
  have hcode0 : ∀ {x : Cond}, x ∈ am_TB → x.before args s = true := fun {x} h => hts x h
  cases i with
  | iconst b =>
    have h : K (pc + len) lv (.int (Int32.ofInt b) :: st) M := h
    unfold am_pair at hp
    dsimp only at hp
    split at hp
    · simp only [Bool.and_eq_true, decide_eq_true_eq] at hp
      obtain ⟨rfl, rfl⟩ := hp
      exact lv_iconst hx hb hd rfl (ih _ _ _ _ h H locs ls hl hP hD hS)
    · simp only [Bool.and_eq_true, decide_eq_true_eq] at hp
      obtain ⟨rfl, e2⟩ := hp
      exact lv_bipush hx hb hd e2 (ih _ _ _ _ h H locs ls hl hP hD hS)
    · simp only [Bool.and_eq_true, decide_eq_true_eq] at hp
      obtain ⟨rfl, e2⟩ := hp
      exact lv_sipush hx hb hd e2 (ih _ _ _ _ h H locs ls hl hP hD hS)
    · simp only [Bool.and_eq_true, decide_eq_true_eq] at hp
      obtain ⟨⟨rfl, e2⟩, e3⟩ := hp
      have e2 := am_wd_in e2
      simp only [am_word, e3] at e2
      exact lv_ldc hx hb hown (hcode0 e2) hd (ih _ _ _ _ h H locs ls hl hP hD hS)
    · simp only [Bool.and_eq_true, decide_eq_true_eq] at hp
      obtain ⟨⟨rfl, e2⟩, e3⟩ := hp
      have e2 := am_wd_in e2
      simp only [am_word, e3] at e2
      exact lv_ldcw hx hb hown (hcode0 e2) hd (ih _ _ _ _ h H locs ls hl hP hD hS)
    · cases hp
  | ldc2_w b =>
    have h : K (pc + len) lv (.long (Int64.ofNat b) :: st) M := h
    unfold am_pair at hp
    dsimp only at hp
    split at hp
    · simp only [Bool.and_eq_true, decide_eq_true_eq] at hp
      obtain ⟨rfl, e2⟩ := hp
      exact lv_lconst hx hb hd e2 (ih _ _ _ _ h H locs ls hl hP hD hS)
    · simp only [Bool.and_eq_true, decide_eq_true_eq] at hp
      obtain ⟨rfl, e2⟩ := hp
      exact lv_ldc2 hx hb hown (hcode0 (am_wd_in e2)) hd (ih _ _ _ _ h H locs ls hl hP hD hS)
    · cases hp
  | iload b =>
    replace h := am_gi_e h
    obtain ⟨x, hk, h⟩ := h
    have hv := am_lv_at hl hk (by intro q; cases q)
    unfold am_pair at hp
    dsimp only at hp
    split at hp
    · simp only [Bool.and_eq_true, decide_eq_true_eq] at hp
      obtain ⟨e1, rfl⟩ := hp
      exact lv_iload_n hx hb hd e1 hv (ih _ _ _ _ h H locs ls hl hP hD hS)
    · simp only [Bool.and_eq_true, decide_eq_true_eq] at hp
      obtain ⟨rfl, rfl⟩ := hp
      exact lv_iload hx hb hd hv (ih _ _ _ _ h H locs ls hl hP hD hS)
    · cases hp
  | lload b =>
    replace h := am_gl_e h
    obtain ⟨x, hk, h⟩ := h
    have hv := am_lv_at hl hk (by intro q; cases q)
    unfold am_pair at hp
    dsimp only at hp
    split at hp
    · simp only [Bool.and_eq_true, decide_eq_true_eq] at hp
      obtain ⟨e1, rfl⟩ := hp
      exact lv_lload_n hx hb hd e1 hv (ih _ _ _ _ h H locs ls hl hP hD hS)
    · simp only [Bool.and_eq_true, decide_eq_true_eq] at hp
      obtain ⟨rfl, rfl⟩ := hp
      exact lv_lload hx hb hd hv (ih _ _ _ _ h H locs ls hl hP hD hS)
    · cases hp
  | aload b =>
    replace h := am_gr_e h
    obtain ⟨x, hk, h⟩ := h
    have hv := am_lv_at hl hk (by intro q; cases q)
    unfold am_pair at hp
    dsimp only at hp
    split at hp
    · simp only [Bool.and_eq_true, decide_eq_true_eq] at hp
      obtain ⟨e1, rfl⟩ := hp
      exact lv_aload_n hx hb hd e1 hv (ih _ _ _ _ h H locs ls hl hP hD hS)
    · simp only [Bool.and_eq_true, decide_eq_true_eq] at hp
      obtain ⟨rfl, rfl⟩ := hp
      exact lv_aload hx hb hd hv (ih _ _ _ _ h H locs ls hl hP hD hS)
    · cases hp
  | istore b =>
    replace h := am_i1_e h
    obtain ⟨x, r2, rfl, hlt, h⟩ := h
    rw [hl.1] at hlt
    unfold am_pair at hp
    dsimp only at hp
    split at hp
    · simp only [Bool.and_eq_true, decide_eq_true_eq] at hp
      obtain ⟨e1, rfl⟩ := hp
      exact lv_istore_n hx hb hd e1 hl.2 hlt rfl (fun ls' hl' => ih _ _ _ _ h H locs ls' (am_lv_set hl.1 hl' (am_in1 (by intro q; cases q) rfl)) hP hD hS)
    · simp only [Bool.and_eq_true, decide_eq_true_eq] at hp
      obtain ⟨rfl, rfl⟩ := hp
      exact lv_istore hx hb hd hl.2 hlt rfl (fun ls' hl' => ih _ _ _ _ h H locs ls' (am_lv_set hl.1 hl' (am_in1 (by intro q; cases q) rfl)) hP hD hS)
    · cases hp
  | lstore b =>
    replace h := am_l1_e h
    obtain ⟨x, r2, rfl, hlt, h⟩ := h
    rw [hl.1] at hlt
    unfold am_pair at hp
    dsimp only at hp
    split at hp
    · simp only [Bool.and_eq_true, decide_eq_true_eq] at hp
      obtain ⟨e1, rfl⟩ := hp
      exact lv_lstore_n hx hb hd e1 hl.2 hlt rfl (fun ls' hl' => ih _ _ _ _ h H locs ls' (am_lv_set hl.1 hl' (am_in2 (by intro q; cases q) rfl)) hP hD hS)
    · simp only [Bool.and_eq_true, decide_eq_true_eq] at hp
      obtain ⟨rfl, rfl⟩ := hp
      exact lv_lstore hx hb hd hl.2 hlt rfl (fun ls' hl' => ih _ _ _ _ h H locs ls' (am_lv_set hl.1 hl' (am_in2 (by intro q; cases q) rfl)) hP hD hS)
    · cases hp
  | astore b =>
    replace h := am_r1_e h
    obtain ⟨x, r2, rfl, hlt, h⟩ := h
    rw [hl.1] at hlt
    unfold am_pair at hp
    dsimp only at hp
    split at hp
    · simp only [Bool.and_eq_true, decide_eq_true_eq] at hp
      obtain ⟨e1, rfl⟩ := hp
      exact lv_astore_n hx hb hd e1 hl.2 hlt rfl (fun ls' hl' => ih _ _ _ _ h H locs ls' (am_lv_set hl.1 hl' (am_in1 (by intro q; cases q) rfl)) hP hD hS)
    · simp only [Bool.and_eq_true, decide_eq_true_eq] at hp
      obtain ⟨rfl, rfl⟩ := hp
      exact lv_astore hx hb hd hl.2 hlt rfl (fun ls' hl' => ih _ _ _ _ h H locs ls' (am_lv_set hl.1 hl' (am_in1 (by intro q; cases q) rfl)) hP hD hS)
    · cases hp
  | iinc b n =>
    replace h := am_gi_e h
    obtain ⟨x, hk, h⟩ := h
    simp only [am_pair, Bool.and_eq_true, decide_eq_true_eq] at hp
    obtain ⟨rfl, rfl⟩ := hp
    have hm := (am_prs_mem (ad := am_ad G) lv 0).mpr ⟨b, .int x, hk, (by intro q; cases q), rfl⟩
    rw [Nat.zero_add] at hm
    obtain ⟨k, hk2⟩ := List.getElem?_of_mem hm
    have hlt : b < nL := by rw [← hl.1]; exact (List.getElem?_eq_some_iff.mp hk).1
    exact lv_iinc hx hb hd hl.2 hk2 rfl hlt rfl (fun ls' hl' => ih _ _ _ _ h H locs ls' (am_lv_set hl.1 hl' (am_in1 (v := .int (x + Int32.ofInt n)) (by intro q; cases q) rfl)) hP hD hS)
  | iadd =>
    replace h := am_i2_e h
    obtain ⟨x, y, r2, rfl, h⟩ := h
    simp only [am_pair, Bool.and_eq_true, decide_eq_true_eq] at hp
    obtain ⟨rfl, rfl⟩ := hp
    exact lv_iadd hx hb hd (ih _ _ _ _ h H locs ls hl hP hD hS)
  | isub =>
    replace h := am_i2_e h
    obtain ⟨x, y, r2, rfl, h⟩ := h
    simp only [am_pair, Bool.and_eq_true, decide_eq_true_eq] at hp
    obtain ⟨rfl, rfl⟩ := hp
    exact lv_isub hx hb hd (ih _ _ _ _ h H locs ls hl hP hD hS)
  | imul =>
    replace h := am_i2_e h
    obtain ⟨x, y, r2, rfl, h⟩ := h
    simp only [am_pair, Bool.and_eq_true, decide_eq_true_eq] at hp
    obtain ⟨rfl, rfl⟩ := hp
    exact lv_imul hx hb hd (ih _ _ _ _ h H locs ls hl hP hD hS)
  | iand =>
    replace h := am_i2_e h
    obtain ⟨x, y, r2, rfl, h⟩ := h
    simp only [am_pair, Bool.and_eq_true, decide_eq_true_eq] at hp
    obtain ⟨rfl, rfl⟩ := hp
    exact lv_iand hx hb hd (ih _ _ _ _ h H locs ls hl hP hD hS)
  | ior =>
    replace h := am_i2_e h
    obtain ⟨x, y, r2, rfl, h⟩ := h
    simp only [am_pair, Bool.and_eq_true, decide_eq_true_eq] at hp
    obtain ⟨rfl, rfl⟩ := hp
    exact lv_ior hx hb hd (ih _ _ _ _ h H locs ls hl hP hD hS)
  | ixor =>
    replace h := am_i2_e h
    obtain ⟨x, y, r2, rfl, h⟩ := h
    simp only [am_pair, Bool.and_eq_true, decide_eq_true_eq] at hp
    obtain ⟨rfl, rfl⟩ := hp
    exact lv_ixor hx hb hd (ih _ _ _ _ h H locs ls hl hP hD hS)
  | idiv =>
    replace h := am_i2_e h
    obtain ⟨x, y, r2, rfl, h0, h⟩ := h
    simp only [am_pair, Bool.and_eq_true, decide_eq_true_eq] at hp
    obtain ⟨rfl, rfl⟩ := hp
    exact lv_idiv hx hb hd h0 (ih _ _ _ _ h H locs ls hl hP hD hS)
  | irem =>
    replace h := am_i2_e h
    obtain ⟨x, y, r2, rfl, h0, h⟩ := h
    simp only [am_pair, Bool.and_eq_true, decide_eq_true_eq] at hp
    obtain ⟨rfl, rfl⟩ := hp
    exact lv_irem hx hb hd h0 (ih _ _ _ _ h H locs ls hl hP hD hS)
  | ineg =>
    replace h := am_i1_e h
    obtain ⟨x, r2, rfl, h⟩ := h
    simp only [am_pair, Bool.and_eq_true, decide_eq_true_eq] at hp
    obtain ⟨rfl, rfl⟩ := hp
    exact lv_ineg hx hb hd (ih _ _ _ _ h H locs ls hl hP hD hS)
  | ishl =>
    replace h := am_i2_e h
    obtain ⟨x, y, r2, rfl, h⟩ := h
    simp only [am_pair, Bool.and_eq_true, decide_eq_true_eq] at hp
    obtain ⟨rfl, rfl⟩ := hp
    exact lv_ishl hx hb hd (ih _ _ _ _ h H locs ls hl hP hD hS)
  | ishr =>
    replace h := am_i2_e h
    obtain ⟨x, y, r2, rfl, h⟩ := h
    simp only [am_pair, Bool.and_eq_true, decide_eq_true_eq] at hp
    obtain ⟨rfl, rfl⟩ := hp
    exact lv_ishr hx hb hd (ih _ _ _ _ h H locs ls hl hP hD hS)
  | iushr =>
    replace h := am_i2_e h
    obtain ⟨x, y, r2, rfl, h⟩ := h
    simp only [am_pair, Bool.and_eq_true, decide_eq_true_eq] at hp
    obtain ⟨rfl, rfl⟩ := hp
    exact lv_iushr hx hb hd rfl (ih _ _ _ _ h H locs ls hl hP hD hS)
  | ladd =>
    replace h := am_l2_e h
    obtain ⟨x, y, r2, rfl, h⟩ := h
    simp only [am_pair, Bool.and_eq_true, decide_eq_true_eq] at hp
    obtain ⟨rfl, rfl⟩ := hp
    exact lv_ladd hx hb hd (ih _ _ _ _ h H locs ls hl hP hD hS)
  | lsub =>
    replace h := am_l2_e h
    obtain ⟨x, y, r2, rfl, h⟩ := h
    simp only [am_pair, Bool.and_eq_true, decide_eq_true_eq] at hp
    obtain ⟨rfl, rfl⟩ := hp
    exact lv_lsub hx hb hd (ih _ _ _ _ h H locs ls hl hP hD hS)
  | lmul =>
    replace h := am_l2_e h
    obtain ⟨x, y, r2, rfl, h⟩ := h
    simp only [am_pair, Bool.and_eq_true, decide_eq_true_eq] at hp
    obtain ⟨rfl, rfl⟩ := hp
    exact lv_lmul hx hb hd (ih _ _ _ _ h H locs ls hl hP hD hS)
  | land =>
    replace h := am_l2_e h
    obtain ⟨x, y, r2, rfl, h⟩ := h
    simp only [am_pair, Bool.and_eq_true, decide_eq_true_eq] at hp
    obtain ⟨rfl, rfl⟩ := hp
    exact lv_land hx hb hd (ih _ _ _ _ h H locs ls hl hP hD hS)
  | lor =>
    replace h := am_l2_e h
    obtain ⟨x, y, r2, rfl, h⟩ := h
    simp only [am_pair, Bool.and_eq_true, decide_eq_true_eq] at hp
    obtain ⟨rfl, rfl⟩ := hp
    exact lv_lor hx hb hd (ih _ _ _ _ h H locs ls hl hP hD hS)
  | ldiv =>
    replace h := am_l2_e h
    obtain ⟨x, y, r2, rfl, h0, h⟩ := h
    simp only [am_pair, Bool.and_eq_true, decide_eq_true_eq] at hp
    obtain ⟨rfl, rfl⟩ := hp
    exact lv_ldiv hx hb hd h0 (ih _ _ _ _ h H locs ls hl hP hD hS)
  | lrem =>
    replace h := am_l2_e h
    obtain ⟨x, y, r2, rfl, h0, h⟩ := h
    simp only [am_pair, Bool.and_eq_true, decide_eq_true_eq] at hp
    obtain ⟨rfl, rfl⟩ := hp
    exact lv_lrem hx hb hd h0 (ih _ _ _ _ h H locs ls hl hP hD hS)
  | lshl =>
    replace h := am_li_e h
    obtain ⟨x, y, r2, rfl, h⟩ := h
    simp only [am_pair, Bool.and_eq_true, decide_eq_true_eq] at hp
    obtain ⟨rfl, rfl⟩ := hp
    exact lv_lshl hx hb hd rfl (ih _ _ _ _ h H locs ls hl hP hD hS)
  | lcmp =>
    replace h := am_l2_e h
    obtain ⟨x, y, r2, rfl, h⟩ := h
    simp only [am_pair, Bool.and_eq_true, decide_eq_true_eq] at hp
    obtain ⟨rfl, rfl⟩ := hp
    exact W.lcmp hx hb hd (ih _ _ _ _ h H locs ls hl hP hD hS)
  | i2l =>
    replace h := am_i1_e h
    obtain ⟨x, r2, rfl, h⟩ := h
    simp only [am_pair, Bool.and_eq_true, decide_eq_true_eq] at hp
    obtain ⟨rfl, rfl⟩ := hp
    exact lv_i2l hx hb hd rfl (ih _ _ _ _ h H locs ls hl hP hD hS)
  | l2i =>
    replace h := am_l1_e h
    obtain ⟨x, r2, rfl, h⟩ := h
    simp only [am_pair, Bool.and_eq_true, decide_eq_true_eq] at hp
    obtain ⟨rfl, rfl⟩ := hp
    exact lv_l2i hx hb hd rfl (ih _ _ _ _ h H locs ls hl hP hD hS)
  | i2b =>
    replace h := am_i1_e h
    obtain ⟨x, r2, rfl, h⟩ := h
    simp only [am_pair, Bool.and_eq_true, decide_eq_true_eq] at hp
    obtain ⟨rfl, rfl⟩ := hp
    exact lv_i2b hx hb hd rfl (ih _ _ _ _ h H locs ls hl hP hD hS)
  | i2s =>
    replace h := am_i1_e h
    obtain ⟨x, r2, rfl, h⟩ := h
    simp only [am_pair, Bool.and_eq_true, decide_eq_true_eq] at hp
    obtain ⟨rfl, rfl⟩ := hp
    exact lv_i2s hx hb hd rfl (ih _ _ _ _ h H locs ls hl hP hD hS)
  | dup =>
    simp only [am_pair, Bool.and_eq_true, decide_eq_true_eq] at hp
    obtain ⟨rfl, rfl⟩ := hp
    unfold am_stp at h
    dsimp only at h
    split at h
    · exact lv_dup hx hb hd (by rw [am_cv_cat]; exact h.1) (ih _ _ _ _ h.2 H locs ls hl hP hD hS)
    · exact h.elim
  | dup2 =>
    simp only [am_pair, Bool.and_eq_true, decide_eq_true_eq] at hp
    obtain ⟨rfl, rfl⟩ := hp
    unfold am_stp at h
    dsimp only at h
    split at h
    · exact lv_dup2_11 hx hb hd (by rw [am_cv_cat]; exact h.1) (by rw [am_cv_cat]; exact h.2.1) (ih _ _ _ _ h.2.2 H locs ls hl hP hD hS)
    · exact h.elim
  | ifCond k t =>
    replace h := am_i1_e h
    obtain ⟨x, r2, rfl, h1, h2⟩ := h
    unfold am_pair at hp
    dsimp only at hp
    split at hp
    · rename_i c' o
      simp only [Bool.and_eq_true, decide_eq_true_eq] at hp
      obtain ⟨⟨⟨rfl, rfl⟩, ht⟩, h0⟩ := hp
      have ht : (pc : Int) + o = (t.toNat : Int) := by rw [ht]; omega
      have k1 : am_cnd k x 0 → W p l e R s m args below meth c H locs cells slots Q0 (F0 m t.toNat ls (r2.map (am_cv (am_ad G)))) := fun q => ih _ _ _ _ (h1 q) H locs ls hl hP hD hS
      have k2 : ¬ am_cnd k x 0 → W p l e R s m args below meth c H locs cells slots Q0 (F0 m (pc + 3) ls (r2.map (am_cv (am_ad G)))) := fun q => ih _ _ _ _ (h2 q) H locs ls hl hP hD hS
      cases k with
      | eq => exact lv_if_eq hx hb hd ht k1 k2
      | ne => exact lv_if_ne hx hb hd ht k1 (fun q => k2 (fun z => z q))
      | lt => exact lv_if_lt hx hb hd ht k1 k2
      | ge => exact lv_if_ge hx hb hd ht k1 k2
      | gt => exact lv_if_gt hx hb hd ht k1 k2
      | le => exact lv_if_le hx hb hd ht k1 k2
    · cases hp
  | if_icmp k t =>
    replace h := am_i2_e h
    obtain ⟨x, y, r2, rfl, h1, h2⟩ := h
    unfold am_pair at hp
    dsimp only at hp
    split at hp
    · rename_i c' o
      simp only [Bool.and_eq_true, decide_eq_true_eq] at hp
      obtain ⟨⟨⟨rfl, rfl⟩, ht⟩, h0⟩ := hp
      have ht : (pc : Int) + o = (t.toNat : Int) := by rw [ht]; omega
      have k1 : am_cnd k x y → W p l e R s m args below meth c H locs cells slots Q0 (F0 m t.toNat ls (r2.map (am_cv (am_ad G)))) := fun q => ih _ _ _ _ (h1 q) H locs ls hl hP hD hS
      have k2 : ¬ am_cnd k x y → W p l e R s m args below meth c H locs cells slots Q0 (F0 m (pc + 3) ls (r2.map (am_cv (am_ad G)))) := fun q => ih _ _ _ _ (h2 q) H locs ls hl hP hD hS
      cases k with
      | eq => exact lv_icmp_eq hx hb hd ht k1 k2
      | ne => exact lv_icmp_ne hx hb hd ht k1 (fun q => k2 (fun z => z q))
      | lt => exact lv_icmp_lt hx hb hd ht k1 k2
      | ge => exact lv_icmp_ge hx hb hd ht k1 k2
      | gt => exact lv_icmp_gt hx hb hd ht k1 k2
      | le => exact lv_icmp_le hx hb hd ht k1 k2
    · cases hp
  | goto t =>
    have h : K t.toNat lv st M := h
    unfold am_pair at hp
    dsimp only at hp
    split at hp
    · simp only [Bool.and_eq_true, decide_eq_true_eq] at hp
      obtain ⟨⟨rfl, ht⟩, h0⟩ := hp
      exact lv_goto hx hb hd (by rw [ht]; omega) (ih _ _ _ _ h H locs ls hl hP hD hS)
    · cases hp
  | tableswitch d lo hi offs =>
    replace h := am_i1_e h
    obtain ⟨x, r2, rfl, h⟩ := h
    unfold am_pair at hp
    dsimp only at hp
    split at hp
    · rename_i d' lo' hi' offs'
      simp only [Bool.and_eq_true, decide_eq_true_eq, List.all_eq_true] at hp
      obtain ⟨⟨⟨⟨⟨⟨rfl, rfl⟩, hd1⟩, hd0⟩, ho⟩, hpos⟩, hlen⟩ := hp
      by_cases ho1 : x.toInt < lo ∨ hi < x.toInt
      · rw [if_pos ho1] at h
        exact lv_tableOut hx hb hd ho1 (by rw [hd1]; omega) (ih _ _ _ _ h H locs ls hl hP hD hS)
      · rw [if_neg ho1] at h
        have hk : (x.toInt - lo).toNat < offs'.toList.length := by omega
        have e1 : offs.toList.getD (x.toInt - lo).toNat 0 = (pc : Int) + offs'.toList[(x.toInt - lo).toNat] := by
          rw [ho, List.getD_eq_getElem?_getD, List.getElem?_map, List.getElem?_eq_getElem hk]
          rfl
        have e0 : 0 ≤ offs.toList.getD (x.toInt - lo).toNat 0 := by
          have hm : offs.toList.getD (x.toInt - lo).toNat 0 ∈ offs.toList := by
            rw [List.getD_eq_getElem?_getD, List.getElem?_eq_getElem (show (x.toInt - lo).toNat < offs.toList.length by rw [ho, List.length_map]; exact hk)]
            exact List.getElem_mem _
          exact hpos _ hm
        exact lv_tableIn hx hb hd (fun q => ho1 (Or.inl q)) (fun q => ho1 (Or.inr q)) (off := offs'.toList[(x.toInt - lo).toNat]) (by rw [← Array.getElem?_toList, List.getElem?_eq_getElem hk]) (by rw [← e1]; omega) (ih _ _ _ _ h H locs ls hl hP hD hS)
    · cases hp
  | lookupswitch d ps =>
    replace h := am_i1_e h
    obtain ⟨x, r2, rfl, h⟩ := h
    unfold am_pair at hp
    dsimp only at hp
    split at hp
    · rename_i d' ps'
      simp only [Bool.and_eq_true, decide_eq_true_eq] at hp
      obtain ⟨⟨⟨⟨hd1, hd0⟩, ho⟩, hpos⟩, hinc⟩ := hp
      have hpos' : ∀ q ∈ ps.toList, 0 ≤ q.2 := fun q hq => of_decide_eq_true (List.all_eq_true.mp hpos q hq)
      have e1 : am_sw ps.toList d x.toInt = (pc : Int) + am_sw ps'.toList d' x.toInt := by rw [ho, ← hd1, am_sw_shift]
      have e0 := am_sw_pos (x := x.toInt) hd0 ps.toList hpos'
      exact lv_lookup hx hb hd hinc (am_sw_eq _ _ _) (by rw [← e1]; omega) (ih _ _ _ _ h H locs ls hl hP hD hS)
    · cases hp
  | getfield n =>
    replace h := am_r1_e h
    obtain ⟨q, r2, rfl, hq, hqK, h⟩ := h
    unfold am_pair at hp
    dsimp only at hp
    split at hp
    · simp only [Bool.and_eq_true, decide_eq_true_eq] at hp
      obtain ⟨⟨⟨rfl, hci⟩, hk⟩, hw⟩ := hp
      exact va_get (D := am_D G) hx hb hts (am_lays _ hci) hown hK hP q (am_obj hq hqK) (am_cl hci) (n % 64) hk (hcode0 (am_wd_in hw)) (fun _ z => z) (v := am_cv (am_ad G) (am_fv q (n % 64) M)) (by simp [hk]) hd (ih _ _ _ _ h H locs ls hl hP hD hS)
    · cases hp
  | putfield n =>
    replace h := am_ipr_e h
    obtain ⟨q, x, r2, rfl, hq, hqK, hr0, hz, h⟩ := h
    unfold am_pair at hp
    dsimp only at hp
    split at hp
    · simp only [Bool.and_eq_true, decide_eq_true_eq] at hp
      obtain ⟨⟨⟨⟨⟨rfl, hci⟩, hk⟩, hfi⟩, hty⟩, hw⟩ := hp
      obtain ⟨n1, n2⟩ := am_parse_I (am_iz_e hty) hz
      refine va_put (D := am_D G) (v := .int x) hx hb hts (am_lays _ hci) (am_tyq (n / 64)) (am_ty_ok _ hci) (am_nm_ok _ hci) hown hK hP hD hS q (am_obj hq hqK) (am_cl hci) (n % 64) hk (hcode0 (am_wd_in hw)) (fun _ z => z) hfi (am_ty_ok _ hci _ hk) n1 n2 (by simpa using hk) hd (fun H1 locs1 hP1 hD1 hS1 => ?_)
      rw [am_W_putF hq hr0 hk] at hP1 hD1
      exact ih _ _ _ _ h H1 locs1 ls hl hP1 hD1 hS1
    · cases hp
  | getstatic n =>
    have h : K (pc + len) lv (.ref n :: st) M := h
    unfold am_pair at hp
    dsimp only at hp
    split at hp
    · simp only [Bool.and_eq_true, Bool.or_eq_true, decide_eq_true_eq] at hp
      obtain ⟨rfl, hw⟩ := hp
      rcases hw with ⟨rfl, hw⟩ | ⟨rfl, hw⟩
      · exact va_gets hx hb hSt.1 hS hown (hcode0 (am_wd_in hw)) (fun _ z => z) hd (ih _ _ _ _ h H locs ls hl hP hD hS)
      · exact va_gets hx hb hSt.2.2.1 hS hown (hcode0 (am_wd_in hw)) (fun _ z => z) hd (ih _ _ _ _ h H locs ls hl hP hD hS)
    · cases hp
  | iaload =>
    replace h := am_ri_e h
    obtain ⟨q, i, r2, rfl, h⟩ := h
    simp only [am_pair, Bool.and_eq_true, decide_eq_true_eq] at hp
    obtain ⟨rfl, rfl⟩ := hp
    unfold am_i4 at h
    by_cases q1 : q = 900
    · subst q1
      rw [if_pos rfl] at h
      exact va_sld hx hb hSt.2.2.2.2.1 (Nat.lt_of_lt_of_le hSt.2.2.2.2.2.1 hSt.2.2.2.2.2.2) (Nat.not_le.mpr hSt.2.2.2.2.2.1) hS h.1 hd (ih _ _ _ _ h.2 H locs ls hl hP hD hS)
    · rw [if_neg q1] at h
      by_cases q2 : q = 901
      · subst q2
        rw [if_pos rfl] at h
        exact va_ti hx hb hSt.2.1 hS h.1 rfl hd (ih _ _ _ _ h.2 H locs ls hl hP hD hS)
      · rw [if_neg q2] at h
        by_cases q3 : q = 902
        · subst q3
          rw [if_pos rfl] at h
          exact va_ti hx hb hSt.2.2.2.1 hS h.1 rfl hd (ih _ _ _ _ h.2 H locs ls hl hP hD hS)
        · rw [if_neg q3] at h
          exact va_iald (D := am_D G) hx hb hK hP q 0 (am_ari (am_shp_e h.1) h.2.1) rfl h.2.2.1 hd (ih _ _ _ _ h.2.2.2 H locs ls hl hP hD hS)
  | laload =>
    replace h := am_ri_e h
    obtain ⟨q, i, r2, rfl, h1, h2, h3, h⟩ := h
    simp only [am_pair, Bool.and_eq_true, decide_eq_true_eq] at hp
    obtain ⟨rfl, rfl⟩ := hp
    exact va_lald (D := am_D G) hx hb hK hP q 1 (am_arl (am_shp_e h1) h2) rfl h3 hd (ih _ _ _ _ h H locs ls hl hP hD hS)
  | aaload =>
    replace h := am_ri_e h
    obtain ⟨q, i, r2, rfl, h1, h2, h3, h⟩ := h
    simp only [am_pair, Bool.and_eq_true, decide_eq_true_eq] at hp
    obtain ⟨rfl, rfl⟩ := hp
    have hlt : i.toNatClampNeg < (am_shp q).2 := Nat.not_le.mp fun z => h3 (Or.inr z)
    have k1 := ih _ _ _ _ h H locs ls hl hP hD hS
    rcases h1 with h1 | h1
    · exact W.aald (v := va_rf (if i.toNatClampNeg < (am_shp q).2 then some (am_ad G (am_rb q + i.toNatClampNeg)) else none)) (ty := .array .int) hx hb (hP q _ (am_arr2 (am_shp_e h1) h2)) ((hK.2 2 _ rfl).1 (am_shp q).2 (fun j => va_rf (if j < (am_shp q).2 then some (am_ad G (am_rb q + j)) else none))) rfl (fun z => by cases z) (by show ¬ (i < 0 ∨ (arrV _ _ _).slots.size ≤ _); rw [arrV_size]; exact h3) (by show (arrV _ _ _).slots[_]? = _; rw [arrV_read _ _ hlt]) rfl rfl hd (by rw [if_pos hlt]; exact k1)
    · exact W.aald (v := va_rf (if i.toNatClampNeg < (am_shp q).2 then some (am_ad G (am_rb q + i.toNatClampNeg)) else none)) (ty := .array .long) hx hb (hP q _ (am_arr4 (am_shp_e h1) h2)) ((hK.2 3 _ rfl).1 (am_shp q).2 (fun j => va_rf (if j < (am_shp q).2 then some (am_ad G (am_rb q + j)) else none))) rfl (fun z => by cases z) (by show ¬ (i < 0 ∨ (arrV _ _ _).slots.size ≤ _); rw [arrV_size]; exact h3) (by show (arrV _ _ _).slots[_]? = _; rw [arrV_read _ _ hlt]) rfl rfl hd (by rw [if_pos hlt]; exact k1)
  | iastore =>
    replace h := am_rii_e h
    obtain ⟨q, i, x, r2, rfl, h1, h2, h3, h⟩ := h
    simp only [am_pair, Bool.and_eq_true, decide_eq_true_eq] at hp
    obtain ⟨rfl, rfl⟩ := hp
    refine va_iast (D := am_D G) hx hb hK hP hD hS q 0 (am_ari (am_shp_e h1) h2) rfl h3 hd (fun H1 locs1 hP1 hD1 hS1 => ?_)
    rw [am_W_putI (am_shp_e h1)] at hP1 hD1
    exact ih _ _ _ _ h H1 locs1 ls hl hP1 hD1 hS1
  | lastore =>
    replace h := am_ril_e h
    obtain ⟨q, i, x, r2, rfl, h1, h2, h3, h⟩ := h
    simp only [am_pair, Bool.and_eq_true, decide_eq_true_eq] at hp
    obtain ⟨rfl, rfl⟩ := hp
    refine va_last (D := am_D G) hx hb hK hP hD hS q 1 (am_arl (am_shp_e h1) h2) rfl h3 hd (fun H1 locs1 hP1 hD1 hS1 => ?_)
    rw [am_W_putL (am_shp_e h1)] at hP1 hD1
    exact ih _ _ _ _ h H1 locs1 ls hl hP1 hD1 hS1
  | arraylength =>
    replace h := am_r1_e h
    obtain ⟨q, r2, rfl, h⟩ := h
    simp only [am_pair, Bool.and_eq_true, decide_eq_true_eq] at hp
    obtain ⟨rfl, rfl⟩ := hp
    by_cases q1 : q = 900
    · subst q1
      rw [if_pos rfl] at h
      exact va_slen hx hb hSt.2.2.2.2.1 (Nat.lt_of_lt_of_le hSt.2.2.2.2.2.1 hSt.2.2.2.2.2.2) (Nat.not_le.mpr hSt.2.2.2.2.2.1) hS hd (ih _ _ _ _ h H locs ls hl hP hD hS)
    · rw [if_neg q1] at h
      exact va_alen (D := am_D G) hx hb hK hP q 0 (am_ari (am_shp_e h.1) h.2.1) rfl rfl hd (ih _ _ _ _ h.2.2 H locs ls hl hP hD hS)
  | invokevirtual j =>
    unfold am_stp at h
    dsimp only at h
    split at h
    · rename_i q r2 hst
      obtain ⟨h1, h2, h3, h4, v, M', hCj, h⟩ := h
      unfold am_pair at hp
      dsimp only at hp
      split at hp
      · simp only [Bool.and_eq_true, decide_eq_true_eq] at hp
        obtain ⟨⟨rfl, hst0⟩, hw⟩ := hp
        obtain ⟨hok, hM⟩ := hC _ _ _ _ _ hCj
        obtain ⟨o1, o2, o3, o4, o5, o6, o7, o8⟩ := id hok
        obtain ⟨o11, o12, o13, o14⟩ := o1 hst0
        have hG := am_wsm_good hok
        have est : st = (st.take (am_mt j).2.2.2.2.2.2.1).reverse.reverse ++ .ref q :: r2 := by rw [List.reverse_reverse, ← hst, List.take_append_drop]
        have eM : (st.map (am_cv (am_ad G))) = (((st.take (am_mt j).2.2.2.2.2.2.1).reverse).map (am_cv (am_ad G))).reverse ++ .ref (am_ad G q) :: r2.map (am_cv (am_ad G)) := by
          conv => lhs; rw [est]
          simp [am_cv]
        rw [eM]
        refine am_callg (va_runV (C := am_R (am_mt j).1) (As := ((st.take (am_mt j).2.2.2.2.2.2.1).reverse).map (am_cv (am_ad G))) (rest := r2.map (am_cv (am_ad G))) ⟨hx, hb, hml, hown, hts⟩ hM ⟨callB_of (am_mt j).2.2.2.2.2.2.1 hts hG rfl hR.1 hR.2.1 (hcode0 o3) (hcode0 (am_wd_in hw)) ⟨o5.1, o5.2, o6⟩ ⟨hR.2.2.1, by omega⟩, hcode0 o11, by rw [← o14]; exact hcode0 o12⟩ ⟨am_Wd_blind, va_recv hK hP (am_cl o13) (am_obj h1 h2), fun U hU hW => ⟨rfl, am_Wd_at hK hSt hP hD hS hU hW⟩⟩ rfl (by simp; omega) hl.2.1 rfl (lv_room (by simp only [List.map_map]; have : ((fun v : Value => v.category) ∘ am_cv (am_ad G)) = fun v => v.category := funext fun v => am_cv_cat _ v; rw [this]; exact h4)) hd ⟨by omega, by omega⟩) hS (fun H1 locs1 hP1 hD1 hS1 => ?_)
        have k1 := ih _ _ _ _ h H1 locs1 ls hl hP1 hD1 hS1
        rw [List.map_append] at k1
        cases v <;> exact k1
      · cases hp
    · exact h.elim
  | invokestatic j =>
    obtain ⟨h3, h4, v, M', hCj, h⟩ := h
    unfold am_pair at hp
    dsimp only at hp
    split at hp
    · simp only [Bool.and_eq_true, decide_eq_true_eq] at hp
      obtain ⟨⟨rfl, hst0⟩, hw⟩ := hp
      obtain ⟨hok, hM⟩ := hC _ _ _ _ _ hCj
      obtain ⟨o1, o2, o3, o4, o5, o6, o7, o8⟩ := id hok
      have hG := am_wsm_good hok
      have eM : (st.map (am_cv (am_ad G))) = (((st.take (am_mt j).2.2.2.2.2.2.1).reverse).map (am_cv (am_ad G))).reverse ++ (st.drop (am_mt j).2.2.2.2.2.2.1).map (am_cv (am_ad G)) := by
        rw [List.map_reverse, List.reverse_reverse, ← List.map_append, List.take_append_drop]
      rw [eM]
      refine am_callg (va_runS (As := ((st.take (am_mt j).2.2.2.2.2.2.1).reverse).map (am_cv (am_ad G))) (rest := (st.drop (am_mt j).2.2.2.2.2.2.1).map (am_cv (am_ad G))) ⟨hx, hb, hml, hown, hts⟩ hM ⟨callB_of (am_mt j).2.2.2.2.2.2.1 hts hG rfl hR.1 hR.2.1 (hcode0 o3) (hcode0 (am_wd_in hw)) ⟨o5.1, o5.2, o6⟩ ⟨hR.2.2.1, by omega⟩, hcode0 (o2 hst0)⟩ ⟨am_Wd_blind, fun U hU hW => ⟨rfl, am_Wd_at hK hSt hP hD hS hU hW⟩⟩ rfl (by simp; omega) hl.2.1 rfl (lv_room (by simp only [List.map_map]; have : ((fun v : Value => v.category) ∘ am_cv (am_ad G)) = fun v => v.category := funext fun v => am_cv_cat _ v; rw [this]; exact h4)) hd ⟨by omega, by omega⟩) hS (fun H1 locs1 hP1 hD1 hS1 => ?_)
      have k1 := ih _ _ _ _ h H1 locs1 ls hl hP1 hD1 hS1
      rw [List.map_append] at k1
      cases v <;> exact k1
    · cases hp
  | invokespecial t =>
    have hcat : ∀ r2 : List Value, am_cat r2 ≤ 8 → ((r2.map (am_cv (am_ad G))).map fun v => v.category).sum ≤ 8 := fun r2 hr => by
      simp only [List.map_map]
      have : ((fun v : Value => v.category) ∘ am_cv (am_ad G)) = fun v => v.category := funext fun v => am_cv_cat _ v
      rw [this]; exact hr
    unfold am_pair at hp
    dsimp only at hp
    split at hp
    · simp only [Bool.and_eq_true, decide_eq_true_eq] at hp
      obtain ⟨rfl, hw⟩ := hp
      have hw := hcode0 (am_wd_in hw)
      match t, hw, h with
      | 0, hw, h =>
        replace h := am_i1_e h
        obtain ⟨x, r2, rfl, h1, h⟩ := h
        have := hcat r2 h1
        exact va_mabs hx hb hml2 hown hw (hcode0 am_math.1.1) (hcode0 am_math.2.2.1) (hcode0 am_mcode.1) hfr1 (by omega) hcs.1 hcs.2 hd (ih _ _ _ _ h H locs ls hl hP hD hS)
      | 1, hw, h =>
        replace h := am_i2_e h
        obtain ⟨x, y, r2, rfl, h1, h⟩ := h
        have := hcat r2 h1
        exact va_mmin hx hb hml2 hown hw (hcode0 am_math.1.2.1) (hcode0 am_math.2.2.1) (hcode0 am_mcode.2.1) hfr1 (by omega) hcs.1 hcs.2 hd (ih _ _ _ _ h H locs ls hl hP hD hS)
      | 2, hw, h =>
        replace h := am_i2_e h
        obtain ⟨x, y, r2, rfl, h1, h⟩ := h
        have := hcat r2 h1
        exact va_mmax hx hb hml2 hown hw (hcode0 am_math.1.2.2.1) (hcode0 am_math.2.2.1) (hcode0 am_mcode.2.2.1) hfr1 (by omega) hcs.1 hcs.2 hd (ih _ _ _ _ h H locs ls hl hP hD hS)
      | 3, hw, h =>
        replace h := am_l2_e h
        obtain ⟨x, y, r2, rfl, h1, h⟩ := h
        have := hcat r2 h1
        exact va_mmin_long hx hb hml2 hown hw (hcode0 am_math.1.2.2.2.1) (hcode0 am_math.2.2.1) (hcode0 am_mcode.2.2.2) hfr1 (by omega) hcs.1 hcs.2 hd (ih _ _ _ _ h H locs ls hl hP hD hS)
      | 4, hw, h =>
        replace h := am_acp_e h
        obtain ⟨a0, sp, a, dp, n, r2, rfl, h1, h2, h3, h4, h5, h6, h7, h8, h9, h10, h⟩ := h
        have := hcat r2 h10
        have e7 : nativeFrameWords "java/lang/System" "arraycopy" 5 = 7 := by decide +kernel
        refine va_copyl (D := am_D G) hx hb hml2 hown hw (hcode0 am_math.2.1) (hcode0 am_math.1.2.2.2.2) (hcode0 am_math.2.2.2) hK hP hD hS a0 a 1 1 (am_arl (am_shp_e h1) h2) (am_arl (am_shp_e h3) h4) rfl rfl rfl h5 h6 h7 h8 h9 (fun i _ => rfl) hfr1 (by rw [e7]; omega) hd (fun H1 locs1 hP1 hD1 hS1 => ?_)
        rw [am_W_cpL (am_shp_e h3)] at hP1 hD1
        exact ih _ _ _ _ h H1 locs1 ls hl hP1 hD1 hS1
      | n + 5, hw, h => exact h.elim
    · cases hp
  | ireturn =>
    simp only [am_pair, Bool.and_eq_true, decide_eq_true_eq] at hp
    obtain ⟨rfl, rfl⟩ := hp
    unfold am_stp at h
    dsimp only at h
    split at h
    · rename_i x
      obtain ⟨h1, h2, rfl⟩ := h
      exact hfin H locs ls pc .ireturn [.int x] hd ⟨x, rfl, h2, h1⟩ hP hD hS
    · exact h.elim
  | lreturn =>
    simp only [am_pair, Bool.and_eq_true, decide_eq_true_eq] at hp
    obtain ⟨rfl, rfl⟩ := hp
    unfold am_stp at h
    dsimp only at h
    split at h
    · rename_i x
      obtain ⟨h1, h2, rfl⟩ := h
      exact hfin H locs ls pc .lreturn [.long x] hd ⟨x, rfl, h2, h1⟩ hP hD hS
    · exact h.elim
  | return_ =>
    simp only [am_pair, Bool.and_eq_true, decide_eq_true_eq] at hp
    obtain ⟨rfl, rfl⟩ := hp
    unfold am_stp at h
    dsimp only at h
    split at h
    · obtain ⟨h1, h2, rfl⟩ := h
      exact hfin H locs ls pc .return_ [] hd ⟨rfl, h2, h1⟩ hP hD hS
    · exact h.elim
  | _ => exact h.elim
end STP
end
section
/-! a run, a call of any depth: the JVM does what the abstract machine does -/
section RUN
variable {p : Program} {l : Launch} {e : Env} {R : Room} {s : State} {m : MethodId} {args : Array Value} {below : List Frame} {meth : Method} {c : Code} {Q0 : State → Prop} {G : Am_G} {cells slots nL : Nat} {cc : ByteArray} {o : Nat}
theorem am_run_ok {C : Am_C} {rm : Room} {rt : Nat} {rv : Option Value} {rM : Am_M} (F : am_Fr p s m args c cc o G nL)
    (hR : rm.cells = 0 ∧ rm.slots = 0 ∧ rm.frames + 1 ≤ R.frames ∧ 31 + 8 + rm.locals ≤ R.locals) (hcs : cells ≤ R.cells ∧ slots ≤ R.slots)
    (hC : ∀ j as M v M', C j as M v M' → am_mok j ∧ am_Mt l G rm j as M v M')
    (hfin : am_Hfin p l e R s m args below meth c cc Q0 G cells slots rt rv rM) {P : Am_p} (hck : am_chk o cc P = true) :
    ∀ (n pc : Nat) (lv st : List Value) (M : Am_M), am_run am_mt C (am_sL G) (am_xs G) (am_lk P) rt rv rM n pc lv st M → am_V p l e R s m args below meth c Q0 G cells slots nL pc lv st M := by
  intro n
  induction n with
  | zero => intro pc lv st M h; exact h.elim
  | succ n ih =>
    intro pc lv st M h
    unfold am_run at h
    split at h
    · exact h.elim
    · rename_i i len hlk
      obtain ⟨r, w, hd, hp⟩ := am_chk_at hck hlk
      exact am_step F hR hcs hC hfin hd hp ih h
end RUN
theorem am_ofW {l : Launch} {y : MethodName} {ws ws' : List Cond} {rm : Room} {Pc : Array Value → State → Prop} {Qc : Array Value → State → Outcome → State → Prop} {mc ms : Nat} {free : Addr → Prop} {cc : ByteArray} {maxL : Nat} {ret : Option FieldType}
    (hy : plainFor y = true) (hw : ws = Cond.code y cc maxL ret :: ws')
    (body : ∀ p e s m args below meth c s₁, BodyLoose p l y (headSpec ws rm) cc maxL ret e s m args below meth c s₁ → c.maxLocals = maxL → Pc args s →
      W p l e (headSpec ws rm).room s m args below meth c s.heap [] 0 0 (MQ below Qc args s mc ms free) (entryFrame m args maxL)) : Met l y ws rm Pc Qc mc ms free := by
  refine MetFree.of_bodySF (code := cc) (maxLocals := maxL) (ret := ret) hy ?_ ?_
  · intro args s m h hn
    obtain ⟨meth, c, h1, h2, h3, h4, h5, h6, -, -⟩ := Cond.code_spec hn (atoms_spec (ws := ws) h _ (by rw [hw]; exact List.mem_cons_self))
    exact ⟨meth, c, h1, h2, h3, h4, h5, h6⟩
  · intro p e s m args below meth c s₁ B hml hP _
    have hh0 : s₁.heap = s.heap := by rw [B.state]; rfl
    obtain ⟨t, a1, o, b1, b2, b3⟩ := body p e s m args below meth c s₁ B hml hP s₁ hh0 (Stand.of_body B)
    exact ⟨t, o, a1, b1, b2, ⟨b3.1, b3.2⟩⟩
def am_rtc (ret : Option FieldType) : Nat := match ret with
  | none => 0
  | some .int => 1
  | some .boolean => 2
  | some .long => 3
  | _ => 9
/-- method j with these arguments from M gives v and M', at most d calls deep -/
def am_big (pg : Nat → Am_p) (NM sL : Nat) (xs : Nat → Int32) : Nat → Am_C
  | 0, _, _, _, _, _ => False
  | d + 1, j, as, M, v, M' => j < NM ∧ (am_en as).length ≤ (am_mt j).2.2.2.1 ∧ ∃ n, am_run am_mt (am_big pg NM sL xs d) sL xs (am_lk (pg j)) (am_rtc (am_mt j).2.2.2.2.1) v M' n 0 (am_ent (am_mt j).2.2.2.1 as) [] M
def am_room (d : Nat) : Room := { frames := d, cells := 0, slots := 0, locals := 40 * d }
theorem am_big_ok {l : Launch} {G : Am_G} {pg : Nat → Am_p} {NM : Nat} (hmok : ∀ j, j < NM → am_mok j) (hpg : ∀ j, j < NM → am_chk (am_mt j).1 (am_mt j).2.2.1 (pg j) = true) (hcl : ∀ j, j < NM → (am_mt j).2.1.cls = am_own (am_mt j).1) :
    ∀ (d j : Nat) (as : List Value) (M : Am_M) (v : Option Value) (M' : Am_M), am_big pg NM (am_sL G) (am_xs G) d j as M v M' → am_mok j ∧ am_Mt l G (am_room d) j as M v M' := by
  intro d
  induction d with
  | zero => intro j as M v M' h; exact h.elim
  | succ d ih =>
    intro j as M v M' h
    obtain ⟨hj, hlen, n, h⟩ := h
    refine ⟨hmok j hj, ?_⟩
    refine am_ofW (cc := (am_mt j).2.2.1) (maxL := (am_mt j).2.2.2.1) (ret := (am_mt j).2.2.2.2.1) (hmok j hj).2.2.2.2.2.2.2 rfl ?_
    intro p e s m args below meth c s₁ B hml hv
    obtain ⟨rfl, hP, hK, hD, hSt⟩ := hv
    have hts := atoms_spec (ws := am_wsm j) B.pre
    have hts' : ∀ w ∈ am_TB, w.before ((as.map (am_cv (am_ad G))).toArray) s = true := fun w hw => hts w (List.mem_cons_of_mem _ hw)
    have hown : s.vm.findClass (am_own (am_mt j).1) = some m.cls := by rw [← hcl j hj]; exact findClass_of_methodNamed B.named
    have hlocks := B.notSynchronized
    have hr := B.returns
    rw [lg_entry_eq]
    refine am_run_ok (cells := 0) (slots := 0) (R := am_room (d + 1)) (rm := am_room d) ⟨B.exec, B.bytes, hml, hown, hts', hK, hSt⟩ ⟨rfl, rfl, Nat.le_refl _, by simp only [am_room]; omega⟩ ⟨Nat.zero_le _, Nat.zero_le _⟩ ih ?_ (hpg j hj) n 0 _ [] M h s.heap [] _ (am_lv_entry hlen) hP hD va_S.rf
    intro H locs ls pc i st hd hf hP1 hD1 hS1
    have hW : ∀ t : State, t.heap = H → s.WarmedH t.vm → am_Wd G M' t ∧ va_F (am_A G) s t := fun t ht hw => ⟨am_Wd_at hK hSt hP1 hD1 hS1 ht hw, hS1.F ht⟩
    unfold am_fin at hf
    split at hf
    · obtain ⟨x, rfl, rfl, hrt⟩ := hf
      generalize (am_mt j).2.2.2.2.1 = ret at hr hrt
      unfold am_rtc at hrt
      split at hrt
      · omega
      · exact W.iret B.exec B.bytes hr (fun t ht hw => ⟨⟨rfl, (hW t ht hw).1⟩, (hW t ht hw).2⟩) hS1.2.2 hd
      · refine W.zret B.exec B.bytes hr ?_ (fun t ht hw => ⟨⟨rfl, (hW t ht hw).1⟩, (hW t ht hw).2⟩) hS1.2.2 hd
        rcases hrt with hrt | ⟨-, hrt⟩
        · omega
        · rcases hrt with rfl | rfl <;> decide +kernel
      · omega
      · omega
    · obtain ⟨x, rfl, rfl, hrt⟩ := hf
      generalize (am_mt j).2.2.2.2.1 = ret at hr hrt
      unfold am_rtc at hrt
      split at hrt
      · omega
      · omega
      · omega
      · exact W.lret B.exec B.bytes hr (fun t ht hw => ⟨⟨rfl, (hW t ht hw).1⟩, (hW t ht hw).2⟩) hS1.2.2 hd
      · omega
    · obtain ⟨rfl, rfl, hrt⟩ := hf
      generalize (am_mt j).2.2.2.2.1 = ret at hr hrt
      unfold am_rtc at hrt
      split at hrt
      · exact W.vret B.exec B.bytes hr (fun t ht hw => ⟨⟨rfl, (hW t ht hw).1⟩, (hW t ht hw).2⟩) hS1.2.2 hd
      · omega
      · omega
      · omega
      · omega
    · exact hf.elim
end
section
/-! THE PROGRAMS, by program -/
def am_pX0_add : Am_p := [(0, 1, .aload 0, .aload_n 0, 0), (1, 3, .getfield 4, .getfield 22, 0), (4, 2, .iconst 40, .bipush 40, 0), (6, 3, .if_icmp .lt 13, .if_icmp .lt 7, 0), (9, 1, .aload 0, .aload_n 0, 0), (10, 3, .invokevirtual 1, .invokevirtual 26, 1), (13, 1, .aload 0, .aload_n 0, 0), (14, 3, .getfield 0, .getfield 9, 2), (17, 1, .aload 0, .aload_n 0, 0), (18, 3, .getfield 4, .getfield 22, 0), (21, 1, .iload 1, .iload_n 1, 0), (22, 1, .iastore, .iastore, 0), (23, 1, .aload 0, .aload_n 0, 0), (24, 3, .getfield 1, .getfield 13, 3), (27, 1, .aload 0, .aload_n 0, 0), (28, 3, .getfield 4, .getfield 22, 0), (31, 1, .iload 2, .iload_n 2, 0), (32, 1, .iastore, .iastore, 0), (33, 1, .aload 0, .aload_n 0, 0), (34, 3, .getfield 2, .getfield 16, 4), (37, 1, .aload 0, .aload_n 0, 0), (38, 3, .getfield 4, .getfield 22, 0), (41, 1, .iload 3, .iload_n 3, 0), (42, 1, .iastore, .iastore, 0), (43, 1, .aload 0, .aload_n 0, 0), (44, 3, .getfield 3, .getfield 19, 5), (47, 1, .aload 0, .aload_n 0, 0), (48, 3, .getfield 4, .getfield 22, 0), (51, 2, .iload 4, .iload 4, 0), (53, 1, .iastore, .iastore, 0), (54, 1, .aload 0, .aload_n 0, 0), (55, 1, .dup, .dup, 0), (56, 3, .getfield 4, .getfield 22, 0), (59, 1, .iconst 1, .iconst 1, 0), (60, 1, .iadd, .iadd, 0), (61, 3, .putfield 4, .putfield 22, 0), (64, 1, .aload 0, .aload_n 0, 0), (65, 1, .aload 0, .aload_n 0, 0), (66, 3, .getfield 4, .getfield 22, 0), (69, 3, .putfield 5, .putfield 29, 6), (72, 1, .return_, .return_, 0)]
def am_pX0_forgetOldest : Am_p := [(0, 1, .iconst 1, .iconst 1, 0), (1, 1, .istore 1, .istore_n 1, 0), (2, 1, .iload 1, .iload_n 1, 0), (3, 2, .iconst 40, .bipush 40, 0), (5, 3, .if_icmp .ge 70, .if_icmp .ge 65, 0), (8, 1, .aload 0, .aload_n 0, 0), (9, 3, .getfield 0, .getfield 9, 2), (12, 1, .iload 1, .iload_n 1, 0), (13, 1, .iconst 1, .iconst 1, 0), (14, 1, .isub, .isub, 0), (15, 1, .aload 0, .aload_n 0, 0), (16, 3, .getfield 0, .getfield 9, 2), (19, 1, .iload 1, .iload_n 1, 0), (20, 1, .iaload, .iaload, 0), (21, 1, .iastore, .iastore, 0), (22, 1, .aload 0, .aload_n 0, 0), (23, 3, .getfield 1, .getfield 13, 3), (26, 1, .iload 1, .iload_n 1, 0), (27, 1, .iconst 1, .iconst 1, 0), (28, 1, .isub, .isub, 0), (29, 1, .aload 0, .aload_n 0, 0), (30, 3, .getfield 1, .getfield 13, 3), (33, 1, .iload 1, .iload_n 1, 0), (34, 1, .iaload, .iaload, 0), (35, 1, .iastore, .iastore, 0), (36, 1, .aload 0, .aload_n 0, 0), (37, 3, .getfield 2, .getfield 16, 4), (40, 1, .iload 1, .iload_n 1, 0), (41, 1, .iconst 1, .iconst 1, 0), (42, 1, .isub, .isub, 0), (43, 1, .aload 0, .aload_n 0, 0), (44, 3, .getfield 2, .getfield 16, 4), (47, 1, .iload 1, .iload_n 1, 0), (48, 1, .iaload, .iaload, 0), (49, 1, .iastore, .iastore, 0), (50, 1, .aload 0, .aload_n 0, 0), (51, 3, .getfield 3, .getfield 19, 5), (54, 1, .iload 1, .iload_n 1, 0), (55, 1, .iconst 1, .iconst 1, 0), (56, 1, .isub, .isub, 0), (57, 1, .aload 0, .aload_n 0, 0), (58, 3, .getfield 3, .getfield 19, 5), (61, 1, .iload 1, .iload_n 1, 0), (62, 1, .iaload, .iaload, 0), (63, 1, .iastore, .iastore, 0), (64, 3, .iinc 1 1, .iinc 1 1, 0), (67, 3, .goto 2, .goto (-65), 0), (70, 1, .aload 0, .aload_n 0, 0), (71, 2, .iconst 39, .bipush 39, 0), (73, 3, .putfield 4, .putfield 22, 0), (76, 1, .return_, .return_, 0)]
def am_pX1_firstMeeting : Am_p := [(0, 2, .iconst 99999, .ldc 15, 7), (2, 1, .iload 3, .iload_n 3, 0), (3, 1, .aload 0, .aload_n 0, 0), (4, 3, .getfield 64, .getfield 9, 8), (7, 3, .getfield 448, .getfield 16, 9), (10, 1, .iload 1, .iload_n 1, 0), (11, 1, .iaload, .iaload, 0), (12, 1, .aload 0, .aload_n 0, 0), (13, 3, .getfield 64, .getfield 9, 8), (16, 3, .getfield 448, .getfield 16, 9), (19, 1, .iload 2, .iload_n 2, 0), (20, 1, .iaload, .iaload, 0), (21, 1, .imul, .imul, 0), (22, 1, .iadd, .iadd, 0), (23, 3, .invokespecial 1, .invokestatic 22, 10), (26, 2, .istore 4, .istore 4, 0), (28, 1, .iload 3, .iload_n 3, 0), (29, 2, .istore 5, .istore 5, 0), (31, 2, .iload 5, .iload 5, 0), (33, 2, .iload 4, .iload 4, 0), (35, 3, .if_icmp .gt 61, .if_icmp .gt 26, 0), (38, 1, .aload 0, .aload_n 0, 0), (39, 3, .getfield 64, .getfield 9, 8), (42, 1, .iload 1, .iload_n 1, 0), (43, 1, .iload 2, .iload_n 2, 0), (44, 2, .iload 5, .iload 5, 0), (46, 3, .invokevirtual 83, .invokevirtual 28, 11), (49, 3, .ifCond .eq 55, .ifCond .eq 6, 0), (52, 2, .iload 5, .iload 5, 0), (54, 1, .ireturn, .ireturn, 0), (55, 3, .iinc 5 1, .iinc 5 1, 0), (58, 3, .goto 31, .goto (-27), 0), (61, 2, .iconst (-2), .bipush (-2), 0), (63, 1, .ireturn, .ireturn, 0)]
def am_pX1_meetingsIn : Am_p := [(0, 1, .iconst 0, .iconst 0, 0), (1, 2, .istore 5, .istore 5, 0), (3, 1, .iload 3, .iload_n 3, 0), (4, 2, .istore 6, .istore 6, 0), (6, 2, .iload 6, .iload 6, 0), (8, 1, .iload 3, .iload_n 3, 0), (9, 2, .iload 4, .iload 4, 0), (11, 1, .iadd, .iadd, 0), (12, 3, .if_icmp .ge 38, .if_icmp .ge 26, 0), (15, 1, .aload 0, .aload_n 0, 0), (16, 3, .getfield 64, .getfield 9, 8), (19, 1, .iload 1, .iload_n 1, 0), (20, 1, .iload 2, .iload_n 2, 0), (21, 2, .iload 6, .iload 6, 0), (23, 3, .invokevirtual 83, .invokevirtual 28, 11), (26, 3, .ifCond .eq 32, .ifCond .eq 6, 0), (29, 3, .iinc 5 1, .iinc 5 1, 0), (32, 3, .iinc 6 1, .iinc 6 1, 0), (35, 3, .goto 6, .goto (-29), 0), (38, 2, .iload 5, .iload 5, 0), (40, 1, .ireturn, .ireturn, 0)]
def am_pX1_togetherAgain : Am_p := [(0, 1, .ldc2_w 1, .lconst 1, 0), (1, 1, .lstore 2, .lstore_n 2, 0), (2, 1, .iconst 0, .iconst 0, 0), (3, 2, .istore 4, .istore 4, 0), (5, 2, .iload 4, .iload 4, 0), (7, 1, .aload 0, .aload_n 0, 0), (8, 3, .getfield 64, .getfield 9, 8), (11, 3, .getfield 453, .getfield 32, 12), (14, 3, .if_icmp .ge 49, .if_icmp .ge 35, 0), (17, 1, .iload 1, .iload_n 1, 0), (18, 2, .iload 4, .iload 4, 0), (20, 1, .ishr, .ishr, 0), (21, 1, .iconst 1, .iconst 1, 0), (22, 1, .iand, .iand, 0), (23, 1, .iconst 1, .iconst 1, 0), (24, 3, .if_icmp .ne 43, .if_icmp .ne 19, 0), (27, 1, .lload 2, .lload_n 2, 0), (28, 1, .aload 0, .aload_n 0, 0), (29, 3, .getfield 64, .getfield 9, 8), (32, 3, .getfield 448, .getfield 16, 9), (35, 2, .iload 4, .iload 4, 0), (37, 1, .iaload, .iaload, 0), (38, 1, .i2l, .i2l, 0), (39, 3, .invokestatic 7, .invokestatic 36, 13), (42, 1, .lstore 2, .lstore_n 2, 0), (43, 3, .iinc 4 1, .iinc 4 1, 0), (46, 3, .goto 5, .goto (-41), 0), (49, 1, .lload 2, .lload_n 2, 0), (50, 1, .lreturn, .lreturn, 0)]
def am_pX1_allAtStart : Am_p := [(0, 1, .ldc2_w 0, .lconst 0, 0), (1, 1, .lstore 2, .lstore_n 2, 0), (2, 1, .ldc2_w 1, .lconst 1, 0), (3, 2, .lstore 4, .lstore 4, 0), (5, 1, .iconst 0, .iconst 0, 0), (6, 2, .istore 6, .istore 6, 0), (8, 2, .iload 6, .iload 6, 0), (10, 1, .aload 0, .aload_n 0, 0), (11, 3, .getfield 64, .getfield 9, 8), (14, 3, .getfield 453, .getfield 32, 12), (17, 3, .if_icmp .ge 74, .if_icmp .ge 57, 0), (20, 1, .iload 1, .iload_n 1, 0), (21, 2, .iload 6, .iload 6, 0), (23, 1, .ishr, .ishr, 0), (24, 1, .iconst 1, .iconst 1, 0), (25, 1, .iand, .iand, 0), (26, 1, .iconst 1, .iconst 1, 0), (27, 3, .if_icmp .ne 68, .if_icmp .ne 41, 0), (30, 1, .aload 0, .aload_n 0, 0), (31, 2, .iload 6, .iload 6, 0), (33, 1, .lload 2, .lload_n 2, 0), (34, 2, .lload 4, .lload 4, 0), (36, 3, .invokevirtual 6, .invokevirtual 40, 14), (39, 1, .lstore 2, .lstore_n 2, 0), (40, 1, .lload 2, .lload_n 2, 0), (41, 1, .ldc2_w 0, .lconst 0, 0), (42, 1, .lcmp, .lcmp, 0), (43, 3, .ifCond .ge 50, .ifCond .ge 7, 0), (46, 3, .ldc2_w 18446744073709551614, .ldc2_w 44, 15), (49, 1, .lreturn, .lreturn, 0), (50, 2, .lload 4, .lload 4, 0), (52, 1, .aload 0, .aload_n 0, 0), (53, 3, .getfield 64, .getfield 9, 8), (56, 3, .getfield 448, .getfield 16, 9), (59, 2, .iload 6, .iload 6, 0), (61, 1, .iaload, .iaload, 0), (62, 1, .i2l, .i2l, 0), (63, 3, .invokestatic 7, .invokestatic 36, 13), (66, 2, .lstore 4, .lstore 4, 0), (68, 3, .iinc 6 1, .iinc 6 1, 0), (71, 3, .goto 8, .goto (-63), 0), (74, 1, .lload 2, .lload_n 2, 0), (75, 1, .lreturn, .lreturn, 0)]
def am_pX1_nextAtStart : Am_p := [(0, 1, .lload 2, .lload_n 2, 0), (1, 2, .lstore 6, .lstore 6, 0), (3, 1, .iconst 0, .iconst 0, 0), (4, 2, .istore 8, .istore 8, 0), (6, 2, .iload 8, .iload 8, 0), (8, 1, .aload 0, .aload_n 0, 0), (9, 3, .getfield 64, .getfield 9, 8), (12, 3, .getfield 448, .getfield 16, 9), (15, 1, .iload 1, .iload_n 1, 0), (16, 1, .iaload, .iaload, 0), (17, 3, .if_icmp .ge 65, .if_icmp .ge 48, 0), (20, 1, .aload 0, .aload_n 0, 0), (21, 3, .getfield 64, .getfield 9, 8), (24, 3, .getfield 449, .getfield 46, 16), (27, 1, .iload 1, .iload_n 1, 0), (28, 1, .iaload, .iaload, 0), (29, 1, .i2l, .i2l, 0), (30, 2, .lload 6, .lload 6, 0), (32, 1, .ladd, .ladd, 0), (33, 1, .aload 0, .aload_n 0, 0), (34, 3, .getfield 64, .getfield 9, 8), (37, 3, .getfield 448, .getfield 16, 9), (40, 1, .iload 1, .iload_n 1, 0), (41, 1, .iaload, .iaload, 0), (42, 1, .i2l, .i2l, 0), (43, 1, .lrem, .lrem, 0), (44, 1, .ldc2_w 0, .lconst 0, 0), (45, 1, .lcmp, .lcmp, 0), (46, 3, .ifCond .ne 52, .ifCond .ne 6, 0), (49, 2, .lload 6, .lload 6, 0), (51, 1, .lreturn, .lreturn, 0), (52, 2, .lload 6, .lload 6, 0), (54, 2, .lload 4, .lload 4, 0), (56, 1, .ladd, .ladd, 0), (57, 2, .lstore 6, .lstore 6, 0), (59, 3, .iinc 8 1, .iinc 8 1, 0), (62, 3, .goto 6, .goto (-56), 0), (65, 3, .ldc2_w 18446744073709551615, .ldc2_w 49, 17), (68, 1, .lreturn, .lreturn, 0)]
def am_pX1_leastCommon : Am_p := [(0, 1, .lload 0, .lload_n 0, 0), (1, 2, .lstore 4, .lstore 4, 0), (3, 1, .lload 2, .lload_n 2, 0), (4, 2, .lstore 6, .lstore 6, 0), (6, 1, .iconst 0, .iconst 0, 0), (7, 2, .istore 8, .istore 8, 0), (9, 2, .iload 8, .iload 8, 0), (11, 3, .iconst 200, .sipush 200, 0), (14, 3, .if_icmp .ge 45, .if_icmp .ge 31, 0), (17, 2, .lload 6, .lload 6, 0), (19, 1, .ldc2_w 0, .lconst 0, 0), (20, 1, .lcmp, .lcmp, 0), (21, 3, .ifCond .eq 45, .ifCond .eq 24, 0), (24, 2, .lload 4, .lload 4, 0), (26, 2, .lload 6, .lload 6, 0), (28, 1, .lrem, .lrem, 0), (29, 2, .lstore 9, .lstore 9, 0), (31, 2, .lload 6, .lload 6, 0), (33, 2, .lstore 4, .lstore 4, 0), (35, 2, .lload 9, .lload 9, 0), (37, 2, .lstore 6, .lstore 6, 0), (39, 3, .iinc 8 1, .iinc 8 1, 0), (42, 3, .goto 9, .goto (-33), 0), (45, 2, .lload 4, .lload 4, 0), (47, 1, .ldc2_w 0, .lconst 0, 0), (48, 1, .lcmp, .lcmp, 0), (49, 3, .ifCond .ne 56, .ifCond .ne 7, 0), (52, 1, .ldc2_w 0, .lconst 0, 0), (53, 3, .goto 62, .goto 9, 0), (56, 1, .lload 0, .lload_n 0, 0), (57, 2, .lload 4, .lload 4, 0), (59, 1, .ldiv, .ldiv, 0), (60, 1, .lload 2, .lload_n 2, 0), (61, 1, .lmul, .lmul, 0), (62, 1, .lreturn, .lreturn, 0)]
def am_pX1_moodOn : Am_p := [(0, 1, .iconst 0, .iconst 0, 0), (1, 1, .istore 3, .istore_n 3, 0), (2, 1, .iconst 0, .iconst 0, 0), (3, 2, .istore 4, .istore 4, 0), (5, 2, .iload 4, .iload 4, 0), (7, 1, .aload 0, .aload_n 0, 0), (8, 3, .getfield 64, .getfield 9, 8), (11, 3, .getfield 453, .getfield 32, 12), (14, 3, .if_icmp .ge 58, .if_icmp .ge 44, 0), (17, 2, .iload 4, .iload 4, 0), (19, 1, .iload 1, .iload_n 1, 0), (20, 3, .if_icmp .eq 52, .if_icmp .eq 32, 0), (23, 1, .aload 0, .aload_n 0, 0), (24, 3, .getfield 64, .getfield 9, 8), (27, 1, .iload 1, .iload_n 1, 0), (28, 2, .iload 4, .iload 4, 0), (30, 1, .iload 2, .iload_n 2, 0), (31, 3, .invokevirtual 83, .invokevirtual 28, 11), (34, 3, .ifCond .eq 52, .ifCond .eq 18, 0), (37, 1, .iload 3, .iload_n 3, 0), (38, 1, .aload 0, .aload_n 0, 0), (39, 3, .getfield 64, .getfield 9, 8), (42, 3, .getfield 451, .getfield 51, 18), (45, 1, .iload 1, .iload_n 1, 0), (46, 1, .aaload, .aaload, 0), (47, 2, .iload 4, .iload 4, 0), (49, 1, .iaload, .iaload, 0), (50, 1, .iadd, .iadd, 0), (51, 1, .istore 3, .istore_n 3, 0), (52, 3, .iinc 4 1, .iinc 4 1, 0), (55, 3, .goto 5, .goto (-50), 0), (58, 1, .iload 3, .iload_n 3, 0), (59, 1, .ireturn, .ireturn, 0)]
def am_pX1_bestDay : Am_p := [(0, 1, .iload 2, .iload_n 2, 0), (1, 2, .istore 4, .istore 4, 0), (3, 1, .aload 0, .aload_n 0, 0), (4, 1, .iload 1, .iload_n 1, 0), (5, 1, .iload 2, .iload_n 2, 0), (6, 3, .invokevirtual 8, .invokevirtual 55, 19), (9, 2, .istore 5, .istore 5, 0), (11, 1, .iload 2, .iload_n 2, 0), (12, 1, .iconst 1, .iconst 1, 0), (13, 1, .iadd, .iadd, 0), (14, 2, .istore 6, .istore 6, 0), (16, 2, .iload 6, .iload 6, 0), (18, 1, .iload 2, .iload_n 2, 0), (19, 1, .iload 3, .iload_n 3, 0), (20, 1, .iadd, .iadd, 0), (21, 3, .if_icmp .ge 54, .if_icmp .ge 33, 0), (24, 1, .aload 0, .aload_n 0, 0), (25, 1, .iload 1, .iload_n 1, 0), (26, 2, .iload 6, .iload 6, 0), (28, 3, .invokevirtual 8, .invokevirtual 55, 19), (31, 2, .istore 7, .istore 7, 0), (33, 2, .iload 7, .iload 7, 0), (35, 2, .iload 5, .iload 5, 0), (37, 3, .if_icmp .le 48, .if_icmp .le 11, 0), (40, 2, .iload 6, .iload 6, 0), (42, 2, .istore 4, .istore 4, 0), (44, 2, .iload 7, .iload 7, 0), (46, 2, .istore 5, .istore 5, 0), (48, 3, .iinc 6 1, .iinc 6 1, 0), (51, 3, .goto 16, .goto (-35), 0), (54, 2, .iload 4, .iload 4, 0), (56, 1, .ireturn, .ireturn, 0)]
def am_pX1_metOn : Am_p := [(0, 1, .iconst 0, .iconst 0, 0), (1, 1, .istore 3, .istore_n 3, 0), (2, 1, .iconst 0, .iconst 0, 0), (3, 2, .istore 4, .istore 4, 0), (5, 2, .iload 4, .iload 4, 0), (7, 1, .aload 0, .aload_n 0, 0), (8, 3, .getfield 64, .getfield 9, 8), (11, 3, .getfield 453, .getfield 32, 12), (14, 3, .if_icmp .ge 50, .if_icmp .ge 36, 0), (17, 2, .iload 4, .iload 4, 0), (19, 1, .iload 1, .iload_n 1, 0), (20, 3, .if_icmp .eq 44, .if_icmp .eq 24, 0), (23, 1, .aload 0, .aload_n 0, 0), (24, 3, .getfield 64, .getfield 9, 8), (27, 1, .iload 1, .iload_n 1, 0), (28, 2, .iload 4, .iload 4, 0), (30, 1, .iload 2, .iload_n 2, 0), (31, 3, .invokevirtual 83, .invokevirtual 28, 11), (34, 3, .ifCond .eq 44, .ifCond .eq 10, 0), (37, 1, .iload 3, .iload_n 3, 0), (38, 1, .iconst 1, .iconst 1, 0), (39, 2, .iload 4, .iload 4, 0), (41, 1, .ishl, .ishl, 0), (42, 1, .ior, .ior, 0), (43, 1, .istore 3, .istore_n 3, 0), (44, 3, .iinc 4 1, .iinc 4 1, 0), (47, 3, .goto 5, .goto (-42), 0), (50, 1, .iload 3, .iload_n 3, 0), (51, 1, .ireturn, .ireturn, 0)]
def am_pX1_isFree : Am_p := [(0, 1, .iconst 0, .iconst 0, 0), (1, 1, .istore 3, .istore_n 3, 0), (2, 1, .iload 3, .iload_n 3, 0), (3, 1, .aload 0, .aload_n 0, 0), (4, 3, .getfield 64, .getfield 9, 8), (7, 3, .getfield 453, .getfield 32, 12), (10, 3, .if_icmp .ge 39, .if_icmp .ge 29, 0), (13, 1, .iload 1, .iload_n 1, 0), (14, 1, .iload 3, .iload_n 3, 0), (15, 1, .ishr, .ishr, 0), (16, 1, .iconst 1, .iconst 1, 0), (17, 1, .iand, .iand, 0), (18, 1, .iconst 1, .iconst 1, 0), (19, 3, .if_icmp .ne 33, .if_icmp .ne 14, 0), (22, 1, .aload 0, .aload_n 0, 0), (23, 1, .iload 3, .iload_n 3, 0), (24, 1, .iload 2, .iload_n 2, 0), (25, 3, .invokevirtual 10, .invokevirtual 58, 20), (28, 3, .ifCond .eq 33, .ifCond .eq 5, 0), (31, 1, .iconst 0, .iconst 0, 0), (32, 1, .ireturn, .ireturn, 0), (33, 3, .iinc 3 1, .iinc 3 1, 0), (36, 3, .goto 2, .goto (-34), 0), (39, 1, .iconst 1, .iconst 1, 0), (40, 1, .ireturn, .ireturn, 0)]
def am_pX1_firstFreeDay : Am_p := [(0, 3, .ldc2_w 99999, .ldc2_w 61, 21), (3, 1, .iload 2, .iload_n 2, 0), (4, 1, .i2l, .i2l, 0), (5, 1, .aload 0, .aload_n 0, 0), (6, 1, .iconst 1, .iconst 1, 0), (7, 1, .aload 0, .aload_n 0, 0), (8, 3, .getfield 64, .getfield 9, 8), (11, 3, .getfield 453, .getfield 32, 12), (14, 1, .ishl, .ishl, 0), (15, 1, .iconst 1, .iconst 1, 0), (16, 1, .isub, .isub, 0), (17, 3, .invokevirtual 4, .invokevirtual 63, 22), (20, 1, .ladd, .ladd, 0), (21, 3, .invokespecial 3, .invokestatic 67, 23), (24, 1, .lstore 3, .lstore_n 3, 0), (25, 1, .iload 2, .iload_n 2, 0), (26, 2, .istore 5, .istore 5, 0), (28, 2, .iload 5, .iload 5, 0), (30, 1, .i2l, .i2l, 0), (31, 1, .lload 3, .lload_n 3, 0), (32, 1, .lcmp, .lcmp, 0), (33, 3, .ifCond .gt 55, .ifCond .gt 22, 0), (36, 1, .aload 0, .aload_n 0, 0), (37, 1, .iload 1, .iload_n 1, 0), (38, 2, .iload 5, .iload 5, 0), (40, 3, .invokevirtual 11, .invokevirtual 69, 24), (43, 3, .ifCond .eq 49, .ifCond .eq 6, 0), (46, 2, .iload 5, .iload 5, 0), (48, 1, .ireturn, .ireturn, 0), (49, 3, .iinc 5 1, .iinc 5 1, 0), (52, 3, .goto 28, .goto (-24), 0), (55, 2, .iconst (-2), .bipush (-2), 0), (57, 1, .ireturn, .ireturn, 0)]
def am_pX1_freeDaysIn : Am_p := [(0, 1, .iconst 0, .iconst 0, 0), (1, 2, .istore 4, .istore 4, 0), (3, 1, .iload 2, .iload_n 2, 0), (4, 2, .istore 5, .istore 5, 0), (6, 2, .iload 5, .iload 5, 0), (8, 1, .iload 2, .iload_n 2, 0), (9, 1, .iload 3, .iload_n 3, 0), (10, 1, .iadd, .iadd, 0), (11, 3, .if_icmp .ge 33, .if_icmp .ge 22, 0), (14, 1, .aload 0, .aload_n 0, 0), (15, 1, .iload 1, .iload_n 1, 0), (16, 2, .iload 5, .iload 5, 0), (18, 3, .invokevirtual 11, .invokevirtual 69, 24), (21, 3, .ifCond .eq 27, .ifCond .eq 6, 0), (24, 3, .iinc 4 1, .iinc 4 1, 0), (27, 3, .iinc 5 1, .iinc 5 1, 0), (30, 3, .goto 6, .goto (-24), 0), (33, 2, .iload 4, .iload 4, 0), (35, 1, .ireturn, .ireturn, 0)]
def am_pX1_leastNudge : Am_p := [(0, 1, .iconst 0, .iconst 0, 0), (1, 2, .istore 4, .istore 4, 0), (3, 2, .iload 4, .iload 4, 0), (5, 1, .aload 0, .aload_n 0, 0), (6, 3, .getfield 64, .getfield 9, 8), (9, 3, .getfield 448, .getfield 16, 9), (12, 1, .iload 1, .iload_n 1, 0), (13, 1, .iaload, .iaload, 0), (14, 3, .if_icmp .ge 61, .if_icmp .ge 47, 0), (17, 1, .aload 0, .aload_n 0, 0), (18, 3, .getfield 64, .getfield 9, 8), (21, 1, .iload 1, .iload_n 1, 0), (22, 2, .iload 4, .iload 4, 0), (24, 1, .iload 2, .iload_n 2, 0), (25, 1, .iload 3, .iload_n 3, 0), (26, 3, .invokevirtual 84, .invokevirtual 73, 25), (29, 3, .ifCond .eq 35, .ifCond .eq 6, 0), (32, 2, .iload 4, .iload 4, 0), (34, 1, .ireturn, .ireturn, 0), (35, 1, .aload 0, .aload_n 0, 0), (36, 3, .getfield 64, .getfield 9, 8), (39, 1, .iload 1, .iload_n 1, 0), (40, 2, .iload 4, .iload 4, 0), (42, 1, .ineg, .ineg, 0), (43, 1, .iload 2, .iload_n 2, 0), (44, 1, .iload 3, .iload_n 3, 0), (45, 3, .invokevirtual 84, .invokevirtual 73, 25), (48, 3, .ifCond .eq 55, .ifCond .eq 7, 0), (51, 2, .iload 4, .iload 4, 0), (53, 1, .ineg, .ineg, 0), (54, 1, .ireturn, .ireturn, 0), (55, 3, .iinc 4 1, .iinc 4 1, 0), (58, 3, .goto 3, .goto (-55), 0), (61, 3, .iconst (-1000), .sipush (-1000), 0), (64, 1, .ireturn, .ireturn, 0)]
def am_pX1_isLonely : Am_p := [(0, 1, .iload 2, .iload_n 2, 0), (1, 1, .aload 0, .aload_n 0, 0), (2, 3, .getfield 64, .getfield 9, 8), (5, 3, .getfield 449, .getfield 46, 16), (8, 1, .iload 1, .iload_n 1, 0), (9, 1, .iaload, .iaload, 0), (10, 1, .isub, .isub, 0), (11, 2, .istore 5, .istore 5, 0), (13, 1, .iconst 0, .iconst 0, 0), (14, 2, .istore 6, .istore 6, 0), (16, 2, .iload 6, .iload 6, 0), (18, 2, .iload 4, .iload 4, 0), (20, 3, .if_icmp .ge 47, .if_icmp .ge 27, 0), (23, 1, .aload 0, .aload_n 0, 0), (24, 3, .getfield 64, .getfield 9, 8), (27, 1, .iload 1, .iload_n 1, 0), (28, 2, .iload 5, .iload 5, 0), (30, 1, .iload 3, .iload_n 3, 0), (31, 2, .iload 6, .iload 6, 0), (33, 3, .invokevirtual 84, .invokevirtual 73, 25), (36, 3, .ifCond .eq 41, .ifCond .eq 5, 0), (39, 1, .iconst 0, .iconst 0, 0), (40, 1, .ireturn, .ireturn, 0), (41, 3, .iinc 6 1, .iinc 6 1, 0), (44, 3, .goto 16, .goto (-28), 0), (47, 1, .iconst 1, .iconst 1, 0), (48, 1, .ireturn, .ireturn, 0)]
def am_pX1_lonelyPlaces : Am_p := [(0, 1, .iconst 0, .iconst 0, 0), (1, 2, .istore 4, .istore 4, 0), (3, 1, .iconst 0, .iconst 0, 0), (4, 2, .istore 5, .istore 5, 0), (6, 2, .iload 5, .iload 5, 0), (8, 1, .aload 0, .aload_n 0, 0), (9, 3, .getfield 64, .getfield 9, 8), (12, 3, .getfield 448, .getfield 16, 9), (15, 1, .iload 1, .iload_n 1, 0), (16, 1, .iaload, .iaload, 0), (17, 3, .if_icmp .ge 41, .if_icmp .ge 24, 0), (20, 1, .aload 0, .aload_n 0, 0), (21, 1, .iload 1, .iload_n 1, 0), (22, 2, .iload 5, .iload 5, 0), (24, 1, .iload 2, .iload_n 2, 0), (25, 1, .iload 3, .iload_n 3, 0), (26, 3, .invokevirtual 15, .invokevirtual 77, 26), (29, 3, .ifCond .eq 35, .ifCond .eq 6, 0), (32, 3, .iinc 4 1, .iinc 4 1, 0), (35, 3, .iinc 5 1, .iinc 5 1, 0), (38, 3, .goto 6, .goto (-32), 0), (41, 2, .iload 4, .iload 4, 0), (43, 1, .ireturn, .ireturn, 0)]
def am_pX1_leastLonelyPlace : Am_p := [(0, 1, .iconst 0, .iconst 0, 0), (1, 2, .istore 4, .istore 4, 0), (3, 2, .iload 4, .iload 4, 0), (5, 1, .aload 0, .aload_n 0, 0), (6, 3, .getfield 64, .getfield 9, 8), (9, 3, .getfield 448, .getfield 16, 9), (12, 1, .iload 1, .iload_n 1, 0), (13, 1, .iaload, .iaload, 0), (14, 3, .if_icmp .ge 38, .if_icmp .ge 24, 0), (17, 1, .aload 0, .aload_n 0, 0), (18, 1, .iload 1, .iload_n 1, 0), (19, 2, .iload 4, .iload 4, 0), (21, 1, .iload 2, .iload_n 2, 0), (22, 1, .iload 3, .iload_n 3, 0), (23, 3, .invokevirtual 15, .invokevirtual 77, 26), (26, 3, .ifCond .eq 32, .ifCond .eq 6, 0), (29, 2, .iload 4, .iload 4, 0), (31, 1, .ireturn, .ireturn, 0), (32, 3, .iinc 4 1, .iinc 4 1, 0), (35, 3, .goto 3, .goto (-32), 0), (38, 2, .iconst (-2), .bipush (-2), 0), (40, 1, .ireturn, .ireturn, 0)]
def am_pX1_daysSinceScene : Am_p := [(0, 1, .iconst 1, .iconst 1, 0), (1, 1, .istore 3, .istore_n 3, 0), (2, 1, .iload 3, .iload_n 3, 0), (3, 3, .iconst 3600, .sipush 3600, 0), (6, 3, .if_icmp .gt 60, .if_icmp .gt 54, 0), (9, 1, .aload 0, .aload_n 0, 0), (10, 3, .getfield 64, .getfield 9, 8), (13, 1, .iload 1, .iload_n 1, 0), (14, 1, .iload 3, .iload_n 3, 0), (15, 1, .ineg, .ineg, 0), (16, 3, .invokevirtual 80, .invokevirtual 80, 27), (19, 1, .aload 0, .aload_n 0, 0), (20, 3, .getfield 64, .getfield 9, 8), (23, 3, .getfield 448, .getfield 16, 9), (26, 1, .iload 2, .iload_n 2, 0), (27, 1, .iaload, .iaload, 0), (28, 1, .imul, .imul, 0), (29, 1, .aload 0, .aload_n 0, 0), (30, 3, .getfield 64, .getfield 9, 8), (33, 1, .iload 2, .iload_n 2, 0), (34, 1, .iload 3, .iload_n 3, 0), (35, 1, .ineg, .ineg, 0), (36, 3, .invokevirtual 80, .invokevirtual 80, 27), (39, 1, .aload 0, .aload_n 0, 0), (40, 3, .getfield 64, .getfield 9, 8), (43, 3, .getfield 448, .getfield 16, 9), (46, 1, .iload 1, .iload_n 1, 0), (47, 1, .iaload, .iaload, 0), (48, 1, .imul, .imul, 0), (49, 3, .if_icmp .ne 54, .if_icmp .ne 5, 0), (52, 1, .iload 3, .iload_n 3, 0), (53, 1, .ireturn, .ireturn, 0), (54, 3, .iinc 3 1, .iinc 3 1, 0), (57, 3, .goto 2, .goto (-55), 0), (60, 2, .iconst (-2), .bipush (-2), 0), (62, 1, .ireturn, .ireturn, 0)]
def am_pX1_firstWinningNudge : Am_p := [(0, 1, .iconst (-1), .iconst (-1), 0), (1, 2, .istore 5, .istore 5, 0), (3, 2, .iload 5, .iload 5, 0), (5, 1, .iconst 1, .iconst 1, 0), (6, 3, .if_icmp .gt 35, .if_icmp .gt 29, 0), (9, 1, .aload 0, .aload_n 0, 0), (10, 1, .iload 1, .iload_n 1, 0), (11, 2, .iload 5, .iload 5, 0), (13, 1, .iload 2, .iload_n 2, 0), (14, 1, .iload 3, .iload_n 3, 0), (15, 2, .iload 4, .iload 4, 0), (17, 1, .iconst 1, .iconst 1, 0), (18, 1, .isub, .isub, 0), (19, 1, .iconst 0, .iconst 0, 0), (20, 3, .invokevirtual 20, .invokevirtual 83, 28), (23, 3, .ifCond .eq 29, .ifCond .eq 6, 0), (26, 2, .iload 5, .iload 5, 0), (28, 1, .ireturn, .ireturn, 0), (29, 3, .iinc 5 1, .iinc 5 1, 0), (32, 3, .goto 3, .goto (-29), 0), (35, 2, .iconst (-2), .bipush (-2), 0), (37, 1, .ireturn, .ireturn, 0)]
def am_pX1_endsMet : Am_p := [(0, 2, .iload 5, .iload 5, 0), (2, 3, .ifCond .le 12, .ifCond .le 10, 0), (5, 2, .iload 5, .iload 5, 0), (7, 2, .iconst 6, .bipush 6, 0), (9, 3, .if_icmp .le 25, .if_icmp .le 16, 0), (12, 1, .aload 0, .aload_n 0, 0), (13, 3, .getfield 64, .getfield 9, 8), (16, 1, .iload 1, .iload_n 1, 0), (17, 1, .iload 2, .iload_n 2, 0), (18, 1, .iload 3, .iload_n 3, 0), (19, 2, .iload 4, .iload 4, 0), (21, 3, .invokevirtual 84, .invokevirtual 73, 25), (24, 1, .ireturn, .ireturn, 0), (25, 1, .iconst (-1), .iconst (-1), 0), (26, 2, .istore 7, .istore 7, 0), (28, 2, .iload 7, .iload 7, 0), (30, 1, .iconst 1, .iconst 1, 0), (31, 3, .if_icmp .gt 74, .if_icmp .gt 43, 0), (34, 1, .aload 0, .aload_n 0, 0), (35, 1, .iload 1, .iload_n 1, 0), (36, 1, .iload 2, .iload_n 2, 0), (37, 2, .iload 7, .iload 7, 0), (39, 1, .iadd, .iadd, 0), (40, 1, .iload 3, .iload_n 3, 0), (41, 2, .iload 4, .iload 4, 0), (43, 2, .iload 5, .iload 5, 0), (45, 1, .iconst 1, .iconst 1, 0), (46, 1, .isub, .isub, 0), (47, 2, .iload 6, .iload 6, 0), (49, 3, .ifCond .ne 56, .ifCond .ne 7, 0), (52, 1, .iconst 1, .iconst 1, 0), (53, 3, .goto 57, .goto 4, 0), (56, 1, .iconst 0, .iconst 0, 0), (57, 3, .invokevirtual 20, .invokevirtual 83, 28), (60, 2, .iload 6, .iload 6, 0), (62, 3, .if_icmp .ne 68, .if_icmp .ne 6, 0), (65, 2, .iload 6, .iload 6, 0), (67, 1, .ireturn, .ireturn, 0), (68, 3, .iinc 7 1, .iinc 7 1, 0), (71, 3, .goto 28, .goto (-43), 0), (74, 2, .iload 6, .iload 6, 0), (76, 3, .ifCond .ne 83, .ifCond .ne 7, 0), (79, 1, .iconst 1, .iconst 1, 0), (80, 3, .goto 84, .goto 4, 0), (83, 1, .iconst 0, .iconst 0, 0), (84, 1, .ireturn, .ireturn, 0)]
def am_pX1_leastArc : Am_p := [(0, 3, .iconst 360, .sipush 360, 0), (3, 1, .istore 3, .istore_n 3, 0), (4, 1, .iconst 0, .iconst 0, 0), (5, 2, .istore 4, .istore 4, 0), (7, 2, .iload 4, .iload 4, 0), (9, 1, .aload 0, .aload_n 0, 0), (10, 3, .getfield 64, .getfield 9, 8), (13, 3, .getfield 453, .getfield 32, 12), (16, 3, .if_icmp .ge 48, .if_icmp .ge 32, 0), (19, 1, .iload 1, .iload_n 1, 0), (20, 2, .iload 4, .iload 4, 0), (22, 1, .ishr, .ishr, 0), (23, 1, .iconst 1, .iconst 1, 0), (24, 1, .iand, .iand, 0), (25, 1, .iconst 1, .iconst 1, 0), (26, 3, .if_icmp .ne 42, .if_icmp .ne 16, 0), (29, 1, .iload 3, .iload_n 3, 0), (30, 1, .aload 0, .aload_n 0, 0), (31, 2, .iload 4, .iload 4, 0), (33, 1, .iload 1, .iload_n 1, 0), (34, 1, .iload 2, .iload_n 2, 0), (35, 3, .invokevirtual 22, .invokevirtual 87, 29), (38, 3, .invokespecial 1, .invokestatic 22, 10), (41, 1, .istore 3, .istore_n 3, 0), (42, 3, .iinc 4 1, .iinc 4 1, 0), (45, 3, .goto 7, .goto (-38), 0), (48, 1, .iload 1, .iload_n 1, 0), (49, 3, .ifCond .ne 56, .ifCond .ne 7, 0), (52, 1, .iconst 0, .iconst 0, 0), (53, 3, .goto 57, .goto 4, 0), (56, 1, .iload 3, .iload_n 3, 0), (57, 1, .ireturn, .ireturn, 0)]
def am_pX1_arcFrom : Am_p := [(0, 1, .aload 0, .aload_n 0, 0), (1, 3, .getfield 64, .getfield 9, 8), (4, 1, .iload 1, .iload_n 1, 0), (5, 1, .iload 3, .iload_n 3, 0), (6, 3, .invokevirtual 81, .invokevirtual 91, 30), (9, 2, .istore 4, .istore 4, 0), (11, 1, .iconst 0, .iconst 0, 0), (12, 2, .istore 5, .istore 5, 0), (14, 1, .iconst 0, .iconst 0, 0), (15, 2, .istore 6, .istore 6, 0), (17, 2, .iload 6, .iload 6, 0), (19, 1, .aload 0, .aload_n 0, 0), (20, 3, .getfield 64, .getfield 9, 8), (23, 3, .getfield 453, .getfield 32, 12), (26, 3, .if_icmp .ge 71, .if_icmp .ge 45, 0), (29, 1, .iload 2, .iload_n 2, 0), (30, 2, .iload 6, .iload 6, 0), (32, 1, .ishr, .ishr, 0), (33, 1, .iconst 1, .iconst 1, 0), (34, 1, .iand, .iand, 0), (35, 1, .iconst 1, .iconst 1, 0), (36, 3, .if_icmp .ne 65, .if_icmp .ne 29, 0), (39, 2, .iload 5, .iload 5, 0), (41, 1, .aload 0, .aload_n 0, 0), (42, 3, .getfield 64, .getfield 9, 8), (45, 2, .iload 6, .iload 6, 0), (47, 1, .iload 3, .iload_n 3, 0), (48, 3, .invokevirtual 81, .invokevirtual 91, 30), (51, 2, .iload 4, .iload 4, 0), (53, 1, .isub, .isub, 0), (54, 3, .iconst 360, .sipush 360, 0), (57, 3, .invokestatic 261, .invokestatic 94, 31), (60, 3, .invokespecial 2, .invokestatic 97, 32), (63, 2, .istore 5, .istore 5, 0), (65, 3, .iinc 6 1, .iinc 6 1, 0), (68, 3, .goto 17, .goto (-51), 0), (71, 2, .iload 5, .iload 5, 0), (73, 1, .ireturn, .ireturn, 0)]
def am_pX2_keepImage : Am_p := [(0, 1, .aload 0, .aload_n 0, 0), (1, 1, .iconst 1, .iconst 1, 0), (2, 3, .putfield 133, .putfield 19, 33), (5, 1, .aload 0, .aload_n 0, 0), (6, 1, .aload 0, .aload_n 0, 0), (7, 3, .getfield 128, .getfield 9, 34), (10, 3, .getfield 453, .getfield 23, 35), (13, 3, .putfield 135, .putfield 29, 36), (16, 1, .iconst 0, .iconst 0, 0), (17, 1, .istore 1, .istore_n 1, 0), (18, 1, .iload 1, .iload_n 1, 0), (19, 1, .aload 0, .aload_n 0, 0), (20, 3, .getfield 135, .getfield 29, 36), (23, 3, .if_icmp .ge 47, .if_icmp .ge 24, 0), (26, 1, .aload 0, .aload_n 0, 0), (27, 3, .getfield 134, .getfield 15, 37), (30, 1, .iload 1, .iload_n 1, 0), (31, 1, .aload 0, .aload_n 0, 0), (32, 3, .getfield 128, .getfield 9, 34), (35, 3, .getfield 449, .getfield 32, 38), (38, 1, .iload 1, .iload_n 1, 0), (39, 1, .iaload, .iaload, 0), (40, 1, .iastore, .iastore, 0), (41, 3, .iinc 1 1, .iinc 1 1, 0), (44, 3, .goto 18, .goto (-26), 0), (47, 1, .aload 0, .aload_n 0, 0), (48, 1, .aload 0, .aload_n 0, 0), (49, 3, .getfield 129, .getfield 35, 39), (52, 3, .putfield 136, .putfield 38, 40), (55, 1, .aload 0, .aload_n 0, 0), (56, 1, .aload 0, .aload_n 0, 0), (57, 3, .getfield 130, .getfield 41, 41), (60, 3, .putfield 137, .putfield 44, 42), (63, 1, .aload 0, .aload_n 0, 0), (64, 1, .aload 0, .aload_n 0, 0), (65, 3, .getfield 131, .getfield 47, 43), (68, 3, .putfield 138, .putfield 50, 44), (71, 1, .aload 0, .aload_n 0, 0), (72, 1, .aload 0, .aload_n 0, 0), (73, 3, .getfield 132, .getfield 53, 45), (76, 3, .putfield 139, .putfield 56, 46), (79, 1, .return_, .return_, 0)]
def am_pX2_layBack : Am_p := [(0, 1, .iconst 0, .iconst 0, 0), (1, 1, .istore 1, .istore_n 1, 0), (2, 1, .iload 1, .iload_n 1, 0), (3, 1, .aload 0, .aload_n 0, 0), (4, 3, .getfield 135, .getfield 29, 36), (7, 3, .if_icmp .ge 31, .if_icmp .ge 24, 0), (10, 1, .aload 0, .aload_n 0, 0), (11, 3, .getfield 128, .getfield 9, 34), (14, 3, .getfield 449, .getfield 32, 38), (17, 1, .iload 1, .iload_n 1, 0), (18, 1, .aload 0, .aload_n 0, 0), (19, 3, .getfield 134, .getfield 15, 37), (22, 1, .iload 1, .iload_n 1, 0), (23, 1, .iaload, .iaload, 0), (24, 1, .iastore, .iastore, 0), (25, 3, .iinc 1 1, .iinc 1 1, 0), (28, 3, .goto 2, .goto (-26), 0), (31, 1, .aload 0, .aload_n 0, 0), (32, 1, .aload 0, .aload_n 0, 0), (33, 3, .getfield 136, .getfield 38, 40), (36, 3, .putfield 129, .putfield 35, 39), (39, 1, .aload 0, .aload_n 0, 0), (40, 1, .aload 0, .aload_n 0, 0), (41, 3, .getfield 137, .getfield 44, 42), (44, 3, .putfield 130, .putfield 41, 41), (47, 1, .aload 0, .aload_n 0, 0), (48, 1, .aload 0, .aload_n 0, 0), (49, 3, .getfield 138, .getfield 50, 44), (52, 3, .putfield 131, .putfield 47, 43), (55, 1, .aload 0, .aload_n 0, 0), (56, 1, .aload 0, .aload_n 0, 0), (57, 3, .getfield 139, .getfield 56, 46), (60, 3, .putfield 132, .putfield 53, 45), (63, 1, .return_, .return_, 0)]
def am_pX3_placeBehind : Am_p := [(0, 1, .aload 0, .aload_n 0, 0), (1, 3, .getfield 193, .getfield 15, 47), (4, 3, .invokevirtual 99, .invokevirtual 23, 48), (7, 1, .iconst 0, .iconst 0, 0), (8, 1, .istore 3, .istore_n 3, 0), (9, 1, .iload 3, .iload_n 3, 0), (10, 1, .iload 2, .iload_n 2, 0), (11, 3, .if_icmp .ge 28, .if_icmp .ge 17, 0), (14, 1, .aload 0, .aload_n 0, 0), (15, 3, .getfield 193, .getfield 15, 47), (18, 1, .iload 3, .iload_n 3, 0), (19, 3, .invokevirtual 101, .invokevirtual 28, 49), (22, 3, .iinc 3 1, .iinc 3 1, 0), (25, 3, .goto 9, .goto (-16), 0), (28, 1, .aload 0, .aload_n 0, 0), (29, 3, .getfield 193, .getfield 15, 47), (32, 3, .getfield 578, .getfield 32, 50), (35, 1, .iload 1, .iload_n 1, 0), (36, 1, .iaload, .iaload, 0), (37, 1, .ireturn, .ireturn, 0)]
def am_pX3_pushesIn : Am_p := [(0, 1, .iconst 0, .iconst 0, 0), (1, 1, .istore 2, .istore_n 2, 0), (2, 1, .aload 0, .aload_n 0, 0), (3, 3, .getfield 193, .getfield 15, 47), (6, 3, .invokevirtual 99, .invokevirtual 23, 48), (9, 1, .iconst 0, .iconst 0, 0), (10, 1, .istore 3, .istore_n 3, 0), (11, 1, .iload 3, .iload_n 3, 0), (12, 1, .iload 1, .iload_n 1, 0), (13, 3, .if_icmp .ge 40, .if_icmp .ge 27, 0), (16, 1, .aload 0, .aload_n 0, 0), (17, 3, .getfield 193, .getfield 15, 47), (20, 1, .iload 3, .iload_n 3, 0), (21, 3, .invokevirtual 101, .invokevirtual 28, 49), (24, 1, .iload 2, .iload_n 2, 0), (25, 1, .aload 0, .aload_n 0, 0), (26, 3, .getfield 193, .getfield 15, 47), (29, 3, .getfield 583, .getfield 36, 51), (32, 1, .iadd, .iadd, 0), (33, 1, .istore 2, .istore_n 2, 0), (34, 3, .iinc 3 1, .iinc 3 1, 0), (37, 3, .goto 11, .goto (-26), 0), (40, 1, .iload 2, .iload_n 2, 0), (41, 1, .ireturn, .ireturn, 0)]
def am_pX3_firstPushIn : Am_p := [(0, 1, .aload 0, .aload_n 0, 0), (1, 3, .getfield 193, .getfield 15, 47), (4, 3, .invokevirtual 99, .invokevirtual 23, 48), (7, 1, .iconst 0, .iconst 0, 0), (8, 1, .istore 2, .istore_n 2, 0), (9, 1, .iload 2, .iload_n 2, 0), (10, 1, .iload 1, .iload_n 1, 0), (11, 3, .if_icmp .ge 40, .if_icmp .ge 29, 0), (14, 1, .aload 0, .aload_n 0, 0), (15, 3, .getfield 193, .getfield 15, 47), (18, 1, .iload 2, .iload_n 2, 0), (19, 3, .invokevirtual 101, .invokevirtual 28, 49), (22, 1, .aload 0, .aload_n 0, 0), (23, 3, .getfield 193, .getfield 15, 47), (26, 3, .getfield 583, .getfield 36, 51), (29, 3, .ifCond .le 34, .ifCond .le 5, 0), (32, 1, .iload 2, .iload_n 2, 0), (33, 1, .ireturn, .ireturn, 0), (34, 3, .iinc 2 1, .iinc 2 1, 0), (37, 3, .goto 9, .goto (-28), 0), (40, 2, .iconst (-2), .bipush (-2), 0), (42, 1, .ireturn, .ireturn, 0)]
def am_pX3_meetingsIn : Am_p := [(0, 1, .iconst 0, .iconst 0, 0), (1, 2, .istore 4, .istore 4, 0), (3, 1, .aload 0, .aload_n 0, 0), (4, 3, .getfield 193, .getfield 15, 47), (7, 3, .invokevirtual 99, .invokevirtual 23, 48), (10, 1, .iconst 0, .iconst 0, 0), (11, 2, .istore 5, .istore 5, 0), (13, 2, .iload 5, .iload 5, 0), (15, 1, .iload 3, .iload_n 3, 0), (16, 3, .if_icmp .ge 52, .if_icmp .ge 36, 0), (19, 1, .aload 0, .aload_n 0, 0), (20, 3, .getfield 193, .getfield 15, 47), (23, 2, .iload 5, .iload 5, 0), (25, 3, .invokevirtual 101, .invokevirtual 28, 49), (28, 2, .iload 4, .iload 4, 0), (30, 1, .aload 0, .aload_n 0, 0), (31, 3, .getfield 193, .getfield 15, 47), (34, 3, .getfield 581, .getfield 40, 52), (37, 1, .iload 1, .iload_n 1, 0), (38, 1, .iaload, .iaload, 0), (39, 1, .iload 2, .iload_n 2, 0), (40, 1, .ishr, .ishr, 0), (41, 1, .iconst 1, .iconst 1, 0), (42, 1, .iand, .iand, 0), (43, 1, .iadd, .iadd, 0), (44, 2, .istore 4, .istore 4, 0), (46, 3, .iinc 5 1, .iinc 5 1, 0), (49, 3, .goto 13, .goto (-36), 0), (52, 2, .iload 4, .iload 4, 0), (54, 1, .ireturn, .ireturn, 0)]
def am_pX3_roundAgain : Am_p := [(0, 1, .aload 0, .aload_n 0, 0), (1, 3, .getfield 193, .getfield 15, 47), (4, 3, .invokevirtual 99, .invokevirtual 23, 48), (7, 1, .aload 0, .aload_n 0, 0), (8, 3, .getfield 194, .getfield 19, 53), (11, 1, .iconst 0, .iconst 0, 0), (12, 1, .aload 0, .aload_n 0, 0), (13, 3, .getfield 193, .getfield 15, 47), (16, 3, .invokevirtual 105, .invokevirtual 43, 54), (19, 1, .lastore, .lastore, 0), (20, 1, .iconst 1, .iconst 1, 0), (21, 1, .istore 2, .istore_n 2, 0), (22, 1, .iload 2, .iload_n 2, 0), (23, 3, .iconst 300, .sipush 300, 0), (26, 3, .if_icmp .gt 79, .if_icmp .gt 53, 0), (29, 1, .aload 0, .aload_n 0, 0), (30, 3, .getfield 193, .getfield 15, 47), (33, 1, .iload 2, .iload_n 2, 0), (34, 1, .iconst 1, .iconst 1, 0), (35, 1, .isub, .isub, 0), (36, 3, .invokevirtual 101, .invokevirtual 28, 49), (39, 1, .aload 0, .aload_n 0, 0), (40, 3, .getfield 194, .getfield 19, 53), (43, 1, .iload 2, .iload_n 2, 0), (44, 1, .aload 0, .aload_n 0, 0), (45, 3, .getfield 193, .getfield 15, 47), (48, 3, .invokevirtual 105, .invokevirtual 43, 54), (51, 1, .lastore, .lastore, 0), (52, 1, .aload 0, .aload_n 0, 0), (53, 1, .iload 2, .iload_n 2, 0), (54, 3, .invokevirtual 30, .invokevirtual 47, 55), (57, 1, .istore 3, .istore_n 3, 0), (58, 1, .iload 3, .iload_n 3, 0), (59, 1, .iload 2, .iload_n 2, 0), (60, 3, .if_icmp .ge 73, .if_icmp .ge 13, 0), (63, 1, .iload 1, .iload_n 1, 0), (64, 3, .ifCond .eq 71, .ifCond .eq 7, 0), (67, 1, .iload 3, .iload_n 3, 0), (68, 3, .goto 72, .goto 4, 0), (71, 1, .iload 2, .iload_n 2, 0), (72, 1, .ireturn, .ireturn, 0), (73, 3, .iinc 2 1, .iinc 2 1, 0), (76, 3, .goto 22, .goto (-54), 0), (79, 2, .iconst (-2), .bipush (-2), 0), (81, 1, .ireturn, .ireturn, 0)]
def am_pX3_firstSeen : Am_p := [(0, 1, .iconst 0, .iconst 0, 0), (1, 1, .istore 2, .istore_n 2, 0), (2, 1, .iload 2, .iload_n 2, 0), (3, 1, .iload 1, .iload_n 1, 0), (4, 3, .if_icmp .ge 31, .if_icmp .ge 27, 0), (7, 1, .aload 0, .aload_n 0, 0), (8, 3, .getfield 194, .getfield 19, 53), (11, 1, .iload 2, .iload_n 2, 0), (12, 1, .laload, .laload, 0), (13, 1, .aload 0, .aload_n 0, 0), (14, 3, .getfield 194, .getfield 19, 53), (17, 1, .iload 1, .iload_n 1, 0), (18, 1, .laload, .laload, 0), (19, 1, .lcmp, .lcmp, 0), (20, 3, .ifCond .ne 25, .ifCond .ne 5, 0), (23, 1, .iload 2, .iload_n 2, 0), (24, 1, .ireturn, .ireturn, 0), (25, 3, .iinc 2 1, .iinc 2 1, 0), (28, 3, .goto 2, .goto (-26), 0), (31, 1, .iload 1, .iload_n 1, 0), (32, 1, .ireturn, .ireturn, 0)]
def am_pX3_firstUnlike : Am_p := [(0, 1, .aload 0, .aload_n 0, 0), (1, 3, .getfield 193, .getfield 15, 47), (4, 3, .invokevirtual 99, .invokevirtual 23, 48), (7, 1, .iconst 0, .iconst 0, 0), (8, 2, .istore 4, .istore 4, 0), (10, 2, .iload 4, .iload 4, 0), (12, 1, .iload 2, .iload_n 2, 0), (13, 3, .if_icmp .ge 52, .if_icmp .ge 39, 0), (16, 1, .aload 0, .aload_n 0, 0), (17, 3, .getfield 193, .getfield 15, 47), (20, 2, .iload 4, .iload 4, 0), (22, 3, .invokevirtual 101, .invokevirtual 28, 49), (25, 1, .aload 0, .aload_n 0, 0), (26, 3, .getfield 193, .getfield 15, 47), (29, 3, .getfield 578, .getfield 32, 50), (32, 1, .iload 3, .iload_n 3, 0), (33, 1, .iaload, .iaload, 0), (34, 1, .i2l, .i2l, 0), (35, 1, .aload 1, .aload_n 1, 0), (36, 2, .iload 4, .iload 4, 0), (38, 1, .laload, .laload, 0), (39, 1, .lcmp, .lcmp, 0), (40, 3, .ifCond .eq 46, .ifCond .eq 6, 0), (43, 2, .iload 4, .iload 4, 0), (45, 1, .ireturn, .ireturn, 0), (46, 3, .iinc 4 1, .iinc 4 1, 0), (49, 3, .goto 10, .goto (-39), 0), (52, 2, .iconst (-2), .bipush (-2), 0), (54, 1, .ireturn, .ireturn, 0)]
def am_pX3_drawnYears : Am_p := [(0, 1, .iload 1, .iload_n 1, 0), (1, 2, .istore 6, .istore 6, 0), (3, 1, .iconst 0, .iconst 0, 0), (4, 2, .istore 7, .istore 7, 0), (6, 1, .iconst 0, .iconst 0, 0), (7, 2, .istore 8, .istore 8, 0), (9, 1, .iconst 0, .iconst 0, 0), (10, 2, .istore 9, .istore 9, 0), (12, 2, .iload 9, .iload 9, 0), (14, 1, .iload 2, .iload_n 2, 0), (15, 3, .if_icmp .ge 99, .if_icmp .ge 84, 0), (18, 1, .aload 0, .aload_n 0, 0), (19, 3, .getfield 193, .getfield 15, 47), (22, 3, .invokevirtual 99, .invokevirtual 23, 48), (25, 1, .iconst 0, .iconst 0, 0), (26, 2, .istore 10, .istore 10, 0), (28, 2, .iload 10, .iload 10, 0), (30, 1, .iload 3, .iload_n 3, 0), (31, 3, .if_icmp .ge 80, .if_icmp .ge 49, 0), (34, 1, .aload 0, .aload_n 0, 0), (35, 3, .getfield 193, .getfield 15, 47), (38, 2, .iload 10, .iload 10, 0), (40, 3, .invokevirtual 101, .invokevirtual 28, 49), (43, 2, .iload 5, .iload 5, 0), (45, 3, .ifCond .lt 64, .ifCond .lt 19, 0), (48, 1, .aload 0, .aload_n 0, 0), (49, 3, .getfield 193, .getfield 15, 47), (52, 3, .getfield 581, .getfield 40, 52), (55, 2, .iload 5, .iload 5, 0), (57, 1, .iaload, .iaload, 0), (58, 3, .ifCond .eq 64, .ifCond .eq 6, 0), (61, 3, .iinc 7 1, .iinc 7 1, 0), (64, 1, .aload 0, .aload_n 0, 0), (65, 2, .iload 6, .iload 6, 0), (67, 2, .iload 4, .iload 4, 0), (69, 3, .invokevirtual 33, .invokevirtual 51, 56), (72, 2, .istore 6, .istore 6, 0), (74, 3, .iinc 10 1, .iinc 10 1, 0), (77, 3, .goto 28, .goto (-49), 0), (80, 1, .aload 0, .aload_n 0, 0), (81, 3, .getfield 193, .getfield 15, 47), (84, 3, .invokevirtual 106, .invokevirtual 55, 57), (87, 3, .ifCond .eq 93, .ifCond .eq 6, 0), (90, 3, .iinc 8 1, .iinc 8 1, 0), (93, 3, .iinc 9 1, .iinc 9 1, 0), (96, 3, .goto 12, .goto (-84), 0), (99, 2, .iload 5, .iload 5, 0), (101, 3, .ifCond .lt 109, .ifCond .lt 8, 0), (104, 2, .iload 7, .iload 7, 0), (106, 3, .goto 111, .goto 5, 0), (109, 2, .iload 8, .iload 8, 0), (111, 1, .ireturn, .ireturn, 0)]
def am_pX3_slipped : Am_p := [(0, 1, .iload 1, .iload_n 1, 0), (1, 1, .istore 3, .istore_n 3, 0), (2, 1, .iconst 0, .iconst 0, 0), (3, 2, .istore 4, .istore 4, 0), (5, 2, .iload 4, .iload 4, 0), (7, 1, .aload 0, .aload_n 0, 0), (8, 3, .getfield 192, .getfield 9, 58), (11, 3, .getfield 453, .getfield 59, 59), (14, 3, .if_icmp .ge 53, .if_icmp .ge 39, 0), (17, 1, .iload 3, .iload_n 3, 0), (18, 2, .iconst 1103515245, .ldc 64, 60), (20, 1, .imul, .imul, 0), (21, 3, .iconst 12345, .sipush 12345, 0), (24, 1, .iadd, .iadd, 0), (25, 1, .istore 3, .istore_n 3, 0), (26, 1, .iload 3, .iload_n 3, 0), (27, 2, .iconst 8, .bipush 8, 0), (29, 1, .iushr, .iushr, 0), (30, 2, .iconst 12, .bipush 12, 0), (32, 1, .irem, .irem, 0), (33, 1, .iload 2, .iload_n 2, 0), (34, 3, .if_icmp .ge 47, .if_icmp .ge 13, 0), (37, 1, .aload 0, .aload_n 0, 0), (38, 3, .getfield 193, .getfield 15, 47), (41, 2, .iload 4, .iload 4, 0), (43, 1, .iconst (-1), .iconst (-1), 0), (44, 3, .invokevirtual 102, .invokevirtual 65, 61), (47, 3, .iinc 4 1, .iinc 4 1, 0), (50, 3, .goto 5, .goto (-45), 0), (53, 1, .iload 3, .iload_n 3, 0), (54, 1, .ireturn, .ireturn, 0)]
def am_pX4_nameOf : Am_p := [(0, 1, .iload 0, .iload_n 0, 0), (1, 59, .lookupswitch 72 #[(97, 66), (100, 68), (108, 60), (112, 70), (114, 64), (119, 62)], .lookupswitch 71 #[(97, 65), (100, 67), (108, 59), (112, 69), (114, 63), (119, 61)], 0), (60, 1, .iconst 0, .iconst 0, 0), (61, 1, .ireturn, .ireturn, 0), (62, 1, .iconst 1, .iconst 1, 0), (63, 1, .ireturn, .ireturn, 0), (64, 1, .iconst 2, .iconst 2, 0), (65, 1, .ireturn, .ireturn, 0), (66, 1, .iconst 3, .iconst 3, 0), (67, 1, .ireturn, .ireturn, 0), (68, 1, .iconst 4, .iconst 4, 0), (69, 1, .ireturn, .ireturn, 0), (70, 1, .iconst 5, .iconst 5, 0), (71, 1, .ireturn, .ireturn, 0), (72, 1, .iconst (-1), .iconst (-1), 0), (73, 1, .ireturn, .ireturn, 0)]
def am_pX4_become : Am_p := [(0, 1, .aload 0, .aload_n 0, 0), (1, 1, .aload 1, .aload_n 1, 0), (2, 3, .getfield 517, .getfield 24, 62), (5, 3, .putfield 258, .putfield 28, 63), (8, 1, .iconst 0, .iconst 0, 0), (9, 1, .istore 2, .istore_n 2, 0), (10, 1, .iload 2, .iload_n 2, 0), (11, 1, .aload 0, .aload_n 0, 0), (12, 3, .getfield 258, .getfield 28, 63), (15, 3, .if_icmp .ge 48, .if_icmp .ge 33, 0), (18, 1, .aload 0, .aload_n 0, 0), (19, 3, .getfield 256, .getfield 11, 64), (22, 1, .iload 2, .iload_n 2, 0), (23, 1, .aload 1, .aload_n 1, 0), (24, 3, .getfield 515, .getfield 29, 65), (27, 1, .iload 2, .iload_n 2, 0), (28, 1, .iaload, .iaload, 0), (29, 1, .iastore, .iastore, 0), (30, 1, .aload 0, .aload_n 0, 0), (31, 3, .getfield 257, .getfield 15, 66), (34, 1, .iload 2, .iload_n 2, 0), (35, 1, .aload 1, .aload_n 1, 0), (36, 3, .getfield 516, .getfield 30, 67), (39, 1, .iload 2, .iload_n 2, 0), (40, 1, .iaload, .iaload, 0), (41, 1, .iastore, .iastore, 0), (42, 3, .iinc 2 1, .iinc 2 1, 0), (45, 3, .goto 10, .goto (-35), 0), (48, 1, .return_, .return_, 0)]
def am_pX4_turnTo : Am_p := [(0, 1, .aload 0, .aload_n 0, 0), (1, 3, .getfield 259, .getfield 18, 68), (4, 1, .iconst 2, .iconst 2, 0), (5, 1, .iload 1, .iload_n 1, 0), (6, 1, .iastore, .iastore, 0), (7, 1, .aload 0, .aload_n 0, 0), (8, 3, .getfield 259, .getfield 18, 68), (11, 1, .iconst 4, .iconst 4, 0), (12, 1, .iload 2, .iload_n 2, 0), (13, 1, .iastore, .iastore, 0), (14, 1, .aload 0, .aload_n 0, 0), (15, 3, .getfield 259, .getfield 18, 68), (18, 1, .iconst 5, .iconst 5, 0), (19, 1, .iload 3, .iload_n 3, 0), (20, 1, .iastore, .iastore, 0), (21, 1, .return_, .return_, 0)]
def am_pX4_push : Am_p := [(0, 1, .aload 0, .aload_n 0, 0), (1, 3, .getfield 259, .getfield 18, 68), (4, 1, .iconst 0, .iconst 0, 0), (5, 1, .iload 1, .iload_n 1, 0), (6, 1, .iastore, .iastore, 0), (7, 1, .aload 0, .aload_n 0, 0), (8, 3, .getfield 259, .getfield 18, 68), (11, 1, .iconst 1, .iconst 1, 0), (12, 1, .iload 2, .iload_n 2, 0), (13, 1, .iastore, .iastore, 0), (14, 1, .aload 0, .aload_n 0, 0), (15, 3, .getfield 259, .getfield 18, 68), (18, 1, .iconst 3, .iconst 3, 0), (19, 1, .iload 3, .iload_n 3, 0), (20, 1, .iastore, .iastore, 0), (21, 1, .aload 0, .aload_n 0, 0), (22, 3, .getfield 258, .getfield 28, 63), (25, 3, .ifCond .ne 34, .ifCond .ne 9, 0), (28, 1, .iload 1, .iload_n 1, 0), (29, 1, .iload 2, .iload_n 2, 0), (30, 1, .imul, .imul, 0), (31, 3, .goto 38, .goto 7, 0), (34, 1, .aload 0, .aload_n 0, 0), (35, 3, .invokevirtual 38, .invokevirtual 31, 69), (38, 2, .istore 4, .istore 4, 0), (40, 2, .iconst (-9), .bipush (-9), 0), (42, 2, .iconst 9, .bipush 9, 0), (44, 2, .iload 4, .iload 4, 0), (46, 3, .invokespecial 1, .invokestatic 35, 70), (49, 3, .invokespecial 2, .invokestatic 41, 71), (52, 1, .ireturn, .ireturn, 0)]
def am_pX4_workedOut : Am_p := [(0, 1, .iconst 0, .iconst 0, 0), (1, 1, .istore 1, .istore_n 1, 0), (2, 1, .iconst 0, .iconst 0, 0), (3, 1, .istore 2, .istore_n 2, 0), (4, 1, .iconst 0, .iconst 0, 0), (5, 1, .istore 3, .istore_n 3, 0), (6, 1, .iload 3, .iload_n 3, 0), (7, 2, .iconst 121, .bipush 121, 0), (9, 3, .if_icmp .ge 213, .if_icmp .ge 204, 0), (12, 1, .iload 2, .iload_n 2, 0), (13, 1, .aload 0, .aload_n 0, 0), (14, 3, .getfield 258, .getfield 28, 63), (17, 3, .if_icmp .ge 213, .if_icmp .ge 196, 0), (20, 1, .aload 0, .aload_n 0, 0), (21, 3, .getfield 256, .getfield 11, 64), (24, 1, .iload 2, .iload_n 2, 0), (25, 1, .iaload, .iaload, 0), (26, 2, .istore 4, .istore 4, 0), (28, 1, .aload 0, .aload_n 0, 0), (29, 3, .getfield 257, .getfield 15, 66), (32, 1, .iload 2, .iload_n 2, 0), (33, 1, .iaload, .iaload, 0), (34, 2, .istore 5, .istore 5, 0), (36, 3, .iinc 2 1, .iinc 2 1, 0), (39, 2, .iload 4, .iload 4, 0), (41, 1, .iconst 1, .iconst 1, 0), (42, 3, .if_icmp .eq 51, .if_icmp .eq 9, 0), (45, 2, .iload 4, .iload 4, 0), (47, 1, .iconst 2, .iconst 2, 0), (48, 3, .if_icmp .ne 88, .if_icmp .ne 40, 0), (51, 1, .iload 1, .iload_n 1, 0), (52, 2, .iconst 121, .bipush 121, 0), (54, 3, .if_icmp .lt 59, .if_icmp .lt 5, 0), (57, 1, .iconst 0, .iconst 0, 0), (58, 1, .ireturn, .ireturn, 0), (59, 1, .aload 0, .aload_n 0, 0), (60, 3, .getfield 260, .getfield 21, 72), (63, 1, .iload 1, .iload_n 1, 0), (64, 2, .iload 4, .iload 4, 0), (66, 1, .iconst 1, .iconst 1, 0), (67, 3, .if_icmp .ne 75, .if_icmp .ne 8, 0), (70, 2, .iload 5, .iload 5, 0), (72, 3, .goto 81, .goto 9, 0), (75, 1, .aload 0, .aload_n 0, 0), (76, 2, .iload 5, .iload 5, 0), (78, 3, .invokevirtual 39, .invokevirtual 44, 73), (81, 1, .iastore, .iastore, 0), (82, 3, .iinc 1 1, .iinc 1 1, 0), (85, 3, .goto 207, .goto 122, 0), (88, 2, .iload 4, .iload 4, 0), (90, 2, .iconst 6, .bipush 6, 0), (92, 3, .if_icmp .le 135, .if_icmp .le 43, 0), (95, 1, .iload 1, .iload_n 1, 0), (96, 1, .iconst 2, .iconst 2, 0), (97, 3, .if_icmp .ge 102, .if_icmp .ge 5, 0), (100, 1, .iconst 0, .iconst 0, 0), (101, 1, .ireturn, .ireturn, 0), (102, 3, .iinc 1 (-1), .iinc 1 (-1), 0), (105, 1, .aload 0, .aload_n 0, 0), (106, 3, .getfield 260, .getfield 21, 72), (109, 1, .iload 1, .iload_n 1, 0), (110, 1, .iconst 1, .iconst 1, 0), (111, 1, .isub, .isub, 0), (112, 2, .iload 4, .iload 4, 0), (114, 1, .aload 0, .aload_n 0, 0), (115, 3, .getfield 260, .getfield 21, 72), (118, 1, .iload 1, .iload_n 1, 0), (119, 1, .iconst 1, .iconst 1, 0), (120, 1, .isub, .isub, 0), (121, 1, .iaload, .iaload, 0), (122, 1, .aload 0, .aload_n 0, 0), (123, 3, .getfield 260, .getfield 21, 72), (126, 1, .iload 1, .iload_n 1, 0), (127, 1, .iaload, .iaload, 0), (128, 3, .invokestatic 41, .invokestatic 48, 74), (131, 1, .iastore, .iastore, 0), (132, 3, .goto 207, .goto 75, 0), (135, 1, .iload 1, .iload_n 1, 0), (136, 1, .iconst 1, .iconst 1, 0), (137, 3, .if_icmp .ge 142, .if_icmp .ge 5, 0), (140, 1, .iconst 0, .iconst 0, 0), (141, 1, .ireturn, .ireturn, 0), (142, 2, .iload 4, .iload 4, 0), (144, 2, .iconst 6, .bipush 6, 0), (146, 3, .if_icmp .ne 158, .if_icmp .ne 12, 0), (149, 1, .aload 0, .aload_n 0, 0), (150, 3, .getfield 260, .getfield 21, 72), (153, 1, .iload 1, .iload_n 1, 0), (154, 1, .iconst 1, .iconst 1, 0), (155, 1, .isub, .isub, 0), (156, 1, .iaload, .iaload, 0), (157, 1, .ireturn, .ireturn, 0), (158, 2, .iload 4, .iload 4, 0), (160, 1, .iconst 5, .iconst 5, 0), (161, 3, .if_icmp .ne 186, .if_icmp .ne 25, 0), (164, 3, .iinc 1 (-1), .iinc 1 (-1), 0), (167, 1, .aload 0, .aload_n 0, 0), (168, 3, .getfield 260, .getfield 21, 72), (171, 1, .iload 1, .iload_n 1, 0), (172, 1, .iaload, .iaload, 0), (173, 3, .ifCond .ne 181, .ifCond .ne 8, 0), (176, 2, .iload 5, .iload 5, 0), (178, 3, .goto 182, .goto 4, 0), (181, 1, .iload 2, .iload_n 2, 0), (182, 1, .istore 2, .istore_n 2, 0), (183, 3, .goto 207, .goto 24, 0), (186, 1, .aload 0, .aload_n 0, 0), (187, 3, .getfield 260, .getfield 21, 72), (190, 1, .iload 1, .iload_n 1, 0), (191, 1, .iconst 1, .iconst 1, 0), (192, 1, .isub, .isub, 0), (193, 2, .iload 4, .iload 4, 0), (195, 1, .aload 0, .aload_n 0, 0), (196, 3, .getfield 260, .getfield 21, 72), (199, 1, .iload 1, .iload_n 1, 0), (200, 1, .iconst 1, .iconst 1, 0), (201, 1, .isub, .isub, 0), (202, 1, .iaload, .iaload, 0), (203, 3, .invokestatic 40, .invokestatic 52, 75), (206, 1, .iastore, .iastore, 0), (207, 3, .iinc 3 1, .iinc 3 1, 0), (210, 3, .goto 6, .goto (-204), 0), (213, 1, .iconst 0, .iconst 0, 0), (214, 1, .ireturn, .ireturn, 0)]
def am_pX4_namedBy : Am_p := [(0, 1, .iload 1, .iload_n 1, 0), (1, 3, .ifCond .lt 22, .ifCond .lt 21, 0), (4, 1, .iload 1, .iload_n 1, 0), (5, 1, .aload 0, .aload_n 0, 0), (6, 3, .getfield 259, .getfield 18, 68), (9, 1, .arraylength, .arraylength, 0), (10, 3, .if_icmp .ge 22, .if_icmp .ge 12, 0), (13, 1, .aload 0, .aload_n 0, 0), (14, 3, .getfield 259, .getfield 18, 68), (17, 1, .iload 1, .iload_n 1, 0), (18, 1, .iaload, .iaload, 0), (19, 3, .goto 23, .goto 4, 0), (22, 1, .iconst 0, .iconst 0, 0), (23, 1, .ireturn, .ireturn, 0)]
def am_pX4_turned : Am_p := [(0, 1, .iload 0, .iload_n 0, 0), (1, 1, .iconst 4, .iconst 4, 0), (2, 3, .if_icmp .ne 8, .if_icmp .ne 6, 0), (5, 1, .iload 1, .iload_n 1, 0), (6, 1, .ineg, .ineg, 0), (7, 1, .ireturn, .ireturn, 0), (8, 1, .iload 1, .iload_n 1, 0), (9, 3, .ifCond .ne 16, .ifCond .ne 7, 0), (12, 1, .iconst 1, .iconst 1, 0), (13, 3, .goto 17, .goto 4, 0), (16, 1, .iconst 0, .iconst 0, 0), (17, 1, .ireturn, .ireturn, 0)]
def am_pX4_joined : Am_p := [(0, 1, .iload 0, .iload_n 0, 0), (1, 91, .lookupswitch 189 #[(37, 177), (38, 106), (42, 161), (43, 153), (45, 157), (47, 165), (60, 120), (61, 131), (62, 142), (124, 92)], .lookupswitch 188 #[(37, 176), (38, 105), (42, 160), (43, 152), (45, 156), (47, 164), (60, 119), (61, 130), (62, 141), (124, 91)], 0), (92, 1, .iload 1, .iload_n 1, 0), (93, 3, .ifCond .ne 100, .ifCond .ne 7, 0), (96, 1, .iload 2, .iload_n 2, 0), (97, 3, .ifCond .eq 104, .ifCond .eq 7, 0), (100, 1, .iconst 1, .iconst 1, 0), (101, 3, .goto 105, .goto 4, 0), (104, 1, .iconst 0, .iconst 0, 0), (105, 1, .ireturn, .ireturn, 0), (106, 1, .iload 1, .iload_n 1, 0), (107, 3, .ifCond .eq 118, .ifCond .eq 11, 0), (110, 1, .iload 2, .iload_n 2, 0), (111, 3, .ifCond .eq 118, .ifCond .eq 7, 0), (114, 1, .iconst 1, .iconst 1, 0), (115, 3, .goto 119, .goto 4, 0), (118, 1, .iconst 0, .iconst 0, 0), (119, 1, .ireturn, .ireturn, 0), (120, 1, .iload 1, .iload_n 1, 0), (121, 1, .iload 2, .iload_n 2, 0), (122, 3, .if_icmp .ge 129, .if_icmp .ge 7, 0), (125, 1, .iconst 1, .iconst 1, 0), (126, 3, .goto 130, .goto 4, 0), (129, 1, .iconst 0, .iconst 0, 0), (130, 1, .ireturn, .ireturn, 0), (131, 1, .iload 1, .iload_n 1, 0), (132, 1, .iload 2, .iload_n 2, 0), (133, 3, .if_icmp .ne 140, .if_icmp .ne 7, 0), (136, 1, .iconst 1, .iconst 1, 0), (137, 3, .goto 141, .goto 4, 0), (140, 1, .iconst 0, .iconst 0, 0), (141, 1, .ireturn, .ireturn, 0), (142, 1, .iload 1, .iload_n 1, 0), (143, 1, .iload 2, .iload_n 2, 0), (144, 3, .if_icmp .le 151, .if_icmp .le 7, 0), (147, 1, .iconst 1, .iconst 1, 0), (148, 3, .goto 152, .goto 4, 0), (151, 1, .iconst 0, .iconst 0, 0), (152, 1, .ireturn, .ireturn, 0), (153, 1, .iload 1, .iload_n 1, 0), (154, 1, .iload 2, .iload_n 2, 0), (155, 1, .iadd, .iadd, 0), (156, 1, .ireturn, .ireturn, 0), (157, 1, .iload 1, .iload_n 1, 0), (158, 1, .iload 2, .iload_n 2, 0), (159, 1, .isub, .isub, 0), (160, 1, .ireturn, .ireturn, 0), (161, 1, .iload 1, .iload_n 1, 0), (162, 1, .iload 2, .iload_n 2, 0), (163, 1, .imul, .imul, 0), (164, 1, .ireturn, .ireturn, 0), (165, 1, .iload 2, .iload_n 2, 0), (166, 3, .ifCond .ne 173, .ifCond .ne 7, 0), (169, 1, .iconst 0, .iconst 0, 0), (170, 3, .goto 176, .goto 6, 0), (173, 1, .iload 1, .iload_n 1, 0), (174, 1, .iload 2, .iload_n 2, 0), (175, 1, .idiv, .idiv, 0), (176, 1, .ireturn, .ireturn, 0), (177, 1, .iload 2, .iload_n 2, 0), (178, 3, .ifCond .ne 185, .ifCond .ne 7, 0), (181, 1, .iconst 0, .iconst 0, 0), (182, 3, .goto 188, .goto 6, 0), (185, 1, .iload 1, .iload_n 1, 0), (186, 1, .iload 2, .iload_n 2, 0), (187, 1, .irem, .irem, 0), (188, 1, .ireturn, .ireturn, 0), (189, 1, .iconst 0, .iconst 0, 0), (190, 1, .ireturn, .ireturn, 0)]
def am_pX5_isKind : Am_p := [(0, 1, .iload 0, .iload_n 0, 0), (1, 3, .ifCond .lt 14, .ifCond .lt 13, 0), (4, 1, .iload 0, .iload_n 0, 0), (5, 2, .iconst 8, .bipush 8, 0), (7, 3, .if_icmp .ge 14, .if_icmp .ge 7, 0), (10, 1, .iconst 1, .iconst 1, 0), (11, 3, .goto 15, .goto 4, 0), (14, 1, .iconst 0, .iconst 0, 0), (15, 1, .ireturn, .ireturn, 0)]
def am_pX5_isUnder : Am_p := [(0, 1, .iload 0, .iload_n 0, 0), (1, 1, .istore 2, .istore_n 2, 0), (2, 1, .iconst 0, .iconst 0, 0), (3, 1, .istore 3, .istore_n 3, 0), (4, 1, .iload 3, .iload_n 3, 0), (5, 2, .iconst 8, .bipush 8, 0), (7, 3, .if_icmp .ge 36, .if_icmp .ge 29, 0), (10, 1, .iload 2, .iload_n 2, 0), (11, 3, .invokestatic 42, .invokestatic 18, 76), (14, 3, .ifCond .eq 36, .ifCond .eq 22, 0), (17, 1, .iload 2, .iload_n 2, 0), (18, 1, .iload 1, .iload_n 1, 0), (19, 3, .if_icmp .ne 24, .if_icmp .ne 5, 0), (22, 1, .iconst 1, .iconst 1, 0), (23, 1, .ireturn, .ireturn, 0), (24, 3, .getstatic 901, .getstatic 22, 77), (27, 1, .iload 2, .iload_n 2, 0), (28, 1, .iaload, .iaload, 0), (29, 1, .istore 2, .istore_n 2, 0), (30, 3, .iinc 3 1, .iinc 3 1, 0), (33, 3, .goto 4, .goto (-29), 0), (36, 1, .iconst 0, .iconst 0, 0), (37, 1, .ireturn, .ireturn, 0)]
def am_pX5_has : Am_p := [(0, 1, .iload 1, .iload_n 1, 0), (1, 3, .ifCond .lt 16, .ifCond .lt 15, 0), (4, 1, .iload 1, .iload_n 1, 0), (5, 1, .aload 0, .aload_n 0, 0), (6, 3, .getfield 321, .getfield 25, 78), (9, 3, .if_icmp .ge 16, .if_icmp .ge 7, 0), (12, 1, .iconst 1, .iconst 1, 0), (13, 3, .goto 17, .goto 4, 0), (16, 1, .iconst 0, .iconst 0, 0), (17, 1, .ireturn, .ireturn, 0)]
def am_pX5_added : Am_p := [(0, 1, .aload 0, .aload_n 0, 0), (1, 3, .getfield 321, .getfield 25, 78), (4, 2, .iconst 50, .bipush 50, 0), (6, 3, .if_icmp .lt 12, .if_icmp .lt 6, 0), (9, 2, .iconst (-3), .bipush (-3), 0), (11, 1, .ireturn, .ireturn, 0), (12, 1, .aload 0, .aload_n 0, 0), (13, 3, .getfield 320, .getfield 11, 79), (16, 1, .aload 0, .aload_n 0, 0), (17, 3, .getfield 321, .getfield 25, 78), (20, 1, .iload 1, .iload_n 1, 0), (21, 1, .iastore, .iastore, 0), (22, 1, .aload 0, .aload_n 0, 0), (23, 1, .dup, .dup, 0), (24, 3, .getfield 321, .getfield 25, 78), (27, 1, .iconst 1, .iconst 1, 0), (28, 1, .iadd, .iadd, 0), (29, 3, .putfield 321, .putfield 25, 78), (32, 1, .aload 0, .aload_n 0, 0), (33, 3, .getfield 321, .getfield 25, 78), (36, 1, .iconst 1, .iconst 1, 0), (37, 1, .isub, .isub, 0), (38, 1, .ireturn, .ireturn, 0)]
def am_pX5_acted : Am_p := [(0, 1, .aload 0, .aload_n 0, 0), (1, 1, .iconst 0, .iconst 0, 0), (2, 3, .putfield 323, .putfield 29, 80), (5, 1, .aload 0, .aload_n 0, 0), (6, 1, .iload 1, .iload_n 1, 0), (7, 3, .invokevirtual 44, .invokevirtual 32, 81), (10, 3, .ifCond .eq 22, .ifCond .eq 12, 0), (13, 1, .iload 2, .iload_n 2, 0), (14, 3, .ifCond .lt 22, .ifCond .lt 8, 0), (17, 1, .iload 2, .iload_n 2, 0), (18, 1, .iconst 4, .iconst 4, 0), (19, 3, .if_icmp .lt 24, .if_icmp .lt 5, 0), (22, 1, .iconst 0, .iconst 0, 0), (23, 1, .ireturn, .ireturn, 0), (24, 1, .aload 0, .aload_n 0, 0), (25, 1, .iload 1, .iload_n 1, 0), (26, 1, .iload 2, .iload_n 2, 0), (27, 1, .iload 3, .iload_n 3, 0), (28, 1, .iconst 0, .iconst 0, 0), (29, 3, .invokevirtual 47, .invokevirtual 35, 82), (32, 1, .ireturn, .ireturn, 0)]
def am_pX5_own : Am_p := [(0, 1, .aload 0, .aload_n 0, 0), (1, 1, .aload 0, .aload_n 0, 0), (2, 3, .getfield 320, .getfield 11, 79), (5, 1, .iload 1, .iload_n 1, 0), (6, 1, .iaload, .iaload, 0), (7, 1, .iload 1, .iload_n 1, 0), (8, 1, .iload 2, .iload_n 2, 0), (9, 1, .iload 3, .iload_n 3, 0), (10, 2, .iload 4, .iload 4, 0), (12, 3, .invokevirtual 49, .invokevirtual 39, 83), (15, 1, .ireturn, .ireturn, 0)]
def am_pX5_above : Am_p := [(0, 1, .aload 0, .aload_n 0, 0), (1, 3, .getstatic 901, .getstatic 22, 77), (4, 1, .iload 1, .iload_n 1, 0), (5, 1, .iaload, .iaload, 0), (6, 1, .iload 2, .iload_n 2, 0), (7, 1, .iload 3, .iload_n 3, 0), (8, 2, .iload 4, .iload 4, 0), (10, 2, .iload 5, .iload 5, 0), (12, 3, .invokevirtual 49, .invokevirtual 39, 83), (15, 1, .ireturn, .ireturn, 0)]
def am_pX5_ranFrom : Am_p := [(0, 2, .iload 5, .iload 5, 0), (2, 2, .iconst 40, .bipush 40, 0), (4, 3, .if_icmp .le 9, .if_icmp .le 5, 0), (7, 1, .iconst 0, .iconst 0, 0), (8, 1, .ireturn, .ireturn, 0), (9, 1, .iload 1, .iload_n 1, 0), (10, 1, .iload 3, .iload_n 3, 0), (11, 3, .invokestatic 50, .invokestatic 43, 84), (14, 2, .istore 6, .istore 6, 0), (16, 1, .aload 0, .aload_n 0, 0), (17, 2, .iload 6, .iload 6, 0), (19, 3, .invokevirtual 51, .invokevirtual 47, 85), (22, 1, .iload 3, .iload_n 3, 0), (23, 25, .tableswitch 90 0 2 #[48, 62, 76], .tableswitch 67 0 2 #[25, 39, 53], 0), (48, 1, .aload 0, .aload_n 0, 0), (49, 2, .iload 6, .iload 6, 0), (51, 1, .iload 2, .iload_n 2, 0), (52, 2, .iload 4, .iload 4, 0), (54, 2, .iload 5, .iload 5, 0), (56, 1, .iconst 1, .iconst 1, 0), (57, 1, .iadd, .iadd, 0), (58, 3, .invokevirtual 52, .invokevirtual 51, 86), (61, 1, .ireturn, .ireturn, 0), (62, 1, .aload 0, .aload_n 0, 0), (63, 2, .iload 6, .iload 6, 0), (65, 1, .iload 2, .iload_n 2, 0), (66, 2, .iload 4, .iload 4, 0), (68, 2, .iload 5, .iload 5, 0), (70, 1, .iconst 1, .iconst 1, 0), (71, 1, .iadd, .iadd, 0), (72, 3, .invokevirtual 53, .invokevirtual 54, 87), (75, 1, .ireturn, .ireturn, 0), (76, 1, .aload 0, .aload_n 0, 0), (77, 2, .iload 6, .iload 6, 0), (79, 1, .iload 2, .iload_n 2, 0), (80, 2, .iload 4, .iload 4, 0), (82, 2, .iload 5, .iload 5, 0), (84, 1, .iconst 1, .iconst 1, 0), (85, 1, .iadd, .iadd, 0), (86, 3, .invokevirtual 54, .invokevirtual 57, 88), (89, 1, .ireturn, .ireturn, 0), (90, 1, .aload 0, .aload_n 0, 0), (91, 2, .iload 6, .iload 6, 0), (93, 1, .iload 2, .iload_n 2, 0), (94, 2, .iload 4, .iload 4, 0), (96, 2, .iload 5, .iload 5, 0), (98, 1, .iconst 1, .iconst 1, 0), (99, 1, .iadd, .iadd, 0), (100, 3, .invokevirtual 55, .invokevirtual 60, 89), (103, 1, .ireturn, .ireturn, 0)]
def am_pX5_codeFrom : Am_p := [(0, 1, .iload 0, .iload_n 0, 0), (1, 1, .istore 2, .istore_n 2, 0), (2, 1, .iconst 0, .iconst 0, 0), (3, 1, .istore 3, .istore_n 3, 0), (4, 1, .iload 3, .iload_n 3, 0), (5, 2, .iconst 8, .bipush 8, 0), (7, 3, .if_icmp .ge 48, .if_icmp .ge 41, 0), (10, 1, .iload 2, .iload_n 2, 0), (11, 3, .invokestatic 42, .invokestatic 18, 76), (14, 3, .ifCond .eq 48, .ifCond .eq 34, 0), (17, 3, .getstatic 902, .getstatic 63, 90), (20, 1, .iload 2, .iload_n 2, 0), (21, 1, .iconst 4, .iconst 4, 0), (22, 1, .imul, .imul, 0), (23, 1, .iload 1, .iload_n 1, 0), (24, 1, .iadd, .iadd, 0), (25, 1, .iaload, .iaload, 0), (26, 2, .istore 4, .istore 4, 0), (28, 2, .iload 4, .iload 4, 0), (30, 3, .ifCond .eq 36, .ifCond .eq 6, 0), (33, 2, .iload 4, .iload 4, 0), (35, 1, .ireturn, .ireturn, 0), (36, 3, .getstatic 901, .getstatic 22, 77), (39, 1, .iload 2, .iload_n 2, 0), (40, 1, .iaload, .iaload, 0), (41, 1, .istore 2, .istore_n 2, 0), (42, 3, .iinc 3 1, .iinc 3 1, 0), (45, 3, .goto 4, .goto (-41), 0), (48, 1, .iconst 0, .iconst 0, 0), (49, 1, .ireturn, .ireturn, 0)]
def am_pX5_note : Am_p := [(0, 1, .aload 0, .aload_n 0, 0), (1, 3, .getfield 323, .getfield 29, 80), (4, 2, .iconst 24, .bipush 24, 0), (6, 3, .if_icmp .ge 19, .if_icmp .ge 13, 0), (9, 1, .aload 0, .aload_n 0, 0), (10, 3, .getfield 322, .getfield 15, 91), (13, 1, .aload 0, .aload_n 0, 0), (14, 3, .getfield 323, .getfield 29, 80), (17, 1, .iload 1, .iload_n 1, 0), (18, 1, .iastore, .iastore, 0), (19, 1, .aload 0, .aload_n 0, 0), (20, 1, .dup, .dup, 0), (21, 3, .getfield 323, .getfield 29, 80), (24, 1, .iconst 1, .iconst 1, 0), (25, 1, .iadd, .iadd, 0), (26, 3, .putfield 323, .putfield 29, 80), (29, 1, .return_, .return_, 0)]
def am_pX5_drawing : Am_p := [(0, 1, .iload 1, .iload_n 1, 0), (1, 27, .lookupswitch 55 #[(20, 28), (70, 41)], .lookupswitch 54 #[(20, 27), (70, 40)], 0), (28, 1, .aload 0, .aload_n 0, 0), (29, 1, .iconst 1, .iconst 1, 0), (30, 1, .iload 2, .iload_n 2, 0), (31, 1, .iconst 0, .iconst 0, 0), (32, 1, .iload 3, .iload_n 3, 0), (33, 2, .iload 4, .iload 4, 0), (35, 3, .invokevirtual 48, .invokevirtual 66, 92), (38, 1, .iconst 3, .iconst 3, 0), (39, 1, .iadd, .iadd, 0), (40, 1, .ireturn, .ireturn, 0), (41, 1, .aload 0, .aload_n 0, 0), (42, 2, .iconst 6, .bipush 6, 0), (44, 1, .iload 2, .iload_n 2, 0), (45, 1, .iconst 0, .iconst 0, 0), (46, 1, .iload 3, .iload_n 3, 0), (47, 2, .iload 4, .iload 4, 0), (49, 3, .invokevirtual 48, .invokevirtual 66, 92), (52, 1, .iconst 2, .iconst 2, 0), (53, 1, .imul, .imul, 0), (54, 1, .ireturn, .ireturn, 0), (55, 1, .iload 3, .iload_n 3, 0), (56, 1, .iload 2, .iload_n 2, 0), (57, 1, .iadd, .iadd, 0), (58, 1, .ireturn, .ireturn, 0)]
def am_pX5_meeting : Am_p := [(0, 1, .iload 1, .iload_n 1, 0), (1, 35, .lookupswitch 83 #[(30, 36), (41, 48), (80, 61)], .lookupswitch 82 #[(30, 35), (41, 47), (80, 60)], 0), (36, 1, .aload 0, .aload_n 0, 0), (37, 1, .iconst 2, .iconst 2, 0), (38, 1, .iload 2, .iload_n 2, 0), (39, 1, .iconst 1, .iconst 1, 0), (40, 1, .iload 3, .iload_n 3, 0), (41, 2, .iload 4, .iload 4, 0), (43, 3, .invokevirtual 48, .invokevirtual 66, 92), (46, 1, .ineg, .ineg, 0), (47, 1, .ireturn, .ireturn, 0), (48, 1, .aload 0, .aload_n 0, 0), (49, 1, .iconst 3, .iconst 3, 0), (50, 1, .iload 2, .iload_n 2, 0), (51, 1, .iconst 1, .iconst 1, 0), (52, 1, .iload 3, .iload_n 3, 0), (53, 1, .iconst 1, .iconst 1, 0), (54, 1, .iadd, .iadd, 0), (55, 2, .iload 4, .iload 4, 0), (57, 3, .invokevirtual 48, .invokevirtual 66, 92), (60, 1, .ireturn, .ireturn, 0), (61, 1, .aload 0, .aload_n 0, 0), (62, 2, .iconst 7, .bipush 7, 0), (64, 1, .iload 2, .iload_n 2, 0), (65, 1, .iconst 1, .iconst 1, 0), (66, 1, .iload 3, .iload_n 3, 0), (67, 2, .iload 4, .iload 4, 0), (69, 3, .invokevirtual 48, .invokevirtual 66, 92), (72, 1, .aload 0, .aload_n 0, 0), (73, 1, .iload 2, .iload_n 2, 0), (74, 1, .iconst 2, .iconst 2, 0), (75, 1, .iconst 2, .iconst 2, 0), (76, 2, .iload 4, .iload 4, 0), (78, 3, .invokevirtual 47, .invokevirtual 35, 82), (81, 1, .iadd, .iadd, 0), (82, 1, .ireturn, .ireturn, 0), (83, 1, .aload 0, .aload_n 0, 0), (84, 1, .iload 2, .iload_n 2, 0), (85, 1, .iconst 0, .iconst 0, 0), (86, 1, .iload 3, .iload_n 3, 0), (87, 2, .iload 4, .iload 4, 0), (89, 3, .invokevirtual 47, .invokevirtual 35, 82), (92, 1, .iconst 2, .iconst 2, 0), (93, 1, .imul, .imul, 0), (94, 1, .ireturn, .ireturn, 0)]
def am_pX5_shunning : Am_p := [(0, 1, .iload 1, .iload_n 1, 0), (1, 27, .lookupswitch 62 #[(40, 28), (50, 41)], .lookupswitch 61 #[(40, 27), (50, 40)], 0), (28, 1, .aload 0, .aload_n 0, 0), (29, 1, .iconst 3, .iconst 3, 0), (30, 1, .iload 2, .iload_n 2, 0), (31, 1, .iconst 2, .iconst 2, 0), (32, 1, .iload 3, .iload_n 3, 0), (33, 2, .iload 4, .iload 4, 0), (35, 3, .invokevirtual 48, .invokevirtual 66, 92), (38, 1, .iconst 3, .iconst 3, 0), (39, 1, .imul, .imul, 0), (40, 1, .ireturn, .ireturn, 0), (41, 1, .aload 0, .aload_n 0, 0), (42, 1, .iconst 4, .iconst 4, 0), (43, 1, .iload 2, .iload_n 2, 0), (44, 1, .iconst 2, .iconst 2, 0), (45, 1, .iload 3, .iload_n 3, 0), (46, 2, .iload 4, .iload 4, 0), (48, 3, .invokevirtual 48, .invokevirtual 66, 92), (51, 1, .aload 0, .aload_n 0, 0), (52, 1, .iload 2, .iload_n 2, 0), (53, 1, .iconst 0, .iconst 0, 0), (54, 1, .iconst 2, .iconst 2, 0), (55, 2, .iload 4, .iload 4, 0), (57, 3, .invokevirtual 47, .invokevirtual 35, 82), (60, 1, .isub, .isub, 0), (61, 1, .ireturn, .ireturn, 0), (62, 1, .iload 3, .iload_n 3, 0), (63, 1, .iload 2, .iload_n 2, 0), (64, 1, .ixor, .ixor, 0), (65, 1, .ireturn, .ireturn, 0)]
def am_pX5_telling : Am_p := [(0, 1, .iload 1, .iload_n 1, 0), (1, 27, .lookupswitch 55 #[(60, 28), (81, 41)], .lookupswitch 54 #[(60, 27), (81, 40)], 0), (28, 1, .aload 0, .aload_n 0, 0), (29, 1, .iconst 5, .iconst 5, 0), (30, 1, .iload 2, .iload_n 2, 0), (31, 1, .iconst 3, .iconst 3, 0), (32, 1, .iload 3, .iload_n 3, 0), (33, 2, .iload 4, .iload 4, 0), (35, 3, .invokevirtual 48, .invokevirtual 66, 92), (38, 1, .iconst 5, .iconst 5, 0), (39, 1, .ixor, .ixor, 0), (40, 1, .ireturn, .ireturn, 0), (41, 1, .aload 0, .aload_n 0, 0), (42, 2, .iconst 7, .bipush 7, 0), (44, 1, .iload 2, .iload_n 2, 0), (45, 1, .iconst 3, .iconst 3, 0), (46, 1, .iload 3, .iload_n 3, 0), (47, 2, .iload 4, .iload 4, 0), (49, 3, .invokevirtual 48, .invokevirtual 66, 92), (52, 1, .iconst 1, .iconst 1, 0), (53, 1, .isub, .isub, 0), (54, 1, .ireturn, .ireturn, 0), (55, 1, .aload 0, .aload_n 0, 0), (56, 1, .iload 2, .iload_n 2, 0), (57, 1, .iconst 1, .iconst 1, 0), (58, 1, .iload 3, .iload_n 3, 0), (59, 2, .iload 4, .iload 4, 0), (61, 3, .invokevirtual 47, .invokevirtual 35, 82), (64, 1, .aload 0, .aload_n 0, 0), (65, 1, .iload 2, .iload_n 2, 0), (66, 1, .iconst 2, .iconst 2, 0), (67, 1, .iconst 1, .iconst 1, 0), (68, 2, .iload 4, .iload 4, 0), (70, 3, .invokevirtual 47, .invokevirtual 35, 82), (73, 1, .isub, .isub, 0), (74, 1, .ireturn, .ireturn, 0)]
def am_pX6_isShelf : Am_p := [(0, 1, .iload 0, .iload_n 0, 0), (1, 3, .ifCond .lt 14, .ifCond .lt 13, 0), (4, 1, .iload 0, .iload_n 0, 0), (5, 2, .iconst 6, .bipush 6, 0), (7, 3, .if_icmp .ge 14, .if_icmp .ge 7, 0), (10, 1, .iconst 1, .iconst 1, 0), (11, 3, .goto 15, .goto 4, 0), (14, 1, .iconst 0, .iconst 0, 0), (15, 1, .ireturn, .ireturn, 0)]
def am_pX6_isEmpty : Am_p := [(0, 1, .aload 0, .aload_n 0, 0), (1, 3, .getfield 384, .getfield 11, 93), (4, 1, .iload 1, .iload_n 1, 0), (5, 1, .iaload, .iaload, 0), (6, 3, .ifCond .ne 13, .ifCond .ne 7, 0), (9, 1, .iconst 1, .iconst 1, 0), (10, 3, .goto 14, .goto 4, 0), (13, 1, .iconst 0, .iconst 0, 0), (14, 1, .ireturn, .ireturn, 0)]
def am_pX6_isMood : Am_p := [(0, 1, .aload 0, .aload_n 0, 0), (1, 3, .getfield 384, .getfield 11, 93), (4, 1, .iload 1, .iload_n 1, 0), (5, 1, .iaload, .iaload, 0), (6, 1, .iconst 1, .iconst 1, 0), (7, 3, .if_icmp .ne 14, .if_icmp .ne 7, 0), (10, 1, .iconst 1, .iconst 1, 0), (11, 3, .goto 15, .goto 4, 0), (14, 1, .iconst 0, .iconst 0, 0), (15, 1, .ireturn, .ireturn, 0)]
def am_pX6_isBook : Am_p := [(0, 1, .aload 0, .aload_n 0, 0), (1, 3, .getfield 384, .getfield 11, 93), (4, 1, .iload 1, .iload_n 1, 0), (5, 1, .iaload, .iaload, 0), (6, 1, .iconst 2, .iconst 2, 0), (7, 3, .if_icmp .ne 23, .if_icmp .ne 16, 0), (10, 1, .aload 0, .aload_n 0, 0), (11, 3, .getfield 386, .getfield 18, 94), (14, 1, .iload 1, .iload_n 1, 0), (15, 1, .iaload, .iaload, 0), (16, 3, .ifCond .ne 23, .ifCond .ne 7, 0), (19, 1, .iconst 1, .iconst 1, 0), (20, 3, .goto 24, .goto 4, 0), (23, 1, .iconst 0, .iconst 0, 0), (24, 1, .ireturn, .ireturn, 0)]
def am_pX6_clear : Am_p := [(0, 1, .aload 0, .aload_n 0, 0), (1, 3, .getfield 384, .getfield 11, 93), (4, 1, .iload 1, .iload_n 1, 0), (5, 1, .iconst 0, .iconst 0, 0), (6, 1, .iastore, .iastore, 0), (7, 1, .return_, .return_, 0)]
def am_pX6_holdMood : Am_p := [(0, 1, .aload 0, .aload_n 0, 0), (1, 3, .getfield 384, .getfield 11, 93), (4, 1, .iload 1, .iload_n 1, 0), (5, 1, .iconst 1, .iconst 1, 0), (6, 1, .iastore, .iastore, 0), (7, 1, .aload 0, .aload_n 0, 0), (8, 3, .getfield 385, .getfield 15, 95), (11, 1, .iload 1, .iload_n 1, 0), (12, 1, .iload 2, .iload_n 2, 0), (13, 1, .iastore, .iastore, 0), (14, 1, .return_, .return_, 0)]
def am_pX6_holdRow : Am_p := [(0, 1, .aload 0, .aload_n 0, 0), (1, 3, .getfield 384, .getfield 11, 93), (4, 1, .iload 1, .iload_n 1, 0), (5, 1, .iconst 2, .iconst 2, 0), (6, 1, .iastore, .iastore, 0), (7, 1, .aload 0, .aload_n 0, 0), (8, 3, .getfield 386, .getfield 18, 94), (11, 1, .iload 1, .iload_n 1, 0), (12, 1, .iload 2, .iload_n 2, 0), (13, 1, .iastore, .iastore, 0), (14, 1, .aload 0, .aload_n 0, 0), (15, 3, .getfield 387, .getfield 21, 96), (18, 1, .iload 1, .iload_n 1, 0), (19, 1, .iload 3, .iload_n 3, 0), (20, 1, .iastore, .iastore, 0), (21, 1, .aload 0, .aload_n 0, 0), (22, 3, .getfield 388, .getfield 26, 97), (25, 1, .iload 1, .iload_n 1, 0), (26, 1, .aaload, .aaload, 0), (27, 1, .ldc2_w 0, .lconst 0, 0), (28, 3, .invokestatic 262, .invokestatic 29, 98), (31, 1, .return_, .return_, 0)]
def am_pX6_rowRefusal : Am_p := [(0, 1, .iload 1, .iload_n 1, 0), (1, 3, .invokestatic 56, .invokestatic 35, 99), (4, 3, .ifCond .ne 9, .ifCond .ne 5, 0), (7, 1, .iconst (-1), .iconst (-1), 0), (8, 1, .ireturn, .ireturn, 0), (9, 1, .aload 0, .aload_n 0, 0), (10, 1, .iload 1, .iload_n 1, 0), (11, 3, .invokevirtual 57, .invokevirtual 39, 100), (14, 3, .ifCond .eq 20, .ifCond .eq 6, 0), (17, 2, .iconst (-11), .bipush (-11), 0), (19, 1, .ireturn, .ireturn, 0), (20, 1, .aload 0, .aload_n 0, 0), (21, 3, .getfield 384, .getfield 11, 93), (24, 1, .iload 1, .iload_n 1, 0), (25, 1, .iaload, .iaload, 0), (26, 1, .iconst 2, .iconst 2, 0), (27, 3, .if_icmp .ne 34, .if_icmp .ne 7, 0), (30, 1, .iconst 0, .iconst 0, 0), (31, 3, .goto 36, .goto 5, 0), (34, 2, .iconst (-12), .bipush (-12), 0), (36, 1, .ireturn, .ireturn, 0)]
def am_pX6_bookRefusal : Am_p := [(0, 1, .aload 0, .aload_n 0, 0), (1, 1, .iload 1, .iload_n 1, 0), (2, 3, .invokevirtual 63, .invokevirtual 42, 101), (5, 1, .istore 2, .istore_n 2, 0), (6, 1, .iload 2, .iload_n 2, 0), (7, 3, .ifCond .eq 12, .ifCond .eq 5, 0), (10, 1, .iload 2, .iload_n 2, 0), (11, 1, .ireturn, .ireturn, 0), (12, 1, .aload 0, .aload_n 0, 0), (13, 1, .iload 1, .iload_n 1, 0), (14, 3, .invokevirtual 59, .invokevirtual 46, 102), (17, 3, .ifCond .eq 24, .ifCond .eq 7, 0), (20, 1, .iconst 0, .iconst 0, 0), (21, 3, .goto 26, .goto 5, 0), (24, 2, .iconst (-12), .bipush (-12), 0), (26, 1, .ireturn, .ireturn, 0)]
def am_pX6_placeRefusal : Am_p := [(0, 1, .aload 0, .aload_n 0, 0), (1, 1, .iload 1, .iload_n 1, 0), (2, 3, .invokevirtual 63, .invokevirtual 42, 101), (5, 1, .istore 3, .istore_n 3, 0), (6, 1, .iload 3, .iload_n 3, 0), (7, 3, .ifCond .eq 12, .ifCond .eq 5, 0), (10, 1, .iload 3, .iload_n 3, 0), (11, 1, .ireturn, .ireturn, 0), (12, 1, .iload 2, .iload_n 2, 0), (13, 3, .ifCond .lt 30, .ifCond .lt 17, 0), (16, 1, .iload 2, .iload_n 2, 0), (17, 1, .aload 0, .aload_n 0, 0), (18, 3, .getfield 387, .getfield 21, 96), (21, 1, .iload 1, .iload_n 1, 0), (22, 1, .iaload, .iaload, 0), (23, 3, .if_icmp .ge 30, .if_icmp .ge 7, 0), (26, 1, .iconst 0, .iconst 0, 0), (27, 3, .goto 32, .goto 5, 0), (30, 2, .iconst (-13), .bipush (-13), 0), (32, 1, .ireturn, .ireturn, 0)]
def am_pX6_pairRefusal : Am_p := [(0, 1, .iload 1, .iload_n 1, 0), (1, 3, .invokestatic 56, .invokestatic 35, 99), (4, 3, .ifCond .eq 14, .ifCond .eq 10, 0), (7, 1, .iload 2, .iload_n 2, 0), (8, 3, .invokestatic 56, .invokestatic 35, 99), (11, 3, .ifCond .ne 16, .ifCond .ne 5, 0), (14, 1, .iconst (-1), .iconst (-1), 0), (15, 1, .ireturn, .ireturn, 0), (16, 1, .aload 0, .aload_n 0, 0), (17, 1, .iload 1, .iload_n 1, 0), (18, 3, .invokevirtual 57, .invokevirtual 39, 100), (21, 3, .ifCond .ne 32, .ifCond .ne 11, 0), (24, 1, .aload 0, .aload_n 0, 0), (25, 1, .iload 2, .iload_n 2, 0), (26, 3, .invokevirtual 57, .invokevirtual 39, 100), (29, 3, .ifCond .eq 35, .ifCond .eq 6, 0), (32, 2, .iconst (-11), .bipush (-11), 0), (34, 1, .ireturn, .ireturn, 0), (35, 1, .aload 0, .aload_n 0, 0), (36, 3, .getfield 384, .getfield 11, 93), (39, 1, .iload 1, .iload_n 1, 0), (40, 1, .iaload, .iaload, 0), (41, 1, .iconst 2, .iconst 2, 0), (42, 3, .if_icmp .ne 70, .if_icmp .ne 28, 0), (45, 1, .aload 0, .aload_n 0, 0), (46, 3, .getfield 384, .getfield 11, 93), (49, 1, .iload 2, .iload_n 2, 0), (50, 1, .iaload, .iaload, 0), (51, 1, .iconst 2, .iconst 2, 0), (52, 3, .if_icmp .ne 70, .if_icmp .ne 18, 0), (55, 1, .aload 0, .aload_n 0, 0), (56, 3, .getfield 386, .getfield 18, 94), (59, 1, .iload 1, .iload_n 1, 0), (60, 1, .iaload, .iaload, 0), (61, 1, .aload 0, .aload_n 0, 0), (62, 3, .getfield 386, .getfield 18, 94), (65, 1, .iload 2, .iload_n 2, 0), (66, 1, .iaload, .iaload, 0), (67, 3, .if_icmp .eq 73, .if_icmp .eq 6, 0), (70, 2, .iconst (-12), .bipush (-12), 0), (72, 1, .ireturn, .ireturn, 0), (73, 1, .iconst 0, .iconst 0, 0), (74, 1, .ireturn, .ireturn, 0)]
def am_pX6_hasSpan : Am_p := [(0, 1, .iload 2, .iload_n 2, 0), (1, 3, .ifCond .lt 34, .ifCond .lt 33, 0), (4, 1, .iload 3, .iload_n 3, 0), (5, 3, .ifCond .lt 34, .ifCond .lt 29, 0), (8, 1, .iload 2, .iload_n 2, 0), (9, 1, .aload 0, .aload_n 0, 0), (10, 3, .getfield 387, .getfield 21, 96), (13, 1, .iload 1, .iload_n 1, 0), (14, 1, .iaload, .iaload, 0), (15, 3, .if_icmp .gt 34, .if_icmp .gt 19, 0), (18, 1, .iload 3, .iload_n 3, 0), (19, 1, .aload 0, .aload_n 0, 0), (20, 3, .getfield 387, .getfield 21, 96), (23, 1, .iload 1, .iload_n 1, 0), (24, 1, .iaload, .iaload, 0), (25, 1, .iload 2, .iload_n 2, 0), (26, 1, .isub, .isub, 0), (27, 3, .if_icmp .gt 34, .if_icmp .gt 7, 0), (30, 1, .iconst 1, .iconst 1, 0), (31, 3, .goto 35, .goto 4, 0), (34, 1, .iconst 0, .iconst 0, 0), (35, 1, .ireturn, .ireturn, 0)]
def am_pX6_lowest : Am_p := [(0, 1, .iload 0, .iload_n 0, 0), (1, 35, .tableswitch 62 0 4 #[36, 41, 46, 62, 50], .tableswitch 61 0 4 #[35, 40, 45, 61, 49], 0), (36, 1, .lload 1, .lload_n 1, 0), (37, 1, .l2i, .l2i, 0), (38, 1, .i2b, .i2b, 0), (39, 1, .i2l, .i2l, 0), (40, 1, .lreturn, .lreturn, 0), (41, 1, .lload 1, .lload_n 1, 0), (42, 1, .l2i, .l2i, 0), (43, 1, .i2s, .i2s, 0), (44, 1, .i2l, .i2l, 0), (45, 1, .lreturn, .lreturn, 0), (46, 1, .lload 1, .lload_n 1, 0), (47, 1, .l2i, .l2i, 0), (48, 1, .i2l, .i2l, 0), (49, 1, .lreturn, .lreturn, 0), (50, 1, .lload 1, .lload_n 1, 0), (51, 1, .ldc2_w 0, .lconst 0, 0), (52, 1, .lcmp, .lcmp, 0), (53, 3, .ifCond .eq 60, .ifCond .eq 7, 0), (56, 1, .ldc2_w 1, .lconst 1, 0), (57, 3, .goto 61, .goto 4, 0), (60, 1, .ldc2_w 0, .lconst 0, 0), (61, 1, .lreturn, .lreturn, 0), (62, 1, .lload 1, .lload_n 1, 0), (63, 1, .lreturn, .lreturn, 0)]
def am_pX7_fitsBody : Am_p := [(0, 1, .iload 0, .iload_n 0, 0), (1, 1, .iconst 1, .iconst 1, 0), (2, 3, .if_icmp .lt 34, .if_icmp .lt 32, 0), (5, 1, .iload 0, .iload_n 0, 0), (6, 2, .iconst 60, .bipush 60, 0), (8, 3, .if_icmp .gt 34, .if_icmp .gt 26, 0), (11, 1, .iload 1, .iload_n 1, 0), (12, 3, .ifCond .lt 34, .ifCond .lt 22, 0), (15, 1, .iload 1, .iload_n 1, 0), (16, 1, .iload 0, .iload_n 0, 0), (17, 3, .if_icmp .ge 34, .if_icmp .ge 17, 0), (20, 1, .iload 2, .iload_n 2, 0), (21, 3, .ifCond .lt 34, .ifCond .lt 13, 0), (24, 1, .iload 2, .iload_n 2, 0), (25, 2, .iconst 9, .bipush 9, 0), (27, 3, .if_icmp .gt 34, .if_icmp .gt 7, 0), (30, 1, .iconst 1, .iconst 1, 0), (31, 3, .goto 35, .goto 4, 0), (34, 1, .iconst 0, .iconst 0, 0), (35, 1, .ireturn, .ireturn, 0)]
def am_pX7_added : Am_p := [(0, 1, .aload 0, .aload_n 0, 0), (1, 3, .getfield 453, .getfield 36, 103), (4, 2, .iconst 8, .bipush 8, 0), (6, 3, .if_icmp .lt 12, .if_icmp .lt 6, 0), (9, 2, .iconst (-3), .bipush (-3), 0), (11, 1, .ireturn, .ireturn, 0), (12, 1, .aload 0, .aload_n 0, 0), (13, 3, .getfield 448, .getfield 9, 104), (16, 1, .aload 0, .aload_n 0, 0), (17, 3, .getfield 453, .getfield 36, 103), (20, 1, .iload 1, .iload_n 1, 0), (21, 1, .iastore, .iastore, 0), (22, 1, .aload 0, .aload_n 0, 0), (23, 3, .getfield 449, .getfield 21, 105), (26, 1, .aload 0, .aload_n 0, 0), (27, 3, .getfield 453, .getfield 36, 103), (30, 1, .iload 2, .iload_n 2, 0), (31, 1, .iastore, .iastore, 0), (32, 1, .aload 0, .aload_n 0, 0), (33, 3, .getfield 450, .getfield 24, 106), (36, 1, .aload 0, .aload_n 0, 0), (37, 3, .getfield 453, .getfield 36, 103), (40, 1, .iload 3, .iload_n 3, 0), (41, 1, .iastore, .iastore, 0), (42, 1, .aload 0, .aload_n 0, 0), (43, 1, .dup, .dup, 0), (44, 3, .getfield 453, .getfield 36, 103), (47, 1, .iconst 1, .iconst 1, 0), (48, 1, .iadd, .iadd, 0), (49, 3, .putfield 453, .putfield 36, 103), (52, 1, .aload 0, .aload_n 0, 0), (53, 3, .getfield 453, .getfield 36, 103), (56, 1, .iconst 1, .iconst 1, 0), (57, 1, .isub, .isub, 0), (58, 1, .ireturn, .ireturn, 0)]
def am_pX7_has : Am_p := [(0, 1, .iload 1, .iload_n 1, 0), (1, 3, .ifCond .lt 16, .ifCond .lt 15, 0), (4, 1, .iload 1, .iload_n 1, 0), (5, 1, .aload 0, .aload_n 0, 0), (6, 3, .getfield 453, .getfield 36, 103), (9, 3, .if_icmp .ge 16, .if_icmp .ge 7, 0), (12, 1, .iconst 1, .iconst 1, 0), (13, 3, .goto 17, .goto 4, 0), (16, 1, .iconst 0, .iconst 0, 0), (17, 1, .ireturn, .ireturn, 0)]
def am_pX7_hasPair : Am_p := [(0, 1, .iload 1, .iload_n 1, 0), (1, 3, .ifCond .lt 41, .ifCond .lt 40, 0), (4, 1, .aload 0, .aload_n 0, 0), (5, 1, .iload 1, .iload_n 1, 0), (6, 2, .iconst 10, .bipush 10, 0), (8, 1, .idiv, .idiv, 0), (9, 3, .invokevirtual 71, .invokevirtual 39, 107), (12, 3, .ifCond .eq 41, .ifCond .eq 29, 0), (15, 1, .aload 0, .aload_n 0, 0), (16, 1, .iload 1, .iload_n 1, 0), (17, 2, .iconst 10, .bipush 10, 0), (19, 1, .irem, .irem, 0), (20, 3, .invokevirtual 71, .invokevirtual 39, 107), (23, 3, .ifCond .eq 41, .ifCond .eq 18, 0), (26, 1, .iload 1, .iload_n 1, 0), (27, 2, .iconst 10, .bipush 10, 0), (29, 1, .idiv, .idiv, 0), (30, 1, .iload 1, .iload_n 1, 0), (31, 2, .iconst 10, .bipush 10, 0), (33, 1, .irem, .irem, 0), (34, 3, .if_icmp .eq 41, .if_icmp .eq 7, 0), (37, 1, .iconst 1, .iconst 1, 0), (38, 3, .goto 42, .goto 4, 0), (41, 1, .iconst 0, .iconst 0, 0), (42, 1, .ireturn, .ireturn, 0)]
def am_pX7_hasAll : Am_p := [(0, 1, .iload 1, .iload_n 1, 0), (1, 3, .ifCond .lt 18, .ifCond .lt 17, 0), (4, 1, .iload 1, .iload_n 1, 0), (5, 1, .iconst 1, .iconst 1, 0), (6, 1, .aload 0, .aload_n 0, 0), (7, 3, .getfield 453, .getfield 36, 103), (10, 1, .ishl, .ishl, 0), (11, 3, .if_icmp .ge 18, .if_icmp .ge 7, 0), (14, 1, .iconst 1, .iconst 1, 0), (15, 3, .goto 19, .goto 4, 0), (18, 1, .iconst 0, .iconst 0, 0), (19, 1, .ireturn, .ireturn, 0)]
def am_pX7_hasNumber : Am_p := [(0, 1, .iload 2, .iload_n 2, 0), (1, 31, .tableswitch 60 0 3 #[32, 38, 44, 50], .tableswitch 59 0 3 #[31, 37, 43, 49], 0), (32, 1, .aload 0, .aload_n 0, 0), (33, 1, .iload 1, .iload_n 1, 0), (34, 3, .invokevirtual 71, .invokevirtual 39, 107), (37, 1, .ireturn, .ireturn, 0), (38, 1, .aload 0, .aload_n 0, 0), (39, 1, .iload 1, .iload_n 1, 0), (40, 3, .invokevirtual 71, .invokevirtual 39, 107), (43, 1, .ireturn, .ireturn, 0), (44, 1, .aload 0, .aload_n 0, 0), (45, 1, .iload 1, .iload_n 1, 0), (46, 3, .invokevirtual 72, .invokevirtual 43, 108), (49, 1, .ireturn, .ireturn, 0), (50, 1, .iload 1, .iload_n 1, 0), (51, 3, .ifCond .ne 58, .ifCond .ne 7, 0), (54, 1, .iconst 1, .iconst 1, 0), (55, 3, .goto 59, .goto 4, 0), (58, 1, .iconst 0, .iconst 0, 0), (59, 1, .ireturn, .ireturn, 0), (60, 1, .iconst 0, .iconst 0, 0), (61, 1, .ireturn, .ireturn, 0)]
def am_pX7_fitsNumber : Am_p := [(0, 1, .iload 2, .iload_n 2, 0), (1, 31, .tableswitch 102 0 3 #[32, 52, 68, 86], .tableswitch 101 0 3 #[31, 51, 67, 85], 0), (32, 1, .iload 3, .iload_n 3, 0), (33, 3, .ifCond .lt 50, .ifCond .lt 17, 0), (36, 1, .iload 3, .iload_n 3, 0), (37, 1, .aload 0, .aload_n 0, 0), (38, 3, .getfield 448, .getfield 9, 104), (41, 1, .iload 1, .iload_n 1, 0), (42, 1, .iaload, .iaload, 0), (43, 3, .if_icmp .ge 50, .if_icmp .ge 7, 0), (46, 1, .iconst 1, .iconst 1, 0), (47, 3, .goto 51, .goto 4, 0), (50, 1, .iconst 0, .iconst 0, 0), (51, 1, .ireturn, .ireturn, 0), (52, 1, .iload 3, .iload_n 3, 0), (53, 3, .ifCond .lt 66, .ifCond .lt 13, 0), (56, 1, .iload 3, .iload_n 3, 0), (57, 2, .iconst 9, .bipush 9, 0), (59, 3, .if_icmp .gt 66, .if_icmp .gt 7, 0), (62, 1, .iconst 1, .iconst 1, 0), (63, 3, .goto 67, .goto 4, 0), (66, 1, .iconst 0, .iconst 0, 0), (67, 1, .ireturn, .ireturn, 0), (68, 1, .iload 3, .iload_n 3, 0), (69, 2, .iconst (-9), .bipush (-9), 0), (71, 3, .if_icmp .lt 84, .if_icmp .lt 13, 0), (74, 1, .iload 3, .iload_n 3, 0), (75, 2, .iconst 9, .bipush 9, 0), (77, 3, .if_icmp .gt 84, .if_icmp .gt 7, 0), (80, 1, .iconst 1, .iconst 1, 0), (81, 3, .goto 85, .goto 4, 0), (84, 1, .iconst 0, .iconst 0, 0), (85, 1, .ireturn, .ireturn, 0), (86, 1, .iload 3, .iload_n 3, 0), (87, 3, .ifCond .lt 100, .ifCond .lt 13, 0), (90, 1, .iload 3, .iload_n 3, 0), (91, 2, .iconst 90, .bipush 90, 0), (93, 3, .if_icmp .gt 100, .if_icmp .gt 7, 0), (96, 1, .iconst 1, .iconst 1, 0), (97, 3, .goto 101, .goto 4, 0), (100, 1, .iconst 0, .iconst 0, 0), (101, 1, .ireturn, .ireturn, 0), (102, 1, .iconst 0, .iconst 0, 0), (103, 1, .ireturn, .ireturn, 0)]
def am_pX7_told : Am_p := [(0, 1, .iload 2, .iload_n 2, 0), (1, 27, .tableswitch 57 0 2 #[28, 35, 42], .tableswitch 56 0 2 #[27, 34, 41], 0), (28, 1, .aload 0, .aload_n 0, 0), (29, 3, .getfield 449, .getfield 21, 105), (32, 1, .iload 1, .iload_n 1, 0), (33, 1, .iaload, .iaload, 0), (34, 1, .ireturn, .ireturn, 0), (35, 1, .aload 0, .aload_n 0, 0), (36, 3, .getfield 450, .getfield 24, 106), (39, 1, .iload 1, .iload_n 1, 0), (40, 1, .iaload, .iaload, 0), (41, 1, .ireturn, .ireturn, 0), (42, 1, .aload 0, .aload_n 0, 0), (43, 3, .getfield 451, .getfield 29, 109), (46, 1, .iload 1, .iload_n 1, 0), (47, 2, .iconst 10, .bipush 10, 0), (49, 1, .idiv, .idiv, 0), (50, 1, .aaload, .aaload, 0), (51, 1, .iload 1, .iload_n 1, 0), (52, 2, .iconst 10, .bipush 10, 0), (54, 1, .irem, .irem, 0), (55, 1, .iaload, .iaload, 0), (56, 1, .ireturn, .ireturn, 0), (57, 1, .aload 0, .aload_n 0, 0), (58, 3, .getfield 452, .getfield 32, 110), (61, 1, .ireturn, .ireturn, 0)]
def am_pX7_tell : Am_p := [(0, 1, .iload 2, .iload_n 2, 0), (1, 27, .tableswitch 66 0 2 #[28, 38, 48], .tableswitch 65 0 2 #[27, 37, 47], 0), (28, 1, .aload 0, .aload_n 0, 0), (29, 3, .getfield 449, .getfield 21, 105), (32, 1, .iload 1, .iload_n 1, 0), (33, 1, .iload 3, .iload_n 3, 0), (34, 1, .iastore, .iastore, 0), (35, 3, .goto 71, .goto 36, 0), (38, 1, .aload 0, .aload_n 0, 0), (39, 3, .getfield 450, .getfield 24, 106), (42, 1, .iload 1, .iload_n 1, 0), (43, 1, .iload 3, .iload_n 3, 0), (44, 1, .iastore, .iastore, 0), (45, 3, .goto 71, .goto 26, 0), (48, 1, .aload 0, .aload_n 0, 0), (49, 3, .getfield 451, .getfield 29, 109), (52, 1, .iload 1, .iload_n 1, 0), (53, 2, .iconst 10, .bipush 10, 0), (55, 1, .idiv, .idiv, 0), (56, 1, .aaload, .aaload, 0), (57, 1, .iload 1, .iload_n 1, 0), (58, 2, .iconst 10, .bipush 10, 0), (60, 1, .irem, .irem, 0), (61, 1, .iload 3, .iload_n 3, 0), (62, 1, .iastore, .iastore, 0), (63, 3, .goto 71, .goto 8, 0), (66, 1, .aload 0, .aload_n 0, 0), (67, 1, .iload 3, .iload_n 3, 0), (68, 3, .putfield 452, .putfield 32, 110), (71, 1, .return_, .return_, 0)]
def am_pX7_degrees : Am_p := [(0, 3, .iconst 360, .sipush 360, 0), (3, 1, .iload 2, .iload_n 2, 0), (4, 1, .imul, .imul, 0), (5, 1, .aload 0, .aload_n 0, 0), (6, 3, .getfield 448, .getfield 9, 104), (9, 1, .iload 1, .iload_n 1, 0), (10, 1, .iaload, .iaload, 0), (11, 1, .idiv, .idiv, 0), (12, 1, .ireturn, .ireturn, 0)]
def am_pX7_gap : Am_p := [(0, 1, .iload 0, .iload_n 0, 0), (1, 1, .iload 1, .iload_n 1, 0), (2, 1, .isub, .isub, 0), (3, 3, .invokespecial 0, .invokestatic 46, 111), (6, 1, .istore 2, .istore_n 2, 0), (7, 1, .iload 2, .iload_n 2, 0), (8, 3, .iconst 360, .sipush 360, 0), (11, 1, .iload 2, .iload_n 2, 0), (12, 1, .isub, .isub, 0), (13, 3, .invokespecial 1, .invokestatic 52, 112), (16, 1, .ireturn, .ireturn, 0)]
def am_pX7_placeOn : Am_p := [(0, 1, .aload 0, .aload_n 0, 0), (1, 3, .getfield 449, .getfield 21, 105), (4, 1, .iload 1, .iload_n 1, 0), (5, 1, .iaload, .iaload, 0), (6, 1, .iload 2, .iload_n 2, 0), (7, 1, .iadd, .iadd, 0), (8, 1, .aload 0, .aload_n 0, 0), (9, 3, .getfield 448, .getfield 9, 104), (12, 1, .iload 1, .iload_n 1, 0), (13, 1, .iaload, .iaload, 0), (14, 3, .invokestatic 261, .invokestatic 56, 113), (17, 1, .ireturn, .ireturn, 0)]
def am_pX7_degreesOn : Am_p := [(0, 1, .aload 0, .aload_n 0, 0), (1, 1, .iload 1, .iload_n 1, 0), (2, 1, .aload 0, .aload_n 0, 0), (3, 1, .iload 1, .iload_n 1, 0), (4, 1, .iload 2, .iload_n 2, 0), (5, 3, .invokevirtual 80, .invokevirtual 59, 114), (8, 3, .invokevirtual 78, .invokevirtual 62, 115), (11, 1, .ireturn, .ireturn, 0)]
def am_pX7_gapOn : Am_p := [(0, 1, .aload 0, .aload_n 0, 0), (1, 1, .iload 1, .iload_n 1, 0), (2, 1, .iload 3, .iload_n 3, 0), (3, 3, .invokevirtual 81, .invokevirtual 65, 116), (6, 1, .aload 0, .aload_n 0, 0), (7, 1, .iload 2, .iload_n 2, 0), (8, 1, .iload 3, .iload_n 3, 0), (9, 3, .invokevirtual 81, .invokevirtual 65, 116), (12, 3, .invokestatic 79, .invokestatic 68, 117), (15, 1, .ireturn, .ireturn, 0)]
def am_pX7_meetOn : Am_p := [(0, 1, .aload 0, .aload_n 0, 0), (1, 1, .iload 1, .iload_n 1, 0), (2, 1, .iload 3, .iload_n 3, 0), (3, 3, .invokevirtual 81, .invokevirtual 65, 116), (6, 1, .aload 0, .aload_n 0, 0), (7, 1, .iload 2, .iload_n 2, 0), (8, 1, .iload 3, .iload_n 3, 0), (9, 3, .invokevirtual 81, .invokevirtual 65, 116), (12, 3, .invokestatic 79, .invokestatic 68, 117), (15, 1, .aload 0, .aload_n 0, 0), (16, 3, .getfield 452, .getfield 32, 110), (19, 3, .if_icmp .gt 26, .if_icmp .gt 7, 0), (22, 1, .iconst 1, .iconst 1, 0), (23, 3, .goto 27, .goto 4, 0), (26, 1, .iconst 0, .iconst 0, 0), (27, 1, .ireturn, .ireturn, 0)]
def am_pX7_meetMoved : Am_p := [(0, 1, .aload 0, .aload_n 0, 0), (1, 1, .iload 1, .iload_n 1, 0), (2, 1, .iload 2, .iload_n 2, 0), (3, 2, .iload 4, .iload 4, 0), (5, 1, .iadd, .iadd, 0), (6, 3, .invokevirtual 81, .invokevirtual 65, 116), (9, 1, .aload 0, .aload_n 0, 0), (10, 1, .iload 3, .iload_n 3, 0), (11, 2, .iload 4, .iload 4, 0), (13, 3, .invokevirtual 81, .invokevirtual 65, 116), (16, 3, .invokestatic 79, .invokestatic 68, 117), (19, 1, .aload 0, .aload_n 0, 0), (20, 3, .getfield 452, .getfield 32, 110), (23, 3, .if_icmp .gt 30, .if_icmp .gt 7, 0), (26, 1, .iconst 1, .iconst 1, 0), (27, 3, .goto 31, .goto 4, 0), (30, 1, .iconst 0, .iconst 0, 0), (31, 1, .ireturn, .ireturn, 0)]
def am_pX8_fed : Am_p := [(0, 1, .aload 0, .aload_n 0, 0), (1, 3, .getfield 513, .getfield 23, 118), (4, 2, .iconst 120, .bipush 120, 0), (6, 3, .if_icmp .lt 12, .if_icmp .lt 6, 0), (9, 2, .iconst (-3), .bipush (-3), 0), (11, 1, .ireturn, .ireturn, 0), (12, 1, .aload 0, .aload_n 0, 0), (13, 3, .getfield 512, .getfield 11, 119), (16, 1, .aload 0, .aload_n 0, 0), (17, 3, .getfield 513, .getfield 23, 118), (20, 1, .iload 1, .iload_n 1, 0), (21, 1, .iastore, .iastore, 0), (22, 1, .aload 0, .aload_n 0, 0), (23, 1, .dup, .dup, 0), (24, 3, .getfield 513, .getfield 23, 118), (27, 1, .iconst 1, .iconst 1, 0), (28, 1, .iadd, .iadd, 0), (29, 3, .putfield 513, .putfield 23, 118), (32, 1, .aload 0, .aload_n 0, 0), (33, 3, .getfield 513, .getfield 23, 118), (36, 1, .ireturn, .ireturn, 0)]
def am_pX8_isText : Am_p := [(0, 1, .aload 0, .aload_n 0, 0), (1, 1, .iconst 0, .iconst 0, 0), (2, 3, .putfield 514, .putfield 27, 120), (5, 1, .aload 0, .aload_n 0, 0), (6, 1, .iconst 0, .iconst 0, 0), (7, 3, .putfield 517, .putfield 30, 121), (10, 1, .aload 0, .aload_n 0, 0), (11, 3, .invokevirtual 89, .invokevirtual 33, 122), (14, 3, .ifCond .ne 19, .ifCond .ne 5, 0), (17, 1, .iconst 0, .iconst 0, 0), (18, 1, .ireturn, .ireturn, 0), (19, 1, .iconst 0, .iconst 0, 0), (20, 1, .istore 1, .istore_n 1, 0), (21, 1, .iload 1, .iload_n 1, 0), (22, 2, .iconst 120, .bipush 120, 0), (24, 3, .if_icmp .ge 61, .if_icmp .ge 37, 0), (27, 1, .aload 0, .aload_n 0, 0), (28, 3, .invokevirtual 87, .invokevirtual 37, 123), (31, 2, .iconst 59, .bipush 59, 0), (33, 3, .if_icmp .ne 61, .if_icmp .ne 28, 0), (36, 1, .aload 0, .aload_n 0, 0), (37, 1, .dup, .dup, 0), (38, 3, .getfield 514, .getfield 27, 120), (41, 1, .iconst 1, .iconst 1, 0), (42, 1, .iadd, .iadd, 0), (43, 3, .putfield 514, .putfield 27, 120), (46, 1, .aload 0, .aload_n 0, 0), (47, 3, .invokevirtual 89, .invokevirtual 33, 122), (50, 3, .ifCond .ne 55, .ifCond .ne 5, 0), (53, 1, .iconst 0, .iconst 0, 0), (54, 1, .ireturn, .ireturn, 0), (55, 3, .iinc 1 1, .iinc 1 1, 0), (58, 3, .goto 21, .goto (-37), 0), (61, 1, .aload 0, .aload_n 0, 0), (62, 3, .invokevirtual 87, .invokevirtual 37, 123), (65, 1, .iconst (-1), .iconst (-1), 0), (66, 3, .if_icmp .ne 73, .if_icmp .ne 7, 0), (69, 1, .iconst 1, .iconst 1, 0), (70, 3, .goto 74, .goto 4, 0), (73, 1, .iconst 0, .iconst 0, 0), (74, 1, .ireturn, .ireturn, 0)]
def am_pX8_next : Am_p := [(0, 1, .aload 0, .aload_n 0, 0), (1, 3, .getfield 514, .getfield 27, 120), (4, 3, .ifCond .lt 30, .ifCond .lt 26, 0), (7, 1, .aload 0, .aload_n 0, 0), (8, 3, .getfield 514, .getfield 27, 120), (11, 1, .aload 0, .aload_n 0, 0), (12, 3, .getfield 513, .getfield 23, 118), (15, 3, .if_icmp .ge 30, .if_icmp .ge 15, 0), (18, 1, .aload 0, .aload_n 0, 0), (19, 3, .getfield 512, .getfield 11, 119), (22, 1, .aload 0, .aload_n 0, 0), (23, 3, .getfield 514, .getfield 27, 120), (26, 1, .iaload, .iaload, 0), (27, 3, .goto 31, .goto 4, 0), (30, 1, .iconst (-1), .iconst (-1), 0), (31, 1, .ireturn, .ireturn, 0)]
def am_pX8_draft : Am_p := [(0, 1, .aload 0, .aload_n 0, 0), (1, 3, .getfield 517, .getfield 30, 121), (4, 2, .iconst 121, .bipush 121, 0), (6, 3, .if_icmp .ge 39, .if_icmp .ge 33, 0), (9, 1, .aload 0, .aload_n 0, 0), (10, 3, .getfield 515, .getfield 17, 124), (13, 1, .aload 0, .aload_n 0, 0), (14, 3, .getfield 517, .getfield 30, 121), (17, 1, .iload 1, .iload_n 1, 0), (18, 1, .iastore, .iastore, 0), (19, 1, .aload 0, .aload_n 0, 0), (20, 3, .getfield 516, .getfield 20, 125), (23, 1, .aload 0, .aload_n 0, 0), (24, 3, .getfield 517, .getfield 30, 121), (27, 1, .iload 2, .iload_n 2, 0), (28, 1, .iastore, .iastore, 0), (29, 1, .aload 0, .aload_n 0, 0), (30, 1, .dup, .dup, 0), (31, 3, .getfield 517, .getfield 30, 121), (34, 1, .iconst 1, .iconst 1, 0), (35, 1, .iadd, .iadd, 0), (36, 3, .putfield 517, .putfield 30, 121), (39, 1, .return_, .return_, 0)]
def am_pX8_readsLine : Am_p := [(0, 1, .aload 0, .aload_n 0, 0), (1, 1, .iconst 0, .iconst 0, 0), (2, 3, .invokevirtual 90, .invokevirtual 41, 126), (5, 3, .ifCond .ne 10, .ifCond .ne 5, 0), (8, 1, .iconst 0, .iconst 0, 0), (9, 1, .ireturn, .ireturn, 0), (10, 1, .aload 0, .aload_n 0, 0), (11, 3, .invokevirtual 87, .invokevirtual 37, 123), (14, 2, .iconst 63, .bipush 63, 0), (16, 3, .if_icmp .eq 28, .if_icmp .eq 12, 0), (19, 1, .aload 0, .aload_n 0, 0), (20, 2, .iconst 6, .bipush 6, 0), (22, 1, .iconst 0, .iconst 0, 0), (23, 3, .invokevirtual 88, .invokevirtual 45, 127), (26, 1, .iconst 1, .iconst 1, 0), (27, 1, .ireturn, .ireturn, 0), (28, 1, .aload 0, .aload_n 0, 0), (29, 3, .getfield 517, .getfield 30, 121), (32, 1, .istore 1, .istore_n 1, 0), (33, 1, .aload 0, .aload_n 0, 0), (34, 1, .dup, .dup, 0), (35, 3, .getfield 514, .getfield 27, 120), (38, 1, .iconst 1, .iconst 1, 0), (39, 1, .iadd, .iadd, 0), (40, 3, .putfield 514, .putfield 27, 120), (43, 1, .aload 0, .aload_n 0, 0), (44, 1, .iconst 5, .iconst 5, 0), (45, 1, .iconst 0, .iconst 0, 0), (46, 3, .invokevirtual 88, .invokevirtual 45, 127), (49, 1, .aload 0, .aload_n 0, 0), (50, 1, .iconst 0, .iconst 0, 0), (51, 3, .invokevirtual 90, .invokevirtual 41, 126), (54, 3, .ifCond .ne 59, .ifCond .ne 5, 0), (57, 1, .iconst 0, .iconst 0, 0), (58, 1, .ireturn, .ireturn, 0), (59, 1, .aload 0, .aload_n 0, 0), (60, 2, .iconst 6, .bipush 6, 0), (62, 1, .iconst 0, .iconst 0, 0), (63, 3, .invokevirtual 88, .invokevirtual 45, 127), (66, 1, .iload 1, .iload_n 1, 0), (67, 2, .iconst 121, .bipush 121, 0), (69, 3, .if_icmp .ge 82, .if_icmp .ge 13, 0), (72, 1, .aload 0, .aload_n 0, 0), (73, 3, .getfield 516, .getfield 20, 125), (76, 1, .iload 1, .iload_n 1, 0), (77, 1, .aload 0, .aload_n 0, 0), (78, 3, .getfield 517, .getfield 30, 121), (81, 1, .iastore, .iastore, 0), (82, 1, .iconst 1, .iconst 1, 0), (83, 1, .ireturn, .ireturn, 0)]
def am_pX8_readsEither : Am_p := [(0, 1, .aload 0, .aload_n 0, 0), (1, 1, .iload 1, .iload_n 1, 0), (2, 3, .invokevirtual 91, .invokevirtual 49, 128), (5, 3, .ifCond .ne 10, .ifCond .ne 5, 0), (8, 1, .iconst 0, .iconst 0, 0), (9, 1, .ireturn, .ireturn, 0), (10, 1, .iconst 0, .iconst 0, 0), (11, 1, .istore 2, .istore_n 2, 0), (12, 1, .iload 2, .iload_n 2, 0), (13, 2, .iconst 120, .bipush 120, 0), (15, 3, .if_icmp .ge 60, .if_icmp .ge 45, 0), (18, 1, .aload 0, .aload_n 0, 0), (19, 3, .invokevirtual 87, .invokevirtual 37, 123), (22, 2, .iconst 124, .bipush 124, 0), (24, 3, .if_icmp .ne 60, .if_icmp .ne 36, 0), (27, 1, .aload 0, .aload_n 0, 0), (28, 1, .dup, .dup, 0), (29, 3, .getfield 514, .getfield 27, 120), (32, 1, .iconst 1, .iconst 1, 0), (33, 1, .iadd, .iadd, 0), (34, 3, .putfield 514, .putfield 27, 120), (37, 1, .aload 0, .aload_n 0, 0), (38, 1, .iload 1, .iload_n 1, 0), (39, 3, .invokevirtual 91, .invokevirtual 49, 128), (42, 3, .ifCond .ne 47, .ifCond .ne 5, 0), (45, 1, .iconst 0, .iconst 0, 0), (46, 1, .ireturn, .ireturn, 0), (47, 1, .aload 0, .aload_n 0, 0), (48, 2, .iconst 124, .bipush 124, 0), (50, 1, .iconst 0, .iconst 0, 0), (51, 3, .invokevirtual 88, .invokevirtual 45, 127), (54, 3, .iinc 2 1, .iinc 2 1, 0), (57, 3, .goto 12, .goto (-45), 0), (60, 1, .iconst 1, .iconst 1, 0), (61, 1, .ireturn, .ireturn, 0)]
def am_pX8_readsBoth : Am_p := [(0, 1, .aload 0, .aload_n 0, 0), (1, 1, .iload 1, .iload_n 1, 0), (2, 3, .invokevirtual 92, .invokevirtual 52, 129), (5, 3, .ifCond .ne 10, .ifCond .ne 5, 0), (8, 1, .iconst 0, .iconst 0, 0), (9, 1, .ireturn, .ireturn, 0), (10, 1, .iconst 0, .iconst 0, 0), (11, 1, .istore 2, .istore_n 2, 0), (12, 1, .iload 2, .iload_n 2, 0), (13, 2, .iconst 120, .bipush 120, 0), (15, 3, .if_icmp .ge 60, .if_icmp .ge 45, 0), (18, 1, .aload 0, .aload_n 0, 0), (19, 3, .invokevirtual 87, .invokevirtual 37, 123), (22, 2, .iconst 38, .bipush 38, 0), (24, 3, .if_icmp .ne 60, .if_icmp .ne 36, 0), (27, 1, .aload 0, .aload_n 0, 0), (28, 1, .dup, .dup, 0), (29, 3, .getfield 514, .getfield 27, 120), (32, 1, .iconst 1, .iconst 1, 0), (33, 1, .iadd, .iadd, 0), (34, 3, .putfield 514, .putfield 27, 120), (37, 1, .aload 0, .aload_n 0, 0), (38, 1, .iload 1, .iload_n 1, 0), (39, 3, .invokevirtual 92, .invokevirtual 52, 129), (42, 3, .ifCond .ne 47, .ifCond .ne 5, 0), (45, 1, .iconst 0, .iconst 0, 0), (46, 1, .ireturn, .ireturn, 0), (47, 1, .aload 0, .aload_n 0, 0), (48, 2, .iconst 38, .bipush 38, 0), (50, 1, .iconst 0, .iconst 0, 0), (51, 3, .invokevirtual 88, .invokevirtual 45, 127), (54, 3, .iinc 2 1, .iinc 2 1, 0), (57, 3, .goto 12, .goto (-45), 0), (60, 1, .iconst 1, .iconst 1, 0), (61, 1, .ireturn, .ireturn, 0)]
def am_pX8_readsCompared : Am_p := [(0, 1, .aload 0, .aload_n 0, 0), (1, 1, .iload 1, .iload_n 1, 0), (2, 3, .invokevirtual 93, .invokevirtual 55, 130), (5, 3, .ifCond .ne 10, .ifCond .ne 5, 0), (8, 1, .iconst 0, .iconst 0, 0), (9, 1, .ireturn, .ireturn, 0), (10, 1, .aload 0, .aload_n 0, 0), (11, 3, .invokevirtual 87, .invokevirtual 37, 123), (14, 1, .istore 2, .istore_n 2, 0), (15, 1, .iload 2, .iload_n 2, 0), (16, 2, .iconst 60, .bipush 60, 0), (18, 3, .if_icmp .eq 35, .if_icmp .eq 17, 0), (21, 1, .iload 2, .iload_n 2, 0), (22, 2, .iconst 61, .bipush 61, 0), (24, 3, .if_icmp .eq 35, .if_icmp .eq 11, 0), (27, 1, .iload 2, .iload_n 2, 0), (28, 2, .iconst 62, .bipush 62, 0), (30, 3, .if_icmp .eq 35, .if_icmp .eq 5, 0), (33, 1, .iconst 1, .iconst 1, 0), (34, 1, .ireturn, .ireturn, 0), (35, 1, .aload 0, .aload_n 0, 0), (36, 1, .dup, .dup, 0), (37, 3, .getfield 514, .getfield 27, 120), (40, 1, .iconst 1, .iconst 1, 0), (41, 1, .iadd, .iadd, 0), (42, 3, .putfield 514, .putfield 27, 120), (45, 1, .aload 0, .aload_n 0, 0), (46, 1, .iload 1, .iload_n 1, 0), (47, 3, .invokevirtual 93, .invokevirtual 55, 130), (50, 3, .ifCond .ne 55, .ifCond .ne 5, 0), (53, 1, .iconst 0, .iconst 0, 0), (54, 1, .ireturn, .ireturn, 0), (55, 1, .aload 0, .aload_n 0, 0), (56, 1, .iload 2, .iload_n 2, 0), (57, 1, .iconst 0, .iconst 0, 0), (58, 3, .invokevirtual 88, .invokevirtual 45, 127), (61, 1, .iconst 1, .iconst 1, 0), (62, 1, .ireturn, .ireturn, 0)]
def am_pX8_readsSum : Am_p := [(0, 1, .aload 0, .aload_n 0, 0), (1, 1, .iload 1, .iload_n 1, 0), (2, 3, .invokevirtual 94, .invokevirtual 58, 131), (5, 3, .ifCond .ne 10, .ifCond .ne 5, 0), (8, 1, .iconst 0, .iconst 0, 0), (9, 1, .ireturn, .ireturn, 0), (10, 1, .iconst 0, .iconst 0, 0), (11, 1, .istore 2, .istore_n 2, 0), (12, 1, .iload 2, .iload_n 2, 0), (13, 2, .iconst 120, .bipush 120, 0), (15, 3, .if_icmp .ge 73, .if_icmp .ge 58, 0), (18, 1, .aload 0, .aload_n 0, 0), (19, 3, .invokevirtual 87, .invokevirtual 37, 123), (22, 2, .iconst 43, .bipush 43, 0), (24, 3, .if_icmp .eq 36, .if_icmp .eq 12, 0), (27, 1, .aload 0, .aload_n 0, 0), (28, 3, .invokevirtual 87, .invokevirtual 37, 123), (31, 2, .iconst 45, .bipush 45, 0), (33, 3, .if_icmp .ne 73, .if_icmp .ne 40, 0), (36, 1, .aload 0, .aload_n 0, 0), (37, 3, .invokevirtual 87, .invokevirtual 37, 123), (40, 1, .istore 3, .istore_n 3, 0), (41, 1, .aload 0, .aload_n 0, 0), (42, 1, .dup, .dup, 0), (43, 3, .getfield 514, .getfield 27, 120), (46, 1, .iconst 1, .iconst 1, 0), (47, 1, .iadd, .iadd, 0), (48, 3, .putfield 514, .putfield 27, 120), (51, 1, .aload 0, .aload_n 0, 0), (52, 1, .iload 1, .iload_n 1, 0), (53, 3, .invokevirtual 94, .invokevirtual 58, 131), (56, 3, .ifCond .ne 61, .ifCond .ne 5, 0), (59, 1, .iconst 0, .iconst 0, 0), (60, 1, .ireturn, .ireturn, 0), (61, 1, .aload 0, .aload_n 0, 0), (62, 1, .iload 3, .iload_n 3, 0), (63, 1, .iconst 0, .iconst 0, 0), (64, 3, .invokevirtual 88, .invokevirtual 45, 127), (67, 3, .iinc 2 1, .iinc 2 1, 0), (70, 3, .goto 12, .goto (-58), 0), (73, 1, .iconst 1, .iconst 1, 0), (74, 1, .ireturn, .ireturn, 0)]
def am_pX8_readsProduct : Am_p := [(0, 1, .aload 0, .aload_n 0, 0), (1, 1, .iload 1, .iload_n 1, 0), (2, 3, .invokevirtual 95, .invokevirtual 61, 132), (5, 3, .ifCond .ne 10, .ifCond .ne 5, 0), (8, 1, .iconst 0, .iconst 0, 0), (9, 1, .ireturn, .ireturn, 0), (10, 1, .iconst 0, .iconst 0, 0), (11, 1, .istore 2, .istore_n 2, 0), (12, 1, .iload 2, .iload_n 2, 0), (13, 2, .iconst 120, .bipush 120, 0), (15, 3, .if_icmp .ge 82, .if_icmp .ge 67, 0), (18, 1, .aload 0, .aload_n 0, 0), (19, 3, .invokevirtual 87, .invokevirtual 37, 123), (22, 2, .iconst 42, .bipush 42, 0), (24, 3, .if_icmp .eq 45, .if_icmp .eq 21, 0), (27, 1, .aload 0, .aload_n 0, 0), (28, 3, .invokevirtual 87, .invokevirtual 37, 123), (31, 2, .iconst 47, .bipush 47, 0), (33, 3, .if_icmp .eq 45, .if_icmp .eq 12, 0), (36, 1, .aload 0, .aload_n 0, 0), (37, 3, .invokevirtual 87, .invokevirtual 37, 123), (40, 2, .iconst 37, .bipush 37, 0), (42, 3, .if_icmp .ne 82, .if_icmp .ne 40, 0), (45, 1, .aload 0, .aload_n 0, 0), (46, 3, .invokevirtual 87, .invokevirtual 37, 123), (49, 1, .istore 3, .istore_n 3, 0), (50, 1, .aload 0, .aload_n 0, 0), (51, 1, .dup, .dup, 0), (52, 3, .getfield 514, .getfield 27, 120), (55, 1, .iconst 1, .iconst 1, 0), (56, 1, .iadd, .iadd, 0), (57, 3, .putfield 514, .putfield 27, 120), (60, 1, .aload 0, .aload_n 0, 0), (61, 1, .iload 1, .iload_n 1, 0), (62, 3, .invokevirtual 95, .invokevirtual 61, 132), (65, 3, .ifCond .ne 70, .ifCond .ne 5, 0), (68, 1, .iconst 0, .iconst 0, 0), (69, 1, .ireturn, .ireturn, 0), (70, 1, .aload 0, .aload_n 0, 0), (71, 1, .iload 3, .iload_n 3, 0), (72, 1, .iconst 0, .iconst 0, 0), (73, 3, .invokevirtual 88, .invokevirtual 45, 127), (76, 3, .iinc 2 1, .iinc 2 1, 0), (79, 3, .goto 12, .goto (-67), 0), (82, 1, .iconst 1, .iconst 1, 0), (83, 1, .ireturn, .ireturn, 0)]
def am_pX8_readsOperand : Am_p := [(0, 1, .aload 0, .aload_n 0, 0), (1, 3, .invokevirtual 87, .invokevirtual 37, 123), (4, 1, .istore 2, .istore_n 2, 0), (5, 1, .iload 2, .iload_n 2, 0), (6, 2, .iconst 48, .bipush 48, 0), (8, 3, .if_icmp .lt 23, .if_icmp .lt 15, 0), (11, 1, .iload 2, .iload_n 2, 0), (12, 2, .iconst 57, .bipush 57, 0), (14, 3, .if_icmp .gt 23, .if_icmp .gt 9, 0), (17, 1, .aload 0, .aload_n 0, 0), (18, 3, .invokevirtual 98, .invokevirtual 64, 133), (21, 1, .iconst 1, .iconst 1, 0), (22, 1, .ireturn, .ireturn, 0), (23, 1, .iload 2, .iload_n 2, 0), (24, 3, .invokestatic 34, .invokestatic 67, 134), (27, 1, .istore 3, .istore_n 3, 0), (28, 1, .iload 3, .iload_n 3, 0), (29, 3, .ifCond .lt 50, .ifCond .lt 21, 0), (32, 1, .aload 0, .aload_n 0, 0), (33, 1, .dup, .dup, 0), (34, 3, .getfield 514, .getfield 27, 120), (37, 1, .iconst 1, .iconst 1, 0), (38, 1, .iadd, .iadd, 0), (39, 3, .putfield 514, .putfield 27, 120), (42, 1, .aload 0, .aload_n 0, 0), (43, 1, .iconst 2, .iconst 2, 0), (44, 1, .iload 3, .iload_n 3, 0), (45, 3, .invokevirtual 88, .invokevirtual 45, 127), (48, 1, .iconst 1, .iconst 1, 0), (49, 1, .ireturn, .ireturn, 0), (50, 1, .iload 2, .iload_n 2, 0), (51, 2, .iconst 40, .bipush 40, 0), (53, 3, .if_icmp .eq 68, .if_icmp .eq 15, 0), (56, 1, .iload 2, .iload_n 2, 0), (57, 2, .iconst 33, .bipush 33, 0), (59, 3, .if_icmp .eq 68, .if_icmp .eq 9, 0), (62, 1, .iload 2, .iload_n 2, 0), (63, 2, .iconst 45, .bipush 45, 0), (65, 3, .if_icmp .ne 74, .if_icmp .ne 9, 0), (68, 1, .iload 1, .iload_n 1, 0), (69, 2, .iconst 6, .bipush 6, 0), (71, 3, .if_icmp .lt 76, .if_icmp .lt 5, 0), (74, 1, .iconst 0, .iconst 0, 0), (75, 1, .ireturn, .ireturn, 0), (76, 1, .aload 0, .aload_n 0, 0), (77, 1, .dup, .dup, 0), (78, 3, .getfield 514, .getfield 27, 120), (81, 1, .iconst 1, .iconst 1, 0), (82, 1, .iadd, .iadd, 0), (83, 3, .putfield 514, .putfield 27, 120), (86, 1, .iload 2, .iload_n 2, 0), (87, 2, .iconst 40, .bipush 40, 0), (89, 3, .if_icmp .ne 102, .if_icmp .ne 13, 0), (92, 1, .aload 0, .aload_n 0, 0), (93, 1, .iload 1, .iload_n 1, 0), (94, 1, .iconst 1, .iconst 1, 0), (95, 1, .iadd, .iadd, 0), (96, 3, .invokevirtual 96, .invokevirtual 71, 135), (99, 3, .goto 110, .goto 11, 0), (102, 1, .aload 0, .aload_n 0, 0), (103, 1, .iload 2, .iload_n 2, 0), (104, 1, .iload 1, .iload_n 1, 0), (105, 1, .iconst 1, .iconst 1, 0), (106, 1, .iadd, .iadd, 0), (107, 3, .invokevirtual 97, .invokevirtual 74, 136), (110, 1, .ireturn, .ireturn, 0)]
def am_pX8_readsClosed : Am_p := [(0, 1, .aload 0, .aload_n 0, 0), (1, 1, .iload 1, .iload_n 1, 0), (2, 3, .invokevirtual 90, .invokevirtual 41, 126), (5, 3, .ifCond .eq 17, .ifCond .eq 12, 0), (8, 1, .aload 0, .aload_n 0, 0), (9, 3, .invokevirtual 87, .invokevirtual 37, 123), (12, 2, .iconst 41, .bipush 41, 0), (14, 3, .if_icmp .eq 19, .if_icmp .eq 5, 0), (17, 1, .iconst 0, .iconst 0, 0), (18, 1, .ireturn, .ireturn, 0), (19, 1, .aload 0, .aload_n 0, 0), (20, 1, .dup, .dup, 0), (21, 3, .getfield 514, .getfield 27, 120), (24, 1, .iconst 1, .iconst 1, 0), (25, 1, .iadd, .iadd, 0), (26, 3, .putfield 514, .putfield 27, 120), (29, 1, .iconst 1, .iconst 1, 0), (30, 1, .ireturn, .ireturn, 0)]
def am_pX8_readsTurned : Am_p := [(0, 1, .aload 0, .aload_n 0, 0), (1, 1, .iload 2, .iload_n 2, 0), (2, 3, .invokevirtual 95, .invokevirtual 61, 132), (5, 3, .ifCond .ne 10, .ifCond .ne 5, 0), (8, 1, .iconst 0, .iconst 0, 0), (9, 1, .ireturn, .ireturn, 0), (10, 1, .aload 0, .aload_n 0, 0), (11, 1, .iload 1, .iload_n 1, 0), (12, 2, .iconst 33, .bipush 33, 0), (14, 3, .if_icmp .ne 21, .if_icmp .ne 7, 0), (17, 1, .iconst 3, .iconst 3, 0), (18, 3, .goto 22, .goto 4, 0), (21, 1, .iconst 4, .iconst 4, 0), (22, 1, .iconst 0, .iconst 0, 0), (23, 3, .invokevirtual 88, .invokevirtual 45, 127), (26, 1, .iconst 1, .iconst 1, 0), (27, 1, .ireturn, .ireturn, 0)]
def am_pX8_readNumber : Am_p := [(0, 1, .iconst 0, .iconst 0, 0), (1, 1, .istore 1, .istore_n 1, 0), (2, 1, .iconst 0, .iconst 0, 0), (3, 1, .istore 2, .istore_n 2, 0), (4, 1, .iload 2, .iload_n 2, 0), (5, 1, .iconst 4, .iconst 4, 0), (6, 3, .if_icmp .ge 56, .if_icmp .ge 50, 0), (9, 1, .aload 0, .aload_n 0, 0), (10, 3, .invokevirtual 87, .invokevirtual 37, 123), (13, 2, .iconst 48, .bipush 48, 0), (15, 3, .if_icmp .lt 56, .if_icmp .lt 41, 0), (18, 1, .aload 0, .aload_n 0, 0), (19, 3, .invokevirtual 87, .invokevirtual 37, 123), (22, 2, .iconst 57, .bipush 57, 0), (24, 3, .if_icmp .gt 56, .if_icmp .gt 32, 0), (27, 1, .iload 1, .iload_n 1, 0), (28, 2, .iconst 10, .bipush 10, 0), (30, 1, .imul, .imul, 0), (31, 1, .aload 0, .aload_n 0, 0), (32, 3, .invokevirtual 87, .invokevirtual 37, 123), (35, 1, .iadd, .iadd, 0), (36, 2, .iconst 48, .bipush 48, 0), (38, 1, .isub, .isub, 0), (39, 1, .istore 1, .istore_n 1, 0), (40, 1, .aload 0, .aload_n 0, 0), (41, 1, .dup, .dup, 0), (42, 3, .getfield 514, .getfield 27, 120), (45, 1, .iconst 1, .iconst 1, 0), (46, 1, .iadd, .iadd, 0), (47, 3, .putfield 514, .putfield 27, 120), (50, 3, .iinc 2 1, .iinc 2 1, 0), (53, 3, .goto 4, .goto (-49), 0), (56, 1, .aload 0, .aload_n 0, 0), (57, 1, .iconst 1, .iconst 1, 0), (58, 1, .iload 1, .iload_n 1, 0), (59, 3, .invokevirtual 88, .invokevirtual 45, 127), (62, 1, .return_, .return_, 0)]
def am_pX9_begin : Am_p := [(0, 1, .iconst 0, .iconst 0, 0), (1, 1, .istore 1, .istore_n 1, 0), (2, 1, .iload 1, .iload_n 1, 0), (3, 1, .aload 0, .aload_n 0, 0), (4, 3, .getfield 576, .getfield 9, 137), (7, 3, .getfield 453, .getfield 32, 138), (10, 3, .if_icmp .ge 34, .if_icmp .ge 24, 0), (13, 1, .aload 0, .aload_n 0, 0), (14, 3, .getfield 578, .getfield 19, 139), (17, 1, .iload 1, .iload_n 1, 0), (18, 1, .aload 0, .aload_n 0, 0), (19, 3, .getfield 576, .getfield 9, 137), (22, 3, .getfield 449, .getfield 38, 140), (25, 1, .iload 1, .iload_n 1, 0), (26, 1, .iaload, .iaload, 0), (27, 1, .iastore, .iastore, 0), (28, 3, .iinc 1 1, .iinc 1 1, 0), (31, 3, .goto 2, .goto (-29), 0), (34, 1, .return_, .return_, 0)]
def am_pX9_keepPlaces : Am_p := [(0, 1, .iconst 0, .iconst 0, 0), (1, 1, .istore 1, .istore_n 1, 0), (2, 1, .iload 1, .iload_n 1, 0), (3, 1, .aload 0, .aload_n 0, 0), (4, 3, .getfield 576, .getfield 9, 137), (7, 3, .getfield 453, .getfield 32, 138), (10, 3, .if_icmp .ge 34, .if_icmp .ge 24, 0), (13, 1, .aload 0, .aload_n 0, 0), (14, 3, .getfield 576, .getfield 9, 137), (17, 3, .getfield 449, .getfield 38, 140), (20, 1, .iload 1, .iload_n 1, 0), (21, 1, .aload 0, .aload_n 0, 0), (22, 3, .getfield 578, .getfield 19, 139), (25, 1, .iload 1, .iload_n 1, 0), (26, 1, .iaload, .iaload, 0), (27, 1, .iastore, .iastore, 0), (28, 3, .iinc 1 1, .iinc 1 1, 0), (31, 3, .goto 2, .goto (-29), 0), (34, 1, .return_, .return_, 0)]
def am_pX9_pass : Am_p := [(0, 1, .aload 0, .aload_n 0, 0), (1, 3, .invokevirtual 103, .invokevirtual 39, 141), (4, 1, .aload 0, .aload_n 0, 0), (5, 1, .iconst 0, .iconst 0, 0), (6, 3, .putfield 583, .putfield 42, 142), (9, 1, .iconst 0, .iconst 0, 0), (10, 1, .istore 2, .istore_n 2, 0), (11, 1, .iload 2, .iload_n 2, 0), (12, 1, .aload 0, .aload_n 0, 0), (13, 3, .getfield 576, .getfield 9, 137), (16, 3, .getfield 453, .getfield 32, 138), (19, 3, .if_icmp .ge 40, .if_icmp .ge 21, 0), (22, 1, .aload 0, .aload_n 0, 0), (23, 3, .getfield 580, .getfield 26, 143), (26, 1, .iload 2, .iload_n 2, 0), (27, 1, .aload 0, .aload_n 0, 0), (28, 1, .iload 2, .iload_n 2, 0), (29, 1, .iload 1, .iload_n 1, 0), (30, 3, .invokevirtual 104, .invokevirtual 45, 144), (33, 1, .iastore, .iastore, 0), (34, 3, .iinc 2 1, .iinc 2 1, 0), (37, 3, .goto 11, .goto (-26), 0), (40, 1, .iconst 0, .iconst 0, 0), (41, 1, .istore 2, .istore_n 2, 0), (42, 1, .iload 2, .iload_n 2, 0), (43, 1, .aload 0, .aload_n 0, 0), (44, 3, .getfield 576, .getfield 9, 137), (47, 3, .getfield 453, .getfield 32, 138), (50, 3, .if_icmp .ge 72, .if_icmp .ge 22, 0), (53, 1, .aload 0, .aload_n 0, 0), (54, 1, .iload 2, .iload_n 2, 0), (55, 1, .aload 0, .aload_n 0, 0), (56, 3, .getfield 580, .getfield 26, 143), (59, 1, .iload 2, .iload_n 2, 0), (60, 1, .iaload, .iaload, 0), (61, 1, .iconst 1, .iconst 1, 0), (62, 1, .iadd, .iadd, 0), (63, 3, .invokevirtual 102, .invokevirtual 49, 145), (66, 3, .iinc 2 1, .iinc 2 1, 0), (69, 3, .goto 42, .goto (-27), 0), (72, 1, .return_, .return_, 0)]
def am_pX9_move : Am_p := [(0, 1, .aload 0, .aload_n 0, 0), (1, 3, .getfield 578, .getfield 19, 139), (4, 1, .iload 1, .iload_n 1, 0), (5, 1, .aload 0, .aload_n 0, 0), (6, 3, .getfield 578, .getfield 19, 139), (9, 1, .iload 1, .iload_n 1, 0), (10, 1, .iaload, .iaload, 0), (11, 1, .iload 2, .iload_n 2, 0), (12, 1, .iadd, .iadd, 0), (13, 1, .aload 0, .aload_n 0, 0), (14, 3, .getfield 576, .getfield 9, 137), (17, 3, .getfield 448, .getfield 53, 146), (20, 1, .iload 1, .iload_n 1, 0), (21, 1, .iaload, .iaload, 0), (22, 3, .invokestatic 261, .invokestatic 56, 147), (25, 1, .iastore, .iastore, 0), (26, 1, .return_, .return_, 0)]
def am_pX9_look : Am_p := [(0, 1, .aload 0, .aload_n 0, 0), (1, 1, .iconst 0, .iconst 0, 0), (2, 3, .putfield 582, .putfield 61, 148), (5, 1, .iconst 0, .iconst 0, 0), (6, 1, .istore 1, .istore_n 1, 0), (7, 1, .iload 1, .iload_n 1, 0), (8, 1, .aload 0, .aload_n 0, 0), (9, 3, .getfield 576, .getfield 9, 137), (12, 3, .getfield 453, .getfield 32, 138), (15, 3, .if_icmp .ge 51, .if_icmp .ge 36, 0), (18, 1, .aload 0, .aload_n 0, 0), (19, 3, .getfield 579, .getfield 23, 149), (22, 1, .iload 1, .iload_n 1, 0), (23, 1, .aload 0, .aload_n 0, 0), (24, 3, .getfield 576, .getfield 9, 137), (27, 1, .iload 1, .iload_n 1, 0), (28, 1, .aload 0, .aload_n 0, 0), (29, 3, .getfield 578, .getfield 19, 139), (32, 1, .iload 1, .iload_n 1, 0), (33, 1, .iaload, .iaload, 0), (34, 3, .invokevirtual 78, .invokevirtual 64, 150), (37, 1, .iastore, .iastore, 0), (38, 1, .aload 0, .aload_n 0, 0), (39, 3, .getfield 581, .getfield 29, 151), (42, 1, .iload 1, .iload_n 1, 0), (43, 1, .iconst 0, .iconst 0, 0), (44, 1, .iastore, .iastore, 0), (45, 3, .iinc 1 1, .iinc 1 1, 0), (48, 3, .goto 7, .goto (-41), 0), (51, 1, .iconst 0, .iconst 0, 0), (52, 1, .istore 1, .istore_n 1, 0), (53, 1, .iload 1, .iload_n 1, 0), (54, 1, .aload 0, .aload_n 0, 0), (55, 3, .getfield 576, .getfield 9, 137), (58, 3, .getfield 453, .getfield 32, 138), (61, 3, .if_icmp .ge 150, .if_icmp .ge 89, 0), (64, 1, .iload 1, .iload_n 1, 0), (65, 1, .iconst 1, .iconst 1, 0), (66, 1, .iadd, .iadd, 0), (67, 1, .istore 2, .istore_n 2, 0), (68, 1, .iload 2, .iload_n 2, 0), (69, 1, .aload 0, .aload_n 0, 0), (70, 3, .getfield 576, .getfield 9, 137), (73, 3, .getfield 453, .getfield 32, 138), (76, 3, .if_icmp .ge 144, .if_icmp .ge 68, 0), (79, 1, .aload 0, .aload_n 0, 0), (80, 3, .getfield 579, .getfield 23, 149), (83, 1, .iload 1, .iload_n 1, 0), (84, 1, .iaload, .iaload, 0), (85, 1, .aload 0, .aload_n 0, 0), (86, 3, .getfield 579, .getfield 23, 149), (89, 1, .iload 2, .iload_n 2, 0), (90, 1, .iaload, .iaload, 0), (91, 3, .invokestatic 79, .invokestatic 66, 152), (94, 1, .aload 0, .aload_n 0, 0), (95, 3, .getfield 576, .getfield 9, 137), (98, 3, .getfield 452, .getfield 69, 153), (101, 3, .if_icmp .gt 138, .if_icmp .gt 37, 0), (104, 1, .aload 0, .aload_n 0, 0), (105, 3, .getfield 581, .getfield 29, 151), (108, 1, .iload 1, .iload_n 1, 0), (109, 1, .dup2, .dup2, 0), (110, 1, .iaload, .iaload, 0), (111, 1, .iconst 1, .iconst 1, 0), (112, 1, .iload 2, .iload_n 2, 0), (113, 1, .ishl, .ishl, 0), (114, 1, .ior, .ior, 0), (115, 1, .iastore, .iastore, 0), (116, 1, .aload 0, .aload_n 0, 0), (117, 3, .getfield 581, .getfield 29, 151), (120, 1, .iload 2, .iload_n 2, 0), (121, 1, .dup2, .dup2, 0), (122, 1, .iaload, .iaload, 0), (123, 1, .iconst 1, .iconst 1, 0), (124, 1, .iload 1, .iload_n 1, 0), (125, 1, .ishl, .ishl, 0), (126, 1, .ior, .ior, 0), (127, 1, .iastore, .iastore, 0), (128, 1, .aload 0, .aload_n 0, 0), (129, 1, .dup, .dup, 0), (130, 3, .getfield 582, .getfield 61, 148), (133, 1, .iconst 1, .iconst 1, 0), (134, 1, .iadd, .iadd, 0), (135, 3, .putfield 582, .putfield 61, 148), (138, 3, .iinc 2 1, .iinc 2 1, 0), (141, 3, .goto 68, .goto (-73), 0), (144, 3, .iinc 1 1, .iinc 1 1, 0), (147, 3, .goto 53, .goto (-94), 0), (150, 1, .return_, .return_, 0)]
def am_pX9_pushOf : Am_p := [(0, 1, .iconst 0, .iconst 0, 0), (1, 1, .istore 3, .istore_n 3, 0), (2, 1, .aload 0, .aload_n 0, 0), (3, 3, .getfield 577, .getfield 15, 154), (6, 1, .aload 0, .aload_n 0, 0), (7, 3, .getfield 576, .getfield 9, 137), (10, 3, .getfield 448, .getfield 53, 146), (13, 1, .iload 1, .iload_n 1, 0), (14, 1, .iaload, .iaload, 0), (15, 1, .iload 2, .iload_n 2, 0), (16, 1, .aload 0, .aload_n 0, 0), (17, 3, .getfield 578, .getfield 19, 139), (20, 1, .iload 1, .iload_n 1, 0), (21, 1, .iaload, .iaload, 0), (22, 3, .invokevirtual 36, .invokevirtual 72, 155), (25, 1, .iconst 0, .iconst 0, 0), (26, 2, .istore 4, .istore 4, 0), (28, 2, .iload 4, .iload 4, 0), (30, 1, .aload 0, .aload_n 0, 0), (31, 3, .getfield 576, .getfield 9, 137), (34, 3, .getfield 453, .getfield 32, 138), (37, 3, .if_icmp .ge 132, .if_icmp .ge 95, 0), (40, 1, .aload 0, .aload_n 0, 0), (41, 3, .getfield 581, .getfield 29, 151), (44, 1, .iload 1, .iload_n 1, 0), (45, 1, .iaload, .iaload, 0), (46, 2, .iload 4, .iload 4, 0), (48, 1, .ishr, .ishr, 0), (49, 1, .iconst 1, .iconst 1, 0), (50, 1, .iand, .iand, 0), (51, 1, .iconst 1, .iconst 1, 0), (52, 3, .if_icmp .ne 126, .if_icmp .ne 74, 0), (55, 1, .aload 0, .aload_n 0, 0), (56, 3, .getfield 579, .getfield 23, 149), (59, 1, .iload 1, .iload_n 1, 0), (60, 1, .iaload, .iaload, 0), (61, 1, .aload 0, .aload_n 0, 0), (62, 3, .getfield 579, .getfield 23, 149), (65, 2, .iload 4, .iload 4, 0), (67, 1, .iaload, .iaload, 0), (68, 3, .invokestatic 79, .invokestatic 66, 152), (71, 2, .istore 5, .istore 5, 0), (73, 1, .aload 0, .aload_n 0, 0), (74, 3, .getfield 577, .getfield 15, 154), (77, 1, .aload 0, .aload_n 0, 0), (78, 3, .getfield 576, .getfield 9, 137), (81, 3, .getfield 451, .getfield 78, 156), (84, 1, .iload 1, .iload_n 1, 0), (85, 1, .aaload, .aaload, 0), (86, 2, .iload 4, .iload 4, 0), (88, 1, .iaload, .iaload, 0), (89, 1, .aload 0, .aload_n 0, 0), (90, 3, .getfield 576, .getfield 9, 137), (93, 3, .getfield 450, .getfield 82, 157), (96, 2, .iload 4, .iload 4, 0), (98, 1, .iaload, .iaload, 0), (99, 2, .iload 5, .iload 5, 0), (101, 3, .invokevirtual 37, .invokevirtual 85, 158), (104, 2, .istore 6, .istore 6, 0), (106, 2, .iload 6, .iload 6, 0), (108, 3, .ifCond .eq 121, .ifCond .eq 13, 0), (111, 1, .aload 0, .aload_n 0, 0), (112, 1, .dup, .dup, 0), (113, 3, .getfield 583, .getfield 42, 142), (116, 1, .iconst 1, .iconst 1, 0), (117, 1, .iadd, .iadd, 0), (118, 3, .putfield 583, .putfield 42, 142), (121, 1, .iload 3, .iload_n 3, 0), (122, 2, .iload 6, .iload 6, 0), (124, 1, .iadd, .iadd, 0), (125, 1, .istore 3, .istore_n 3, 0), (126, 3, .iinc 4 1, .iinc 4 1, 0), (129, 3, .goto 28, .goto (-101), 0), (132, 1, .iload 3, .iload_n 3, 0), (133, 1, .ireturn, .ireturn, 0)]
def am_pX9_allPlaces : Am_p := [(0, 1, .ldc2_w 0, .lconst 0, 0), (1, 1, .lstore 1, .lstore_n 1, 0), (2, 1, .iconst 0, .iconst 0, 0), (3, 1, .istore 3, .istore_n 3, 0), (4, 1, .iload 3, .iload_n 3, 0), (5, 1, .aload 0, .aload_n 0, 0), (6, 3, .getfield 576, .getfield 9, 137), (9, 3, .getfield 453, .getfield 32, 138), (12, 3, .if_icmp .ge 34, .if_icmp .ge 22, 0), (15, 1, .lload 1, .lload_n 1, 0), (16, 2, .iconst 6, .bipush 6, 0), (18, 1, .lshl, .lshl, 0), (19, 1, .aload 0, .aload_n 0, 0), (20, 3, .getfield 578, .getfield 19, 139), (23, 1, .iload 3, .iload_n 3, 0), (24, 1, .iaload, .iaload, 0), (25, 1, .i2l, .i2l, 0), (26, 1, .lor, .lor, 0), (27, 1, .lstore 1, .lstore_n 1, 0), (28, 3, .iinc 3 1, .iinc 3 1, 0), (31, 3, .goto 4, .goto (-27), 0), (34, 1, .lload 1, .lload_n 1, 0), (35, 1, .lreturn, .lreturn, 0)]
def am_pX9_areAllAtStart : Am_p := [(0, 1, .aload 0, .aload_n 0, 0), (1, 3, .invokevirtual 105, .invokevirtual 89, 159), (4, 1, .ldc2_w 0, .lconst 0, 0), (5, 1, .lcmp, .lcmp, 0), (6, 3, .ifCond .ne 13, .ifCond .ne 7, 0), (9, 1, .iconst 1, .iconst 1, 0), (10, 3, .goto 14, .goto 4, 0), (13, 1, .iconst 0, .iconst 0, 0), (14, 1, .ireturn, .ireturn, 0)]
def am_pX10_orb : Am_p := [(0, 1, .iload 1, .iload_n 1, 0), (1, 1, .iload 2, .iload_n 2, 0), (2, 1, .iconst 1, .iconst 1, 0), (3, 3, .invokestatic 69, .invokestatic 85, 160), (6, 3, .ifCond .ne 11, .ifCond .ne 5, 0), (9, 1, .iconst (-1), .iconst (-1), 0), (10, 1, .ireturn, .ireturn, 0), (11, 1, .aload 0, .aload_n 0, 0), (12, 3, .getfield 640, .getfield 10, 161), (15, 1, .iload 1, .iload_n 1, 0), (16, 1, .iload 2, .iload_n 2, 0), (17, 1, .iconst 1, .iconst 1, 0), (18, 3, .invokevirtual 70, .invokevirtual 89, 162), (21, 1, .ireturn, .ireturn, 0)]
def am_pX10_orbs : Am_p := [(0, 1, .iload 1, .iload_n 1, 0), (1, 3, .invokestatic 56, .invokestatic 93, 163), (4, 3, .ifCond .eq 18, .ifCond .eq 14, 0), (7, 1, .iload 3, .iload_n 3, 0), (8, 1, .iconst 1, .iconst 1, 0), (9, 3, .if_icmp .lt 18, .if_icmp .lt 9, 0), (12, 1, .iload 3, .iload_n 3, 0), (13, 2, .iconst 8, .bipush 8, 0), (15, 3, .if_icmp .le 20, .if_icmp .le 5, 0), (18, 1, .iconst (-1), .iconst (-1), 0), (19, 1, .ireturn, .ireturn, 0), (20, 1, .aload 0, .aload_n 0, 0), (21, 3, .getfield 648, .getfield 74, 164), (24, 1, .iload 1, .iload_n 1, 0), (25, 3, .invokevirtual 57, .invokevirtual 97, 165), (28, 3, .ifCond .eq 33, .ifCond .eq 5, 0), (31, 1, .iconst 0, .iconst 0, 0), (32, 1, .ireturn, .ireturn, 0), (33, 1, .aload 0, .aload_n 0, 0), (34, 3, .getfield 648, .getfield 74, 164), (37, 1, .iload 1, .iload_n 1, 0), (38, 3, .invokevirtual 59, .invokevirtual 100, 166), (41, 3, .ifCond .ne 47, .ifCond .ne 6, 0), (44, 2, .iconst (-12), .bipush (-12), 0), (46, 1, .ireturn, .ireturn, 0), (47, 1, .aload 0, .aload_n 0, 0), (48, 1, .iload 1, .iload_n 1, 0), (49, 1, .iload 2, .iload_n 2, 0), (50, 1, .iload 3, .iload_n 3, 0), (51, 3, .invokevirtual 157, .invokevirtual 103, 167), (54, 1, .ireturn, .ireturn, 0)]
def am_pX10_mend : Am_p := [(0, 1, .aload 0, .aload_n 0, 0), (1, 3, .getfield 640, .getfield 10, 161), (4, 1, .iload 1, .iload_n 1, 0), (5, 1, .iload 2, .iload_n 2, 0), (6, 3, .invokevirtual 74, .invokevirtual 106, 168), (9, 3, .ifCond .eq 25, .ifCond .eq 16, 0), (12, 1, .aload 0, .aload_n 0, 0), (13, 3, .getfield 640, .getfield 10, 161), (16, 1, .iload 1, .iload_n 1, 0), (17, 1, .iload 2, .iload_n 2, 0), (18, 1, .iload 3, .iload_n 3, 0), (19, 3, .invokevirtual 75, .invokevirtual 110, 169), (22, 3, .ifCond .ne 28, .ifCond .ne 6, 0), (25, 2, .iconst (-2000000000), .ldc 113, 170), (27, 1, .ireturn, .ireturn, 0), (28, 1, .aload 0, .aload_n 0, 0), (29, 3, .getfield 640, .getfield 10, 161), (32, 1, .iload 1, .iload_n 1, 0), (33, 1, .iload 2, .iload_n 2, 0), (34, 3, .invokevirtual 76, .invokevirtual 114, 171), (37, 2, .istore 4, .istore 4, 0), (39, 2, .iload 4, .iload 4, 0), (41, 1, .iload 3, .iload_n 3, 0), (42, 3, .if_icmp .eq 67, .if_icmp .eq 25, 0), (45, 1, .aload 0, .aload_n 0, 0), (46, 3, .getfield 647, .getfield 67, 172), (49, 1, .iload 1, .iload_n 1, 0), (50, 1, .iload 2, .iload_n 2, 0), (51, 2, .iload 4, .iload 4, 0), (53, 1, .iload 3, .iload_n 3, 0), (54, 3, .invokevirtual 0, .invokevirtual 118, 173), (57, 1, .aload 0, .aload_n 0, 0), (58, 3, .getfield 640, .getfield 10, 161), (61, 1, .iload 1, .iload_n 1, 0), (62, 1, .iload 2, .iload_n 2, 0), (63, 1, .iload 3, .iload_n 3, 0), (64, 3, .invokevirtual 77, .invokevirtual 122, 174), (67, 2, .iload 4, .iload 4, 0), (69, 1, .ireturn, .ireturn, 0)]
def am_pX10_of : Am_p := [(0, 1, .iload 2, .iload_n 2, 0), (1, 1, .iconst 4, .iconst 4, 0), (2, 3, .if_icmp .ne 31, .if_icmp .ne 29, 0), (5, 1, .aload 0, .aload_n 0, 0), (6, 3, .getfield 640, .getfield 10, 161), (9, 1, .iload 1, .iload_n 1, 0), (10, 3, .invokevirtual 71, .invokevirtual 126, 175), (13, 3, .ifCond .eq 28, .ifCond .eq 15, 0), (16, 1, .aload 0, .aload_n 0, 0), (17, 3, .getfield 640, .getfield 10, 161), (20, 3, .getfield 448, .getfield 129, 176), (23, 1, .iload 1, .iload_n 1, 0), (24, 1, .iaload, .iaload, 0), (25, 3, .goto 30, .goto 5, 0), (28, 2, .iconst (-2000000000), .ldc 113, 170), (30, 1, .ireturn, .ireturn, 0), (31, 1, .aload 0, .aload_n 0, 0), (32, 3, .getfield 640, .getfield 10, 161), (35, 1, .iload 1, .iload_n 1, 0), (36, 1, .iload 2, .iload_n 2, 0), (37, 3, .invokevirtual 74, .invokevirtual 106, 168), (40, 3, .ifCond .eq 55, .ifCond .eq 15, 0), (43, 1, .aload 0, .aload_n 0, 0), (44, 3, .getfield 640, .getfield 10, 161), (47, 1, .iload 1, .iload_n 1, 0), (48, 1, .iload 2, .iload_n 2, 0), (49, 3, .invokevirtual 76, .invokevirtual 114, 171), (52, 3, .goto 57, .goto 5, 0), (55, 2, .iconst (-2000000000), .ldc 113, 170), (57, 1, .ireturn, .ireturn, 0)]
def am_pX10_feed : Am_p := [(0, 1, .iload 1, .iload_n 1, 0), (1, 3, .ifCond .lt 11, .ifCond .lt 10, 0), (4, 1, .iload 1, .iload_n 1, 0), (5, 3, .iconst 255, .sipush 255, 0), (8, 3, .if_icmp .le 13, .if_icmp .le 5, 0), (11, 1, .iconst (-1), .iconst (-1), 0), (12, 1, .ireturn, .ireturn, 0), (13, 1, .aload 0, .aload_n 0, 0), (14, 3, .getfield 642, .getfield 28, 177), (17, 1, .iload 1, .iload_n 1, 0), (18, 3, .invokevirtual 85, .invokevirtual 133, 178), (21, 1, .ireturn, .ireturn, 0)]
def am_pX10_law : Am_p := [(0, 1, .aload 0, .aload_n 0, 0), (1, 3, .getfield 642, .getfield 28, 177), (4, 3, .invokevirtual 86, .invokevirtual 137, 179), (7, 1, .istore 1, .istore_n 1, 0), (8, 1, .aload 0, .aload_n 0, 0), (9, 3, .getfield 642, .getfield 28, 177), (12, 3, .getfield 514, .getfield 141, 180), (15, 1, .istore 2, .istore_n 2, 0), (16, 1, .iload 1, .iload_n 1, 0), (17, 3, .ifCond .eq 31, .ifCond .eq 14, 0), (20, 1, .aload 0, .aload_n 0, 0), (21, 3, .getfield 643, .getfield 35, 181), (24, 1, .aload 0, .aload_n 0, 0), (25, 3, .getfield 642, .getfield 28, 177), (28, 3, .invokevirtual 35, .invokevirtual 145, 182), (31, 1, .aload 0, .aload_n 0, 0), (32, 3, .getfield 642, .getfield 28, 177), (35, 1, .iconst 0, .iconst 0, 0), (36, 3, .putfield 513, .putfield 149, 183), (39, 1, .iload 1, .iload_n 1, 0), (40, 3, .ifCond .eq 47, .ifCond .eq 7, 0), (43, 1, .iconst 1, .iconst 1, 0), (44, 3, .goto 51, .goto 7, 0), (47, 2, .iconst (-100), .bipush (-100), 0), (49, 1, .iload 2, .iload_n 2, 0), (50, 1, .isub, .isub, 0), (51, 1, .ireturn, .ireturn, 0)]
def am_pX10_at : Am_p := [(0, 1, .aload 0, .aload_n 0, 0), (1, 3, .getfield 640, .getfield 10, 161), (4, 1, .iload 1, .iload_n 1, 0), (5, 3, .invokevirtual 71, .invokevirtual 126, 175), (8, 3, .ifCond .eq 25, .ifCond .eq 17, 0), (11, 1, .iload 2, .iload_n 2, 0), (12, 3, .invokestatic 153, .invokestatic 152, 184), (15, 3, .ifCond .eq 25, .ifCond .eq 10, 0), (18, 1, .iload 3, .iload_n 3, 0), (19, 3, .invokestatic 154, .invokestatic 155, 185), (22, 3, .ifCond .ne 27, .ifCond .ne 5, 0), (25, 1, .iconst (-1), .iconst (-1), 0), (26, 1, .ireturn, .ireturn, 0), (27, 1, .iload 3, .iload_n 3, 0), (28, 3, .ifCond .ne 43, .ifCond .ne 15, 0), (31, 1, .aload 0, .aload_n 0, 0), (32, 3, .getfield 640, .getfield 10, 161), (35, 1, .iload 1, .iload_n 1, 0), (36, 1, .iload 2, .iload_n 2, 0), (37, 3, .invokevirtual 80, .invokevirtual 158, 186), (40, 3, .goto 52, .goto 12, 0), (43, 1, .aload 0, .aload_n 0, 0), (44, 3, .getfield 640, .getfield 10, 161), (47, 1, .iload 1, .iload_n 1, 0), (48, 1, .iload 2, .iload_n 2, 0), (49, 3, .invokevirtual 81, .invokevirtual 161, 187), (52, 1, .ireturn, .ireturn, 0)]
def am_pX10_apart : Am_p := [(0, 1, .aload 0, .aload_n 0, 0), (1, 3, .getfield 640, .getfield 10, 161), (4, 1, .iload 1, .iload_n 1, 0), (5, 3, .invokevirtual 72, .invokevirtual 164, 188), (8, 3, .ifCond .eq 25, .ifCond .eq 17, 0), (11, 1, .iload 2, .iload_n 2, 0), (12, 3, .invokestatic 153, .invokestatic 152, 184), (15, 3, .ifCond .eq 25, .ifCond .eq 10, 0), (18, 1, .iload 3, .iload_n 3, 0), (19, 3, .invokestatic 154, .invokestatic 155, 185), (22, 3, .ifCond .ne 27, .ifCond .ne 5, 0), (25, 1, .iconst (-1), .iconst (-1), 0), (26, 1, .ireturn, .ireturn, 0), (27, 1, .aload 0, .aload_n 0, 0), (28, 3, .getfield 640, .getfield 10, 161), (31, 1, .iload 1, .iload_n 1, 0), (32, 2, .iconst 10, .bipush 10, 0), (34, 1, .idiv, .idiv, 0), (35, 1, .iload 1, .iload_n 1, 0), (36, 2, .iconst 10, .bipush 10, 0), (38, 1, .irem, .irem, 0), (39, 1, .iload 2, .iload_n 2, 0), (40, 3, .invokevirtual 82, .invokevirtual 167, 189), (43, 2, .istore 4, .istore 4, 0), (45, 1, .iload 3, .iload_n 3, 0), (46, 3, .ifCond .ne 52, .ifCond .ne 6, 0), (49, 2, .iload 4, .iload 4, 0), (51, 1, .ireturn, .ireturn, 0), (52, 2, .iload 4, .iload 4, 0), (54, 1, .aload 0, .aload_n 0, 0), (55, 3, .getfield 640, .getfield 10, 161), (58, 3, .getfield 452, .getfield 170, 190), (61, 3, .if_icmp .gt 68, .if_icmp .gt 7, 0), (64, 1, .iconst 1, .iconst 1, 0), (65, 3, .goto 69, .goto 4, 0), (68, 1, .iconst 0, .iconst 0, 0), (69, 1, .ireturn, .ireturn, 0)]
def am_pX10_meets : Am_p := [(0, 1, .aload 0, .aload_n 0, 0), (1, 3, .getfield 640, .getfield 10, 161), (4, 1, .iload 1, .iload_n 1, 0), (5, 3, .invokevirtual 72, .invokevirtual 164, 188), (8, 3, .ifCond .eq 18, .ifCond .eq 10, 0), (11, 1, .iload 2, .iload_n 2, 0), (12, 3, .invokestatic 153, .invokestatic 152, 184), (15, 3, .ifCond .ne 20, .ifCond .ne 5, 0), (18, 1, .iconst (-1), .iconst (-1), 0), (19, 1, .ireturn, .ireturn, 0), (20, 1, .aload 0, .aload_n 0, 0), (21, 3, .getfield 641, .getfield 21, 191), (24, 1, .iload 1, .iload_n 1, 0), (25, 2, .iconst 10, .bipush 10, 0), (27, 1, .idiv, .idiv, 0), (28, 1, .iload 1, .iload_n 1, 0), (29, 2, .iconst 10, .bipush 10, 0), (31, 1, .irem, .irem, 0), (32, 1, .iload 2, .iload_n 2, 0), (33, 3, .invokevirtual 2, .invokevirtual 173, 192), (36, 1, .ireturn, .ireturn, 0)]
def am_pX10_often : Am_p := [(0, 1, .aload 0, .aload_n 0, 0), (1, 3, .getfield 640, .getfield 10, 161), (4, 1, .iload 1, .iload_n 1, 0), (5, 3, .invokevirtual 72, .invokevirtual 164, 188), (8, 3, .ifCond .eq 25, .ifCond .eq 17, 0), (11, 1, .iload 2, .iload_n 2, 0), (12, 3, .invokestatic 153, .invokestatic 152, 184), (15, 3, .ifCond .eq 25, .ifCond .eq 10, 0), (18, 1, .iload 3, .iload_n 3, 0), (19, 3, .invokestatic 155, .invokestatic 176, 193), (22, 3, .ifCond .ne 27, .ifCond .ne 5, 0), (25, 1, .iconst (-1), .iconst (-1), 0), (26, 1, .ireturn, .ireturn, 0), (27, 1, .aload 0, .aload_n 0, 0), (28, 3, .getfield 641, .getfield 21, 191), (31, 1, .iload 1, .iload_n 1, 0), (32, 2, .iconst 10, .bipush 10, 0), (34, 1, .idiv, .idiv, 0), (35, 1, .iload 1, .iload_n 1, 0), (36, 2, .iconst 10, .bipush 10, 0), (38, 1, .irem, .irem, 0), (39, 1, .iload 2, .iload_n 2, 0), (40, 1, .iload 3, .iload_n 3, 0), (41, 3, .invokevirtual 3, .invokevirtual 179, 194), (44, 1, .ireturn, .ireturn, 0)]
def am_pX10_together : Am_p := [(0, 1, .aload 0, .aload_n 0, 0), (1, 3, .getfield 640, .getfield 10, 161), (4, 1, .iload 1, .iload_n 1, 0), (5, 3, .invokevirtual 73, .invokevirtual 183, 195), (8, 3, .ifCond .eq 22, .ifCond .eq 14, 0), (11, 1, .aload 0, .aload_n 0, 0), (12, 3, .getfield 641, .getfield 21, 191), (15, 1, .iload 1, .iload_n 1, 0), (16, 3, .invokevirtual 4, .invokevirtual 186, 196), (19, 3, .goto 25, .goto 6, 0), (22, 3, .ldc2_w 9223372036854775808, .ldc2_w 192, 197), (25, 1, .lreturn, .lreturn, 0)]
def am_pX10_start : Am_p := [(0, 1, .aload 0, .aload_n 0, 0), (1, 3, .getfield 640, .getfield 10, 161), (4, 1, .iload 1, .iload_n 1, 0), (5, 3, .invokevirtual 73, .invokevirtual 183, 195), (8, 3, .ifCond .eq 22, .ifCond .eq 14, 0), (11, 1, .aload 0, .aload_n 0, 0), (12, 3, .getfield 641, .getfield 21, 191), (15, 1, .iload 1, .iload_n 1, 0), (16, 3, .invokevirtual 5, .invokevirtual 194, 198), (19, 3, .goto 25, .goto 6, 0), (22, 3, .ldc2_w 9223372036854775808, .ldc2_w 192, 197), (25, 1, .lreturn, .lreturn, 0)]
def am_pX10_mood : Am_p := [(0, 1, .aload 0, .aload_n 0, 0), (1, 3, .getfield 640, .getfield 10, 161), (4, 1, .iload 1, .iload_n 1, 0), (5, 3, .invokevirtual 71, .invokevirtual 126, 175), (8, 3, .ifCond .eq 18, .ifCond .eq 10, 0), (11, 1, .iload 2, .iload_n 2, 0), (12, 3, .invokestatic 153, .invokestatic 152, 184), (15, 3, .ifCond .ne 21, .ifCond .ne 6, 0), (18, 2, .iconst (-2000000000), .ldc 113, 170), (20, 1, .ireturn, .ireturn, 0), (21, 1, .aload 0, .aload_n 0, 0), (22, 3, .getfield 641, .getfield 21, 191), (25, 1, .iload 1, .iload_n 1, 0), (26, 1, .iload 2, .iload_n 2, 0), (27, 3, .invokevirtual 8, .invokevirtual 197, 199), (30, 1, .ireturn, .ireturn, 0)]
def am_pX10_best : Am_p := [(0, 1, .iload 2, .iload_n 2, 0), (1, 3, .ifCond .ge 7, .ifCond .ge 6, 0), (4, 2, .iconst (-2000000000), .ldc 113, 170), (6, 1, .ireturn, .ireturn, 0), (7, 1, .iload 2, .iload_n 2, 0), (8, 3, .iconst 1000, .sipush 1000, 0), (11, 1, .idiv, .idiv, 0), (12, 2, .istore 4, .istore 4, 0), (14, 1, .iload 2, .iload_n 2, 0), (15, 3, .iconst 1000, .sipush 1000, 0), (18, 1, .irem, .irem, 0), (19, 2, .istore 5, .istore 5, 0), (21, 1, .aload 0, .aload_n 0, 0), (22, 3, .getfield 640, .getfield 10, 161), (25, 1, .iload 1, .iload_n 1, 0), (26, 3, .invokevirtual 71, .invokevirtual 126, 175), (29, 3, .ifCond .eq 53, .ifCond .eq 24, 0), (32, 2, .iload 4, .iload 4, 0), (34, 3, .iconst 9999, .sipush 9999, 0), (37, 3, .if_icmp .gt 53, .if_icmp .gt 16, 0), (40, 2, .iload 5, .iload 5, 0), (42, 1, .iconst 1, .iconst 1, 0), (43, 3, .if_icmp .lt 53, .if_icmp .lt 10, 0), (46, 1, .iload 3, .iload_n 3, 0), (47, 3, .invokestatic 154, .invokestatic 155, 185), (50, 3, .ifCond .ne 56, .ifCond .ne 6, 0), (53, 2, .iconst (-2000000000), .ldc 113, 170), (55, 1, .ireturn, .ireturn, 0), (56, 1, .aload 0, .aload_n 0, 0), (57, 3, .getfield 641, .getfield 21, 191), (60, 1, .iload 1, .iload_n 1, 0), (61, 2, .iload 4, .iload 4, 0), (63, 2, .iload 5, .iload 5, 0), (65, 3, .invokevirtual 9, .invokevirtual 200, 200), (68, 2, .istore 6, .istore 6, 0), (70, 1, .iload 3, .iload_n 3, 0), (71, 3, .ifCond .ne 79, .ifCond .ne 8, 0), (74, 2, .iload 6, .iload 6, 0), (76, 3, .goto 89, .goto 13, 0), (79, 1, .aload 0, .aload_n 0, 0), (80, 3, .getfield 641, .getfield 21, 191), (83, 1, .iload 1, .iload_n 1, 0), (84, 2, .iload 6, .iload 6, 0), (86, 3, .invokevirtual 8, .invokevirtual 197, 199), (89, 1, .ireturn, .ireturn, 0)]
def am_pX10_sign : Am_p := [(0, 1, .aload 0, .aload_n 0, 0), (1, 3, .getfield 640, .getfield 10, 161), (4, 1, .iload 1, .iload_n 1, 0), (5, 3, .invokevirtual 73, .invokevirtual 183, 195), (8, 3, .ifCond .eq 29, .ifCond .eq 21, 0), (11, 1, .iload 2, .iload_n 2, 0), (12, 3, .invokestatic 153, .invokestatic 152, 184), (15, 3, .ifCond .eq 29, .ifCond .eq 14, 0), (18, 1, .iload 3, .iload_n 3, 0), (19, 3, .ifCond .lt 29, .ifCond .lt 10, 0), (22, 1, .iload 3, .iload_n 3, 0), (23, 3, .iconst 999, .sipush 999, 0), (26, 3, .if_icmp .le 31, .if_icmp .le 5, 0), (29, 1, .iconst (-1), .iconst (-1), 0), (30, 1, .ireturn, .ireturn, 0), (31, 1, .iload 3, .iload_n 3, 0), (32, 3, .ifCond .ne 47, .ifCond .ne 15, 0), (35, 1, .aload 0, .aload_n 0, 0), (36, 3, .getfield 641, .getfield 21, 191), (39, 1, .iload 1, .iload_n 1, 0), (40, 1, .iload 2, .iload_n 2, 0), (41, 3, .invokevirtual 12, .invokevirtual 203, 201), (44, 3, .goto 57, .goto 13, 0), (47, 1, .aload 0, .aload_n 0, 0), (48, 3, .getfield 641, .getfield 21, 191), (51, 1, .iload 1, .iload_n 1, 0), (52, 1, .iload 2, .iload_n 2, 0), (53, 1, .iload 3, .iload_n 3, 0), (54, 3, .invokevirtual 13, .invokevirtual 206, 202), (57, 1, .ireturn, .ireturn, 0)]
def am_pX10_nudge : Am_p := [(0, 1, .aload 0, .aload_n 0, 0), (1, 3, .getfield 640, .getfield 10, 161), (4, 1, .iload 1, .iload_n 1, 0), (5, 3, .invokevirtual 72, .invokevirtual 164, 188), (8, 3, .ifCond .eq 18, .ifCond .eq 10, 0), (11, 1, .iload 2, .iload_n 2, 0), (12, 3, .invokestatic 153, .invokestatic 152, 184), (15, 3, .ifCond .ne 21, .ifCond .ne 6, 0), (18, 2, .iconst (-2000000000), .ldc 113, 170), (20, 1, .ireturn, .ireturn, 0), (21, 1, .aload 0, .aload_n 0, 0), (22, 3, .getfield 641, .getfield 21, 191), (25, 1, .iload 1, .iload_n 1, 0), (26, 2, .iconst 10, .bipush 10, 0), (28, 1, .idiv, .idiv, 0), (29, 1, .iload 1, .iload_n 1, 0), (30, 2, .iconst 10, .bipush 10, 0), (32, 1, .irem, .irem, 0), (33, 1, .iload 2, .iload_n 2, 0), (34, 3, .invokevirtual 14, .invokevirtual 209, 203), (37, 1, .ireturn, .ireturn, 0)]
def am_pX10_never : Am_p := [(0, 1, .aload 0, .aload_n 0, 0), (1, 3, .getfield 640, .getfield 10, 161), (4, 1, .iload 1, .iload_n 1, 0), (5, 3, .invokevirtual 72, .invokevirtual 164, 188), (8, 3, .ifCond .eq 25, .ifCond .eq 17, 0), (11, 1, .iload 2, .iload_n 2, 0), (12, 3, .invokestatic 155, .invokestatic 176, 193), (15, 3, .ifCond .eq 25, .ifCond .eq 10, 0), (18, 1, .iload 3, .iload_n 3, 0), (19, 3, .invokestatic 154, .invokestatic 155, 185), (22, 3, .ifCond .ne 27, .ifCond .ne 5, 0), (25, 1, .iconst (-1), .iconst (-1), 0), (26, 1, .ireturn, .ireturn, 0), (27, 1, .iload 1, .iload_n 1, 0), (28, 2, .iconst 10, .bipush 10, 0), (30, 1, .idiv, .idiv, 0), (31, 2, .istore 4, .istore 4, 0), (33, 1, .iload 1, .iload_n 1, 0), (34, 2, .iconst 10, .bipush 10, 0), (36, 1, .irem, .irem, 0), (37, 2, .istore 5, .istore 5, 0), (39, 1, .iload 3, .iload_n 3, 0), (40, 3, .ifCond .ne 58, .ifCond .ne 18, 0), (43, 1, .aload 0, .aload_n 0, 0), (44, 3, .getfield 641, .getfield 21, 191), (47, 2, .iload 4, .iload 4, 0), (49, 2, .iload 5, .iload 5, 0), (51, 1, .iload 2, .iload_n 2, 0), (52, 3, .invokevirtual 16, .invokevirtual 212, 204), (55, 3, .goto 70, .goto 15, 0), (58, 1, .aload 0, .aload_n 0, 0), (59, 3, .getfield 641, .getfield 21, 191), (62, 2, .iload 4, .iload 4, 0), (64, 2, .iload 5, .iload 5, 0), (66, 1, .iload 2, .iload_n 2, 0), (67, 3, .invokevirtual 17, .invokevirtual 215, 205), (70, 1, .ireturn, .ireturn, 0)]
def am_pX10_scene : Am_p := [(0, 1, .aload 0, .aload_n 0, 0), (1, 3, .getfield 640, .getfield 10, 161), (4, 1, .iload 1, .iload_n 1, 0), (5, 3, .invokevirtual 72, .invokevirtual 164, 188), (8, 3, .ifCond .eq 29, .ifCond .eq 21, 0), (11, 1, .aload 0, .aload_n 0, 0), (12, 3, .getfield 641, .getfield 21, 191), (15, 1, .iload 1, .iload_n 1, 0), (16, 2, .iconst 10, .bipush 10, 0), (18, 1, .idiv, .idiv, 0), (19, 1, .iload 1, .iload_n 1, 0), (20, 2, .iconst 10, .bipush 10, 0), (22, 1, .irem, .irem, 0), (23, 3, .invokevirtual 18, .invokevirtual 218, 206), (26, 3, .goto 30, .goto 4, 0), (29, 1, .iconst (-1), .iconst (-1), 0), (30, 1, .ireturn, .ireturn, 0)]
def am_pX10_later : Am_p := [(0, 1, .aload 0, .aload_n 0, 0), (1, 3, .getfield 640, .getfield 10, 161), (4, 1, .iload 1, .iload_n 1, 0), (5, 3, .invokevirtual 71, .invokevirtual 126, 175), (8, 3, .ifCond .eq 18, .ifCond .eq 10, 0), (11, 1, .iload 2, .iload_n 2, 0), (12, 3, .invokestatic 156, .invokestatic 221, 207), (15, 3, .ifCond .ne 20, .ifCond .ne 5, 0), (18, 1, .iconst (-1), .iconst (-1), 0), (19, 1, .ireturn, .ireturn, 0), (20, 1, .aload 0, .aload_n 0, 0), (21, 3, .getfield 645, .getfield 53, 208), (24, 1, .iload 1, .iload_n 1, 0), (25, 1, .iload 2, .iload_n 2, 0), (26, 3, .invokevirtual 25, .invokevirtual 224, 209), (29, 1, .ireturn, .ireturn, 0)]
def am_pX10_pushes : Am_p := [(0, 1, .iload 1, .iload_n 1, 0), (1, 3, .invokestatic 156, .invokestatic 221, 207), (4, 3, .ifCond .eq 14, .ifCond .eq 10, 0), (7, 1, .iload 2, .iload_n 2, 0), (8, 3, .invokestatic 154, .invokestatic 155, 185), (11, 3, .ifCond .ne 16, .ifCond .ne 5, 0), (14, 1, .iconst (-1), .iconst (-1), 0), (15, 1, .ireturn, .ireturn, 0), (16, 1, .iload 2, .iload_n 2, 0), (17, 3, .ifCond .ne 31, .ifCond .ne 14, 0), (20, 1, .aload 0, .aload_n 0, 0), (21, 3, .getfield 645, .getfield 53, 208), (24, 1, .iload 1, .iload_n 1, 0), (25, 3, .invokevirtual 26, .invokevirtual 227, 210), (28, 3, .goto 39, .goto 11, 0), (31, 1, .aload 0, .aload_n 0, 0), (32, 3, .getfield 645, .getfield 53, 208), (35, 1, .iload 1, .iload_n 1, 0), (36, 3, .invokevirtual 27, .invokevirtual 230, 211), (39, 1, .ireturn, .ireturn, 0)]
def am_pX10_met : Am_p := [(0, 1, .aload 0, .aload_n 0, 0), (1, 3, .getfield 640, .getfield 10, 161), (4, 1, .iload 1, .iload_n 1, 0), (5, 3, .invokevirtual 72, .invokevirtual 164, 188), (8, 3, .ifCond .eq 18, .ifCond .eq 10, 0), (11, 1, .iload 2, .iload_n 2, 0), (12, 3, .invokestatic 156, .invokestatic 221, 207), (15, 3, .ifCond .ne 20, .ifCond .ne 5, 0), (18, 1, .iconst (-1), .iconst (-1), 0), (19, 1, .ireturn, .ireturn, 0), (20, 1, .aload 0, .aload_n 0, 0), (21, 3, .getfield 645, .getfield 53, 208), (24, 1, .iload 1, .iload_n 1, 0), (25, 2, .iconst 10, .bipush 10, 0), (27, 1, .idiv, .idiv, 0), (28, 1, .iload 1, .iload_n 1, 0), (29, 2, .iconst 10, .bipush 10, 0), (31, 1, .irem, .irem, 0), (32, 1, .iload 2, .iload_n 2, 0), (33, 3, .invokevirtual 28, .invokevirtual 233, 212), (36, 1, .ireturn, .ireturn, 0)]
def am_pX10_again : Am_p := [(0, 1, .iload 1, .iload_n 1, 0), (1, 3, .invokestatic 154, .invokestatic 155, 185), (4, 3, .ifCond .eq 27, .ifCond .eq 23, 0), (7, 1, .aload 0, .aload_n 0, 0), (8, 3, .getfield 645, .getfield 53, 208), (11, 1, .iload 1, .iload_n 1, 0), (12, 1, .iconst 1, .iconst 1, 0), (13, 3, .if_icmp .ne 20, .if_icmp .ne 7, 0), (16, 1, .iconst 1, .iconst 1, 0), (17, 3, .goto 21, .goto 4, 0), (20, 1, .iconst 0, .iconst 0, 0), (21, 3, .invokevirtual 29, .invokevirtual 235, 213), (24, 3, .goto 28, .goto 4, 0), (27, 1, .iconst (-1), .iconst (-1), 0), (28, 1, .ireturn, .ireturn, 0)]
def am_pX10_judge : Am_p := [(0, 1, .iload 1, .iload_n 1, 0), (1, 3, .invokestatic 56, .invokestatic 93, 163), (4, 3, .ifCond .eq 18, .ifCond .eq 14, 0), (7, 1, .aload 0, .aload_n 0, 0), (8, 3, .getfield 640, .getfield 10, 161), (11, 1, .iload 2, .iload_n 2, 0), (12, 3, .invokevirtual 71, .invokevirtual 126, 175), (15, 3, .ifCond .ne 20, .ifCond .ne 5, 0), (18, 1, .iconst (-1), .iconst (-1), 0), (19, 1, .ireturn, .ireturn, 0), (20, 1, .aload 0, .aload_n 0, 0), (21, 3, .getfield 648, .getfield 74, 164), (24, 1, .iload 1, .iload_n 1, 0), (25, 3, .invokevirtual 64, .invokevirtual 239, 214), (28, 1, .istore 3, .istore_n 3, 0), (29, 1, .iload 3, .iload_n 3, 0), (30, 3, .ifCond .eq 35, .ifCond .eq 5, 0), (33, 1, .iload 3, .iload_n 3, 0), (34, 1, .ireturn, .ireturn, 0), (35, 1, .aload 0, .aload_n 0, 0), (36, 3, .getfield 645, .getfield 53, 208), (39, 1, .aload 0, .aload_n 0, 0), (40, 3, .getfield 648, .getfield 74, 164), (43, 3, .getfield 388, .getfield 242, 215), (46, 1, .iload 1, .iload_n 1, 0), (47, 1, .aaload, .aaload, 0), (48, 1, .aload 0, .aload_n 0, 0), (49, 3, .getfield 648, .getfield 74, 164), (52, 3, .getfield 387, .getfield 246, 216), (55, 1, .iload 1, .iload_n 1, 0), (56, 1, .iaload, .iaload, 0), (57, 1, .iload 2, .iload_n 2, 0), (58, 3, .invokevirtual 31, .invokevirtual 249, 217), (61, 1, .ireturn, .ireturn, 0)]
def am_pX10_liking : Am_p := [(0, 1, .iload 1, .iload_n 1, 0), (1, 3, .invokestatic 56, .invokestatic 93, 163), (4, 3, .ifCond .eq 37, .ifCond .eq 33, 0), (7, 1, .aload 0, .aload_n 0, 0), (8, 3, .getfield 640, .getfield 10, 161), (11, 1, .iload 2, .iload_n 2, 0), (12, 3, .invokevirtual 72, .invokevirtual 164, 188), (15, 3, .ifCond .eq 37, .ifCond .eq 22, 0), (18, 1, .aload 0, .aload_n 0, 0), (19, 3, .getfield 640, .getfield 10, 161), (22, 1, .iload 3, .iload_n 3, 0), (23, 3, .invokevirtual 71, .invokevirtual 126, 175), (26, 3, .ifCond .eq 37, .ifCond .eq 11, 0), (29, 2, .iload 4, .iload 4, 0), (31, 3, .invokestatic 154, .invokestatic 155, 185), (34, 3, .ifCond .ne 40, .ifCond .ne 6, 0), (37, 2, .iconst (-2000000000), .ldc 113, 170), (39, 1, .ireturn, .ireturn, 0), (40, 1, .aload 0, .aload_n 0, 0), (41, 3, .getfield 648, .getfield 74, 164), (44, 1, .iload 1, .iload_n 1, 0), (45, 3, .invokevirtual 59, .invokevirtual 100, 166), (48, 3, .ifCond .ne 54, .ifCond .ne 6, 0), (51, 2, .iconst (-2000000000), .ldc 113, 170), (53, 1, .ireturn, .ireturn, 0), (54, 1, .aload 0, .aload_n 0, 0), (55, 1, .iload 1, .iload_n 1, 0), (56, 1, .iload 2, .iload_n 2, 0), (57, 1, .iload 3, .iload_n 3, 0), (58, 2, .iload 4, .iload 4, 0), (60, 1, .iconst 1, .iconst 1, 0), (61, 3, .if_icmp .ne 68, .if_icmp .ne 7, 0), (64, 1, .iconst 1, .iconst 1, 0), (65, 3, .goto 69, .goto 4, 0), (68, 1, .iconst 0, .iconst 0, 0), (69, 3, .invokevirtual 158, .invokevirtual 253, 218), (72, 1, .ireturn, .ireturn, 0)]
def am_pX10_whose : Am_p := [(0, 1, .aload 0, .aload_n 0, 0), (1, 3, .getfield 648, .getfield 74, 164), (4, 1, .iload 1, .iload_n 1, 0), (5, 3, .invokevirtual 64, .invokevirtual 239, 214), (8, 1, .istore 2, .istore_n 2, 0), (9, 1, .iload 2, .iload_n 2, 0), (10, 3, .ifCond .eq 15, .ifCond .eq 5, 0), (13, 1, .iload 2, .iload_n 2, 0), (14, 1, .ireturn, .ireturn, 0), (15, 1, .iconst 0, .iconst 0, 0), (16, 1, .istore 3, .istore_n 3, 0), (17, 1, .iconst 0, .iconst 0, 0), (18, 2, .istore 4, .istore 4, 0), (20, 2, .iload 4, .iload 4, 0), (22, 1, .aload 0, .aload_n 0, 0), (23, 3, .getfield 640, .getfield 10, 161), (26, 3, .getfield 453, .getfield 257, 219), (29, 3, .if_icmp .ge 77, .if_icmp .ge 48, 0), (32, 1, .aload 0, .aload_n 0, 0), (33, 3, .getfield 645, .getfield 53, 208), (36, 1, .aload 0, .aload_n 0, 0), (37, 3, .getfield 648, .getfield 74, 164), (40, 3, .getfield 388, .getfield 242, 215), (43, 1, .iload 1, .iload_n 1, 0), (44, 1, .aaload, .aaload, 0), (45, 1, .aload 0, .aload_n 0, 0), (46, 3, .getfield 648, .getfield 74, 164), (49, 3, .getfield 387, .getfield 246, 216), (52, 1, .iload 1, .iload_n 1, 0), (53, 1, .iaload, .iaload, 0), (54, 2, .iload 4, .iload 4, 0), (56, 3, .invokevirtual 31, .invokevirtual 249, 217), (59, 2, .iconst (-2), .bipush (-2), 0), (61, 3, .if_icmp .ne 71, .if_icmp .ne 10, 0), (64, 1, .iload 3, .iload_n 3, 0), (65, 1, .iconst 1, .iconst 1, 0), (66, 2, .iload 4, .iload 4, 0), (68, 1, .ishl, .ishl, 0), (69, 1, .ior, .ior, 0), (70, 1, .istore 3, .istore_n 3, 0), (71, 3, .iinc 4 1, .iinc 4 1, 0), (74, 3, .goto 20, .goto (-54), 0), (77, 1, .iload 3, .iload_n 3, 0), (78, 1, .ireturn, .ireturn, 0)]
def am_pX10_byTurns : Am_p := [(0, 1, .iload 3, .iload_n 3, 0), (1, 3, .ifCond .ge 7, .ifCond .ge 6, 0), (4, 2, .iconst (-2000000000), .ldc 113, 170), (6, 1, .ireturn, .ireturn, 0), (7, 1, .iload 3, .iload_n 3, 0), (8, 2, .iconst 10, .bipush 10, 0), (10, 1, .idiv, .idiv, 0), (11, 2, .istore 4, .istore 4, 0), (13, 1, .iload 3, .iload_n 3, 0), (14, 2, .iconst 10, .bipush 10, 0), (16, 1, .irem, .irem, 0), (17, 2, .istore 5, .istore 5, 0), (19, 1, .aload 0, .aload_n 0, 0), (20, 3, .getfield 640, .getfield 10, 161), (23, 1, .iload 1, .iload_n 1, 0), (24, 3, .invokevirtual 72, .invokevirtual 164, 188), (27, 3, .ifCond .eq 58, .ifCond .eq 31, 0), (30, 1, .iload 2, .iload_n 2, 0), (31, 3, .invokestatic 153, .invokestatic 152, 184), (34, 3, .ifCond .eq 58, .ifCond .eq 24, 0), (37, 2, .iload 4, .iload 4, 0), (39, 1, .iconst 1, .iconst 1, 0), (40, 3, .if_icmp .lt 58, .if_icmp .lt 18, 0), (43, 2, .iload 4, .iload 4, 0), (45, 2, .iconst 6, .bipush 6, 0), (47, 3, .if_icmp .gt 58, .if_icmp .gt 11, 0), (50, 2, .iload 5, .iload 5, 0), (52, 3, .invokestatic 154, .invokestatic 155, 185), (55, 3, .ifCond .ne 61, .ifCond .ne 6, 0), (58, 2, .iconst (-2000000000), .ldc 113, 170), (60, 1, .ireturn, .ireturn, 0), (61, 1, .aload 0, .aload_n 0, 0), (62, 3, .getfield 641, .getfield 21, 191), (65, 1, .iload 1, .iload_n 1, 0), (66, 2, .iconst 10, .bipush 10, 0), (68, 1, .idiv, .idiv, 0), (69, 1, .iload 1, .iload_n 1, 0), (70, 2, .iconst 10, .bipush 10, 0), (72, 1, .irem, .irem, 0), (73, 1, .iload 2, .iload_n 2, 0), (74, 2, .iload 4, .iload 4, 0), (76, 3, .invokevirtual 19, .invokevirtual 260, 220), (79, 2, .istore 6, .istore 6, 0), (81, 2, .iload 5, .iload 5, 0), (83, 3, .ifCond .ne 99, .ifCond .ne 16, 0), (86, 2, .iload 6, .iload 6, 0), (88, 2, .iconst (-2), .bipush (-2), 0), (90, 3, .if_icmp .ne 97, .if_icmp .ne 7, 0), (93, 1, .iconst 0, .iconst 0, 0), (94, 3, .goto 98, .goto 4, 0), (97, 1, .iconst 1, .iconst 1, 0), (98, 1, .ireturn, .ireturn, 0), (99, 2, .iload 6, .iload 6, 0), (101, 2, .iconst (-2), .bipush (-2), 0), (103, 3, .if_icmp .ne 110, .if_icmp .ne 7, 0), (106, 1, .iconst (-1), .iconst (-1), 0), (107, 3, .goto 112, .goto 5, 0), (110, 2, .iload 6, .iload 6, 0), (112, 1, .ireturn, .ireturn, 0)]
def am_pX10_crowd : Am_p := [(0, 1, .aload 0, .aload_n 0, 0), (1, 3, .getfield 640, .getfield 10, 161), (4, 1, .iload 1, .iload_n 1, 0), (5, 3, .invokevirtual 71, .invokevirtual 126, 175), (8, 3, .ifCond .eq 25, .ifCond .eq 17, 0), (11, 1, .iload 2, .iload_n 2, 0), (12, 3, .invokestatic 153, .invokestatic 152, 184), (15, 3, .ifCond .eq 25, .ifCond .eq 10, 0), (18, 1, .iload 3, .iload_n 3, 0), (19, 3, .invokestatic 154, .invokestatic 155, 185), (22, 3, .ifCond .ne 27, .ifCond .ne 5, 0), (25, 1, .iconst (-1), .iconst (-1), 0), (26, 1, .ireturn, .ireturn, 0), (27, 1, .aload 0, .aload_n 0, 0), (28, 3, .getfield 641, .getfield 21, 191), (31, 1, .iload 1, .iload_n 1, 0), (32, 1, .iload 2, .iload_n 2, 0), (33, 3, .invokevirtual 10, .invokevirtual 263, 221), (36, 2, .istore 4, .istore 4, 0), (38, 1, .iload 3, .iload_n 3, 0), (39, 3, .ifCond .ne 50, .ifCond .ne 11, 0), (42, 2, .iload 4, .iload 4, 0), (44, 3, .invokestatic 260, .invokestatic 266, 222), (47, 3, .goto 52, .goto 5, 0), (50, 2, .iload 4, .iload 4, 0), (52, 1, .ireturn, .ireturn, 0)]
def am_pX10_arc : Am_p := [(0, 1, .aload 0, .aload_n 0, 0), (1, 3, .getfield 640, .getfield 10, 161), (4, 1, .iload 1, .iload_n 1, 0), (5, 3, .invokevirtual 73, .invokevirtual 183, 195), (8, 3, .ifCond .eq 18, .ifCond .eq 10, 0), (11, 1, .iload 2, .iload_n 2, 0), (12, 3, .invokestatic 153, .invokestatic 152, 184), (15, 3, .ifCond .ne 20, .ifCond .ne 5, 0), (18, 1, .iconst (-1), .iconst (-1), 0), (19, 1, .ireturn, .ireturn, 0), (20, 1, .aload 0, .aload_n 0, 0), (21, 3, .getfield 641, .getfield 21, 191), (24, 1, .iload 1, .iload_n 1, 0), (25, 1, .iload 2, .iload_n 2, 0), (26, 3, .invokevirtual 21, .invokevirtual 271, 223), (29, 1, .ireturn, .ireturn, 0)]
def am_pX10_drawn : Am_p := [(0, 1, .iload 2, .iload_n 2, 0), (1, 3, .ifCond .lt 20, .ifCond .lt 19, 0), (4, 1, .iload 3, .iload_n 3, 0), (5, 1, .iconst (-1), .iconst (-1), 0), (6, 3, .if_icmp .eq 22, .if_icmp .eq 16, 0), (9, 1, .aload 0, .aload_n 0, 0), (10, 3, .getfield 640, .getfield 10, 161), (13, 1, .iload 3, .iload_n 3, 0), (14, 3, .invokevirtual 71, .invokevirtual 126, 175), (17, 3, .ifCond .ne 22, .ifCond .ne 5, 0), (20, 1, .iconst (-1), .iconst (-1), 0), (21, 1, .ireturn, .ireturn, 0), (22, 1, .iload 2, .iload_n 2, 0), (23, 3, .iconst 10000, .sipush 10000, 0), (26, 1, .idiv, .idiv, 0), (27, 2, .istore 4, .istore 4, 0), (29, 1, .iload 2, .iload_n 2, 0), (30, 2, .iconst 100, .bipush 100, 0), (32, 1, .idiv, .idiv, 0), (33, 2, .iconst 100, .bipush 100, 0), (35, 1, .irem, .irem, 0), (36, 2, .istore 5, .istore 5, 0), (38, 1, .iload 2, .iload_n 2, 0), (39, 2, .iconst 100, .bipush 100, 0), (41, 1, .irem, .irem, 0), (42, 2, .istore 6, .istore 6, 0), (44, 2, .iload 4, .iload 4, 0), (46, 1, .iconst 1, .iconst 1, 0), (47, 3, .if_icmp .lt 77, .if_icmp .lt 30, 0), (50, 2, .iload 4, .iload 4, 0), (52, 2, .iconst 30, .bipush 30, 0), (54, 3, .if_icmp .gt 77, .if_icmp .gt 23, 0), (57, 2, .iload 5, .iload 5, 0), (59, 1, .iconst 1, .iconst 1, 0), (60, 3, .if_icmp .lt 77, .if_icmp .lt 17, 0), (63, 2, .iload 5, .iload 5, 0), (65, 2, .iconst 60, .bipush 60, 0), (67, 3, .if_icmp .gt 77, .if_icmp .gt 10, 0), (70, 2, .iload 6, .iload 6, 0), (72, 2, .iconst 12, .bipush 12, 0), (74, 3, .if_icmp .le 79, .if_icmp .le 5, 0), (77, 1, .iconst (-1), .iconst (-1), 0), (78, 1, .ireturn, .ireturn, 0), (79, 1, .aload 0, .aload_n 0, 0), (80, 3, .getfield 645, .getfield 53, 208), (83, 1, .iload 1, .iload_n 1, 0), (84, 2, .iload 4, .iload 4, 0), (86, 2, .iload 5, .iload 5, 0), (88, 2, .iload 6, .iload 6, 0), (90, 1, .iload 3, .iload_n 3, 0), (91, 3, .invokevirtual 32, .invokevirtual 274, 224), (94, 1, .ireturn, .ireturn, 0)]
def am_pX10_day : Am_p := [(0, 1, .aload 0, .aload_n 0, 0), (1, 3, .getfield 644, .getfield 44, 225), (4, 3, .invokevirtual 99, .invokevirtual 278, 226), (7, 1, .aload 0, .aload_n 0, 0), (8, 3, .getfield 644, .getfield 44, 225), (11, 1, .iconst 0, .iconst 0, 0), (12, 3, .invokevirtual 101, .invokevirtual 281, 227), (15, 1, .aload 0, .aload_n 0, 0), (16, 3, .getfield 644, .getfield 44, 225), (19, 3, .invokevirtual 100, .invokevirtual 285, 228), (22, 1, .aload 0, .aload_n 0, 0), (23, 3, .getfield 646, .getfield 60, 229), (26, 1, .dup, .dup, 0), (27, 3, .getfield 129, .getfield 288, 230), (30, 1, .iconst 1, .iconst 1, 0), (31, 1, .iadd, .iadd, 0), (32, 3, .putfield 129, .putfield 288, 230), (35, 1, .aload 0, .aload_n 0, 0), (36, 3, .getfield 646, .getfield 60, 229), (39, 1, .dup, .dup, 0), (40, 3, .getfield 130, .getfield 291, 231), (43, 1, .aload 0, .aload_n 0, 0), (44, 3, .getfield 644, .getfield 44, 225), (47, 3, .getfield 583, .getfield 294, 232), (50, 1, .iadd, .iadd, 0), (51, 3, .putfield 130, .putfield 291, 231), (54, 1, .aload 0, .aload_n 0, 0), (55, 3, .getfield 646, .getfield 60, 229), (58, 1, .dup, .dup, 0), (59, 3, .getfield 131, .getfield 295, 233), (62, 1, .aload 0, .aload_n 0, 0), (63, 3, .getfield 644, .getfield 44, 225), (66, 3, .getfield 582, .getfield 298, 234), (69, 1, .iadd, .iadd, 0), (70, 3, .putfield 131, .putfield 295, 233), (73, 1, .aload 0, .aload_n 0, 0), (74, 3, .getfield 644, .getfield 44, 225), (77, 3, .getfield 583, .getfield 294, 232), (80, 1, .ireturn, .ireturn, 0)]
def am_pX10_nudged : Am_p := [(0, 1, .aload 0, .aload_n 0, 0), (1, 3, .getfield 640, .getfield 10, 161), (4, 1, .iload 1, .iload_n 1, 0), (5, 3, .invokevirtual 71, .invokevirtual 126, 175), (8, 3, .ifCond .eq 23, .ifCond .eq 15, 0), (11, 1, .iload 2, .iload_n 2, 0), (12, 2, .iconst (-9), .bipush (-9), 0), (14, 3, .if_icmp .lt 23, .if_icmp .lt 9, 0), (17, 1, .iload 2, .iload_n 2, 0), (18, 2, .iconst 9, .bipush 9, 0), (20, 3, .if_icmp .le 25, .if_icmp .le 5, 0), (23, 1, .iconst (-1), .iconst (-1), 0), (24, 1, .ireturn, .ireturn, 0), (25, 1, .aload 0, .aload_n 0, 0), (26, 3, .getfield 640, .getfield 10, 161), (29, 3, .getfield 449, .getfield 299, 235), (32, 1, .iload 1, .iload_n 1, 0), (33, 1, .aload 0, .aload_n 0, 0), (34, 3, .getfield 640, .getfield 10, 161), (37, 3, .getfield 449, .getfield 299, 235), (40, 1, .iload 1, .iload_n 1, 0), (41, 1, .iaload, .iaload, 0), (42, 1, .iload 2, .iload_n 2, 0), (43, 1, .iadd, .iadd, 0), (44, 1, .aload 0, .aload_n 0, 0), (45, 3, .getfield 640, .getfield 10, 161), (48, 3, .getfield 448, .getfield 129, 176), (51, 1, .iload 1, .iload_n 1, 0), (52, 1, .iaload, .iaload, 0), (53, 3, .invokestatic 261, .invokestatic 302, 236), (56, 1, .iastore, .iastore, 0), (57, 1, .aload 0, .aload_n 0, 0), (58, 3, .getfield 646, .getfield 60, 229), (61, 1, .dup, .dup, 0), (62, 3, .getfield 132, .getfield 307, 237), (65, 1, .iconst 1, .iconst 1, 0), (66, 1, .iadd, .iadd, 0), (67, 3, .putfield 132, .putfield 307, 237), (70, 1, .aload 0, .aload_n 0, 0), (71, 3, .getfield 640, .getfield 10, 161), (74, 3, .getfield 449, .getfield 299, 235), (77, 1, .iload 1, .iload_n 1, 0), (78, 1, .iaload, .iaload, 0), (79, 1, .ireturn, .ireturn, 0)]
def am_pX10_led : Am_p := [(0, 1, .iload 1, .iload_n 1, 0), (1, 31, .tableswitch 64 0 3 #[32, 40, 48, 56], .tableswitch 63 0 3 #[31, 39, 47, 55], 0), (32, 1, .aload 0, .aload_n 0, 0), (33, 3, .getfield 646, .getfield 60, 229), (36, 3, .getfield 129, .getfield 288, 230), (39, 1, .ireturn, .ireturn, 0), (40, 1, .aload 0, .aload_n 0, 0), (41, 3, .getfield 646, .getfield 60, 229), (44, 3, .getfield 130, .getfield 291, 231), (47, 1, .ireturn, .ireturn, 0), (48, 1, .aload 0, .aload_n 0, 0), (49, 3, .getfield 646, .getfield 60, 229), (52, 3, .getfield 131, .getfield 295, 233), (55, 1, .ireturn, .ireturn, 0), (56, 1, .aload 0, .aload_n 0, 0), (57, 3, .getfield 646, .getfield 60, 229), (60, 3, .getfield 132, .getfield 307, 237), (63, 1, .ireturn, .ireturn, 0), (64, 1, .iconst (-1), .iconst (-1), 0), (65, 1, .ireturn, .ireturn, 0)]
def am_pX10_image : Am_p := [(0, 1, .aload 0, .aload_n 0, 0), (1, 3, .getfield 646, .getfield 60, 229), (4, 3, .invokevirtual 23, .invokevirtual 310, 238), (7, 1, .aload 0, .aload_n 0, 0), (8, 3, .getfield 646, .getfield 60, 229), (11, 3, .getfield 129, .getfield 288, 230), (14, 1, .ireturn, .ireturn, 0)]
def am_pX10_back : Am_p := [(0, 1, .aload 0, .aload_n 0, 0), (1, 3, .getfield 646, .getfield 60, 229), (4, 3, .getfield 133, .getfield 313, 239), (7, 3, .ifCond .ne 13, .ifCond .ne 6, 0), (10, 2, .iconst (-5), .bipush (-5), 0), (12, 1, .ireturn, .ireturn, 0), (13, 1, .aload 0, .aload_n 0, 0), (14, 3, .getfield 646, .getfield 60, 229), (17, 3, .invokevirtual 24, .invokevirtual 317, 240), (20, 1, .aload 0, .aload_n 0, 0), (21, 3, .getfield 646, .getfield 60, 229), (24, 3, .getfield 129, .getfield 288, 230), (27, 1, .ireturn, .ireturn, 0)]
def am_pX10_undo : Am_p := [(0, 1, .aload 0, .aload_n 0, 0), (1, 3, .getfield 647, .getfield 67, 172), (4, 3, .getfield 4, .getfield 320, 241), (7, 1, .iconst 1, .iconst 1, 0), (8, 3, .if_icmp .ge 14, .if_icmp .ge 6, 0), (11, 2, .iconst (-5), .bipush (-5), 0), (13, 1, .ireturn, .ireturn, 0), (14, 1, .aload 0, .aload_n 0, 0), (15, 3, .getfield 647, .getfield 67, 172), (18, 1, .dup, .dup, 0), (19, 3, .getfield 4, .getfield 320, 241), (22, 1, .iconst 1, .iconst 1, 0), (23, 1, .isub, .isub, 0), (24, 3, .putfield 4, .putfield 320, 241), (27, 1, .aload 0, .aload_n 0, 0), (28, 3, .getfield 647, .getfield 67, 172), (31, 3, .getfield 4, .getfield 320, 241), (34, 1, .istore 1, .istore_n 1, 0), (35, 1, .aload 0, .aload_n 0, 0), (36, 3, .getfield 640, .getfield 10, 161), (39, 1, .aload 0, .aload_n 0, 0), (40, 3, .getfield 647, .getfield 67, 172), (43, 3, .getfield 0, .getfield 323, 242), (46, 1, .iload 1, .iload_n 1, 0), (47, 1, .iaload, .iaload, 0), (48, 1, .aload 0, .aload_n 0, 0), (49, 3, .getfield 647, .getfield 67, 172), (52, 3, .getfield 1, .getfield 326, 243), (55, 1, .iload 1, .iload_n 1, 0), (56, 1, .iaload, .iaload, 0), (57, 1, .aload 0, .aload_n 0, 0), (58, 3, .getfield 647, .getfield 67, 172), (61, 3, .getfield 2, .getfield 329, 244), (64, 1, .iload 1, .iload_n 1, 0), (65, 1, .iaload, .iaload, 0), (66, 3, .invokevirtual 77, .invokevirtual 122, 174), (69, 1, .aload 0, .aload_n 0, 0), (70, 3, .getfield 647, .getfield 67, 172), (73, 3, .getfield 4, .getfield 320, 241), (76, 1, .ireturn, .ireturn, 0)]
def am_pX10_redo : Am_p := [(0, 1, .aload 0, .aload_n 0, 0), (1, 3, .getfield 647, .getfield 67, 172), (4, 3, .getfield 4, .getfield 320, 241), (7, 1, .aload 0, .aload_n 0, 0), (8, 3, .getfield 647, .getfield 67, 172), (11, 3, .getfield 5, .getfield 332, 245), (14, 3, .if_icmp .lt 20, .if_icmp .lt 6, 0), (17, 2, .iconst (-5), .bipush (-5), 0), (19, 1, .ireturn, .ireturn, 0), (20, 1, .aload 0, .aload_n 0, 0), (21, 3, .getfield 647, .getfield 67, 172), (24, 3, .getfield 4, .getfield 320, 241), (27, 1, .istore 1, .istore_n 1, 0), (28, 1, .aload 0, .aload_n 0, 0), (29, 3, .getfield 640, .getfield 10, 161), (32, 1, .aload 0, .aload_n 0, 0), (33, 3, .getfield 647, .getfield 67, 172), (36, 3, .getfield 0, .getfield 323, 242), (39, 1, .iload 1, .iload_n 1, 0), (40, 1, .iaload, .iaload, 0), (41, 1, .aload 0, .aload_n 0, 0), (42, 3, .getfield 647, .getfield 67, 172), (45, 3, .getfield 1, .getfield 326, 243), (48, 1, .iload 1, .iload_n 1, 0), (49, 1, .iaload, .iaload, 0), (50, 1, .aload 0, .aload_n 0, 0), (51, 3, .getfield 647, .getfield 67, 172), (54, 3, .getfield 3, .getfield 333, 246), (57, 1, .iload 1, .iload_n 1, 0), (58, 1, .iaload, .iaload, 0), (59, 3, .invokevirtual 77, .invokevirtual 122, 174), (62, 1, .aload 0, .aload_n 0, 0), (63, 3, .getfield 647, .getfield 67, 172), (66, 1, .dup, .dup, 0), (67, 3, .getfield 4, .getfield 320, 241), (70, 1, .iconst 1, .iconst 1, 0), (71, 1, .iadd, .iadd, 0), (72, 3, .putfield 4, .putfield 320, 241), (75, 1, .aload 0, .aload_n 0, 0), (76, 3, .getfield 647, .getfield 67, 172), (79, 3, .getfield 5, .getfield 332, 245), (82, 1, .aload 0, .aload_n 0, 0), (83, 3, .getfield 647, .getfield 67, 172), (86, 3, .getfield 4, .getfield 320, 241), (89, 1, .isub, .isub, 0), (90, 1, .ireturn, .ireturn, 0)]
def am_pX10_body : Am_p := [(0, 1, .iload 1, .iload_n 1, 0), (1, 3, .invokestatic 42, .invokestatic 336, 247), (4, 3, .ifCond .ne 9, .ifCond .ne 5, 0), (7, 1, .iconst (-1), .iconst (-1), 0), (8, 1, .ireturn, .ireturn, 0), (9, 1, .aload 0, .aload_n 0, 0), (10, 3, .getfield 649, .getfield 81, 248), (13, 1, .iload 1, .iload_n 1, 0), (14, 3, .invokevirtual 45, .invokevirtual 339, 249), (17, 1, .ireturn, .ireturn, 0)]
def am_pX10_act : Am_p := [(0, 1, .aload 0, .aload_n 0, 0), (1, 3, .getfield 649, .getfield 81, 248), (4, 1, .iload 1, .iload_n 1, 0), (5, 1, .iload 2, .iload_n 2, 0), (6, 1, .iload 3, .iload_n 3, 0), (7, 3, .invokevirtual 46, .invokevirtual 341, 250), (10, 1, .ireturn, .ireturn, 0)]
def am_pX10_trace : Am_p := [(0, 1, .iload 1, .iload_n 1, 0), (1, 3, .ifCond .lt 21, .ifCond .lt 20, 0), (4, 1, .iload 1, .iload_n 1, 0), (5, 1, .aload 0, .aload_n 0, 0), (6, 3, .getfield 649, .getfield 81, 248), (9, 3, .getfield 323, .getfield 344, 251), (12, 3, .if_icmp .ge 21, .if_icmp .ge 9, 0), (15, 1, .iload 1, .iload_n 1, 0), (16, 2, .iconst 24, .bipush 24, 0), (18, 3, .if_icmp .lt 23, .if_icmp .lt 5, 0), (21, 1, .iconst (-1), .iconst (-1), 0), (22, 1, .ireturn, .ireturn, 0), (23, 1, .aload 0, .aload_n 0, 0), (24, 3, .getfield 649, .getfield 81, 248), (27, 3, .getfield 322, .getfield 347, 252), (30, 1, .iload 1, .iload_n 1, 0), (31, 1, .iaload, .iaload, 0), (32, 1, .ireturn, .ireturn, 0)]
def am_pX10_keep : Am_p := [(0, 1, .iload 1, .iload_n 1, 0), (1, 3, .invokestatic 56, .invokestatic 93, 163), (4, 3, .ifCond .eq 23, .ifCond .eq 19, 0), (7, 1, .iload 2, .iload_n 2, 0), (8, 1, .iconst (-1), .iconst (-1), 0), (9, 3, .if_icmp .eq 25, .if_icmp .eq 16, 0), (12, 1, .aload 0, .aload_n 0, 0), (13, 3, .getfield 649, .getfield 81, 248), (16, 1, .iload 2, .iload_n 2, 0), (17, 3, .invokevirtual 44, .invokevirtual 350, 253), (20, 3, .ifCond .ne 25, .ifCond .ne 5, 0), (23, 1, .iconst (-1), .iconst (-1), 0), (24, 1, .ireturn, .ireturn, 0), (25, 1, .iload 2, .iload_n 2, 0), (26, 1, .iconst (-1), .iconst (-1), 0), (27, 3, .if_icmp .ne 41, .if_icmp .ne 14, 0), (30, 1, .aload 0, .aload_n 0, 0), (31, 3, .getfield 648, .getfield 74, 164), (34, 1, .iload 1, .iload_n 1, 0), (35, 3, .invokevirtual 60, .invokevirtual 351, 254), (38, 3, .goto 50, .goto 12, 0), (41, 1, .aload 0, .aload_n 0, 0), (42, 3, .getfield 648, .getfield 74, 164), (45, 1, .iload 1, .iload_n 1, 0), (46, 1, .iload 2, .iload_n 2, 0), (47, 3, .invokevirtual 61, .invokevirtual 354, 255), (50, 1, .iconst 1, .iconst 1, 0), (51, 1, .ireturn, .ireturn, 0)]
def am_pX10_row : Am_p := [(0, 1, .iload 1, .iload_n 1, 0), (1, 3, .invokestatic 56, .invokestatic 93, 163), (4, 3, .ifCond .eq 22, .ifCond .eq 18, 0), (7, 1, .iload 2, .iload_n 2, 0), (8, 3, .ifCond .lt 22, .ifCond .lt 14, 0), (11, 1, .iload 2, .iload_n 2, 0), (12, 1, .iconst 4, .iconst 4, 0), (13, 3, .if_icmp .gt 22, .if_icmp .gt 9, 0), (16, 1, .iload 3, .iload_n 3, 0), (17, 2, .iconst 60, .bipush 60, 0), (19, 3, .if_icmp .le 24, .if_icmp .le 5, 0), (22, 1, .iconst (-1), .iconst (-1), 0), (23, 1, .ireturn, .ireturn, 0), (24, 1, .iload 3, .iload_n 3, 0), (25, 3, .ifCond .ge 31, .ifCond .ge 6, 0), (28, 2, .iconst (-14), .bipush (-14), 0), (30, 1, .ireturn, .ireturn, 0), (31, 1, .aload 0, .aload_n 0, 0), (32, 3, .getfield 648, .getfield 74, 164), (35, 1, .iload 1, .iload_n 1, 0), (36, 1, .iload 2, .iload_n 2, 0), (37, 1, .iload 3, .iload_n 3, 0), (38, 3, .invokevirtual 62, .invokevirtual 358, 256), (41, 1, .iconst 1, .iconst 1, 0), (42, 1, .ireturn, .ireturn, 0)]
def am_pX10_put : Am_p := [(0, 1, .aload 0, .aload_n 0, 0), (1, 3, .getfield 648, .getfield 74, 164), (4, 1, .iload 1, .iload_n 1, 0), (5, 1, .iload 2, .iload_n 2, 0), (6, 3, .invokevirtual 65, .invokevirtual 361, 257), (9, 2, .istore 5, .istore 5, 0), (11, 2, .iload 5, .iload 5, 0), (13, 3, .ifCond .eq 19, .ifCond .eq 6, 0), (16, 2, .iload 5, .iload 5, 0), (18, 1, .ireturn, .ireturn, 0), (19, 1, .aload 0, .aload_n 0, 0), (20, 3, .getfield 648, .getfield 74, 164), (23, 3, .getfield 388, .getfield 242, 215), (26, 1, .iload 1, .iload_n 1, 0), (27, 1, .aaload, .aaload, 0), (28, 1, .iload 2, .iload_n 2, 0), (29, 1, .aload 0, .aload_n 0, 0), (30, 3, .getfield 648, .getfield 74, 164), (33, 3, .getfield 386, .getfield 364, 258), (36, 1, .iload 1, .iload_n 1, 0), (37, 1, .iaload, .iaload, 0), (38, 1, .lload 3, .lload_n 3, 0), (39, 3, .invokestatic 68, .invokestatic 367, 259), (42, 1, .lastore, .lastore, 0), (43, 1, .iconst 1, .iconst 1, 0), (44, 1, .ireturn, .ireturn, 0)]
def am_pX10_element : Am_p := [(0, 1, .aload 0, .aload_n 0, 0), (1, 3, .getfield 648, .getfield 74, 164), (4, 1, .iload 1, .iload_n 1, 0), (5, 1, .iload 2, .iload_n 2, 0), (6, 3, .invokevirtual 65, .invokevirtual 361, 257), (9, 3, .ifCond .eq 16, .ifCond .eq 7, 0), (12, 3, .ldc2_w 9223372036854775808, .ldc2_w 192, 197), (15, 1, .lreturn, .lreturn, 0), (16, 1, .aload 0, .aload_n 0, 0), (17, 3, .getfield 648, .getfield 74, 164), (20, 3, .getfield 388, .getfield 242, 215), (23, 1, .iload 1, .iload_n 1, 0), (24, 1, .aaload, .aaload, 0), (25, 1, .iload 2, .iload_n 2, 0), (26, 1, .laload, .laload, 0), (27, 1, .lreturn, .lreturn, 0)]
def am_pX10_shift : Am_p := [(0, 1, .aload 0, .aload_n 0, 0), (1, 3, .getfield 648, .getfield 74, 164), (4, 1, .iload 1, .iload_n 1, 0), (5, 1, .iload 3, .iload_n 3, 0), (6, 3, .invokevirtual 66, .invokevirtual 371, 260), (9, 2, .istore 6, .istore 6, 0), (11, 2, .iload 6, .iload 6, 0), (13, 3, .ifCond .eq 19, .ifCond .eq 6, 0), (16, 2, .iload 6, .iload 6, 0), (18, 1, .ireturn, .ireturn, 0), (19, 1, .aload 0, .aload_n 0, 0), (20, 3, .getfield 648, .getfield 74, 164), (23, 1, .iload 1, .iload_n 1, 0), (24, 1, .iload 2, .iload_n 2, 0), (25, 2, .iload 5, .iload 5, 0), (27, 3, .invokevirtual 67, .invokevirtual 374, 261), (30, 3, .ifCond .eq 48, .ifCond .eq 18, 0), (33, 1, .aload 0, .aload_n 0, 0), (34, 3, .getfield 648, .getfield 74, 164), (37, 1, .iload 3, .iload_n 3, 0), (38, 2, .iload 4, .iload 4, 0), (40, 2, .iload 5, .iload 5, 0), (42, 3, .invokevirtual 67, .invokevirtual 374, 261), (45, 3, .ifCond .ne 51, .ifCond .ne 6, 0), (48, 2, .iconst (-13), .bipush (-13), 0), (50, 1, .ireturn, .ireturn, 0), (51, 1, .aload 0, .aload_n 0, 0), (52, 3, .getfield 648, .getfield 74, 164), (55, 3, .getfield 388, .getfield 242, 215), (58, 1, .iload 1, .iload_n 1, 0), (59, 1, .aaload, .aaload, 0), (60, 1, .iload 2, .iload_n 2, 0), (61, 1, .aload 0, .aload_n 0, 0), (62, 3, .getfield 648, .getfield 74, 164), (65, 3, .getfield 388, .getfield 242, 215), (68, 1, .iload 3, .iload_n 3, 0), (69, 1, .aaload, .aaload, 0), (70, 2, .iload 4, .iload 4, 0), (72, 2, .iload 5, .iload 5, 0), (74, 3, .invokespecial 4, .invokestatic 377, 262), (77, 2, .iload 5, .iload 5, 0), (79, 1, .ireturn, .ireturn, 0)]
def am_pX10_taken : Am_p := [(0, 1, .iload 1, .iload_n 1, 0), (1, 3, .invokestatic 56, .invokestatic 93, 163), (4, 3, .ifCond .eq 14, .ifCond .eq 10, 0), (7, 1, .iload 2, .iload_n 2, 0), (8, 3, .invokestatic 42, .invokestatic 336, 247), (11, 3, .ifCond .ne 16, .ifCond .ne 5, 0), (14, 1, .iconst (-1), .iconst (-1), 0), (15, 1, .ireturn, .ireturn, 0), (16, 1, .aload 0, .aload_n 0, 0), (17, 3, .getfield 648, .getfield 74, 164), (20, 1, .iload 1, .iload_n 1, 0), (21, 3, .invokevirtual 57, .invokevirtual 97, 165), (24, 3, .ifCond .eq 30, .ifCond .eq 6, 0), (27, 2, .iconst (-11), .bipush (-11), 0), (29, 1, .ireturn, .ireturn, 0), (30, 1, .aload 0, .aload_n 0, 0), (31, 3, .getfield 648, .getfield 74, 164), (34, 1, .iload 1, .iload_n 1, 0), (35, 3, .invokevirtual 58, .invokevirtual 383, 263), (38, 3, .ifCond .ne 44, .ifCond .ne 6, 0), (41, 2, .iconst (-12), .bipush (-12), 0), (43, 1, .ireturn, .ireturn, 0), (44, 1, .aload 0, .aload_n 0, 0), (45, 3, .getfield 649, .getfield 81, 248), (48, 3, .getfield 320, .getfield 386, 264), (51, 1, .aload 0, .aload_n 0, 0), (52, 3, .getfield 648, .getfield 74, 164), (55, 3, .getfield 385, .getfield 389, 265), (58, 1, .iload 1, .iload_n 1, 0), (59, 1, .iaload, .iaload, 0), (60, 1, .iaload, .iaload, 0), (61, 1, .istore 3, .istore_n 3, 0), (62, 1, .iload 3, .iload_n 3, 0), (63, 1, .iload 2, .iload_n 2, 0), (64, 3, .invokestatic 43, .invokestatic 392, 266), (67, 3, .ifCond .eq 74, .ifCond .eq 7, 0), (70, 1, .iload 3, .iload_n 3, 0), (71, 3, .goto 76, .goto 5, 0), (74, 2, .iconst (-12), .bipush (-12), 0), (76, 1, .ireturn, .ireturn, 0)]
def am_pX10_count : Am_p := [(0, 1, .iload 1, .iload_n 1, 0), (1, 35, .tableswitch 76 0 4 #[36, 44, 52, 60, 68], .tableswitch 75 0 4 #[35, 43, 51, 59, 67], 0), (36, 1, .aload 0, .aload_n 0, 0), (37, 3, .getfield 640, .getfield 10, 161), (40, 3, .getfield 453, .getfield 257, 219), (43, 1, .ireturn, .ireturn, 0), (44, 1, .aload 0, .aload_n 0, 0), (45, 3, .getfield 642, .getfield 28, 177), (48, 3, .getfield 513, .getfield 149, 183), (51, 1, .ireturn, .ireturn, 0), (52, 1, .aload 0, .aload_n 0, 0), (53, 3, .getfield 647, .getfield 67, 172), (56, 3, .getfield 4, .getfield 320, 241), (59, 1, .ireturn, .ireturn, 0), (60, 1, .aload 0, .aload_n 0, 0), (61, 3, .getfield 649, .getfield 81, 248), (64, 3, .getfield 321, .getfield 395, 267), (67, 1, .ireturn, .ireturn, 0), (68, 1, .aload 0, .aload_n 0, 0), (69, 3, .getfield 649, .getfield 81, 248), (72, 3, .getfield 323, .getfield 344, 251), (75, 1, .ireturn, .ireturn, 0), (76, 1, .iconst (-1), .iconst (-1), 0), (77, 1, .ireturn, .ireturn, 0)]
def am_pX10_isDay : Am_p := [(0, 1, .iload 0, .iload_n 0, 0), (1, 3, .ifCond .lt 15, .ifCond .lt 14, 0), (4, 1, .iload 0, .iload_n 0, 0), (5, 3, .iconst 99999, .ldc_w 396, 268), (8, 3, .if_icmp .gt 15, .if_icmp .gt 7, 0), (11, 1, .iconst 1, .iconst 1, 0), (12, 3, .goto 16, .goto 4, 0), (15, 1, .iconst 0, .iconst 0, 0), (16, 1, .ireturn, .ireturn, 0)]
def am_pX10_isWhat : Am_p := [(0, 1, .iload 0, .iload_n 0, 0), (1, 3, .ifCond .eq 9, .ifCond .eq 8, 0), (4, 1, .iload 0, .iload_n 0, 0), (5, 1, .iconst 1, .iconst 1, 0), (6, 3, .if_icmp .ne 13, .if_icmp .ne 7, 0), (9, 1, .iconst 1, .iconst 1, 0), (10, 3, .goto 14, .goto 4, 0), (13, 1, .iconst 0, .iconst 0, 0), (14, 1, .ireturn, .ireturn, 0)]
def am_pX10_isSpan : Am_p := [(0, 1, .iload 0, .iload_n 0, 0), (1, 1, .iconst 1, .iconst 1, 0), (2, 3, .if_icmp .lt 16, .if_icmp .lt 14, 0), (5, 1, .iload 0, .iload_n 0, 0), (6, 3, .iconst 999, .sipush 999, 0), (9, 3, .if_icmp .gt 16, .if_icmp .gt 7, 0), (12, 1, .iconst 1, .iconst 1, 0), (13, 3, .goto 17, .goto 4, 0), (16, 1, .iconst 0, .iconst 0, 0), (17, 1, .ireturn, .ireturn, 0)]
def am_pX10_isPushedSpan : Am_p := [(0, 1, .iload 0, .iload_n 0, 0), (1, 3, .ifCond .lt 15, .ifCond .lt 14, 0), (4, 1, .iload 0, .iload_n 0, 0), (5, 3, .iconst 200, .sipush 200, 0), (8, 3, .if_icmp .gt 15, .if_icmp .gt 7, 0), (11, 1, .iconst 1, .iconst 1, 0), (12, 3, .goto 16, .goto 4, 0), (15, 1, .iconst 0, .iconst 0, 0), (16, 1, .ireturn, .ireturn, 0)]
def am_pX10_bodiesFrom : Am_p := [(0, 1, .aload 0, .aload_n 0, 0), (1, 3, .getfield 648, .getfield 74, 164), (4, 3, .getfield 388, .getfield 242, 215), (7, 1, .iload 1, .iload_n 1, 0), (8, 1, .aaload, .aaload, 0), (9, 2, .astore 4, .astore 4, 0), (11, 1, .aload 0, .aload_n 0, 0), (12, 3, .getfield 648, .getfield 74, 164), (15, 3, .getfield 387, .getfield 246, 216), (18, 1, .iload 1, .iload_n 1, 0), (19, 1, .iaload, .iaload, 0), (20, 2, .istore 5, .istore 5, 0), (22, 1, .iconst 0, .iconst 0, 0), (23, 2, .istore 6, .istore 6, 0), (25, 1, .iload 2, .iload_n 2, 0), (26, 2, .istore 7, .istore 7, 0), (28, 1, .iconst 0, .iconst 0, 0), (29, 2, .istore 8, .istore 8, 0), (31, 2, .iload 8, .iload 8, 0), (33, 1, .iload 3, .iload_n 3, 0), (34, 3, .if_icmp .ge 122, .if_icmp .ge 88, 0), (37, 2, .iload 7, .iload 7, 0), (39, 3, .ifCond .lt 122, .ifCond .lt 83, 0), (42, 2, .iload 7, .iload 7, 0), (44, 2, .iload 5, .iload 5, 0), (46, 1, .iconst 3, .iconst 3, 0), (47, 1, .isub, .isub, 0), (48, 3, .if_icmp .gt 122, .if_icmp .gt 74, 0), (51, 2, .aload 4, .aload 4, 0), (53, 2, .iload 7, .iload 7, 0), (55, 1, .laload, .laload, 0), (56, 1, .l2i, .l2i, 0), (57, 2, .istore 9, .istore 9, 0), (59, 2, .aload 4, .aload 4, 0), (61, 2, .iload 7, .iload 7, 0), (63, 1, .iconst 1, .iconst 1, 0), (64, 1, .iadd, .iadd, 0), (65, 1, .laload, .laload, 0), (66, 1, .l2i, .l2i, 0), (67, 2, .istore 10, .istore 10, 0), (69, 2, .aload 4, .aload 4, 0), (71, 2, .iload 7, .iload 7, 0), (73, 1, .iconst 2, .iconst 2, 0), (74, 1, .iadd, .iadd, 0), (75, 1, .laload, .laload, 0), (76, 1, .l2i, .l2i, 0), (77, 2, .istore 11, .istore 11, 0), (79, 2, .iload 9, .iload 9, 0), (81, 2, .iload 10, .iload 10, 0), (83, 2, .iload 11, .iload 11, 0), (85, 3, .invokestatic 69, .invokestatic 85, 160), (88, 3, .ifCond .eq 107, .ifCond .eq 19, 0), (91, 1, .aload 0, .aload_n 0, 0), (92, 3, .getfield 640, .getfield 10, 161), (95, 2, .iload 9, .iload 9, 0), (97, 2, .iload 10, .iload 10, 0), (99, 2, .iload 11, .iload 11, 0), (101, 3, .invokevirtual 70, .invokevirtual 89, 162), (104, 3, .ifCond .ge 110, .ifCond .ge 6, 0), (107, 2, .iload 6, .iload 6, 0), (109, 1, .ireturn, .ireturn, 0), (110, 3, .iinc 6 1, .iinc 6 1, 0), (113, 3, .iinc 7 3, .iinc 7 3, 0), (116, 3, .iinc 8 1, .iinc 8 1, 0), (119, 3, .goto 31, .goto (-88), 0), (122, 2, .iload 6, .iload 6, 0), (124, 1, .ireturn, .ireturn, 0)]
def am_pX10_likings : Am_p := [(0, 1, .aload 0, .aload_n 0, 0), (1, 3, .getfield 640, .getfield 10, 161), (4, 1, .iload 2, .iload_n 2, 0), (5, 1, .iconst 2, .iconst 2, 0), (6, 3, .invokevirtual 76, .invokevirtual 114, 171), (9, 2, .istore 5, .istore 5, 0), (11, 1, .iconst 0, .iconst 0, 0), (12, 2, .istore 6, .istore 6, 0), (14, 2, .iconst (-99), .bipush (-99), 0), (16, 2, .istore 7, .istore 7, 0), (18, 2, .iconst (-9), .bipush (-9), 0), (20, 2, .istore 8, .istore 8, 0), (22, 2, .iload 8, .iload 8, 0), (24, 2, .iconst 9, .bipush 9, 0), (26, 3, .if_icmp .gt 89, .if_icmp .gt 63, 0), (29, 1, .aload 0, .aload_n 0, 0), (30, 3, .getfield 640, .getfield 10, 161), (33, 1, .iload 2, .iload_n 2, 0), (34, 1, .iconst 2, .iconst 2, 0), (35, 2, .iload 8, .iload 8, 0), (37, 3, .invokevirtual 77, .invokevirtual 122, 174), (40, 1, .aload 0, .aload_n 0, 0), (41, 3, .getfield 645, .getfield 53, 208), (44, 1, .aload 0, .aload_n 0, 0), (45, 3, .getfield 648, .getfield 74, 164), (48, 3, .getfield 388, .getfield 242, 215), (51, 1, .iload 1, .iload_n 1, 0), (52, 1, .aaload, .aaload, 0), (53, 1, .aload 0, .aload_n 0, 0), (54, 3, .getfield 648, .getfield 74, 164), (57, 3, .getfield 387, .getfield 246, 216), (60, 1, .iload 1, .iload_n 1, 0), (61, 1, .iaload, .iaload, 0), (62, 1, .iload 3, .iload_n 3, 0), (63, 3, .invokevirtual 31, .invokevirtual 249, 217), (66, 2, .iconst (-2), .bipush (-2), 0), (68, 3, .if_icmp .ne 83, .if_icmp .ne 15, 0), (71, 2, .iload 6, .iload 6, 0), (73, 3, .ifCond .ne 80, .ifCond .ne 7, 0), (76, 2, .iload 8, .iload 8, 0), (78, 2, .istore 7, .istore 7, 0), (80, 3, .iinc 6 1, .iinc 6 1, 0), (83, 3, .iinc 8 1, .iinc 8 1, 0), (86, 3, .goto 22, .goto (-64), 0), (89, 1, .aload 0, .aload_n 0, 0), (90, 3, .getfield 640, .getfield 10, 161), (93, 1, .iload 2, .iload_n 2, 0), (94, 1, .iconst 2, .iconst 2, 0), (95, 2, .iload 5, .iload 5, 0), (97, 3, .invokevirtual 77, .invokevirtual 122, 174), (100, 2, .iload 4, .iload 4, 0), (102, 3, .ifCond .eq 110, .ifCond .eq 8, 0), (105, 2, .iload 7, .iload 7, 0), (107, 3, .goto 112, .goto 5, 0), (110, 2, .iload 6, .iload 6, 0), (112, 1, .ireturn, .ireturn, 0)]
def am_pX11_within : Am_p := [(0, 1, .lload 0, .lload_n 0, 0), (1, 1, .lload 2, .lload_n 2, 0), (2, 1, .lcmp, .lcmp, 0), (3, 3, .ifCond .lt 17, .ifCond .lt 14, 0), (6, 1, .lload 0, .lload_n 0, 0), (7, 2, .lload 4, .lload 4, 0), (9, 1, .lcmp, .lcmp, 0), (10, 3, .ifCond .gt 17, .ifCond .gt 7, 0), (13, 1, .iconst 1, .iconst 1, 0), (14, 3, .goto 18, .goto 4, 0), (17, 1, .iconst 0, .iconst 0, 0), (18, 1, .ireturn, .ireturn, 0)]
def am_pX11_isIn : Am_p := [(0, 1, .iload 0, .iload_n 0, 0), (1, 1, .iload 1, .iload_n 1, 0), (2, 1, .ishr, .ishr, 0), (3, 1, .iconst 1, .iconst 1, 0), (4, 1, .iand, .iand, 0), (5, 1, .iconst 1, .iconst 1, 0), (6, 3, .if_icmp .ne 13, .if_icmp .ne 7, 0), (9, 1, .iconst 1, .iconst 1, 0), (10, 3, .goto 14, .goto 4, 0), (13, 1, .iconst 0, .iconst 0, 0), (14, 1, .ireturn, .ireturn, 0)]
def am_pX11_becomes : Am_p := [(0, 1, .aload 0, .aload_n 0, 0), (1, 3, .getfield 704, .getfield 9, 269), (4, 1, .iload 1, .iload_n 1, 0), (5, 1, .iaload, .iaload, 0), (6, 1, .istore 3, .istore_n 3, 0), (7, 1, .iload 3, .iload_n 3, 0), (8, 1, .iload 2, .iload_n 2, 0), (9, 3, .if_icmp .ne 14, .if_icmp .ne 5, 0), (12, 1, .iload 3, .iload_n 3, 0), (13, 1, .ireturn, .ireturn, 0), (14, 1, .aload 0, .aload_n 0, 0), (15, 3, .getfield 709, .getfield 78, 270), (18, 2, .iconst 40, .bipush 40, 0), (20, 3, .if_icmp .ne 97, .if_icmp .ne 77, 0), (23, 1, .iconst 1, .iconst 1, 0), (24, 2, .istore 4, .istore 4, 0), (26, 2, .iload 4, .iload 4, 0), (28, 2, .iconst 40, .bipush 40, 0), (30, 3, .if_icmp .ge 87, .if_icmp .ge 57, 0), (33, 1, .aload 0, .aload_n 0, 0), (34, 3, .getfield 705, .getfield 13, 271), (37, 2, .iload 4, .iload 4, 0), (39, 1, .iconst 1, .iconst 1, 0), (40, 1, .isub, .isub, 0), (41, 1, .aload 0, .aload_n 0, 0), (42, 3, .getfield 705, .getfield 13, 271), (45, 2, .iload 4, .iload 4, 0), (47, 1, .iaload, .iaload, 0), (48, 1, .iastore, .iastore, 0), (49, 1, .aload 0, .aload_n 0, 0), (50, 3, .getfield 706, .getfield 16, 272), (53, 2, .iload 4, .iload 4, 0), (55, 1, .iconst 1, .iconst 1, 0), (56, 1, .isub, .isub, 0), (57, 1, .aload 0, .aload_n 0, 0), (58, 3, .getfield 706, .getfield 16, 272), (61, 2, .iload 4, .iload 4, 0), (63, 1, .iaload, .iaload, 0), (64, 1, .iastore, .iastore, 0), (65, 1, .aload 0, .aload_n 0, 0), (66, 3, .getfield 707, .getfield 19, 273), (69, 2, .iload 4, .iload 4, 0), (71, 1, .iconst 1, .iconst 1, 0), (72, 1, .isub, .isub, 0), (73, 1, .aload 0, .aload_n 0, 0), (74, 3, .getfield 707, .getfield 19, 273), (77, 2, .iload 4, .iload 4, 0), (79, 1, .iaload, .iaload, 0), (80, 1, .iastore, .iastore, 0), (81, 3, .iinc 4 1, .iinc 4 1, 0), (84, 3, .goto 26, .goto (-58), 0), (87, 1, .aload 0, .aload_n 0, 0), (88, 1, .dup, .dup, 0), (89, 3, .getfield 709, .getfield 78, 270), (92, 1, .iconst 1, .iconst 1, 0), (93, 1, .isub, .isub, 0), (94, 3, .putfield 709, .putfield 78, 270), (97, 1, .aload 0, .aload_n 0, 0), (98, 3, .getfield 705, .getfield 13, 271), (101, 1, .aload 0, .aload_n 0, 0), (102, 3, .getfield 709, .getfield 78, 270), (105, 1, .iload 1, .iload_n 1, 0), (106, 1, .iastore, .iastore, 0), (107, 1, .aload 0, .aload_n 0, 0), (108, 3, .getfield 706, .getfield 16, 272), (111, 1, .aload 0, .aload_n 0, 0), (112, 3, .getfield 709, .getfield 78, 270), (115, 1, .iload 3, .iload_n 3, 0), (116, 1, .iastore, .iastore, 0), (117, 1, .aload 0, .aload_n 0, 0), (118, 3, .getfield 707, .getfield 19, 273), (121, 1, .aload 0, .aload_n 0, 0), (122, 3, .getfield 709, .getfield 78, 270), (125, 1, .iload 2, .iload_n 2, 0), (126, 1, .iastore, .iastore, 0), (127, 1, .aload 0, .aload_n 0, 0), (128, 1, .dup, .dup, 0), (129, 3, .getfield 709, .getfield 78, 270), (132, 1, .iconst 1, .iconst 1, 0), (133, 1, .iadd, .iadd, 0), (134, 3, .putfield 709, .putfield 78, 270), (137, 1, .aload 0, .aload_n 0, 0), (138, 1, .aload 0, .aload_n 0, 0), (139, 3, .getfield 709, .getfield 78, 270), (142, 3, .putfield 708, .putfield 81, 274), (145, 1, .aload 0, .aload_n 0, 0), (146, 3, .getfield 704, .getfield 9, 269), (149, 1, .iload 1, .iload_n 1, 0), (150, 1, .iload 2, .iload_n 2, 0), (151, 1, .iastore, .iastore, 0), (152, 1, .iload 3, .iload_n 3, 0), (153, 1, .ireturn, .ireturn, 0)]
def am_pX11_undo : Am_p := [(0, 1, .aload 0, .aload_n 0, 0), (1, 3, .getfield 709, .getfield 78, 270), (4, 3, .ifCond .ne 10, .ifCond .ne 6, 0), (7, 2, .iconst (-5), .bipush (-5), 0), (9, 1, .ireturn, .ireturn, 0), (10, 1, .aload 0, .aload_n 0, 0), (11, 1, .dup, .dup, 0), (12, 3, .getfield 709, .getfield 78, 270), (15, 1, .iconst 1, .iconst 1, 0), (16, 1, .isub, .isub, 0), (17, 3, .putfield 709, .putfield 78, 270), (20, 1, .aload 0, .aload_n 0, 0), (21, 3, .getfield 704, .getfield 9, 269), (24, 1, .aload 0, .aload_n 0, 0), (25, 3, .getfield 705, .getfield 13, 271), (28, 1, .aload 0, .aload_n 0, 0), (29, 3, .getfield 709, .getfield 78, 270), (32, 1, .iaload, .iaload, 0), (33, 1, .aload 0, .aload_n 0, 0), (34, 3, .getfield 706, .getfield 16, 272), (37, 1, .aload 0, .aload_n 0, 0), (38, 3, .getfield 709, .getfield 78, 270), (41, 1, .iaload, .iaload, 0), (42, 1, .iastore, .iastore, 0), (43, 1, .aload 0, .aload_n 0, 0), (44, 3, .getfield 709, .getfield 78, 270), (47, 1, .ireturn, .ireturn, 0)]
def am_pX11_redo : Am_p := [(0, 1, .aload 0, .aload_n 0, 0), (1, 3, .getfield 709, .getfield 78, 270), (4, 1, .aload 0, .aload_n 0, 0), (5, 3, .getfield 708, .getfield 81, 274), (8, 3, .if_icmp .ne 14, .if_icmp .ne 6, 0), (11, 2, .iconst (-5), .bipush (-5), 0), (13, 1, .ireturn, .ireturn, 0), (14, 1, .aload 0, .aload_n 0, 0), (15, 3, .getfield 704, .getfield 9, 269), (18, 1, .aload 0, .aload_n 0, 0), (19, 3, .getfield 705, .getfield 13, 271), (22, 1, .aload 0, .aload_n 0, 0), (23, 3, .getfield 709, .getfield 78, 270), (26, 1, .iaload, .iaload, 0), (27, 1, .aload 0, .aload_n 0, 0), (28, 3, .getfield 707, .getfield 19, 273), (31, 1, .aload 0, .aload_n 0, 0), (32, 3, .getfield 709, .getfield 78, 270), (35, 1, .iaload, .iaload, 0), (36, 1, .iastore, .iastore, 0), (37, 1, .aload 0, .aload_n 0, 0), (38, 1, .dup, .dup, 0), (39, 3, .getfield 709, .getfield 78, 270), (42, 1, .iconst 1, .iconst 1, 0), (43, 1, .iadd, .iadd, 0), (44, 3, .putfield 709, .putfield 78, 270), (47, 1, .aload 0, .aload_n 0, 0), (48, 3, .getfield 708, .getfield 81, 274), (51, 1, .aload 0, .aload_n 0, 0), (52, 3, .getfield 709, .getfield 78, 270), (55, 1, .isub, .isub, 0), (56, 1, .ireturn, .ireturn, 0)]
def am_pX11_isOrb : Am_p := [(0, 1, .lload 1, .lload_n 1, 0), (1, 1, .ldc2_w 0, .lconst 0, 0), (2, 1, .aload 0, .aload_n 0, 0), (3, 3, .getfield 710, .getfield 84, 275), (6, 1, .iconst 1, .iconst 1, 0), (7, 1, .isub, .isub, 0), (8, 1, .i2l, .i2l, 0), (9, 3, .invokestatic 159, .invokestatic 87, 276), (12, 1, .ireturn, .ireturn, 0)]
def am_pX11_isAb : Am_p := [(0, 1, .iload 1, .iload_n 1, 0), (1, 3, .ifCond .lt 43, .ifCond .lt 42, 0), (4, 1, .aload 0, .aload_n 0, 0), (5, 1, .iload 1, .iload_n 1, 0), (6, 2, .iconst 10, .bipush 10, 0), (8, 1, .idiv, .idiv, 0), (9, 1, .i2l, .i2l, 0), (10, 3, .invokevirtual 164, .invokevirtual 91, 277), (13, 3, .ifCond .eq 43, .ifCond .eq 30, 0), (16, 1, .aload 0, .aload_n 0, 0), (17, 1, .iload 1, .iload_n 1, 0), (18, 2, .iconst 10, .bipush 10, 0), (20, 1, .irem, .irem, 0), (21, 1, .i2l, .i2l, 0), (22, 3, .invokevirtual 164, .invokevirtual 91, 277), (25, 3, .ifCond .eq 43, .ifCond .eq 18, 0), (28, 1, .iload 1, .iload_n 1, 0), (29, 2, .iconst 10, .bipush 10, 0), (31, 1, .idiv, .idiv, 0), (32, 1, .iload 1, .iload_n 1, 0), (33, 2, .iconst 10, .bipush 10, 0), (35, 1, .irem, .irem, 0), (36, 3, .if_icmp .eq 43, .if_icmp .eq 7, 0), (39, 1, .iconst 1, .iconst 1, 0), (40, 3, .goto 44, .goto 4, 0), (43, 1, .iconst 0, .iconst 0, 0), (44, 1, .ireturn, .ireturn, 0)]
def am_pX11_mayCome : Am_p := [(0, 1, .lload 0, .lload_n 0, 0), (1, 1, .ldc2_w 1, .lconst 1, 0), (2, 3, .ldc2_w 60, .ldc2_w 95, 278), (5, 3, .invokestatic 159, .invokestatic 87, 276), (8, 3, .ifCond .eq 38, .ifCond .eq 30, 0), (11, 1, .lload 2, .lload_n 2, 0), (12, 1, .ldc2_w 0, .lconst 0, 0), (13, 1, .lload 0, .lload_n 0, 0), (14, 1, .ldc2_w 1, .lconst 1, 0), (15, 1, .lsub, .lsub, 0), (16, 3, .invokestatic 159, .invokestatic 87, 276), (19, 3, .ifCond .eq 38, .ifCond .eq 19, 0), (22, 2, .lload 4, .lload 4, 0), (24, 1, .ldc2_w 0, .lconst 0, 0), (25, 3, .ldc2_w 9, .ldc2_w 97, 279), (28, 3, .invokestatic 159, .invokestatic 87, 276), (31, 3, .ifCond .eq 38, .ifCond .eq 7, 0), (34, 1, .iconst 1, .iconst 1, 0), (35, 3, .goto 39, .goto 4, 0), (38, 1, .iconst 0, .iconst 0, 0), (39, 1, .ireturn, .ireturn, 0)]
def am_pX11_adds : Am_p := [(0, 1, .aload 0, .aload_n 0, 0), (1, 3, .getfield 711, .getfield 22, 280), (4, 1, .aload 0, .aload_n 0, 0), (5, 3, .getfield 710, .getfield 84, 275), (8, 1, .iload 1, .iload_n 1, 0), (9, 1, .iastore, .iastore, 0), (10, 1, .aload 0, .aload_n 0, 0), (11, 3, .getfield 704, .getfield 9, 269), (14, 1, .aload 0, .aload_n 0, 0), (15, 3, .getfield 710, .getfield 84, 275), (18, 1, .iload 2, .iload_n 2, 0), (19, 1, .iastore, .iastore, 0), (20, 1, .aload 0, .aload_n 0, 0), (21, 3, .getfield 704, .getfield 9, 269), (24, 2, .iconst 8, .bipush 8, 0), (26, 1, .aload 0, .aload_n 0, 0), (27, 3, .getfield 710, .getfield 84, 275), (30, 1, .iadd, .iadd, 0), (31, 1, .iload 3, .iload_n 3, 0), (32, 1, .iastore, .iastore, 0), (33, 1, .aload 0, .aload_n 0, 0), (34, 1, .dup, .dup, 0), (35, 3, .getfield 710, .getfield 84, 275), (38, 1, .iconst 1, .iconst 1, 0), (39, 1, .iadd, .iadd, 0), (40, 3, .putfield 710, .putfield 84, 275), (43, 1, .return_, .return_, 0)]
def am_pX11_orb : Am_p := [(0, 1, .iload 1, .iload_n 1, 0), (1, 1, .i2l, .i2l, 0), (2, 1, .iload 2, .iload_n 2, 0), (3, 1, .i2l, .i2l, 0), (4, 1, .ldc2_w 1, .lconst 1, 0), (5, 3, .invokestatic 166, .invokestatic 99, 281), (8, 3, .ifCond .ne 13, .ifCond .ne 5, 0), (11, 1, .iconst (-1), .iconst (-1), 0), (12, 1, .ireturn, .ireturn, 0), (13, 1, .aload 0, .aload_n 0, 0), (14, 3, .getfield 710, .getfield 84, 275), (17, 2, .iconst 8, .bipush 8, 0), (19, 3, .if_icmp .ne 25, .if_icmp .ne 6, 0), (22, 2, .iconst (-3), .bipush (-3), 0), (24, 1, .ireturn, .ireturn, 0), (25, 1, .aload 0, .aload_n 0, 0), (26, 1, .iload 1, .iload_n 1, 0), (27, 1, .iload 2, .iload_n 2, 0), (28, 1, .iconst 1, .iconst 1, 0), (29, 3, .invokevirtual 167, .invokevirtual 102, 282), (32, 1, .aload 0, .aload_n 0, 0), (33, 3, .getfield 710, .getfield 84, 275), (36, 1, .iconst 1, .iconst 1, 0), (37, 1, .isub, .isub, 0), (38, 1, .ireturn, .ireturn, 0)]
def am_pX11_orbs : Am_p := [(0, 1, .iload 1, .iload_n 1, 0), (1, 3, .invokestatic 250, .invokestatic 106, 283), (4, 3, .ifCond .eq 19, .ifCond .eq 15, 0), (7, 1, .iload 3, .iload_n 3, 0), (8, 1, .i2l, .i2l, 0), (9, 1, .ldc2_w 1, .lconst 1, 0), (10, 3, .ldc2_w 8, .ldc2_w 110, 284), (13, 3, .invokestatic 159, .invokestatic 87, 276), (16, 3, .ifCond .ne 21, .ifCond .ne 5, 0), (19, 1, .iconst (-1), .iconst (-1), 0), (20, 1, .ireturn, .ireturn, 0), (21, 1, .aload 0, .aload_n 0, 0), (22, 3, .getfield 739, .getfield 61, 285), (25, 1, .iload 1, .iload_n 1, 0), (26, 1, .iaload, .iaload, 0), (27, 3, .ifCond .lt 44, .ifCond .lt 17, 0), (30, 1, .aload 0, .aload_n 0, 0), (31, 3, .getfield 739, .getfield 61, 285), (34, 1, .iload 1, .iload_n 1, 0), (35, 1, .iaload, .iaload, 0), (36, 2, .iconst 50, .bipush 50, 0), (38, 3, .if_icmp .eq 44, .if_icmp .eq 6, 0), (41, 2, .iconst (-12), .bipush (-12), 0), (43, 1, .ireturn, .ireturn, 0), (44, 1, .iconst 0, .iconst 0, 0), (45, 2, .istore 4, .istore 4, 0), (47, 1, .aload 0, .aload_n 0, 0), (48, 3, .getfield 739, .getfield 61, 285), (51, 1, .iload 1, .iload_n 1, 0), (52, 1, .iaload, .iaload, 0), (53, 2, .iconst 50, .bipush 50, 0), (55, 3, .if_icmp .ne 66, .if_icmp .ne 11, 0), (58, 1, .iload 2, .iload_n 2, 0), (59, 3, .ifCond .lt 66, .ifCond .lt 7, 0), (62, 1, .iconst 1, .iconst 1, 0), (63, 3, .goto 67, .goto 4, 0), (66, 1, .iconst 0, .iconst 0, 0), (67, 2, .istore 5, .istore 5, 0), (69, 2, .iload 5, .iload 5, 0), (71, 3, .ifCond .eq 212, .ifCond .eq 141, 0), (74, 2, .iload 4, .iload 4, 0), (76, 1, .iload 3, .iload_n 3, 0), (77, 3, .if_icmp .ge 212, .if_icmp .ge 135, 0), (80, 1, .iload 2, .iload_n 2, 0), (81, 1, .aload 0, .aload_n 0, 0), (82, 3, .getfield 740, .getfield 64, 286), (85, 1, .iload 1, .iload_n 1, 0), (86, 1, .iaload, .iaload, 0), (87, 1, .iconst 3, .iconst 3, 0), (88, 1, .isub, .isub, 0), (89, 1, .iconst 3, .iconst 3, 0), (90, 2, .iload 4, .iload 4, 0), (92, 1, .imul, .imul, 0), (93, 1, .isub, .isub, 0), (94, 3, .if_icmp .gt 110, .if_icmp .gt 16, 0), (97, 1, .aload 0, .aload_n 0, 0), (98, 3, .getfield 710, .getfield 84, 275), (101, 2, .iconst 8, .bipush 8, 0), (103, 3, .if_icmp .ge 110, .if_icmp .ge 7, 0), (106, 1, .iconst 1, .iconst 1, 0), (107, 3, .goto 111, .goto 4, 0), (110, 1, .iconst 0, .iconst 0, 0), (111, 2, .istore 5, .istore 5, 0), (113, 2, .iconst 60, .bipush 60, 0), (115, 1, .iload 1, .iload_n 1, 0), (116, 1, .imul, .imul, 0), (117, 1, .iload 2, .iload_n 2, 0), (118, 1, .iadd, .iadd, 0), (119, 1, .iconst 3, .iconst 3, 0), (120, 2, .iload 4, .iload 4, 0), (122, 1, .imul, .imul, 0), (123, 1, .iadd, .iadd, 0), (124, 2, .istore 6, .istore 6, 0), (126, 2, .iload 5, .iload 5, 0), (128, 3, .ifCond .eq 166, .ifCond .eq 38, 0), (131, 1, .aload 0, .aload_n 0, 0), (132, 3, .getfield 741, .getfield 67, 287), (135, 2, .iload 6, .iload 6, 0), (137, 1, .laload, .laload, 0), (138, 1, .aload 0, .aload_n 0, 0), (139, 3, .getfield 741, .getfield 67, 287), (142, 2, .iload 6, .iload 6, 0), (144, 1, .iconst 1, .iconst 1, 0), (145, 1, .iadd, .iadd, 0), (146, 1, .laload, .laload, 0), (147, 1, .aload 0, .aload_n 0, 0), (148, 3, .getfield 741, .getfield 67, 287), (151, 2, .iload 6, .iload 6, 0), (153, 1, .iconst 2, .iconst 2, 0), (154, 1, .iadd, .iadd, 0), (155, 1, .laload, .laload, 0), (156, 3, .invokestatic 166, .invokestatic 99, 281), (159, 3, .ifCond .eq 166, .ifCond .eq 7, 0), (162, 1, .iconst 1, .iconst 1, 0), (163, 3, .goto 167, .goto 4, 0), (166, 1, .iconst 0, .iconst 0, 0), (167, 2, .istore 5, .istore 5, 0), (169, 2, .iload 5, .iload 5, 0), (171, 3, .ifCond .eq 209, .ifCond .eq 38, 0), (174, 1, .aload 0, .aload_n 0, 0), (175, 1, .aload 0, .aload_n 0, 0), (176, 3, .getfield 741, .getfield 67, 287), (179, 2, .iload 6, .iload 6, 0), (181, 1, .laload, .laload, 0), (182, 1, .l2i, .l2i, 0), (183, 1, .aload 0, .aload_n 0, 0), (184, 3, .getfield 741, .getfield 67, 287), (187, 2, .iload 6, .iload 6, 0), (189, 1, .iconst 1, .iconst 1, 0), (190, 1, .iadd, .iadd, 0), (191, 1, .laload, .laload, 0), (192, 1, .l2i, .l2i, 0), (193, 1, .aload 0, .aload_n 0, 0), (194, 3, .getfield 741, .getfield 67, 287), (197, 2, .iload 6, .iload 6, 0), (199, 1, .iconst 2, .iconst 2, 0), (200, 1, .iadd, .iadd, 0), (201, 1, .laload, .laload, 0), (202, 1, .l2i, .l2i, 0), (203, 3, .invokevirtual 167, .invokevirtual 102, 282), (206, 3, .iinc 4 1, .iinc 4 1, 0), (209, 3, .goto 69, .goto (-140), 0), (212, 2, .iload 4, .iload 4, 0), (214, 1, .ireturn, .ireturn, 0)]
def am_pX11_placeOf : Am_p := [(0, 1, .iload 2, .iload_n 2, 0), (1, 27, .tableswitch 76 0 2 #[28, 28, 48], .tableswitch 75 0 2 #[27, 27, 47], 0), (28, 1, .aload 0, .aload_n 0, 0), (29, 1, .iload 1, .iload_n 1, 0), (30, 1, .i2l, .i2l, 0), (31, 3, .invokevirtual 164, .invokevirtual 91, 277), (34, 3, .ifCond .eq 46, .ifCond .eq 12, 0), (37, 2, .iconst 8, .bipush 8, 0), (39, 1, .iload 2, .iload_n 2, 0), (40, 1, .imul, .imul, 0), (41, 1, .iload 1, .iload_n 1, 0), (42, 1, .iadd, .iadd, 0), (43, 3, .goto 47, .goto 4, 0), (46, 1, .iconst (-1), .iconst (-1), 0), (47, 1, .ireturn, .ireturn, 0), (48, 1, .aload 0, .aload_n 0, 0), (49, 1, .iload 1, .iload_n 1, 0), (50, 3, .invokevirtual 165, .invokevirtual 112, 288), (53, 3, .ifCond .eq 74, .ifCond .eq 21, 0), (56, 2, .iconst 16, .bipush 16, 0), (58, 2, .iconst 8, .bipush 8, 0), (60, 1, .iload 1, .iload_n 1, 0), (61, 2, .iconst 10, .bipush 10, 0), (63, 1, .idiv, .idiv, 0), (64, 1, .imul, .imul, 0), (65, 1, .iadd, .iadd, 0), (66, 1, .iload 1, .iload_n 1, 0), (67, 2, .iconst 10, .bipush 10, 0), (69, 1, .irem, .irem, 0), (70, 1, .iadd, .iadd, 0), (71, 3, .goto 75, .goto 4, 0), (74, 1, .iconst (-1), .iconst (-1), 0), (75, 1, .ireturn, .ireturn, 0), (76, 1, .iload 2, .iload_n 2, 0), (77, 1, .iconst 3, .iconst 3, 0), (78, 3, .if_icmp .ne 90, .if_icmp .ne 12, 0), (81, 1, .iload 1, .iload_n 1, 0), (82, 3, .ifCond .ne 90, .ifCond .ne 8, 0), (85, 2, .iconst 80, .bipush 80, 0), (87, 3, .goto 91, .goto 4, 0), (90, 1, .iconst (-1), .iconst (-1), 0), (91, 1, .ireturn, .ireturn, 0)]
def am_pX11_mayBecome : Am_p := [(0, 1, .iload 2, .iload_n 2, 0), (1, 27, .tableswitch 66 0 2 #[28, 44, 54], .tableswitch 65 0 2 #[27, 43, 53], 0), (28, 1, .iload 3, .iload_n 3, 0), (29, 1, .i2l, .i2l, 0), (30, 1, .ldc2_w 0, .lconst 0, 0), (31, 1, .aload 0, .aload_n 0, 0), (32, 3, .getfield 711, .getfield 22, 280), (35, 1, .iload 1, .iload_n 1, 0), (36, 1, .iaload, .iaload, 0), (37, 1, .iconst 1, .iconst 1, 0), (38, 1, .isub, .isub, 0), (39, 1, .i2l, .i2l, 0), (40, 3, .invokestatic 159, .invokestatic 87, 276), (43, 1, .ireturn, .ireturn, 0), (44, 1, .iload 3, .iload_n 3, 0), (45, 1, .i2l, .i2l, 0), (46, 1, .ldc2_w 0, .lconst 0, 0), (47, 3, .ldc2_w 9, .ldc2_w 97, 279), (50, 3, .invokestatic 159, .invokestatic 87, 276), (53, 1, .ireturn, .ireturn, 0), (54, 1, .iload 3, .iload_n 3, 0), (55, 1, .i2l, .i2l, 0), (56, 3, .ldc2_w 18446744073709551607, .ldc2_w 115, 289), (59, 3, .ldc2_w 9, .ldc2_w 97, 279), (62, 3, .invokestatic 159, .invokestatic 87, 276), (65, 1, .ireturn, .ireturn, 0), (66, 1, .iload 3, .iload_n 3, 0), (67, 1, .i2l, .i2l, 0), (68, 1, .ldc2_w 0, .lconst 0, 0), (69, 3, .ldc2_w 90, .ldc2_w 117, 290), (72, 3, .invokestatic 159, .invokestatic 87, 276), (75, 1, .ireturn, .ireturn, 0)]
def am_pX11_mend : Am_p := [(0, 1, .aload 0, .aload_n 0, 0), (1, 1, .iload 1, .iload_n 1, 0), (2, 1, .iload 2, .iload_n 2, 0), (3, 3, .invokevirtual 170, .invokevirtual 119, 291), (6, 2, .istore 4, .istore 4, 0), (8, 2, .iload 4, .iload 4, 0), (10, 3, .ifCond .lt 33, .ifCond .lt 23, 0), (13, 1, .aload 0, .aload_n 0, 0), (14, 1, .iload 1, .iload_n 1, 0), (15, 1, .iload 2, .iload_n 2, 0), (16, 1, .iload 3, .iload_n 3, 0), (17, 3, .invokevirtual 171, .invokevirtual 123, 292), (20, 3, .ifCond .eq 33, .ifCond .eq 13, 0), (23, 1, .aload 0, .aload_n 0, 0), (24, 2, .iload 4, .iload 4, 0), (26, 1, .iload 3, .iload_n 3, 0), (27, 3, .invokevirtual 161, .invokevirtual 127, 293), (30, 3, .goto 35, .goto 5, 0), (33, 2, .iconst (-2000000000), .ldc 130, 294), (35, 1, .ireturn, .ireturn, 0)]
def am_pX11_of : Am_p := [(0, 1, .aload 0, .aload_n 0, 0), (1, 1, .iload 1, .iload_n 1, 0), (2, 1, .iload 2, .iload_n 2, 0), (3, 3, .invokevirtual 170, .invokevirtual 119, 291), (6, 1, .istore 3, .istore_n 3, 0), (7, 1, .iload 3, .iload_n 3, 0), (8, 3, .ifCond .lt 20, .ifCond .lt 12, 0), (11, 1, .aload 0, .aload_n 0, 0), (12, 3, .getfield 704, .getfield 9, 269), (15, 1, .iload 3, .iload_n 3, 0), (16, 1, .iaload, .iaload, 0), (17, 3, .goto 45, .goto 28, 0), (20, 1, .iload 2, .iload_n 2, 0), (21, 1, .iconst 4, .iconst 4, 0), (22, 3, .if_icmp .ne 43, .if_icmp .ne 21, 0), (25, 1, .aload 0, .aload_n 0, 0), (26, 1, .iload 1, .iload_n 1, 0), (27, 1, .i2l, .i2l, 0), (28, 3, .invokevirtual 164, .invokevirtual 91, 277), (31, 3, .ifCond .eq 43, .ifCond .eq 12, 0), (34, 1, .aload 0, .aload_n 0, 0), (35, 3, .getfield 711, .getfield 22, 280), (38, 1, .iload 1, .iload_n 1, 0), (39, 1, .iaload, .iaload, 0), (40, 3, .goto 45, .goto 5, 0), (43, 2, .iconst (-2000000000), .ldc 130, 294), (45, 1, .ireturn, .ireturn, 0)]
def am_pX11_feed : Am_p := [(0, 1, .iload 1, .iload_n 1, 0), (1, 1, .i2l, .i2l, 0), (2, 1, .ldc2_w 0, .lconst 0, 0), (3, 3, .ldc2_w 255, .ldc2_w 131, 295), (6, 3, .invokestatic 159, .invokestatic 87, 276), (9, 3, .ifCond .ne 14, .ifCond .ne 5, 0), (12, 1, .iconst (-1), .iconst (-1), 0), (13, 1, .ireturn, .ireturn, 0), (14, 1, .aload 0, .aload_n 0, 0), (15, 3, .getfield 713, .getfield 133, 296), (18, 2, .iconst 120, .bipush 120, 0), (20, 3, .if_icmp .ne 26, .if_icmp .ne 6, 0), (23, 2, .iconst (-3), .bipush (-3), 0), (25, 1, .ireturn, .ireturn, 0), (26, 1, .aload 0, .aload_n 0, 0), (27, 3, .getfield 712, .getfield 25, 297), (30, 1, .aload 0, .aload_n 0, 0), (31, 3, .getfield 713, .getfield 133, 296), (34, 1, .iload 1, .iload_n 1, 0), (35, 1, .iastore, .iastore, 0), (36, 1, .aload 0, .aload_n 0, 0), (37, 1, .dup, .dup, 0), (38, 3, .getfield 713, .getfield 133, 296), (41, 1, .iconst 1, .iconst 1, 0), (42, 1, .iadd, .iadd, 0), (43, 3, .putfield 713, .putfield 133, 296), (46, 1, .aload 0, .aload_n 0, 0), (47, 3, .getfield 713, .getfield 133, 296), (50, 1, .ireturn, .ireturn, 0)]
def am_pX11_byteAt : Am_p := [(0, 1, .aload 0, .aload_n 0, 0), (1, 3, .getfield 717, .getfield 136, 298), (4, 1, .aload 0, .aload_n 0, 0), (5, 3, .getfield 718, .getfield 139, 299), (8, 3, .if_icmp .ge 47, .if_icmp .ge 39, 0), (11, 1, .aload 0, .aload_n 0, 0), (12, 3, .getfield 716, .getfield 142, 300), (15, 3, .ifCond .ge 30, .ifCond .ge 15, 0), (18, 1, .aload 0, .aload_n 0, 0), (19, 3, .getfield 712, .getfield 25, 297), (22, 1, .aload 0, .aload_n 0, 0), (23, 3, .getfield 717, .getfield 136, 298), (26, 1, .iaload, .iaload, 0), (27, 3, .goto 48, .goto 21, 0), (30, 1, .aload 0, .aload_n 0, 0), (31, 3, .getfield 714, .getfield 28, 301), (34, 1, .aload 0, .aload_n 0, 0), (35, 3, .getfield 716, .getfield 142, 300), (38, 1, .aload 0, .aload_n 0, 0), (39, 3, .getfield 717, .getfield 136, 298), (42, 1, .iadd, .iadd, 0), (43, 1, .iaload, .iaload, 0), (44, 3, .goto 48, .goto 4, 0), (47, 1, .iconst 0, .iconst 0, 0), (48, 1, .ireturn, .ireturn, 0)]
def am_pX11_wrong : Am_p := [(0, 1, .aload 0, .aload_n 0, 0), (1, 1, .aload 0, .aload_n 0, 0), (2, 3, .getfield 719, .getfield 145, 302), (5, 3, .ifCond .ge 15, .ifCond .ge 10, 0), (8, 1, .aload 0, .aload_n 0, 0), (9, 3, .getfield 717, .getfield 136, 298), (12, 3, .goto 19, .goto 7, 0), (15, 1, .aload 0, .aload_n 0, 0), (16, 3, .getfield 719, .getfield 145, 302), (19, 3, .putfield 719, .putfield 145, 302), (22, 1, .iconst 0, .iconst 0, 0), (23, 1, .ireturn, .ireturn, 0)]
def am_pX11_takes : Am_p := [(0, 1, .aload 0, .aload_n 0, 0), (1, 3, .getfield 719, .getfield 145, 302), (4, 3, .ifCond .ge 15, .ifCond .ge 11, 0), (7, 1, .aload 0, .aload_n 0, 0), (8, 3, .invokevirtual 175, .invokevirtual 148, 303), (11, 1, .iload 1, .iload_n 1, 0), (12, 3, .if_icmp .eq 17, .if_icmp .eq 5, 0), (15, 1, .iconst 0, .iconst 0, 0), (16, 1, .ireturn, .ireturn, 0), (17, 1, .aload 0, .aload_n 0, 0), (18, 1, .dup, .dup, 0), (19, 3, .getfield 717, .getfield 136, 298), (22, 1, .iconst 1, .iconst 1, 0), (23, 1, .iadd, .iadd, 0), (24, 3, .putfield 717, .putfield 136, 298), (27, 1, .iconst 1, .iconst 1, 0), (28, 1, .ireturn, .ireturn, 0)]
def am_pX11_either : Am_p := [(0, 1, .aload 0, .aload_n 0, 0), (1, 3, .invokevirtual 179, .invokevirtual 152, 304), (4, 1, .istore 1, .istore_n 1, 0), (5, 1, .aload 0, .aload_n 0, 0), (6, 2, .iconst 124, .bipush 124, 0), (8, 3, .invokevirtual 177, .invokevirtual 155, 305), (11, 3, .ifCond .eq 36, .ifCond .eq 25, 0), (14, 1, .aload 0, .aload_n 0, 0), (15, 3, .invokevirtual 179, .invokevirtual 152, 304), (18, 1, .istore 2, .istore_n 2, 0), (19, 1, .iload 1, .iload_n 1, 0), (20, 3, .ifCond .ne 27, .ifCond .ne 7, 0), (23, 1, .iload 2, .iload_n 2, 0), (24, 3, .ifCond .eq 31, .ifCond .eq 7, 0), (27, 1, .iconst 1, .iconst 1, 0), (28, 3, .goto 32, .goto 4, 0), (31, 1, .iconst 0, .iconst 0, 0), (32, 1, .istore 1, .istore_n 1, 0), (33, 3, .goto 5, .goto (-28), 0), (36, 1, .iload 1, .iload_n 1, 0), (37, 1, .ireturn, .ireturn, 0)]
def am_pX11_both : Am_p := [(0, 1, .aload 0, .aload_n 0, 0), (1, 3, .invokevirtual 180, .invokevirtual 158, 306), (4, 1, .istore 1, .istore_n 1, 0), (5, 1, .aload 0, .aload_n 0, 0), (6, 2, .iconst 38, .bipush 38, 0), (8, 3, .invokevirtual 177, .invokevirtual 155, 305), (11, 3, .ifCond .eq 36, .ifCond .eq 25, 0), (14, 1, .aload 0, .aload_n 0, 0), (15, 3, .invokevirtual 180, .invokevirtual 158, 306), (18, 1, .istore 2, .istore_n 2, 0), (19, 1, .iload 1, .iload_n 1, 0), (20, 3, .ifCond .eq 31, .ifCond .eq 11, 0), (23, 1, .iload 2, .iload_n 2, 0), (24, 3, .ifCond .eq 31, .ifCond .eq 7, 0), (27, 1, .iconst 1, .iconst 1, 0), (28, 3, .goto 32, .goto 4, 0), (31, 1, .iconst 0, .iconst 0, 0), (32, 1, .istore 1, .istore_n 1, 0), (33, 3, .goto 5, .goto (-28), 0), (36, 1, .iload 1, .iload_n 1, 0), (37, 1, .ireturn, .ireturn, 0)]
def am_pX11_compared : Am_p := [(0, 1, .aload 0, .aload_n 0, 0), (1, 3, .invokevirtual 181, .invokevirtual 161, 307), (4, 1, .istore 1, .istore_n 1, 0), (5, 1, .aload 0, .aload_n 0, 0), (6, 3, .invokevirtual 175, .invokevirtual 148, 303), (9, 1, .istore 2, .istore_n 2, 0), (10, 1, .aload 0, .aload_n 0, 0), (11, 3, .getfield 719, .getfield 145, 302), (14, 3, .ifCond .ge 35, .ifCond .ge 21, 0), (17, 1, .iload 2, .iload_n 2, 0), (18, 2, .iconst 60, .bipush 60, 0), (20, 3, .if_icmp .eq 37, .if_icmp .eq 17, 0), (23, 1, .iload 2, .iload_n 2, 0), (24, 2, .iconst 61, .bipush 61, 0), (26, 3, .if_icmp .eq 37, .if_icmp .eq 11, 0), (29, 1, .iload 2, .iload_n 2, 0), (30, 2, .iconst 62, .bipush 62, 0), (32, 3, .if_icmp .eq 37, .if_icmp .eq 5, 0), (35, 1, .iload 1, .iload_n 1, 0), (36, 1, .ireturn, .ireturn, 0), (37, 1, .aload 0, .aload_n 0, 0), (38, 1, .dup, .dup, 0), (39, 3, .getfield 717, .getfield 136, 298), (42, 1, .iconst 1, .iconst 1, 0), (43, 1, .iadd, .iadd, 0), (44, 3, .putfield 717, .putfield 136, 298), (47, 1, .aload 0, .aload_n 0, 0), (48, 3, .invokevirtual 181, .invokevirtual 161, 307), (51, 1, .istore 3, .istore_n 3, 0), (52, 1, .iload 2, .iload_n 2, 0), (53, 2, .iconst 60, .bipush 60, 0), (55, 3, .if_icmp .ne 66, .if_icmp .ne 11, 0), (58, 1, .iload 1, .iload_n 1, 0), (59, 1, .iload 3, .iload_n 3, 0), (60, 3, .if_icmp .ge 89, .if_icmp .ge 29, 0), (63, 3, .goto 85, .goto 22, 0), (66, 1, .iload 2, .iload_n 2, 0), (67, 2, .iconst 61, .bipush 61, 0), (69, 3, .if_icmp .ne 80, .if_icmp .ne 11, 0), (72, 1, .iload 1, .iload_n 1, 0), (73, 1, .iload 3, .iload_n 3, 0), (74, 3, .if_icmp .ne 89, .if_icmp .ne 15, 0), (77, 3, .goto 85, .goto 8, 0), (80, 1, .iload 1, .iload_n 1, 0), (81, 1, .iload 3, .iload_n 3, 0), (82, 3, .if_icmp .le 89, .if_icmp .le 7, 0), (85, 1, .iconst 1, .iconst 1, 0), (86, 3, .goto 90, .goto 4, 0), (89, 1, .iconst 0, .iconst 0, 0), (90, 1, .ireturn, .ireturn, 0)]
def am_pX11_sums : Am_p := [(0, 1, .aload 0, .aload_n 0, 0), (1, 3, .invokevirtual 182, .invokevirtual 164, 308), (4, 1, .istore 1, .istore_n 1, 0), (5, 1, .aload 0, .aload_n 0, 0), (6, 3, .getfield 719, .getfield 145, 302), (9, 3, .ifCond .ge 77, .ifCond .ge 68, 0), (12, 1, .aload 0, .aload_n 0, 0), (13, 3, .invokevirtual 175, .invokevirtual 148, 303), (16, 2, .iconst 43, .bipush 43, 0), (18, 3, .if_icmp .eq 30, .if_icmp .eq 12, 0), (21, 1, .aload 0, .aload_n 0, 0), (22, 3, .invokevirtual 175, .invokevirtual 148, 303), (25, 2, .iconst 45, .bipush 45, 0), (27, 3, .if_icmp .ne 77, .if_icmp .ne 50, 0), (30, 1, .aload 0, .aload_n 0, 0), (31, 3, .invokevirtual 175, .invokevirtual 148, 303), (34, 2, .iconst 43, .bipush 43, 0), (36, 3, .if_icmp .ne 43, .if_icmp .ne 7, 0), (39, 1, .iconst 1, .iconst 1, 0), (40, 3, .goto 44, .goto 4, 0), (43, 1, .iconst 0, .iconst 0, 0), (44, 1, .istore 2, .istore_n 2, 0), (45, 1, .aload 0, .aload_n 0, 0), (46, 1, .dup, .dup, 0), (47, 3, .getfield 717, .getfield 136, 298), (50, 1, .iconst 1, .iconst 1, 0), (51, 1, .iadd, .iadd, 0), (52, 3, .putfield 717, .putfield 136, 298), (55, 1, .aload 0, .aload_n 0, 0), (56, 3, .invokevirtual 182, .invokevirtual 164, 308), (59, 1, .istore 3, .istore_n 3, 0), (60, 1, .iload 2, .iload_n 2, 0), (61, 3, .ifCond .eq 70, .ifCond .eq 9, 0), (64, 1, .iload 1, .iload_n 1, 0), (65, 1, .iload 3, .iload_n 3, 0), (66, 1, .iadd, .iadd, 0), (67, 3, .goto 73, .goto 6, 0), (70, 1, .iload 1, .iload_n 1, 0), (71, 1, .iload 3, .iload_n 3, 0), (72, 1, .isub, .isub, 0), (73, 1, .istore 1, .istore_n 1, 0), (74, 3, .goto 5, .goto (-69), 0), (77, 1, .iload 1, .iload_n 1, 0), (78, 1, .ireturn, .ireturn, 0)]
def am_pX11_product : Am_p := [(0, 1, .aload 0, .aload_n 0, 0), (1, 3, .invokevirtual 184, .invokevirtual 167, 309), (4, 1, .istore 1, .istore_n 1, 0), (5, 1, .aload 0, .aload_n 0, 0), (6, 3, .invokevirtual 175, .invokevirtual 148, 303), (9, 1, .istore 2, .istore_n 2, 0), (10, 1, .aload 0, .aload_n 0, 0), (11, 3, .getfield 719, .getfield 145, 302), (14, 3, .ifCond .ge 94, .ifCond .ge 80, 0), (17, 1, .iload 2, .iload_n 2, 0), (18, 2, .iconst 42, .bipush 42, 0), (20, 3, .if_icmp .eq 35, .if_icmp .eq 15, 0), (23, 1, .iload 2, .iload_n 2, 0), (24, 2, .iconst 47, .bipush 47, 0), (26, 3, .if_icmp .eq 35, .if_icmp .eq 9, 0), (29, 1, .iload 2, .iload_n 2, 0), (30, 2, .iconst 37, .bipush 37, 0), (32, 3, .if_icmp .ne 94, .if_icmp .ne 62, 0), (35, 1, .aload 0, .aload_n 0, 0), (36, 1, .dup, .dup, 0), (37, 3, .getfield 717, .getfield 136, 298), (40, 1, .iconst 1, .iconst 1, 0), (41, 1, .iadd, .iadd, 0), (42, 3, .putfield 717, .putfield 136, 298), (45, 1, .aload 0, .aload_n 0, 0), (46, 3, .invokevirtual 184, .invokevirtual 167, 309), (49, 1, .istore 3, .istore_n 3, 0), (50, 1, .iload 2, .iload_n 2, 0), (51, 2, .iconst 42, .bipush 42, 0), (53, 3, .if_icmp .ne 62, .if_icmp .ne 9, 0), (56, 1, .iload 1, .iload_n 1, 0), (57, 1, .iload 3, .iload_n 3, 0), (58, 1, .imul, .imul, 0), (59, 3, .goto 85, .goto 26, 0), (62, 1, .iload 3, .iload_n 3, 0), (63, 3, .ifCond .ne 70, .ifCond .ne 7, 0), (66, 1, .iconst 0, .iconst 0, 0), (67, 3, .goto 85, .goto 18, 0), (70, 1, .iload 2, .iload_n 2, 0), (71, 2, .iconst 47, .bipush 47, 0), (73, 3, .if_icmp .ne 82, .if_icmp .ne 9, 0), (76, 1, .iload 1, .iload_n 1, 0), (77, 1, .iload 3, .iload_n 3, 0), (78, 1, .idiv, .idiv, 0), (79, 3, .goto 85, .goto 6, 0), (82, 1, .iload 1, .iload_n 1, 0), (83, 1, .iload 3, .iload_n 3, 0), (84, 1, .irem, .irem, 0), (85, 1, .istore 1, .istore_n 1, 0), (86, 1, .aload 0, .aload_n 0, 0), (87, 3, .invokevirtual 175, .invokevirtual 148, 303), (90, 1, .istore 2, .istore_n 2, 0), (91, 3, .goto 10, .goto (-81), 0), (94, 1, .iload 1, .iload_n 1, 0), (95, 1, .ireturn, .ireturn, 0)]
def am_pX11_nameOf : Am_p := [(0, 1, .iload 0, .iload_n 0, 0), (1, 59, .lookupswitch 72 #[(97, 66), (100, 68), (108, 60), (112, 70), (114, 64), (119, 62)], .lookupswitch 71 #[(97, 65), (100, 67), (108, 59), (112, 69), (114, 63), (119, 61)], 0), (60, 1, .iconst 0, .iconst 0, 0), (61, 1, .ireturn, .ireturn, 0), (62, 1, .iconst 1, .iconst 1, 0), (63, 1, .ireturn, .ireturn, 0), (64, 1, .iconst 2, .iconst 2, 0), (65, 1, .ireturn, .ireturn, 0), (66, 1, .iconst 3, .iconst 3, 0), (67, 1, .ireturn, .ireturn, 0), (68, 1, .iconst 4, .iconst 4, 0), (69, 1, .ireturn, .ireturn, 0), (70, 1, .iconst 5, .iconst 5, 0), (71, 1, .ireturn, .ireturn, 0), (72, 1, .iconst (-1), .iconst (-1), 0), (73, 1, .ireturn, .ireturn, 0)]
def am_pX11_one : Am_p := [(0, 1, .aload 0, .aload_n 0, 0), (1, 3, .getfield 719, .getfield 145, 302), (4, 3, .ifCond .lt 9, .ifCond .lt 5, 0), (7, 1, .iconst 0, .iconst 0, 0), (8, 1, .ireturn, .ireturn, 0), (9, 1, .aload 0, .aload_n 0, 0), (10, 3, .invokevirtual 175, .invokevirtual 148, 303), (13, 1, .istore 1, .istore_n 1, 0), (14, 1, .iload 1, .iload_n 1, 0), (15, 2, .iconst 33, .bipush 33, 0), (17, 3, .if_icmp .eq 32, .if_icmp .eq 15, 0), (20, 1, .iload 1, .iload_n 1, 0), (21, 2, .iconst 45, .bipush 45, 0), (23, 3, .if_icmp .eq 32, .if_icmp .eq 9, 0), (26, 1, .iload 1, .iload_n 1, 0), (27, 2, .iconst 40, .bipush 40, 0), (29, 3, .if_icmp .ne 145, .if_icmp .ne 116, 0), (32, 1, .aload 0, .aload_n 0, 0), (33, 3, .getfield 720, .getfield 170, 310), (36, 2, .iconst 6, .bipush 6, 0), (38, 3, .if_icmp .ne 46, .if_icmp .ne 8, 0), (41, 1, .aload 0, .aload_n 0, 0), (42, 3, .invokevirtual 176, .invokevirtual 173, 311), (45, 1, .ireturn, .ireturn, 0), (46, 1, .aload 0, .aload_n 0, 0), (47, 1, .dup, .dup, 0), (48, 3, .getfield 720, .getfield 170, 310), (51, 1, .iconst 1, .iconst 1, 0), (52, 1, .iadd, .iadd, 0), (53, 3, .putfield 720, .putfield 170, 310), (56, 1, .aload 0, .aload_n 0, 0), (57, 1, .dup, .dup, 0), (58, 3, .getfield 717, .getfield 136, 298), (61, 1, .iconst 1, .iconst 1, 0), (62, 1, .iadd, .iadd, 0), (63, 3, .putfield 717, .putfield 136, 298), (66, 1, .iload 1, .iload_n 1, 0), (67, 2, .iconst 40, .bipush 40, 0), (69, 3, .if_icmp .ne 79, .if_icmp .ne 10, 0), (72, 1, .aload 0, .aload_n 0, 0), (73, 3, .invokevirtual 178, .invokevirtual 176, 312), (76, 3, .goto 83, .goto 7, 0), (79, 1, .aload 0, .aload_n 0, 0), (80, 3, .invokevirtual 184, .invokevirtual 167, 309), (83, 1, .istore 2, .istore_n 2, 0), (84, 1, .iload 1, .iload_n 1, 0), (85, 2, .iconst 40, .bipush 40, 0), (87, 3, .if_icmp .ne 104, .if_icmp .ne 17, 0), (90, 1, .aload 0, .aload_n 0, 0), (91, 2, .iconst 41, .bipush 41, 0), (93, 3, .invokevirtual 177, .invokevirtual 155, 305), (96, 3, .ifCond .ne 104, .ifCond .ne 8, 0), (99, 1, .aload 0, .aload_n 0, 0), (100, 3, .invokevirtual 176, .invokevirtual 173, 311), (103, 1, .ireturn, .ireturn, 0), (104, 1, .aload 0, .aload_n 0, 0), (105, 1, .dup, .dup, 0), (106, 3, .getfield 720, .getfield 170, 310), (109, 1, .iconst 1, .iconst 1, 0), (110, 1, .isub, .isub, 0), (111, 3, .putfield 720, .putfield 170, 310), (114, 1, .iload 1, .iload_n 1, 0), (115, 2, .iconst 40, .bipush 40, 0), (117, 3, .if_icmp .ne 124, .if_icmp .ne 7, 0), (120, 1, .iload 2, .iload_n 2, 0), (121, 3, .goto 144, .goto 23, 0), (124, 1, .iload 1, .iload_n 1, 0), (125, 2, .iconst 45, .bipush 45, 0), (127, 3, .if_icmp .ne 135, .if_icmp .ne 8, 0), (130, 1, .iload 2, .iload_n 2, 0), (131, 1, .ineg, .ineg, 0), (132, 3, .goto 144, .goto 12, 0), (135, 1, .iload 2, .iload_n 2, 0), (136, 3, .ifCond .ne 143, .ifCond .ne 7, 0), (139, 1, .iconst 1, .iconst 1, 0), (140, 3, .goto 144, .goto 4, 0), (143, 1, .iconst 0, .iconst 0, 0), (144, 1, .ireturn, .ireturn, 0), (145, 1, .iload 1, .iload_n 1, 0), (146, 3, .invokestatic 183, .invokestatic 179, 313), (149, 1, .istore 2, .istore_n 2, 0), (150, 1, .iload 2, .iload_n 2, 0), (151, 3, .ifCond .lt 171, .ifCond .lt 20, 0), (154, 1, .aload 0, .aload_n 0, 0), (155, 1, .dup, .dup, 0), (156, 3, .getfield 717, .getfield 136, 298), (159, 1, .iconst 1, .iconst 1, 0), (160, 1, .iadd, .iadd, 0), (161, 3, .putfield 717, .putfield 136, 298), (164, 1, .aload 0, .aload_n 0, 0), (165, 3, .getfield 721, .getfield 31, 314), (168, 1, .iload 2, .iload_n 2, 0), (169, 1, .iaload, .iaload, 0), (170, 1, .ireturn, .ireturn, 0), (171, 1, .iconst 0, .iconst 0, 0), (172, 1, .istore 3, .istore_n 3, 0), (173, 1, .iconst 0, .iconst 0, 0), (174, 2, .istore 4, .istore 4, 0), (176, 2, .iload 4, .iload 4, 0), (178, 1, .iconst 4, .iconst 4, 0), (179, 3, .if_icmp .ge 229, .if_icmp .ge 50, 0), (182, 1, .aload 0, .aload_n 0, 0), (183, 3, .invokevirtual 175, .invokevirtual 148, 303), (186, 2, .iconst 48, .bipush 48, 0), (188, 3, .if_icmp .lt 229, .if_icmp .lt 41, 0), (191, 1, .aload 0, .aload_n 0, 0), (192, 3, .invokevirtual 175, .invokevirtual 148, 303), (195, 2, .iconst 57, .bipush 57, 0), (197, 3, .if_icmp .gt 229, .if_icmp .gt 32, 0), (200, 2, .iconst 10, .bipush 10, 0), (202, 1, .iload 3, .iload_n 3, 0), (203, 1, .imul, .imul, 0), (204, 1, .aload 0, .aload_n 0, 0), (205, 3, .invokevirtual 175, .invokevirtual 148, 303), (208, 1, .iadd, .iadd, 0), (209, 2, .iconst 48, .bipush 48, 0), (211, 1, .isub, .isub, 0), (212, 1, .istore 3, .istore_n 3, 0), (213, 3, .iinc 4 1, .iinc 4 1, 0), (216, 1, .aload 0, .aload_n 0, 0), (217, 1, .dup, .dup, 0), (218, 3, .getfield 717, .getfield 136, 298), (221, 1, .iconst 1, .iconst 1, 0), (222, 1, .iadd, .iadd, 0), (223, 3, .putfield 717, .putfield 136, 298), (226, 3, .goto 176, .goto (-50), 0), (229, 2, .iload 4, .iload 4, 0), (231, 3, .ifCond .ne 241, .ifCond .ne 10, 0), (234, 1, .aload 0, .aload_n 0, 0), (235, 3, .invokevirtual 176, .invokevirtual 173, 311), (238, 3, .goto 242, .goto 4, 0), (241, 1, .iload 3, .iload_n 3, 0), (242, 1, .ireturn, .ireturn, 0)]
def am_pX11_workOut : Am_p := [(0, 1, .aload 0, .aload_n 0, 0), (1, 1, .iload 1, .iload_n 1, 0), (2, 3, .putfield 716, .putfield 142, 300), (5, 1, .aload 0, .aload_n 0, 0), (6, 1, .iconst 0, .iconst 0, 0), (7, 3, .putfield 717, .putfield 136, 298), (10, 1, .aload 0, .aload_n 0, 0), (11, 1, .iload 2, .iload_n 2, 0), (12, 3, .putfield 718, .putfield 139, 299), (15, 1, .aload 0, .aload_n 0, 0), (16, 1, .iconst (-1), .iconst (-1), 0), (17, 3, .putfield 719, .putfield 145, 302), (20, 1, .aload 0, .aload_n 0, 0), (21, 1, .iconst 0, .iconst 0, 0), (22, 3, .putfield 720, .putfield 170, 310), (25, 1, .iconst 0, .iconst 0, 0), (26, 1, .istore 3, .istore_n 3, 0), (27, 1, .iconst 0, .iconst 0, 0), (28, 2, .istore 4, .istore 4, 0), (30, 1, .iconst 1, .iconst 1, 0), (31, 2, .istore 5, .istore 5, 0), (33, 2, .iload 5, .iload 5, 0), (35, 3, .ifCond .eq 107, .ifCond .eq 72, 0), (38, 1, .aload 0, .aload_n 0, 0), (39, 3, .invokevirtual 178, .invokevirtual 176, 312), (42, 2, .istore 6, .istore 6, 0), (44, 1, .iconst 1, .iconst 1, 0), (45, 2, .istore 7, .istore 7, 0), (47, 1, .aload 0, .aload_n 0, 0), (48, 2, .iconst 63, .bipush 63, 0), (50, 3, .invokevirtual 177, .invokevirtual 155, 305), (53, 3, .ifCond .eq 74, .ifCond .eq 21, 0), (56, 2, .iload 6, .iload 6, 0), (58, 3, .ifCond .eq 65, .ifCond .eq 7, 0), (61, 1, .iconst 1, .iconst 1, 0), (62, 3, .goto 66, .goto 4, 0), (65, 1, .iconst 0, .iconst 0, 0), (66, 2, .istore 7, .istore 7, 0), (68, 1, .aload 0, .aload_n 0, 0), (69, 3, .invokevirtual 178, .invokevirtual 176, 312), (72, 2, .istore 6, .istore 6, 0), (74, 1, .aload 0, .aload_n 0, 0), (75, 3, .getfield 719, .getfield 145, 302), (78, 3, .ifCond .ge 96, .ifCond .ge 18, 0), (81, 2, .iload 7, .iload 7, 0), (83, 3, .ifCond .eq 96, .ifCond .eq 13, 0), (86, 1, .iload 3, .iload_n 3, 0), (87, 3, .ifCond .ne 96, .ifCond .ne 9, 0), (90, 1, .iconst 1, .iconst 1, 0), (91, 1, .istore 3, .istore_n 3, 0), (92, 2, .iload 6, .iload 6, 0), (94, 2, .istore 4, .istore 4, 0), (96, 1, .aload 0, .aload_n 0, 0), (97, 2, .iconst 59, .bipush 59, 0), (99, 3, .invokevirtual 177, .invokevirtual 155, 305), (102, 2, .istore 5, .istore 5, 0), (104, 3, .goto 33, .goto (-71), 0), (107, 1, .aload 0, .aload_n 0, 0), (108, 3, .getfield 719, .getfield 145, 302), (111, 3, .ifCond .ge 130, .ifCond .ge 19, 0), (114, 1, .aload 0, .aload_n 0, 0), (115, 3, .getfield 717, .getfield 136, 298), (118, 1, .aload 0, .aload_n 0, 0), (119, 3, .getfield 718, .getfield 139, 299), (122, 3, .if_icmp .ge 130, .if_icmp .ge 8, 0), (125, 1, .aload 0, .aload_n 0, 0), (126, 3, .invokevirtual 176, .invokevirtual 173, 311), (129, 1, .ireturn, .ireturn, 0), (130, 2, .iload 4, .iload 4, 0), (132, 1, .ireturn, .ireturn, 0)]
def am_pX11_law : Am_p := [(0, 1, .aload 0, .aload_n 0, 0), (1, 1, .iconst (-1), .iconst (-1), 0), (2, 1, .aload 0, .aload_n 0, 0), (3, 3, .getfield 713, .getfield 133, 296), (6, 3, .invokevirtual 185, .invokevirtual 183, 315), (9, 1, .istore 1, .istore_n 1, 0), (10, 1, .aload 0, .aload_n 0, 0), (11, 3, .getfield 713, .getfield 133, 296), (14, 1, .istore 2, .istore_n 2, 0), (15, 1, .aload 0, .aload_n 0, 0), (16, 1, .iconst 0, .iconst 0, 0), (17, 3, .putfield 713, .putfield 133, 296), (20, 1, .aload 0, .aload_n 0, 0), (21, 3, .getfield 719, .getfield 145, 302), (24, 3, .ifCond .lt 35, .ifCond .lt 11, 0), (27, 2, .iconst (-100), .bipush (-100), 0), (29, 1, .aload 0, .aload_n 0, 0), (30, 3, .getfield 719, .getfield 145, 302), (33, 1, .isub, .isub, 0), (34, 1, .ireturn, .ireturn, 0), (35, 1, .iconst 0, .iconst 0, 0), (36, 1, .istore 3, .istore_n 3, 0), (37, 1, .iload 3, .iload_n 3, 0), (38, 1, .iload 2, .iload_n 2, 0), (39, 3, .if_icmp .ge 60, .if_icmp .ge 21, 0), (42, 1, .aload 0, .aload_n 0, 0), (43, 3, .getfield 714, .getfield 28, 301), (46, 1, .iload 3, .iload_n 3, 0), (47, 1, .aload 0, .aload_n 0, 0), (48, 3, .getfield 712, .getfield 25, 297), (51, 1, .iload 3, .iload_n 3, 0), (52, 1, .iaload, .iaload, 0), (53, 1, .iastore, .iastore, 0), (54, 3, .iinc 3 1, .iinc 3 1, 0), (57, 3, .goto 37, .goto (-20), 0), (60, 1, .aload 0, .aload_n 0, 0), (61, 1, .iload 2, .iload_n 2, 0), (62, 3, .putfield 715, .putfield 74, 316), (65, 1, .iconst 1, .iconst 1, 0), (66, 1, .ireturn, .ireturn, 0)]
def am_pX11_isDay : Am_p := [(0, 1, .iload 0, .iload_n 0, 0), (1, 1, .i2l, .i2l, 0), (2, 1, .ldc2_w 0, .lconst 0, 0), (3, 3, .ldc2_w 99999, .ldc2_w 186, 317), (6, 3, .invokestatic 159, .invokestatic 87, 276), (9, 1, .ireturn, .ireturn, 0)]
def am_pX11_clock : Am_p := [(0, 1, .aload 0, .aload_n 0, 0), (1, 3, .getfield 704, .getfield 9, 269), (4, 1, .iload 1, .iload_n 1, 0), (5, 1, .iaload, .iaload, 0), (6, 1, .i2l, .i2l, 0), (7, 1, .lload 2, .lload_n 2, 0), (8, 1, .ladd, .ladd, 0), (9, 1, .aload 0, .aload_n 0, 0), (10, 3, .getfield 711, .getfield 22, 280), (13, 1, .iload 1, .iload_n 1, 0), (14, 1, .iaload, .iaload, 0), (15, 1, .i2l, .i2l, 0), (16, 1, .lrem, .lrem, 0), (17, 1, .l2i, .l2i, 0), (18, 1, .ireturn, .ireturn, 0)]
def am_pX11_degreesOf : Am_p := [(0, 3, .iconst 360, .sipush 360, 0), (3, 1, .iload 2, .iload_n 2, 0), (4, 1, .imul, .imul, 0), (5, 1, .aload 0, .aload_n 0, 0), (6, 3, .getfield 711, .getfield 22, 280), (9, 1, .iload 1, .iload_n 1, 0), (10, 1, .iaload, .iaload, 0), (11, 1, .idiv, .idiv, 0), (12, 1, .ireturn, .ireturn, 0)]
def am_pX11_arcOf : Am_p := [(0, 1, .iload 0, .iload_n 0, 0), (1, 1, .iload 1, .iload_n 1, 0), (2, 3, .if_icmp .le 11, .if_icmp .le 9, 0), (5, 1, .iload 0, .iload_n 0, 0), (6, 1, .iload 1, .iload_n 1, 0), (7, 1, .isub, .isub, 0), (8, 3, .goto 14, .goto 6, 0), (11, 1, .iload 1, .iload_n 1, 0), (12, 1, .iload 0, .iload_n 0, 0), (13, 1, .isub, .isub, 0), (14, 1, .istore 2, .istore_n 2, 0), (15, 1, .iload 2, .iload_n 2, 0), (16, 3, .iconst 180, .sipush 180, 0), (19, 3, .if_icmp .le 30, .if_icmp .le 11, 0), (22, 3, .iconst 360, .sipush 360, 0), (25, 1, .iload 2, .iload_n 2, 0), (26, 1, .isub, .isub, 0), (27, 3, .goto 31, .goto 4, 0), (30, 1, .iload 2, .iload_n 2, 0), (31, 1, .ireturn, .ireturn, 0)]
def am_pX11_apartOn : Am_p := [(0, 1, .aload 0, .aload_n 0, 0), (1, 1, .iload 1, .iload_n 1, 0), (2, 1, .aload 0, .aload_n 0, 0), (3, 1, .iload 1, .iload_n 1, 0), (4, 1, .lload 3, .lload_n 3, 0), (5, 3, .invokevirtual 188, .invokevirtual 188, 318), (8, 3, .invokevirtual 189, .invokevirtual 192, 319), (11, 1, .aload 0, .aload_n 0, 0), (12, 1, .iload 2, .iload_n 2, 0), (13, 1, .aload 0, .aload_n 0, 0), (14, 1, .iload 2, .iload_n 2, 0), (15, 1, .lload 3, .lload_n 3, 0), (16, 3, .invokevirtual 188, .invokevirtual 188, 318), (19, 3, .invokevirtual 189, .invokevirtual 192, 319), (22, 3, .invokestatic 190, .invokestatic 195, 320), (25, 1, .ireturn, .ireturn, 0)]
def am_pX11_meetOn : Am_p := [(0, 1, .aload 0, .aload_n 0, 0), (1, 1, .iload 1, .iload_n 1, 0), (2, 1, .iload 2, .iload_n 2, 0), (3, 1, .lload 3, .lload_n 3, 0), (4, 3, .invokevirtual 191, .invokevirtual 198, 321), (7, 1, .aload 0, .aload_n 0, 0), (8, 3, .getfield 704, .getfield 9, 269), (11, 2, .iconst 80, .bipush 80, 0), (13, 1, .iaload, .iaload, 0), (14, 3, .if_icmp .gt 21, .if_icmp .gt 7, 0), (17, 1, .iconst 1, .iconst 1, 0), (18, 3, .goto 22, .goto 4, 0), (21, 1, .iconst 0, .iconst 0, 0), (22, 1, .ireturn, .ireturn, 0)]
def am_pX11_at : Am_p := [(0, 1, .aload 0, .aload_n 0, 0), (1, 1, .iload 1, .iload_n 1, 0), (2, 1, .i2l, .i2l, 0), (3, 3, .invokevirtual 164, .invokevirtual 91, 277), (6, 3, .ifCond .eq 26, .ifCond .eq 20, 0), (9, 1, .iload 2, .iload_n 2, 0), (10, 3, .invokestatic 187, .invokestatic 202, 322), (13, 3, .ifCond .eq 26, .ifCond .eq 13, 0), (16, 1, .iload 3, .iload_n 3, 0), (17, 1, .i2l, .i2l, 0), (18, 1, .ldc2_w 0, .lconst 0, 0), (19, 1, .ldc2_w 1, .lconst 1, 0), (20, 3, .invokestatic 159, .invokestatic 87, 276), (23, 3, .ifCond .ne 28, .ifCond .ne 5, 0), (26, 1, .iconst (-1), .iconst (-1), 0), (27, 1, .ireturn, .ireturn, 0), (28, 1, .iload 3, .iload_n 3, 0), (29, 3, .ifCond .ne 42, .ifCond .ne 13, 0), (32, 1, .aload 0, .aload_n 0, 0), (33, 1, .iload 1, .iload_n 1, 0), (34, 1, .iload 2, .iload_n 2, 0), (35, 1, .i2l, .i2l, 0), (36, 3, .invokevirtual 188, .invokevirtual 188, 318), (39, 3, .goto 54, .goto 15, 0), (42, 1, .aload 0, .aload_n 0, 0), (43, 1, .iload 1, .iload_n 1, 0), (44, 1, .aload 0, .aload_n 0, 0), (45, 1, .iload 1, .iload_n 1, 0), (46, 1, .iload 2, .iload_n 2, 0), (47, 1, .i2l, .i2l, 0), (48, 3, .invokevirtual 188, .invokevirtual 188, 318), (51, 3, .invokevirtual 189, .invokevirtual 192, 319), (54, 1, .ireturn, .ireturn, 0)]
def am_pX11_apart : Am_p := [(0, 1, .aload 0, .aload_n 0, 0), (1, 1, .iload 1, .iload_n 1, 0), (2, 3, .invokevirtual 165, .invokevirtual 112, 288), (5, 3, .ifCond .eq 25, .ifCond .eq 20, 0), (8, 1, .iload 2, .iload_n 2, 0), (9, 3, .invokestatic 187, .invokestatic 202, 322), (12, 3, .ifCond .eq 25, .ifCond .eq 13, 0), (15, 1, .iload 3, .iload_n 3, 0), (16, 1, .i2l, .i2l, 0), (17, 1, .ldc2_w 0, .lconst 0, 0), (18, 1, .ldc2_w 1, .lconst 1, 0), (19, 3, .invokestatic 159, .invokestatic 87, 276), (22, 3, .ifCond .ne 27, .ifCond .ne 5, 0), (25, 1, .iconst (-1), .iconst (-1), 0), (26, 1, .ireturn, .ireturn, 0), (27, 1, .iload 3, .iload_n 3, 0), (28, 3, .ifCond .ne 48, .ifCond .ne 20, 0), (31, 1, .aload 0, .aload_n 0, 0), (32, 1, .iload 1, .iload_n 1, 0), (33, 2, .iconst 10, .bipush 10, 0), (35, 1, .idiv, .idiv, 0), (36, 1, .iload 1, .iload_n 1, 0), (37, 2, .iconst 10, .bipush 10, 0), (39, 1, .irem, .irem, 0), (40, 1, .iload 2, .iload_n 2, 0), (41, 1, .i2l, .i2l, 0), (42, 3, .invokevirtual 191, .invokevirtual 198, 321), (45, 3, .goto 70, .goto 25, 0), (48, 1, .aload 0, .aload_n 0, 0), (49, 1, .iload 1, .iload_n 1, 0), (50, 2, .iconst 10, .bipush 10, 0), (52, 1, .idiv, .idiv, 0), (53, 1, .iload 1, .iload_n 1, 0), (54, 2, .iconst 10, .bipush 10, 0), (56, 1, .irem, .irem, 0), (57, 1, .iload 2, .iload_n 2, 0), (58, 1, .i2l, .i2l, 0), (59, 3, .invokevirtual 192, .invokevirtual 205, 323), (62, 3, .ifCond .eq 69, .ifCond .eq 7, 0), (65, 1, .iconst 1, .iconst 1, 0), (66, 3, .goto 70, .goto 4, 0), (69, 1, .iconst 0, .iconst 0, 0), (70, 1, .ireturn, .ireturn, 0)]
def am_pX11_meets : Am_p := [(0, 1, .aload 0, .aload_n 0, 0), (1, 1, .iload 1, .iload_n 1, 0), (2, 3, .invokevirtual 165, .invokevirtual 112, 288), (5, 3, .ifCond .eq 15, .ifCond .eq 10, 0), (8, 1, .iload 2, .iload_n 2, 0), (9, 3, .invokestatic 187, .invokestatic 202, 322), (12, 3, .ifCond .ne 17, .ifCond .ne 5, 0), (15, 1, .iconst (-1), .iconst (-1), 0), (16, 1, .ireturn, .ireturn, 0), (17, 1, .iload 2, .iload_n 2, 0), (18, 1, .istore 3, .istore_n 3, 0), (19, 1, .iload 3, .iload_n 3, 0), (20, 2, .iconst 99999, .ldc 209, 324), (22, 3, .if_icmp .gt 59, .if_icmp .gt 37, 0), (25, 1, .iload 3, .iload_n 3, 0), (26, 1, .iload 2, .iload_n 2, 0), (27, 3, .iconst 3600, .sipush 3600, 0), (30, 1, .iadd, .iadd, 0), (31, 3, .if_icmp .ge 59, .if_icmp .ge 28, 0), (34, 1, .aload 0, .aload_n 0, 0), (35, 1, .iload 1, .iload_n 1, 0), (36, 2, .iconst 10, .bipush 10, 0), (38, 1, .idiv, .idiv, 0), (39, 1, .iload 1, .iload_n 1, 0), (40, 2, .iconst 10, .bipush 10, 0), (42, 1, .irem, .irem, 0), (43, 1, .iload 3, .iload_n 3, 0), (44, 1, .i2l, .i2l, 0), (45, 3, .invokevirtual 192, .invokevirtual 205, 323), (48, 3, .ifCond .eq 53, .ifCond .eq 5, 0), (51, 1, .iload 3, .iload_n 3, 0), (52, 1, .ireturn, .ireturn, 0), (53, 3, .iinc 3 1, .iinc 3 1, 0), (56, 3, .goto 19, .goto (-37), 0), (59, 2, .iconst (-2), .bipush (-2), 0), (61, 1, .ireturn, .ireturn, 0)]
def am_pX11_often : Am_p := [(0, 1, .aload 0, .aload_n 0, 0), (1, 1, .iload 1, .iload_n 1, 0), (2, 3, .invokevirtual 165, .invokevirtual 112, 288), (5, 3, .ifCond .eq 27, .ifCond .eq 22, 0), (8, 1, .iload 2, .iload_n 2, 0), (9, 3, .invokestatic 187, .invokestatic 202, 322), (12, 3, .ifCond .eq 27, .ifCond .eq 15, 0), (15, 1, .iload 3, .iload_n 3, 0), (16, 1, .i2l, .i2l, 0), (17, 1, .ldc2_w 1, .lconst 1, 0), (18, 3, .ldc2_w 999, .ldc2_w 210, 325), (21, 3, .invokestatic 159, .invokestatic 87, 276), (24, 3, .ifCond .ne 29, .ifCond .ne 5, 0), (27, 1, .iconst (-1), .iconst (-1), 0), (28, 1, .ireturn, .ireturn, 0), (29, 1, .iconst 0, .iconst 0, 0), (30, 2, .istore 4, .istore 4, 0), (32, 1, .iconst 0, .iconst 0, 0), (33, 2, .istore 5, .istore 5, 0), (35, 2, .iload 5, .iload 5, 0), (37, 1, .iload 3, .iload_n 3, 0), (38, 3, .if_icmp .ge 77, .if_icmp .ge 39, 0), (41, 2, .iload 4, .iload 4, 0), (43, 1, .aload 0, .aload_n 0, 0), (44, 1, .iload 1, .iload_n 1, 0), (45, 2, .iconst 10, .bipush 10, 0), (47, 1, .idiv, .idiv, 0), (48, 1, .iload 1, .iload_n 1, 0), (49, 2, .iconst 10, .bipush 10, 0), (51, 1, .irem, .irem, 0), (52, 1, .iload 2, .iload_n 2, 0), (53, 2, .iload 5, .iload 5, 0), (55, 1, .iadd, .iadd, 0), (56, 1, .i2l, .i2l, 0), (57, 3, .invokevirtual 192, .invokevirtual 205, 323), (60, 3, .ifCond .eq 67, .ifCond .eq 7, 0), (63, 1, .iconst 1, .iconst 1, 0), (64, 3, .goto 68, .goto 4, 0), (67, 1, .iconst 0, .iconst 0, 0), (68, 1, .iadd, .iadd, 0), (69, 2, .istore 4, .istore 4, 0), (71, 3, .iinc 5 1, .iinc 5 1, 0), (74, 3, .goto 35, .goto (-39), 0), (77, 2, .iload 4, .iload 4, 0), (79, 1, .ireturn, .ireturn, 0)]
def am_pX11_common : Am_p := [(0, 1, .lload 0, .lload_n 0, 0), (1, 2, .lstore 4, .lstore 4, 0), (3, 1, .lload 2, .lload_n 2, 0), (4, 2, .lstore 6, .lstore 6, 0), (6, 2, .lload 6, .lload 6, 0), (8, 1, .ldc2_w 0, .lconst 0, 0), (9, 1, .lcmp, .lcmp, 0), (10, 3, .ifCond .eq 31, .ifCond .eq 21, 0), (13, 2, .lload 4, .lload 4, 0), (15, 2, .lload 6, .lload 6, 0), (17, 1, .lrem, .lrem, 0), (18, 2, .lstore 8, .lstore 8, 0), (20, 2, .lload 6, .lload 6, 0), (22, 2, .lstore 4, .lstore 4, 0), (24, 2, .lload 8, .lload 8, 0), (26, 2, .lstore 6, .lstore 6, 0), (28, 3, .goto 6, .goto (-22), 0), (31, 2, .lload 4, .lload 4, 0), (33, 1, .lreturn, .lreturn, 0)]
def am_pX11_isSet : Am_p := [(0, 1, .iload 1, .iload_n 1, 0), (1, 1, .i2l, .i2l, 0), (2, 1, .ldc2_w 0, .lconst 0, 0), (3, 1, .iconst 1, .iconst 1, 0), (4, 1, .aload 0, .aload_n 0, 0), (5, 3, .getfield 710, .getfield 84, 275), (8, 1, .ishl, .ishl, 0), (9, 1, .iconst 1, .iconst 1, 0), (10, 1, .isub, .isub, 0), (11, 1, .i2l, .i2l, 0), (12, 3, .invokestatic 159, .invokestatic 87, 276), (15, 1, .ireturn, .ireturn, 0)]
def am_pX11_together : Am_p := [(0, 1, .aload 0, .aload_n 0, 0), (1, 1, .iload 1, .iload_n 1, 0), (2, 3, .invokevirtual 198, .invokevirtual 212, 326), (5, 3, .ifCond .ne 12, .ifCond .ne 7, 0), (8, 3, .ldc2_w 9223372036854775808, .ldc2_w 217, 327), (11, 1, .lreturn, .lreturn, 0), (12, 1, .ldc2_w 1, .lconst 1, 0), (13, 1, .lstore 2, .lstore_n 2, 0), (14, 1, .iconst 0, .iconst 0, 0), (15, 2, .istore 4, .istore 4, 0), (17, 2, .iload 4, .iload 4, 0), (19, 1, .aload 0, .aload_n 0, 0), (20, 3, .getfield 710, .getfield 84, 275), (23, 3, .if_icmp .ge 69, .if_icmp .ge 46, 0), (26, 1, .iload 1, .iload_n 1, 0), (27, 2, .iload 4, .iload 4, 0), (29, 3, .invokestatic 160, .invokestatic 219, 328), (32, 3, .ifCond .eq 61, .ifCond .eq 29, 0), (35, 1, .lload 2, .lload_n 2, 0), (36, 1, .lload 2, .lload_n 2, 0), (37, 1, .aload 0, .aload_n 0, 0), (38, 3, .getfield 711, .getfield 22, 280), (41, 2, .iload 4, .iload 4, 0), (43, 1, .iaload, .iaload, 0), (44, 1, .i2l, .i2l, 0), (45, 3, .invokestatic 197, .invokestatic 223, 329), (48, 1, .ldiv, .ldiv, 0), (49, 1, .aload 0, .aload_n 0, 0), (50, 3, .getfield 711, .getfield 22, 280), (53, 2, .iload 4, .iload 4, 0), (55, 1, .iaload, .iaload, 0), (56, 1, .i2l, .i2l, 0), (57, 1, .lmul, .lmul, 0), (58, 3, .goto 62, .goto 4, 0), (61, 1, .lload 2, .lload_n 2, 0), (62, 1, .lstore 2, .lstore_n 2, 0), (63, 3, .iinc 4 1, .iinc 4 1, 0), (66, 3, .goto 17, .goto (-49), 0), (69, 1, .lload 2, .lload_n 2, 0), (70, 1, .lreturn, .lreturn, 0)]
def am_pX11_start : Am_p := [(0, 1, .aload 0, .aload_n 0, 0), (1, 1, .iload 1, .iload_n 1, 0), (2, 3, .invokevirtual 198, .invokevirtual 212, 326), (5, 3, .ifCond .ne 12, .ifCond .ne 7, 0), (8, 3, .ldc2_w 9223372036854775808, .ldc2_w 217, 327), (11, 1, .lreturn, .lreturn, 0), (12, 1, .ldc2_w 0, .lconst 0, 0), (13, 1, .lstore 2, .lstore_n 2, 0), (14, 1, .ldc2_w 1, .lconst 1, 0), (15, 2, .lstore 4, .lstore 4, 0), (17, 1, .iconst 0, .iconst 0, 0), (18, 2, .istore 6, .istore 6, 0), (20, 2, .iload 6, .iload 6, 0), (22, 1, .aload 0, .aload_n 0, 0), (23, 3, .getfield 710, .getfield 84, 275), (26, 3, .if_icmp .ge 137, .if_icmp .ge 111, 0), (29, 1, .iload 1, .iload_n 1, 0), (30, 2, .iload 6, .iload 6, 0), (32, 3, .invokestatic 160, .invokestatic 219, 328), (35, 3, .ifCond .eq 131, .ifCond .eq 96, 0), (38, 1, .iconst 0, .iconst 0, 0), (39, 2, .istore 7, .istore 7, 0), (41, 1, .aload 0, .aload_n 0, 0), (42, 3, .getfield 704, .getfield 9, 269), (45, 2, .iload 6, .iload 6, 0), (47, 1, .iaload, .iaload, 0), (48, 1, .i2l, .i2l, 0), (49, 1, .lload 2, .lload_n 2, 0), (50, 1, .ladd, .ladd, 0), (51, 1, .aload 0, .aload_n 0, 0), (52, 3, .getfield 711, .getfield 22, 280), (55, 2, .iload 6, .iload 6, 0), (57, 1, .iaload, .iaload, 0), (58, 1, .i2l, .i2l, 0), (59, 1, .lrem, .lrem, 0), (60, 1, .ldc2_w 0, .lconst 0, 0), (61, 1, .lcmp, .lcmp, 0), (62, 3, .ifCond .eq 88, .ifCond .eq 26, 0), (65, 2, .iload 7, .iload 7, 0), (67, 1, .aload 0, .aload_n 0, 0), (68, 3, .getfield 711, .getfield 22, 280), (71, 2, .iload 6, .iload 6, 0), (73, 1, .iaload, .iaload, 0), (74, 3, .if_icmp .ge 88, .if_icmp .ge 14, 0), (77, 1, .lload 2, .lload_n 2, 0), (78, 2, .lload 4, .lload 4, 0), (80, 1, .ladd, .ladd, 0), (81, 1, .lstore 2, .lstore_n 2, 0), (82, 3, .iinc 7 1, .iinc 7 1, 0), (85, 3, .goto 41, .goto (-44), 0), (88, 2, .iload 7, .iload 7, 0), (90, 1, .aload 0, .aload_n 0, 0), (91, 3, .getfield 711, .getfield 22, 280), (94, 2, .iload 6, .iload 6, 0), (96, 1, .iaload, .iaload, 0), (97, 3, .if_icmp .ne 104, .if_icmp .ne 7, 0), (100, 3, .ldc2_w 18446744073709551614, .ldc2_w 227, 330), (103, 1, .lreturn, .lreturn, 0), (104, 2, .lload 4, .lload 4, 0), (106, 2, .lload 4, .lload 4, 0), (108, 1, .aload 0, .aload_n 0, 0), (109, 3, .getfield 711, .getfield 22, 280), (112, 2, .iload 6, .iload 6, 0), (114, 1, .iaload, .iaload, 0), (115, 1, .i2l, .i2l, 0), (116, 3, .invokestatic 197, .invokestatic 223, 329), (119, 1, .ldiv, .ldiv, 0), (120, 1, .aload 0, .aload_n 0, 0), (121, 3, .getfield 711, .getfield 22, 280), (124, 2, .iload 6, .iload 6, 0), (126, 1, .iaload, .iaload, 0), (127, 1, .i2l, .i2l, 0), (128, 1, .lmul, .lmul, 0), (129, 2, .lstore 4, .lstore 4, 0), (131, 3, .iinc 6 1, .iinc 6 1, 0), (134, 3, .goto 20, .goto (-114), 0), (137, 1, .lload 2, .lload_n 2, 0), (138, 1, .lreturn, .lreturn, 0)]
def am_pX11_moodOn : Am_p := [(0, 1, .iconst 0, .iconst 0, 0), (1, 2, .istore 4, .istore 4, 0), (3, 1, .iconst 0, .iconst 0, 0), (4, 2, .istore 5, .istore 5, 0), (6, 2, .iload 5, .iload 5, 0), (8, 1, .aload 0, .aload_n 0, 0), (9, 3, .getfield 710, .getfield 84, 275), (12, 3, .if_icmp .ge 62, .if_icmp .ge 50, 0), (15, 2, .iload 4, .iload 4, 0), (17, 2, .iload 5, .iload 5, 0), (19, 1, .iload 1, .iload_n 1, 0), (20, 3, .if_icmp .eq 52, .if_icmp .eq 32, 0), (23, 1, .aload 0, .aload_n 0, 0), (24, 1, .iload 1, .iload_n 1, 0), (25, 2, .iload 5, .iload 5, 0), (27, 1, .lload 2, .lload_n 2, 0), (28, 3, .invokevirtual 192, .invokevirtual 205, 323), (31, 3, .ifCond .eq 52, .ifCond .eq 21, 0), (34, 1, .aload 0, .aload_n 0, 0), (35, 3, .getfield 704, .getfield 9, 269), (38, 2, .iconst 16, .bipush 16, 0), (40, 2, .iconst 8, .bipush 8, 0), (42, 1, .iload 1, .iload_n 1, 0), (43, 1, .imul, .imul, 0), (44, 1, .iadd, .iadd, 0), (45, 2, .iload 5, .iload 5, 0), (47, 1, .iadd, .iadd, 0), (48, 1, .iaload, .iaload, 0), (49, 3, .goto 53, .goto 4, 0), (52, 1, .iconst 0, .iconst 0, 0), (53, 1, .iadd, .iadd, 0), (54, 2, .istore 4, .istore 4, 0), (56, 3, .iinc 5 1, .iinc 5 1, 0), (59, 3, .goto 6, .goto (-53), 0), (62, 2, .iload 4, .iload 4, 0), (64, 1, .ireturn, .ireturn, 0)]
def am_pX11_mood : Am_p := [(0, 1, .aload 0, .aload_n 0, 0), (1, 1, .iload 1, .iload_n 1, 0), (2, 1, .i2l, .i2l, 0), (3, 3, .invokevirtual 164, .invokevirtual 91, 277), (6, 3, .ifCond .eq 26, .ifCond .eq 20, 0), (9, 1, .iload 2, .iload_n 2, 0), (10, 3, .invokestatic 187, .invokestatic 202, 322), (13, 3, .ifCond .eq 26, .ifCond .eq 13, 0), (16, 1, .aload 0, .aload_n 0, 0), (17, 1, .iload 1, .iload_n 1, 0), (18, 1, .iload 2, .iload_n 2, 0), (19, 1, .i2l, .i2l, 0), (20, 3, .invokevirtual 201, .invokevirtual 229, 331), (23, 3, .goto 28, .goto 5, 0), (26, 2, .iconst (-2000000000), .ldc 130, 294), (28, 1, .ireturn, .ireturn, 0)]
def am_pX11_best : Am_p := [(0, 1, .aload 0, .aload_n 0, 0), (1, 1, .iload 1, .iload_n 1, 0), (2, 1, .i2l, .i2l, 0), (3, 3, .invokevirtual 164, .invokevirtual 91, 277), (6, 3, .ifCond .eq 55, .ifCond .eq 49, 0), (9, 1, .iload 2, .iload_n 2, 0), (10, 3, .ifCond .lt 55, .ifCond .lt 45, 0), (13, 1, .iload 2, .iload_n 2, 0), (14, 3, .iconst 1000, .sipush 1000, 0), (17, 1, .idiv, .idiv, 0), (18, 1, .i2l, .i2l, 0), (19, 1, .ldc2_w 0, .lconst 0, 0), (20, 3, .ldc2_w 9999, .ldc2_w 232, 332), (23, 3, .invokestatic 159, .invokestatic 87, 276), (26, 3, .ifCond .eq 55, .ifCond .eq 29, 0), (29, 1, .iload 2, .iload_n 2, 0), (30, 3, .iconst 1000, .sipush 1000, 0), (33, 1, .irem, .irem, 0), (34, 1, .i2l, .i2l, 0), (35, 1, .ldc2_w 1, .lconst 1, 0), (36, 3, .ldc2_w 999, .ldc2_w 210, 325), (39, 3, .invokestatic 159, .invokestatic 87, 276), (42, 3, .ifCond .eq 55, .ifCond .eq 13, 0), (45, 1, .iload 3, .iload_n 3, 0), (46, 1, .i2l, .i2l, 0), (47, 1, .ldc2_w 0, .lconst 0, 0), (48, 1, .ldc2_w 1, .lconst 1, 0), (49, 3, .invokestatic 159, .invokestatic 87, 276), (52, 3, .ifCond .ne 58, .ifCond .ne 6, 0), (55, 2, .iconst (-2000000000), .ldc 130, 294), (57, 1, .ireturn, .ireturn, 0), (58, 1, .iload 2, .iload_n 2, 0), (59, 3, .iconst 1000, .sipush 1000, 0), (62, 1, .idiv, .idiv, 0), (63, 2, .istore 4, .istore 4, 0), (65, 2, .iload 4, .iload 4, 0), (67, 2, .istore 5, .istore 5, 0), (69, 1, .aload 0, .aload_n 0, 0), (70, 1, .iload 1, .iload_n 1, 0), (71, 2, .iload 4, .iload 4, 0), (73, 1, .i2l, .i2l, 0), (74, 3, .invokevirtual 201, .invokevirtual 229, 331), (77, 2, .istore 6, .istore 6, 0), (79, 1, .iconst 1, .iconst 1, 0), (80, 2, .istore 7, .istore 7, 0), (82, 2, .iload 7, .iload 7, 0), (84, 1, .iload 2, .iload_n 2, 0), (85, 3, .iconst 1000, .sipush 1000, 0), (88, 1, .irem, .irem, 0), (89, 3, .if_icmp .ge 129, .if_icmp .ge 40, 0), (92, 1, .aload 0, .aload_n 0, 0), (93, 1, .iload 1, .iload_n 1, 0), (94, 2, .iload 4, .iload 4, 0), (96, 2, .iload 7, .iload 7, 0), (98, 1, .iadd, .iadd, 0), (99, 1, .i2l, .i2l, 0), (100, 3, .invokevirtual 201, .invokevirtual 229, 331), (103, 2, .istore 8, .istore 8, 0), (105, 2, .iload 8, .iload 8, 0), (107, 2, .iload 6, .iload 6, 0), (109, 3, .if_icmp .le 123, .if_icmp .le 14, 0), (112, 2, .iload 4, .iload 4, 0), (114, 2, .iload 7, .iload 7, 0), (116, 1, .iadd, .iadd, 0), (117, 2, .istore 5, .istore 5, 0), (119, 2, .iload 8, .iload 8, 0), (121, 2, .istore 6, .istore 6, 0), (123, 3, .iinc 7 1, .iinc 7 1, 0), (126, 3, .goto 82, .goto (-44), 0), (129, 1, .iload 3, .iload_n 3, 0), (130, 3, .ifCond .ne 138, .ifCond .ne 8, 0), (133, 2, .iload 5, .iload 5, 0), (135, 3, .goto 140, .goto 5, 0), (138, 2, .iload 6, .iload 6, 0), (140, 1, .ireturn, .ireturn, 0)]
def am_pX11_isQuiet : Am_p := [(0, 1, .iconst 0, .iconst 0, 0), (1, 2, .istore 4, .istore 4, 0), (3, 2, .iload 4, .iload 4, 0), (5, 1, .aload 0, .aload_n 0, 0), (6, 3, .getfield 710, .getfield 84, 275), (9, 3, .if_icmp .ge 66, .if_icmp .ge 57, 0), (12, 1, .iconst 0, .iconst 0, 0), (13, 2, .istore 5, .istore 5, 0), (15, 2, .iload 5, .iload 5, 0), (17, 1, .aload 0, .aload_n 0, 0), (18, 3, .getfield 710, .getfield 84, 275), (21, 3, .if_icmp .ge 60, .if_icmp .ge 39, 0), (24, 1, .iload 1, .iload_n 1, 0), (25, 2, .iload 4, .iload 4, 0), (27, 3, .invokestatic 160, .invokestatic 219, 328), (30, 3, .ifCond .eq 54, .ifCond .eq 24, 0), (33, 2, .iload 5, .iload 5, 0), (35, 2, .iload 4, .iload 4, 0), (37, 3, .if_icmp .eq 54, .if_icmp .eq 17, 0), (40, 1, .aload 0, .aload_n 0, 0), (41, 2, .iload 4, .iload 4, 0), (43, 2, .iload 5, .iload 5, 0), (45, 1, .lload 2, .lload_n 2, 0), (46, 3, .invokevirtual 192, .invokevirtual 205, 323), (49, 3, .ifCond .eq 54, .ifCond .eq 5, 0), (52, 1, .iconst 0, .iconst 0, 0), (53, 1, .ireturn, .ireturn, 0), (54, 3, .iinc 5 1, .iinc 5 1, 0), (57, 3, .goto 15, .goto (-42), 0), (60, 3, .iinc 4 1, .iinc 4 1, 0), (63, 3, .goto 3, .goto (-60), 0), (66, 1, .iconst 1, .iconst 1, 0), (67, 1, .ireturn, .ireturn, 0)]
def am_pX11_sign : Am_p := [(0, 1, .aload 0, .aload_n 0, 0), (1, 1, .iload 1, .iload_n 1, 0), (2, 3, .invokevirtual 198, .invokevirtual 212, 326), (5, 3, .ifCond .eq 27, .ifCond .eq 22, 0), (8, 1, .iload 2, .iload_n 2, 0), (9, 3, .invokestatic 187, .invokestatic 202, 322), (12, 3, .ifCond .eq 27, .ifCond .eq 15, 0), (15, 1, .iload 3, .iload_n 3, 0), (16, 1, .i2l, .i2l, 0), (17, 1, .ldc2_w 0, .lconst 0, 0), (18, 3, .ldc2_w 999, .ldc2_w 210, 325), (21, 3, .invokestatic 159, .invokestatic 87, 276), (24, 3, .ifCond .ne 29, .ifCond .ne 5, 0), (27, 1, .iconst (-1), .iconst (-1), 0), (28, 1, .ireturn, .ireturn, 0), (29, 1, .iload 3, .iload_n 3, 0), (30, 3, .ifCond .le 77, .ifCond .le 47, 0), (33, 1, .iconst 0, .iconst 0, 0), (34, 2, .istore 4, .istore 4, 0), (36, 1, .iconst 0, .iconst 0, 0), (37, 2, .istore 5, .istore 5, 0), (39, 2, .iload 5, .iload 5, 0), (41, 1, .iload 3, .iload_n 3, 0), (42, 3, .if_icmp .ge 74, .if_icmp .ge 32, 0), (45, 2, .iload 4, .iload 4, 0), (47, 1, .aload 0, .aload_n 0, 0), (48, 1, .iload 1, .iload_n 1, 0), (49, 1, .iload 2, .iload_n 2, 0), (50, 2, .iload 5, .iload 5, 0), (52, 1, .iadd, .iadd, 0), (53, 1, .i2l, .i2l, 0), (54, 3, .invokevirtual 204, .invokevirtual 234, 333), (57, 3, .ifCond .eq 64, .ifCond .eq 7, 0), (60, 1, .iconst 1, .iconst 1, 0), (61, 3, .goto 65, .goto 4, 0), (64, 1, .iconst 0, .iconst 0, 0), (65, 1, .iadd, .iadd, 0), (66, 2, .istore 4, .istore 4, 0), (68, 3, .iinc 5 1, .iinc 5 1, 0), (71, 3, .goto 39, .goto (-32), 0), (74, 2, .iload 4, .iload 4, 0), (76, 1, .ireturn, .ireturn, 0), (77, 1, .iload 2, .iload_n 2, 0), (78, 2, .istore 4, .istore 4, 0), (80, 2, .iload 4, .iload 4, 0), (82, 2, .iconst 99999, .ldc 209, 324), (84, 3, .if_icmp .gt 107, .if_icmp .gt 23, 0), (87, 1, .aload 0, .aload_n 0, 0), (88, 1, .iload 1, .iload_n 1, 0), (89, 2, .iload 4, .iload 4, 0), (91, 1, .i2l, .i2l, 0), (92, 3, .invokevirtual 204, .invokevirtual 234, 333), (95, 3, .ifCond .eq 101, .ifCond .eq 6, 0), (98, 2, .iload 4, .iload 4, 0), (100, 1, .ireturn, .ireturn, 0), (101, 3, .iinc 4 1, .iinc 4 1, 0), (104, 3, .goto 80, .goto (-24), 0), (107, 2, .iconst (-2), .bipush (-2), 0), (109, 1, .ireturn, .ireturn, 0)]
def am_pX11_meetsMoved : Am_p := [(0, 1, .aload 0, .aload_n 0, 0), (1, 3, .getfield 704, .getfield 9, 269), (4, 1, .iload 1, .iload_n 1, 0), (5, 1, .iaload, .iaload, 0), (6, 1, .iload 3, .iload_n 3, 0), (7, 1, .iadd, .iadd, 0), (8, 1, .i2l, .i2l, 0), (9, 2, .lload 4, .lload 4, 0), (11, 1, .ladd, .ladd, 0), (12, 1, .aload 0, .aload_n 0, 0), (13, 3, .getfield 711, .getfield 22, 280), (16, 1, .iload 1, .iload_n 1, 0), (17, 1, .iaload, .iaload, 0), (18, 1, .i2l, .i2l, 0), (19, 1, .lrem, .lrem, 0), (20, 1, .aload 0, .aload_n 0, 0), (21, 3, .getfield 711, .getfield 22, 280), (24, 1, .iload 1, .iload_n 1, 0), (25, 1, .iaload, .iaload, 0), (26, 1, .i2l, .i2l, 0), (27, 1, .ladd, .ladd, 0), (28, 1, .aload 0, .aload_n 0, 0), (29, 3, .getfield 711, .getfield 22, 280), (32, 1, .iload 1, .iload_n 1, 0), (33, 1, .iaload, .iaload, 0), (34, 1, .i2l, .i2l, 0), (35, 1, .lrem, .lrem, 0), (36, 1, .l2i, .l2i, 0), (37, 2, .istore 6, .istore 6, 0), (39, 1, .aload 0, .aload_n 0, 0), (40, 1, .iload 1, .iload_n 1, 0), (41, 2, .iload 6, .iload 6, 0), (43, 3, .invokevirtual 189, .invokevirtual 192, 319), (46, 1, .aload 0, .aload_n 0, 0), (47, 1, .iload 2, .iload_n 2, 0), (48, 1, .aload 0, .aload_n 0, 0), (49, 1, .iload 2, .iload_n 2, 0), (50, 2, .lload 4, .lload 4, 0), (52, 3, .invokevirtual 188, .invokevirtual 188, 318), (55, 3, .invokevirtual 189, .invokevirtual 192, 319), (58, 3, .invokestatic 190, .invokestatic 195, 320), (61, 1, .aload 0, .aload_n 0, 0), (62, 3, .getfield 704, .getfield 9, 269), (65, 2, .iconst 80, .bipush 80, 0), (67, 1, .iaload, .iaload, 0), (68, 3, .if_icmp .gt 75, .if_icmp .gt 7, 0), (71, 1, .iconst 1, .iconst 1, 0), (72, 3, .goto 76, .goto 4, 0), (75, 1, .iconst 0, .iconst 0, 0), (76, 1, .ireturn, .ireturn, 0)]
def am_pX11_nudge : Am_p := [(0, 1, .aload 0, .aload_n 0, 0), (1, 1, .iload 1, .iload_n 1, 0), (2, 3, .invokevirtual 165, .invokevirtual 112, 288), (5, 3, .ifCond .eq 15, .ifCond .eq 10, 0), (8, 1, .iload 2, .iload_n 2, 0), (9, 3, .invokestatic 187, .invokestatic 202, 322), (12, 3, .ifCond .ne 18, .ifCond .ne 6, 0), (15, 2, .iconst (-2000000000), .ldc 130, 294), (17, 1, .ireturn, .ireturn, 0), (18, 1, .iload 1, .iload_n 1, 0), (19, 2, .iconst 10, .bipush 10, 0), (21, 1, .idiv, .idiv, 0), (22, 1, .istore 3, .istore_n 3, 0), (23, 1, .iconst 0, .iconst 0, 0), (24, 2, .istore 4, .istore 4, 0), (26, 2, .iload 4, .iload 4, 0), (28, 1, .aload 0, .aload_n 0, 0), (29, 3, .getfield 711, .getfield 22, 280), (32, 1, .iload 3, .iload_n 3, 0), (33, 1, .iaload, .iaload, 0), (34, 3, .if_icmp .gt 83, .if_icmp .gt 49, 0), (37, 1, .aload 0, .aload_n 0, 0), (38, 1, .iload 3, .iload_n 3, 0), (39, 1, .iload 1, .iload_n 1, 0), (40, 2, .iconst 10, .bipush 10, 0), (42, 1, .irem, .irem, 0), (43, 2, .iload 4, .iload 4, 0), (45, 1, .iload 2, .iload_n 2, 0), (46, 1, .i2l, .i2l, 0), (47, 3, .invokevirtual 206, .invokevirtual 238, 334), (50, 3, .ifCond .eq 56, .ifCond .eq 6, 0), (53, 2, .iload 4, .iload 4, 0), (55, 1, .ireturn, .ireturn, 0), (56, 1, .aload 0, .aload_n 0, 0), (57, 1, .iload 3, .iload_n 3, 0), (58, 1, .iload 1, .iload_n 1, 0), (59, 2, .iconst 10, .bipush 10, 0), (61, 1, .irem, .irem, 0), (62, 2, .iload 4, .iload 4, 0), (64, 1, .ineg, .ineg, 0), (65, 1, .iload 2, .iload_n 2, 0), (66, 1, .i2l, .i2l, 0), (67, 3, .invokevirtual 206, .invokevirtual 238, 334), (70, 3, .ifCond .eq 77, .ifCond .eq 7, 0), (73, 2, .iload 4, .iload 4, 0), (75, 1, .ineg, .ineg, 0), (76, 1, .ireturn, .ireturn, 0), (77, 3, .iinc 4 1, .iinc 4 1, 0), (80, 3, .goto 26, .goto (-54), 0), (83, 3, .iconst (-1000), .sipush (-1000), 0), (86, 1, .ireturn, .ireturn, 0)]
def am_pX11_never : Am_p := [(0, 1, .aload 0, .aload_n 0, 0), (1, 1, .iload 1, .iload_n 1, 0), (2, 3, .invokevirtual 165, .invokevirtual 112, 288), (5, 3, .ifCond .eq 30, .ifCond .eq 25, 0), (8, 1, .iload 2, .iload_n 2, 0), (9, 1, .i2l, .i2l, 0), (10, 1, .ldc2_w 1, .lconst 1, 0), (11, 3, .ldc2_w 999, .ldc2_w 210, 325), (14, 3, .invokestatic 159, .invokestatic 87, 276), (17, 3, .ifCond .eq 30, .ifCond .eq 13, 0), (20, 1, .iload 3, .iload_n 3, 0), (21, 1, .i2l, .i2l, 0), (22, 1, .ldc2_w 0, .lconst 0, 0), (23, 1, .ldc2_w 1, .lconst 1, 0), (24, 3, .invokestatic 159, .invokestatic 87, 276), (27, 3, .ifCond .ne 32, .ifCond .ne 5, 0), (30, 1, .iconst (-1), .iconst (-1), 0), (31, 1, .ireturn, .ireturn, 0), (32, 1, .iload 1, .iload_n 1, 0), (33, 2, .iconst 10, .bipush 10, 0), (35, 1, .idiv, .idiv, 0), (36, 2, .istore 4, .istore 4, 0), (38, 1, .iconst 0, .iconst 0, 0), (39, 2, .istore 5, .istore 5, 0), (41, 2, .iconst (-2), .bipush (-2), 0), (43, 2, .istore 6, .istore 6, 0), (45, 1, .iconst 0, .iconst 0, 0), (46, 2, .istore 7, .istore 7, 0), (48, 2, .iload 7, .iload 7, 0), (50, 1, .aload 0, .aload_n 0, 0), (51, 3, .getfield 711, .getfield 22, 280), (54, 2, .iload 4, .iload 4, 0), (56, 1, .iaload, .iaload, 0), (57, 3, .if_icmp .ge 136, .if_icmp .ge 79, 0), (60, 1, .iconst 0, .iconst 0, 0), (61, 2, .istore 8, .istore 8, 0), (63, 1, .iconst 0, .iconst 0, 0), (64, 2, .istore 9, .istore 9, 0), (66, 2, .iload 9, .iload 9, 0), (68, 1, .iload 2, .iload_n 2, 0), (69, 3, .if_icmp .ge 108, .if_icmp .ge 39, 0), (72, 2, .iload 8, .iload 8, 0), (74, 3, .ifCond .ne 108, .ifCond .ne 34, 0), (77, 1, .aload 0, .aload_n 0, 0), (78, 2, .iload 4, .iload 4, 0), (80, 1, .iload 1, .iload_n 1, 0), (81, 2, .iconst 10, .bipush 10, 0), (83, 1, .irem, .irem, 0), (84, 2, .iload 7, .iload 7, 0), (86, 1, .aload 0, .aload_n 0, 0), (87, 3, .getfield 704, .getfield 9, 269), (90, 2, .iload 4, .iload 4, 0), (92, 1, .iaload, .iaload, 0), (93, 1, .isub, .isub, 0), (94, 2, .iload 9, .iload 9, 0), (96, 1, .i2l, .i2l, 0), (97, 3, .invokevirtual 206, .invokevirtual 238, 334), (100, 2, .istore 8, .istore 8, 0), (102, 3, .iinc 9 1, .iinc 9 1, 0), (105, 3, .goto 66, .goto (-39), 0), (108, 2, .iload 8, .iload 8, 0), (110, 3, .ifCond .ne 130, .ifCond .ne 20, 0), (113, 2, .iload 5, .iload 5, 0), (115, 3, .ifCond .ne 123, .ifCond .ne 8, 0), (118, 2, .iload 7, .iload 7, 0), (120, 3, .goto 125, .goto 5, 0), (123, 2, .iload 6, .iload 6, 0), (125, 2, .istore 6, .istore 6, 0), (127, 3, .iinc 5 1, .iinc 5 1, 0), (130, 3, .iinc 7 1, .iinc 7 1, 0), (133, 3, .goto 48, .goto (-85), 0), (136, 1, .iload 3, .iload_n 3, 0), (137, 3, .ifCond .ne 145, .ifCond .ne 8, 0), (140, 2, .iload 5, .iload 5, 0), (142, 3, .goto 147, .goto 5, 0), (145, 2, .iload 6, .iload 6, 0), (147, 1, .ireturn, .ireturn, 0)]
def am_pX11_ago : Am_p := [(0, 1, .aload 0, .aload_n 0, 0), (1, 3, .getfield 704, .getfield 9, 269), (4, 1, .iload 1, .iload_n 1, 0), (5, 1, .iaload, .iaload, 0), (6, 1, .iload 2, .iload_n 2, 0), (7, 1, .isub, .isub, 0), (8, 1, .aload 0, .aload_n 0, 0), (9, 3, .getfield 711, .getfield 22, 280), (12, 1, .iload 1, .iload_n 1, 0), (13, 1, .iaload, .iaload, 0), (14, 1, .irem, .irem, 0), (15, 1, .aload 0, .aload_n 0, 0), (16, 3, .getfield 711, .getfield 22, 280), (19, 1, .iload 1, .iload_n 1, 0), (20, 1, .iaload, .iaload, 0), (21, 1, .iadd, .iadd, 0), (22, 1, .aload 0, .aload_n 0, 0), (23, 3, .getfield 711, .getfield 22, 280), (26, 1, .iload 1, .iload_n 1, 0), (27, 1, .iaload, .iaload, 0), (28, 1, .irem, .irem, 0), (29, 1, .ireturn, .ireturn, 0)]
def am_pX11_scene : Am_p := [(0, 1, .aload 0, .aload_n 0, 0), (1, 1, .iload 1, .iload_n 1, 0), (2, 3, .invokevirtual 165, .invokevirtual 112, 288), (5, 3, .ifCond .ne 10, .ifCond .ne 5, 0), (8, 1, .iconst (-1), .iconst (-1), 0), (9, 1, .ireturn, .ireturn, 0), (10, 1, .iconst 1, .iconst 1, 0), (11, 1, .istore 2, .istore_n 2, 0), (12, 1, .iload 2, .iload_n 2, 0), (13, 3, .iconst 3600, .sipush 3600, 0), (16, 3, .if_icmp .gt 68, .if_icmp .gt 52, 0), (19, 1, .aload 0, .aload_n 0, 0), (20, 1, .iload 1, .iload_n 1, 0), (21, 2, .iconst 10, .bipush 10, 0), (23, 1, .idiv, .idiv, 0), (24, 1, .iload 2, .iload_n 2, 0), (25, 3, .invokevirtual 209, .invokevirtual 242, 335), (28, 1, .aload 0, .aload_n 0, 0), (29, 3, .getfield 711, .getfield 22, 280), (32, 1, .iload 1, .iload_n 1, 0), (33, 2, .iconst 10, .bipush 10, 0), (35, 1, .irem, .irem, 0), (36, 1, .iaload, .iaload, 0), (37, 1, .imul, .imul, 0), (38, 1, .aload 0, .aload_n 0, 0), (39, 1, .iload 1, .iload_n 1, 0), (40, 2, .iconst 10, .bipush 10, 0), (42, 1, .irem, .irem, 0), (43, 1, .iload 2, .iload_n 2, 0), (44, 3, .invokevirtual 209, .invokevirtual 242, 335), (47, 1, .aload 0, .aload_n 0, 0), (48, 3, .getfield 711, .getfield 22, 280), (51, 1, .iload 1, .iload_n 1, 0), (52, 2, .iconst 10, .bipush 10, 0), (54, 1, .idiv, .idiv, 0), (55, 1, .iaload, .iaload, 0), (56, 1, .imul, .imul, 0), (57, 3, .if_icmp .ne 62, .if_icmp .ne 5, 0), (60, 1, .iload 2, .iload_n 2, 0), (61, 1, .ireturn, .ireturn, 0), (62, 3, .iinc 2 1, .iinc 2 1, 0), (65, 3, .goto 12, .goto (-53), 0), (68, 2, .iconst (-2), .bipush (-2), 0), (70, 1, .ireturn, .ireturn, 0)]
def am_pX11_begins : Am_p := [(0, 1, .iconst 0, .iconst 0, 0), (1, 1, .istore 1, .istore_n 1, 0), (2, 1, .iload 1, .iload_n 1, 0), (3, 1, .aload 0, .aload_n 0, 0), (4, 3, .getfield 710, .getfield 84, 275), (7, 3, .if_icmp .ge 28, .if_icmp .ge 21, 0), (10, 1, .aload 0, .aload_n 0, 0), (11, 3, .getfield 722, .getfield 34, 336), (14, 1, .iload 1, .iload_n 1, 0), (15, 1, .aload 0, .aload_n 0, 0), (16, 3, .getfield 704, .getfield 9, 269), (19, 1, .iload 1, .iload_n 1, 0), (20, 1, .iaload, .iaload, 0), (21, 1, .iastore, .iastore, 0), (22, 3, .iinc 1 1, .iinc 1 1, 0), (25, 3, .goto 2, .goto (-23), 0), (28, 1, .aload 0, .aload_n 0, 0), (29, 1, .iconst 0, .iconst 0, 0), (30, 3, .putfield 723, .putfield 245, 337), (33, 1, .aload 0, .aload_n 0, 0), (34, 1, .iconst 0, .iconst 0, 0), (35, 3, .putfield 724, .putfield 248, 338), (38, 1, .return_, .return_, 0)]
def am_pX11_apartNow : Am_p := [(0, 1, .aload 0, .aload_n 0, 0), (1, 1, .iload 1, .iload_n 1, 0), (2, 1, .aload 0, .aload_n 0, 0), (3, 3, .getfield 722, .getfield 34, 336), (6, 1, .iload 1, .iload_n 1, 0), (7, 1, .iaload, .iaload, 0), (8, 3, .invokevirtual 189, .invokevirtual 192, 319), (11, 1, .aload 0, .aload_n 0, 0), (12, 1, .iload 2, .iload_n 2, 0), (13, 1, .aload 0, .aload_n 0, 0), (14, 3, .getfield 722, .getfield 34, 336), (17, 1, .iload 2, .iload_n 2, 0), (18, 1, .iaload, .iaload, 0), (19, 3, .invokevirtual 189, .invokevirtual 192, 319), (22, 3, .invokestatic 190, .invokestatic 195, 320), (25, 1, .ireturn, .ireturn, 0)]
def am_pX11_meetNow : Am_p := [(0, 1, .aload 0, .aload_n 0, 0), (1, 1, .iload 1, .iload_n 1, 0), (2, 1, .iload 2, .iload_n 2, 0), (3, 3, .invokevirtual 212, .invokevirtual 251, 339), (6, 1, .aload 0, .aload_n 0, 0), (7, 3, .getfield 704, .getfield 9, 269), (10, 2, .iconst 80, .bipush 80, 0), (12, 1, .iaload, .iaload, 0), (13, 3, .if_icmp .gt 20, .if_icmp .gt 7, 0), (16, 1, .iconst 1, .iconst 1, 0), (17, 3, .goto 21, .goto 4, 0), (20, 1, .iconst 0, .iconst 0, 0), (21, 1, .ireturn, .ireturn, 0)]
def am_pX11_meetsAnybody : Am_p := [(0, 1, .iconst 0, .iconst 0, 0), (1, 1, .istore 2, .istore_n 2, 0), (2, 1, .iload 2, .iload_n 2, 0), (3, 1, .aload 0, .aload_n 0, 0), (4, 3, .getfield 710, .getfield 84, 275), (7, 3, .if_icmp .ge 32, .if_icmp .ge 25, 0), (10, 1, .iload 2, .iload_n 2, 0), (11, 1, .iload 1, .iload_n 1, 0), (12, 3, .if_icmp .eq 26, .if_icmp .eq 14, 0), (15, 1, .aload 0, .aload_n 0, 0), (16, 1, .iload 1, .iload_n 1, 0), (17, 1, .iload 2, .iload_n 2, 0), (18, 3, .invokevirtual 213, .invokevirtual 254, 340), (21, 3, .ifCond .eq 26, .ifCond .eq 5, 0), (24, 1, .iconst 1, .iconst 1, 0), (25, 1, .ireturn, .ireturn, 0), (26, 3, .iinc 2 1, .iinc 2 1, 0), (29, 3, .goto 2, .goto (-27), 0), (32, 1, .iconst 0, .iconst 0, 0), (33, 1, .ireturn, .ireturn, 0)]
def am_pX11_pushOf : Am_p := [(0, 1, .aload 0, .aload_n 0, 0), (1, 3, .getfield 704, .getfield 9, 269), (4, 2, .iconst 16, .bipush 16, 0), (6, 2, .iconst 8, .bipush 8, 0), (8, 1, .iload 1, .iload_n 1, 0), (9, 1, .imul, .imul, 0), (10, 1, .iadd, .iadd, 0), (11, 1, .iload 2, .iload_n 2, 0), (12, 1, .iadd, .iadd, 0), (13, 1, .iaload, .iaload, 0), (14, 2, .istore 4, .istore 4, 0), (16, 2, .iload 4, .iload 4, 0), (18, 1, .aload 0, .aload_n 0, 0), (19, 3, .getfield 704, .getfield 9, 269), (22, 2, .iconst 8, .bipush 8, 0), (24, 1, .iload 2, .iload_n 2, 0), (25, 1, .iadd, .iadd, 0), (26, 1, .iaload, .iaload, 0), (27, 1, .imul, .imul, 0), (28, 2, .istore 5, .istore 5, 0), (30, 1, .aload 0, .aload_n 0, 0), (31, 3, .getfield 715, .getfield 74, 316), (34, 3, .ifCond .lt 114, .ifCond .lt 80, 0), (37, 1, .aload 0, .aload_n 0, 0), (38, 3, .getfield 721, .getfield 31, 314), (41, 1, .iconst 0, .iconst 0, 0), (42, 2, .iload 4, .iload 4, 0), (44, 1, .iastore, .iastore, 0), (45, 1, .aload 0, .aload_n 0, 0), (46, 3, .getfield 721, .getfield 31, 314), (49, 1, .iconst 1, .iconst 1, 0), (50, 1, .aload 0, .aload_n 0, 0), (51, 3, .getfield 704, .getfield 9, 269), (54, 2, .iconst 8, .bipush 8, 0), (56, 1, .iload 2, .iload_n 2, 0), (57, 1, .iadd, .iadd, 0), (58, 1, .iaload, .iaload, 0), (59, 1, .iastore, .iastore, 0), (60, 1, .aload 0, .aload_n 0, 0), (61, 3, .getfield 721, .getfield 31, 314), (64, 1, .iconst 2, .iconst 2, 0), (65, 1, .aload 0, .aload_n 0, 0), (66, 3, .getfield 711, .getfield 22, 280), (69, 1, .iload 1, .iload_n 1, 0), (70, 1, .iaload, .iaload, 0), (71, 1, .iastore, .iastore, 0), (72, 1, .aload 0, .aload_n 0, 0), (73, 3, .getfield 721, .getfield 31, 314), (76, 1, .iconst 3, .iconst 3, 0), (77, 1, .aload 0, .aload_n 0, 0), (78, 1, .iload 1, .iload_n 1, 0), (79, 1, .iload 2, .iload_n 2, 0), (80, 3, .invokevirtual 212, .invokevirtual 251, 339), (83, 1, .iastore, .iastore, 0), (84, 1, .aload 0, .aload_n 0, 0), (85, 3, .getfield 721, .getfield 31, 314), (88, 1, .iconst 4, .iconst 4, 0), (89, 1, .iload 3, .iload_n 3, 0), (90, 1, .iastore, .iastore, 0), (91, 1, .aload 0, .aload_n 0, 0), (92, 3, .getfield 721, .getfield 31, 314), (95, 1, .iconst 5, .iconst 5, 0), (96, 1, .aload 0, .aload_n 0, 0), (97, 3, .getfield 722, .getfield 34, 336), (100, 1, .iload 1, .iload_n 1, 0), (101, 1, .iaload, .iaload, 0), (102, 1, .iastore, .iastore, 0), (103, 1, .aload 0, .aload_n 0, 0), (104, 1, .iconst 0, .iconst 0, 0), (105, 1, .aload 0, .aload_n 0, 0), (106, 3, .getfield 715, .getfield 74, 316), (109, 3, .invokevirtual 185, .invokevirtual 183, 315), (112, 2, .istore 5, .istore 5, 0), (114, 2, .iload 5, .iload 5, 0), (116, 2, .iconst (-9), .bipush (-9), 0), (118, 3, .if_icmp .ge 126, .if_icmp .ge 8, 0), (121, 2, .iconst (-9), .bipush (-9), 0), (123, 3, .goto 140, .goto 17, 0), (126, 2, .iload 5, .iload 5, 0), (128, 2, .iconst 9, .bipush 9, 0), (130, 3, .if_icmp .le 138, .if_icmp .le 8, 0), (133, 2, .iconst 9, .bipush 9, 0), (135, 3, .goto 140, .goto 5, 0), (138, 2, .iload 5, .iload 5, 0), (140, 1, .ireturn, .ireturn, 0)]
def am_pX11_passes : Am_p := [(0, 1, .iconst 0, .iconst 0, 0), (1, 1, .istore 2, .istore_n 2, 0), (2, 1, .iload 2, .iload_n 2, 0), (3, 1, .aload 0, .aload_n 0, 0), (4, 3, .getfield 710, .getfield 84, 275), (7, 3, .if_icmp .ge 111, .if_icmp .ge 104, 0), (10, 1, .aload 0, .aload_n 0, 0), (11, 3, .getfield 725, .getfield 37, 341), (14, 1, .iload 2, .iload_n 2, 0), (15, 1, .iconst 1, .iconst 1, 0), (16, 1, .iastore, .iastore, 0), (17, 1, .iconst 0, .iconst 0, 0), (18, 1, .istore 3, .istore_n 3, 0), (19, 1, .iload 3, .iload_n 3, 0), (20, 1, .aload 0, .aload_n 0, 0), (21, 3, .getfield 710, .getfield 84, 275), (24, 3, .if_icmp .ge 105, .if_icmp .ge 81, 0), (27, 1, .iload 3, .iload_n 3, 0), (28, 1, .iload 2, .iload_n 2, 0), (29, 3, .if_icmp .eq 99, .if_icmp .eq 70, 0), (32, 1, .aload 0, .aload_n 0, 0), (33, 1, .iload 2, .iload_n 2, 0), (34, 1, .iload 3, .iload_n 3, 0), (35, 3, .invokevirtual 213, .invokevirtual 254, 340), (38, 3, .ifCond .eq 99, .ifCond .eq 61, 0), (41, 1, .aload 0, .aload_n 0, 0), (42, 1, .iload 2, .iload_n 2, 0), (43, 1, .iload 3, .iload_n 3, 0), (44, 1, .iload 1, .iload_n 1, 0), (45, 3, .invokevirtual 215, .invokevirtual 257, 342), (48, 2, .istore 4, .istore 4, 0), (50, 1, .aload 0, .aload_n 0, 0), (51, 3, .getfield 725, .getfield 37, 341), (54, 1, .iload 2, .iload_n 2, 0), (55, 1, .dup2, .dup2, 0), (56, 1, .iaload, .iaload, 0), (57, 2, .iload 4, .iload 4, 0), (59, 1, .iadd, .iadd, 0), (60, 1, .iastore, .iastore, 0), (61, 1, .aload 0, .aload_n 0, 0), (62, 1, .dup, .dup, 0), (63, 3, .getfield 723, .getfield 245, 337), (66, 2, .iload 4, .iload 4, 0), (68, 3, .ifCond .ne 75, .ifCond .ne 7, 0), (71, 1, .iconst 0, .iconst 0, 0), (72, 3, .goto 76, .goto 4, 0), (75, 1, .iconst 1, .iconst 1, 0), (76, 1, .iadd, .iadd, 0), (77, 3, .putfield 723, .putfield 245, 337), (80, 1, .aload 0, .aload_n 0, 0), (81, 1, .dup, .dup, 0), (82, 3, .getfield 724, .getfield 248, 338), (85, 1, .iload 2, .iload_n 2, 0), (86, 1, .iload 3, .iload_n 3, 0), (87, 3, .if_icmp .ge 94, .if_icmp .ge 7, 0), (90, 1, .iconst 1, .iconst 1, 0), (91, 3, .goto 95, .goto 4, 0), (94, 1, .iconst 0, .iconst 0, 0), (95, 1, .iadd, .iadd, 0), (96, 3, .putfield 724, .putfield 248, 338), (99, 3, .iinc 3 1, .iinc 3 1, 0), (102, 3, .goto 19, .goto (-83), 0), (105, 3, .iinc 2 1, .iinc 2 1, 0), (108, 3, .goto 2, .goto (-106), 0), (111, 1, .iconst 0, .iconst 0, 0), (112, 1, .istore 2, .istore_n 2, 0), (113, 1, .iload 2, .iload_n 2, 0), (114, 1, .aload 0, .aload_n 0, 0), (115, 3, .getfield 710, .getfield 84, 275), (118, 3, .if_icmp .ge 167, .if_icmp .ge 49, 0), (121, 1, .aload 0, .aload_n 0, 0), (122, 3, .getfield 722, .getfield 34, 336), (125, 1, .iload 2, .iload_n 2, 0), (126, 1, .aload 0, .aload_n 0, 0), (127, 3, .getfield 722, .getfield 34, 336), (130, 1, .iload 2, .iload_n 2, 0), (131, 1, .iaload, .iaload, 0), (132, 1, .aload 0, .aload_n 0, 0), (133, 3, .getfield 725, .getfield 37, 341), (136, 1, .iload 2, .iload_n 2, 0), (137, 1, .iaload, .iaload, 0), (138, 1, .iadd, .iadd, 0), (139, 1, .aload 0, .aload_n 0, 0), (140, 3, .getfield 711, .getfield 22, 280), (143, 1, .iload 2, .iload_n 2, 0), (144, 1, .iaload, .iaload, 0), (145, 1, .irem, .irem, 0), (146, 1, .aload 0, .aload_n 0, 0), (147, 3, .getfield 711, .getfield 22, 280), (150, 1, .iload 2, .iload_n 2, 0), (151, 1, .iaload, .iaload, 0), (152, 1, .iadd, .iadd, 0), (153, 1, .aload 0, .aload_n 0, 0), (154, 3, .getfield 711, .getfield 22, 280), (157, 1, .iload 2, .iload_n 2, 0), (158, 1, .iaload, .iaload, 0), (159, 1, .irem, .irem, 0), (160, 1, .iastore, .iastore, 0), (161, 3, .iinc 2 1, .iinc 2 1, 0), (164, 3, .goto 113, .goto (-51), 0), (167, 1, .return_, .return_, 0)]
def am_pX11_goes : Am_p := [(0, 1, .aload 0, .aload_n 0, 0), (1, 3, .invokevirtual 211, .invokevirtual 261, 343), (4, 1, .iconst 0, .iconst 0, 0), (5, 1, .istore 2, .istore_n 2, 0), (6, 1, .iload 2, .iload_n 2, 0), (7, 1, .iload 1, .iload_n 1, 0), (8, 3, .if_icmp .ge 22, .if_icmp .ge 14, 0), (11, 1, .aload 0, .aload_n 0, 0), (12, 1, .iload 2, .iload_n 2, 0), (13, 3, .invokevirtual 216, .invokevirtual 264, 344), (16, 3, .iinc 2 1, .iinc 2 1, 0), (19, 3, .goto 6, .goto (-13), 0), (22, 1, .return_, .return_, 0)]
def am_pX11_isPushed : Am_p := [(0, 1, .iload 0, .iload_n 0, 0), (1, 1, .i2l, .i2l, 0), (2, 1, .ldc2_w 0, .lconst 0, 0), (3, 3, .ldc2_w 200, .ldc2_w 268, 345), (6, 3, .invokestatic 159, .invokestatic 87, 276), (9, 1, .ireturn, .ireturn, 0)]
def am_pX11_later : Am_p := [(0, 1, .aload 0, .aload_n 0, 0), (1, 1, .iload 1, .iload_n 1, 0), (2, 1, .i2l, .i2l, 0), (3, 3, .invokevirtual 164, .invokevirtual 91, 277), (6, 3, .ifCond .eq 16, .ifCond .eq 10, 0), (9, 1, .iload 2, .iload_n 2, 0), (10, 3, .invokestatic 218, .invokestatic 270, 346), (13, 3, .ifCond .ne 18, .ifCond .ne 5, 0), (16, 1, .iconst (-1), .iconst (-1), 0), (17, 1, .ireturn, .ireturn, 0), (18, 1, .aload 0, .aload_n 0, 0), (19, 1, .iload 2, .iload_n 2, 0), (20, 3, .invokevirtual 217, .invokevirtual 273, 347), (23, 1, .aload 0, .aload_n 0, 0), (24, 3, .getfield 722, .getfield 34, 336), (27, 1, .iload 1, .iload_n 1, 0), (28, 1, .iaload, .iaload, 0), (29, 1, .ireturn, .ireturn, 0)]
def am_pX11_pushes : Am_p := [(0, 1, .iload 1, .iload_n 1, 0), (1, 3, .invokestatic 218, .invokestatic 270, 346), (4, 3, .ifCond .eq 17, .ifCond .eq 13, 0), (7, 1, .iload 2, .iload_n 2, 0), (8, 1, .i2l, .i2l, 0), (9, 1, .ldc2_w 0, .lconst 0, 0), (10, 1, .ldc2_w 1, .lconst 1, 0), (11, 3, .invokestatic 159, .invokestatic 87, 276), (14, 3, .ifCond .ne 19, .ifCond .ne 5, 0), (17, 1, .iconst (-1), .iconst (-1), 0), (18, 1, .ireturn, .ireturn, 0), (19, 1, .aload 0, .aload_n 0, 0), (20, 3, .invokevirtual 211, .invokevirtual 261, 343), (23, 2, .iconst (-2), .bipush (-2), 0), (25, 1, .istore 3, .istore_n 3, 0), (26, 1, .iconst 0, .iconst 0, 0), (27, 2, .istore 4, .istore 4, 0), (29, 2, .iload 4, .iload 4, 0), (31, 1, .iload 1, .iload_n 1, 0), (32, 3, .if_icmp .ge 65, .if_icmp .ge 33, 0), (35, 1, .aload 0, .aload_n 0, 0), (36, 2, .iload 4, .iload 4, 0), (38, 3, .invokevirtual 216, .invokevirtual 264, 344), (41, 1, .iload 3, .iload_n 3, 0), (42, 3, .ifCond .ge 57, .ifCond .ge 15, 0), (45, 1, .aload 0, .aload_n 0, 0), (46, 3, .getfield 723, .getfield 245, 337), (49, 3, .ifCond .le 57, .ifCond .le 8, 0), (52, 2, .iload 4, .iload 4, 0), (54, 3, .goto 58, .goto 4, 0), (57, 1, .iload 3, .iload_n 3, 0), (58, 1, .istore 3, .istore_n 3, 0), (59, 3, .iinc 4 1, .iinc 4 1, 0), (62, 3, .goto 29, .goto (-33), 0), (65, 1, .iload 2, .iload_n 2, 0), (66, 3, .ifCond .ne 76, .ifCond .ne 10, 0), (69, 1, .aload 0, .aload_n 0, 0), (70, 3, .getfield 723, .getfield 245, 337), (73, 3, .goto 77, .goto 4, 0), (76, 1, .iload 3, .iload_n 3, 0), (77, 1, .ireturn, .ireturn, 0)]
def am_pX11_met : Am_p := [(0, 1, .aload 0, .aload_n 0, 0), (1, 1, .iload 1, .iload_n 1, 0), (2, 3, .invokevirtual 165, .invokevirtual 112, 288), (5, 3, .ifCond .eq 15, .ifCond .eq 10, 0), (8, 1, .iload 2, .iload_n 2, 0), (9, 3, .invokestatic 218, .invokestatic 270, 346), (12, 3, .ifCond .ne 17, .ifCond .ne 5, 0), (15, 1, .iconst (-1), .iconst (-1), 0), (16, 1, .ireturn, .ireturn, 0), (17, 1, .aload 0, .aload_n 0, 0), (18, 3, .invokevirtual 211, .invokevirtual 261, 343), (21, 1, .iconst 0, .iconst 0, 0), (22, 1, .istore 3, .istore_n 3, 0), (23, 1, .iconst 0, .iconst 0, 0), (24, 2, .istore 4, .istore 4, 0), (26, 2, .iload 4, .iload 4, 0), (28, 1, .iload 2, .iload_n 2, 0), (29, 3, .if_icmp .ge 67, .if_icmp .ge 38, 0), (32, 1, .iload 3, .iload_n 3, 0), (33, 1, .aload 0, .aload_n 0, 0), (34, 1, .iload 1, .iload_n 1, 0), (35, 2, .iconst 10, .bipush 10, 0), (37, 1, .idiv, .idiv, 0), (38, 1, .iload 1, .iload_n 1, 0), (39, 2, .iconst 10, .bipush 10, 0), (41, 1, .irem, .irem, 0), (42, 3, .invokevirtual 213, .invokevirtual 254, 340), (45, 3, .ifCond .eq 52, .ifCond .eq 7, 0), (48, 1, .iconst 1, .iconst 1, 0), (49, 3, .goto 53, .goto 4, 0), (52, 1, .iconst 0, .iconst 0, 0), (53, 1, .iadd, .iadd, 0), (54, 1, .istore 3, .istore_n 3, 0), (55, 1, .aload 0, .aload_n 0, 0), (56, 2, .iload 4, .iload 4, 0), (58, 3, .invokevirtual 216, .invokevirtual 264, 344), (61, 3, .iinc 4 1, .iinc 4 1, 0), (64, 3, .goto 26, .goto (-38), 0), (67, 1, .iload 3, .iload_n 3, 0), (68, 1, .ireturn, .ireturn, 0)]
def am_pX11_stoodAs : Am_p := [(0, 1, .iconst 0, .iconst 0, 0), (1, 1, .istore 3, .istore_n 3, 0), (2, 1, .iload 3, .iload_n 3, 0), (3, 1, .aload 0, .aload_n 0, 0), (4, 3, .getfield 710, .getfield 84, 275), (7, 3, .if_icmp .ge 43, .if_icmp .ge 36, 0), (10, 1, .aload 0, .aload_n 0, 0), (11, 3, .getfield 726, .getfield 40, 348), (14, 2, .iconst 8, .bipush 8, 0), (16, 1, .iload 1, .iload_n 1, 0), (17, 1, .imul, .imul, 0), (18, 1, .iload 3, .iload_n 3, 0), (19, 1, .iadd, .iadd, 0), (20, 1, .iaload, .iaload, 0), (21, 1, .aload 0, .aload_n 0, 0), (22, 3, .getfield 726, .getfield 40, 348), (25, 2, .iconst 8, .bipush 8, 0), (27, 1, .iload 2, .iload_n 2, 0), (28, 1, .imul, .imul, 0), (29, 1, .iload 3, .iload_n 3, 0), (30, 1, .iadd, .iadd, 0), (31, 1, .iaload, .iaload, 0), (32, 3, .if_icmp .eq 37, .if_icmp .eq 5, 0), (35, 1, .iconst 0, .iconst 0, 0), (36, 1, .ireturn, .ireturn, 0), (37, 3, .iinc 3 1, .iinc 3 1, 0), (40, 3, .goto 2, .goto (-38), 0), (43, 1, .iconst 1, .iconst 1, 0), (44, 1, .ireturn, .ireturn, 0)]
def am_pX11_again : Am_p := [(0, 1, .iload 1, .iload_n 1, 0), (1, 1, .i2l, .i2l, 0), (2, 1, .ldc2_w 0, .lconst 0, 0), (3, 1, .ldc2_w 1, .lconst 1, 0), (4, 3, .invokestatic 159, .invokestatic 87, 276), (7, 3, .ifCond .ne 12, .ifCond .ne 5, 0), (10, 1, .iconst (-1), .iconst (-1), 0), (11, 1, .ireturn, .ireturn, 0), (12, 1, .aload 0, .aload_n 0, 0), (13, 3, .invokevirtual 211, .invokevirtual 261, 343), (16, 1, .iconst 0, .iconst 0, 0), (17, 1, .istore 2, .istore_n 2, 0), (18, 1, .iload 2, .iload_n 2, 0), (19, 3, .iconst 300, .sipush 300, 0), (22, 3, .if_icmp .gt 101, .if_icmp .gt 79, 0), (25, 1, .iconst 0, .iconst 0, 0), (26, 1, .istore 3, .istore_n 3, 0), (27, 1, .iload 3, .iload_n 3, 0), (28, 1, .aload 0, .aload_n 0, 0), (29, 3, .getfield 710, .getfield 84, 275), (32, 3, .if_icmp .ge 58, .if_icmp .ge 26, 0), (35, 1, .aload 0, .aload_n 0, 0), (36, 3, .getfield 726, .getfield 40, 348), (39, 2, .iconst 8, .bipush 8, 0), (41, 1, .iload 2, .iload_n 2, 0), (42, 1, .imul, .imul, 0), (43, 1, .iload 3, .iload_n 3, 0), (44, 1, .iadd, .iadd, 0), (45, 1, .aload 0, .aload_n 0, 0), (46, 3, .getfield 722, .getfield 34, 336), (49, 1, .iload 3, .iload_n 3, 0), (50, 1, .iaload, .iaload, 0), (51, 1, .iastore, .iastore, 0), (52, 3, .iinc 3 1, .iinc 3 1, 0), (55, 3, .goto 27, .goto (-28), 0), (58, 1, .iconst 0, .iconst 0, 0), (59, 1, .istore 3, .istore_n 3, 0), (60, 1, .iload 3, .iload_n 3, 0), (61, 1, .iload 2, .iload_n 2, 0), (62, 3, .if_icmp .ge 90, .if_icmp .ge 28, 0), (65, 1, .aload 0, .aload_n 0, 0), (66, 1, .iload 2, .iload_n 2, 0), (67, 1, .iload 3, .iload_n 3, 0), (68, 3, .invokevirtual 222, .invokevirtual 276, 349), (71, 3, .ifCond .eq 84, .ifCond .eq 13, 0), (74, 1, .iload 1, .iload_n 1, 0), (75, 3, .ifCond .ne 82, .ifCond .ne 7, 0), (78, 1, .iload 2, .iload_n 2, 0), (79, 3, .goto 83, .goto 4, 0), (82, 1, .iload 3, .iload_n 3, 0), (83, 1, .ireturn, .ireturn, 0), (84, 3, .iinc 3 1, .iinc 3 1, 0), (87, 3, .goto 60, .goto (-27), 0), (90, 1, .aload 0, .aload_n 0, 0), (91, 1, .iload 2, .iload_n 2, 0), (92, 3, .invokevirtual 216, .invokevirtual 264, 344), (95, 3, .iinc 2 1, .iinc 2 1, 0), (98, 3, .goto 18, .goto (-80), 0), (101, 2, .iconst (-2), .bipush (-2), 0), (103, 1, .ireturn, .ireturn, 0)]
def am_pX11_bytesIs : Am_p := [(0, 1, .iload 1, .iload_n 1, 0), (1, 3, .invokestatic 250, .invokestatic 106, 283), (4, 3, .ifCond .ne 11, .ifCond .ne 7, 0), (7, 1, .iconst (-1), .iconst (-1), 0), (8, 3, .goto 42, .goto 34, 0), (11, 1, .aload 0, .aload_n 0, 0), (12, 3, .getfield 739, .getfield 61, 285), (15, 1, .iload 1, .iload_n 1, 0), (16, 1, .iaload, .iaload, 0), (17, 3, .ifCond .ge 25, .ifCond .ge 8, 0), (20, 2, .iconst (-11), .bipush (-11), 0), (22, 3, .goto 42, .goto 20, 0), (25, 1, .aload 0, .aload_n 0, 0), (26, 3, .getfield 739, .getfield 61, 285), (29, 1, .iload 1, .iload_n 1, 0), (30, 1, .iaload, .iaload, 0), (31, 2, .iconst 50, .bipush 50, 0), (33, 3, .if_icmp .ne 40, .if_icmp .ne 7, 0), (36, 1, .iconst 1, .iconst 1, 0), (37, 3, .goto 42, .goto 5, 0), (40, 2, .iconst (-12), .bipush (-12), 0), (42, 1, .ireturn, .ireturn, 0)]
def am_pX11_firstFalse : Am_p := [(0, 1, .aload 0, .aload_n 0, 0), (1, 3, .invokevirtual 211, .invokevirtual 261, 343), (4, 1, .iconst 0, .iconst 0, 0), (5, 1, .istore 3, .istore_n 3, 0), (6, 1, .iload 3, .iload_n 3, 0), (7, 1, .aload 0, .aload_n 0, 0), (8, 3, .getfield 740, .getfield 64, 286), (11, 1, .iload 1, .iload_n 1, 0), (12, 1, .iaload, .iaload, 0), (13, 3, .if_icmp .ge 51, .if_icmp .ge 38, 0), (16, 1, .aload 0, .aload_n 0, 0), (17, 1, .iload 3, .iload_n 3, 0), (18, 3, .invokevirtual 216, .invokevirtual 264, 344), (21, 1, .aload 0, .aload_n 0, 0), (22, 3, .getfield 741, .getfield 67, 287), (25, 2, .iconst 60, .bipush 60, 0), (27, 1, .iload 1, .iload_n 1, 0), (28, 1, .imul, .imul, 0), (29, 1, .iload 3, .iload_n 3, 0), (30, 1, .iadd, .iadd, 0), (31, 1, .laload, .laload, 0), (32, 1, .aload 0, .aload_n 0, 0), (33, 3, .getfield 722, .getfield 34, 336), (36, 1, .iload 2, .iload_n 2, 0), (37, 1, .iaload, .iaload, 0), (38, 1, .i2l, .i2l, 0), (39, 1, .lcmp, .lcmp, 0), (40, 3, .ifCond .eq 45, .ifCond .eq 5, 0), (43, 1, .iload 3, .iload_n 3, 0), (44, 1, .ireturn, .ireturn, 0), (45, 3, .iinc 3 1, .iinc 3 1, 0), (48, 3, .goto 6, .goto (-42), 0), (51, 2, .iconst (-2), .bipush (-2), 0), (53, 1, .ireturn, .ireturn, 0)]
def am_pX11_judge : Am_p := [(0, 1, .aload 0, .aload_n 0, 0), (1, 1, .iload 1, .iload_n 1, 0), (2, 3, .invokevirtual 224, .invokevirtual 279, 350), (5, 1, .iconst (-1), .iconst (-1), 0), (6, 3, .if_icmp .eq 18, .if_icmp .eq 12, 0), (9, 1, .aload 0, .aload_n 0, 0), (10, 1, .iload 2, .iload_n 2, 0), (11, 1, .i2l, .i2l, 0), (12, 3, .invokevirtual 164, .invokevirtual 91, 277), (15, 3, .ifCond .ne 22, .ifCond .ne 7, 0), (18, 1, .iconst (-1), .iconst (-1), 0), (19, 3, .goto 44, .goto 25, 0), (22, 1, .aload 0, .aload_n 0, 0), (23, 1, .iload 1, .iload_n 1, 0), (24, 3, .invokevirtual 224, .invokevirtual 279, 350), (27, 3, .ifCond .ge 38, .ifCond .ge 11, 0), (30, 1, .aload 0, .aload_n 0, 0), (31, 1, .iload 1, .iload_n 1, 0), (32, 3, .invokevirtual 224, .invokevirtual 279, 350), (35, 3, .goto 44, .goto 9, 0), (38, 1, .aload 0, .aload_n 0, 0), (39, 1, .iload 1, .iload_n 1, 0), (40, 1, .iload 2, .iload_n 2, 0), (41, 3, .invokevirtual 225, .invokevirtual 282, 351), (44, 1, .ireturn, .ireturn, 0)]
def am_pX11_liking : Am_p := [(0, 1, .aload 0, .aload_n 0, 0), (1, 1, .iload 1, .iload_n 1, 0), (2, 3, .invokevirtual 224, .invokevirtual 279, 350), (5, 3, .ifCond .lt 36, .ifCond .lt 31, 0), (8, 1, .aload 0, .aload_n 0, 0), (9, 1, .iload 2, .iload_n 2, 0), (10, 3, .invokevirtual 165, .invokevirtual 112, 288), (13, 3, .ifCond .eq 36, .ifCond .eq 23, 0), (16, 1, .aload 0, .aload_n 0, 0), (17, 1, .iload 3, .iload_n 3, 0), (18, 1, .i2l, .i2l, 0), (19, 3, .invokevirtual 164, .invokevirtual 91, 277), (22, 3, .ifCond .eq 36, .ifCond .eq 14, 0), (25, 2, .iload 4, .iload 4, 0), (27, 1, .i2l, .i2l, 0), (28, 1, .ldc2_w 0, .lconst 0, 0), (29, 1, .ldc2_w 1, .lconst 1, 0), (30, 3, .invokestatic 159, .invokestatic 87, 276), (33, 3, .ifCond .ne 39, .ifCond .ne 6, 0), (36, 2, .iconst (-2000000000), .ldc 130, 294), (38, 1, .ireturn, .ireturn, 0), (39, 2, .iconst 16, .bipush 16, 0), (41, 2, .iconst 8, .bipush 8, 0), (43, 1, .iload 2, .iload_n 2, 0), (44, 2, .iconst 10, .bipush 10, 0), (46, 1, .idiv, .idiv, 0), (47, 1, .imul, .imul, 0), (48, 1, .iadd, .iadd, 0), (49, 1, .iload 2, .iload_n 2, 0), (50, 2, .iconst 10, .bipush 10, 0), (52, 1, .irem, .irem, 0), (53, 1, .iadd, .iadd, 0), (54, 2, .istore 5, .istore 5, 0), (56, 1, .aload 0, .aload_n 0, 0), (57, 3, .getfield 704, .getfield 9, 269), (60, 2, .iload 5, .iload 5, 0), (62, 1, .iaload, .iaload, 0), (63, 2, .istore 6, .istore 6, 0), (65, 1, .iconst 0, .iconst 0, 0), (66, 2, .istore 7, .istore 7, 0), (68, 2, .iconst (-99), .bipush (-99), 0), (70, 2, .istore 8, .istore 8, 0), (72, 2, .iconst (-9), .bipush (-9), 0), (74, 2, .istore 9, .istore 9, 0), (76, 2, .iload 9, .iload 9, 0), (78, 2, .iconst 9, .bipush 9, 0), (80, 3, .if_icmp .gt 126, .if_icmp .gt 46, 0), (83, 1, .aload 0, .aload_n 0, 0), (84, 3, .getfield 704, .getfield 9, 269), (87, 2, .iload 5, .iload 5, 0), (89, 2, .iload 9, .iload 9, 0), (91, 1, .iastore, .iastore, 0), (92, 1, .aload 0, .aload_n 0, 0), (93, 1, .iload 1, .iload_n 1, 0), (94, 1, .iload 3, .iload_n 3, 0), (95, 3, .invokevirtual 225, .invokevirtual 282, 351), (98, 2, .iconst (-2), .bipush (-2), 0), (100, 3, .if_icmp .ne 120, .if_icmp .ne 20, 0), (103, 2, .iload 7, .iload 7, 0), (105, 3, .ifCond .ne 113, .ifCond .ne 8, 0), (108, 2, .iload 9, .iload 9, 0), (110, 3, .goto 115, .goto 5, 0), (113, 2, .iload 8, .iload 8, 0), (115, 2, .istore 8, .istore 8, 0), (117, 3, .iinc 7 1, .iinc 7 1, 0), (120, 3, .iinc 9 1, .iinc 9 1, 0), (123, 3, .goto 76, .goto (-47), 0), (126, 1, .aload 0, .aload_n 0, 0), (127, 3, .getfield 704, .getfield 9, 269), (130, 2, .iload 5, .iload 5, 0), (132, 2, .iload 6, .iload 6, 0), (134, 1, .iastore, .iastore, 0), (135, 2, .iload 4, .iload 4, 0), (137, 3, .ifCond .ne 145, .ifCond .ne 8, 0), (140, 2, .iload 7, .iload 7, 0), (142, 3, .goto 147, .goto 5, 0), (145, 2, .iload 8, .iload 8, 0), (147, 1, .ireturn, .ireturn, 0)]
def am_pX11_whose : Am_p := [(0, 1, .aload 0, .aload_n 0, 0), (1, 1, .iload 1, .iload_n 1, 0), (2, 3, .invokevirtual 224, .invokevirtual 279, 350), (5, 3, .ifCond .ge 14, .ifCond .ge 9, 0), (8, 1, .aload 0, .aload_n 0, 0), (9, 1, .iload 1, .iload_n 1, 0), (10, 3, .invokevirtual 224, .invokevirtual 279, 350), (13, 1, .ireturn, .ireturn, 0), (14, 1, .iconst 0, .iconst 0, 0), (15, 1, .istore 2, .istore_n 2, 0), (16, 1, .iconst 0, .iconst 0, 0), (17, 1, .istore 3, .istore_n 3, 0), (18, 1, .iload 3, .iload_n 3, 0), (19, 1, .aload 0, .aload_n 0, 0), (20, 3, .getfield 710, .getfield 84, 275), (23, 3, .if_icmp .ge 53, .if_icmp .ge 30, 0), (26, 1, .iload 2, .iload_n 2, 0), (27, 1, .aload 0, .aload_n 0, 0), (28, 1, .iload 1, .iload_n 1, 0), (29, 1, .iload 3, .iload_n 3, 0), (30, 3, .invokevirtual 225, .invokevirtual 282, 351), (33, 2, .iconst (-2), .bipush (-2), 0), (35, 3, .if_icmp .ne 44, .if_icmp .ne 9, 0), (38, 1, .iconst 1, .iconst 1, 0), (39, 1, .iload 3, .iload_n 3, 0), (40, 1, .ishl, .ishl, 0), (41, 3, .goto 45, .goto 4, 0), (44, 1, .iconst 0, .iconst 0, 0), (45, 1, .ior, .ior, 0), (46, 1, .istore 2, .istore_n 2, 0), (47, 3, .iinc 3 1, .iinc 3 1, 0), (50, 3, .goto 18, .goto (-32), 0), (53, 1, .iload 2, .iload_n 2, 0), (54, 1, .ireturn, .ireturn, 0)]
def am_pX11_byTurns : Am_p := [(0, 1, .aload 0, .aload_n 0, 0), (1, 1, .iload 1, .iload_n 1, 0), (2, 3, .invokevirtual 165, .invokevirtual 112, 288), (5, 3, .ifCond .eq 47, .ifCond .eq 42, 0), (8, 1, .iload 2, .iload_n 2, 0), (9, 3, .invokestatic 187, .invokestatic 202, 322), (12, 3, .ifCond .eq 47, .ifCond .eq 35, 0), (15, 1, .iload 3, .iload_n 3, 0), (16, 3, .ifCond .lt 47, .ifCond .lt 31, 0), (19, 1, .iload 3, .iload_n 3, 0), (20, 2, .iconst 10, .bipush 10, 0), (22, 1, .idiv, .idiv, 0), (23, 1, .i2l, .i2l, 0), (24, 1, .ldc2_w 1, .lconst 1, 0), (25, 3, .ldc2_w 6, .ldc2_w 285, 352), (28, 3, .invokestatic 159, .invokestatic 87, 276), (31, 3, .ifCond .eq 47, .ifCond .eq 16, 0), (34, 1, .iload 3, .iload_n 3, 0), (35, 2, .iconst 10, .bipush 10, 0), (37, 1, .irem, .irem, 0), (38, 1, .i2l, .i2l, 0), (39, 1, .ldc2_w 0, .lconst 0, 0), (40, 1, .ldc2_w 1, .lconst 1, 0), (41, 3, .invokestatic 159, .invokestatic 87, 276), (44, 3, .ifCond .ne 50, .ifCond .ne 6, 0), (47, 2, .iconst (-2000000000), .ldc 130, 294), (49, 1, .ireturn, .ireturn, 0), (50, 1, .iload 3, .iload_n 3, 0), (51, 2, .iconst 10, .bipush 10, 0), (53, 1, .idiv, .idiv, 0), (54, 2, .istore 4, .istore 4, 0), (56, 2, .iconst 13, .bipush 13, 0), (58, 2, .istore 5, .istore 5, 0), (60, 1, .iconst (-1), .iconst (-1), 0), (61, 2, .istore 6, .istore 6, 0), (63, 2, .iload 4, .iload 4, 0), (65, 2, .istore 7, .istore 7, 0), (67, 2, .iload 7, .iload 7, 0), (69, 3, .ifCond .lt 270, .ifCond .lt 201, 0), (72, 2, .iload 7, .iload 7, 0), (74, 1, .ineg, .ineg, 0), (75, 2, .istore 8, .istore 8, 0), (77, 2, .iload 8, .iload 8, 0), (79, 2, .iload 7, .iload 7, 0), (81, 3, .if_icmp .gt 264, .if_icmp .gt 183, 0), (84, 1, .iconst 0, .iconst 0, 0), (85, 2, .istore 9, .istore 9, 0), (87, 2, .iload 7, .iload 7, 0), (89, 2, .iload 4, .iload 4, 0), (91, 3, .if_icmp .ne 123, .if_icmp .ne 32, 0), (94, 1, .aload 0, .aload_n 0, 0), (95, 1, .iload 1, .iload_n 1, 0), (96, 2, .iconst 10, .bipush 10, 0), (98, 1, .idiv, .idiv, 0), (99, 1, .iload 1, .iload_n 1, 0), (100, 2, .iconst 10, .bipush 10, 0), (102, 1, .irem, .irem, 0), (103, 2, .iload 8, .iload 8, 0), (105, 1, .iload 2, .iload_n 2, 0), (106, 1, .i2l, .i2l, 0), (107, 3, .invokevirtual 206, .invokevirtual 238, 334), (110, 3, .ifCond .eq 117, .ifCond .eq 7, 0), (113, 1, .iconst 1, .iconst 1, 0), (114, 3, .goto 118, .goto 4, 0), (117, 1, .iconst 0, .iconst 0, 0), (118, 2, .istore 9, .istore 9, 0), (120, 3, .goto 240, .goto 120, 0), (123, 1, .aload 0, .aload_n 0, 0), (124, 3, .getfield 727, .getfield 43, 353), (127, 2, .iload 5, .iload 5, 0), (129, 2, .iload 7, .iload 7, 0), (131, 1, .iconst 1, .iconst 1, 0), (132, 1, .iadd, .iadd, 0), (133, 1, .imul, .imul, 0), (134, 2, .iconst 6, .bipush 6, 0), (136, 1, .iadd, .iadd, 0), (137, 2, .iload 8, .iload 8, 0), (139, 1, .iadd, .iadd, 0), (140, 1, .iconst 1, .iconst 1, 0), (141, 1, .isub, .isub, 0), (142, 1, .iaload, .iaload, 0), (143, 2, .istore 10, .istore 10, 0), (145, 1, .aload 0, .aload_n 0, 0), (146, 3, .getfield 727, .getfield 43, 353), (149, 2, .iload 5, .iload 5, 0), (151, 2, .iload 7, .iload 7, 0), (153, 1, .iconst 1, .iconst 1, 0), (154, 1, .iadd, .iadd, 0), (155, 1, .imul, .imul, 0), (156, 2, .iconst 6, .bipush 6, 0), (158, 1, .iadd, .iadd, 0), (159, 2, .iload 8, .iload 8, 0), (161, 1, .iadd, .iadd, 0), (162, 1, .iaload, .iaload, 0), (163, 2, .istore 11, .istore 11, 0), (165, 1, .aload 0, .aload_n 0, 0), (166, 3, .getfield 727, .getfield 43, 353), (169, 2, .iload 5, .iload 5, 0), (171, 2, .iload 7, .iload 7, 0), (173, 1, .iconst 1, .iconst 1, 0), (174, 1, .iadd, .iadd, 0), (175, 1, .imul, .imul, 0), (176, 2, .iconst 6, .bipush 6, 0), (178, 1, .iadd, .iadd, 0), (179, 2, .iload 8, .iload 8, 0), (181, 1, .iadd, .iadd, 0), (182, 1, .iconst 1, .iconst 1, 0), (183, 1, .iadd, .iadd, 0), (184, 1, .iaload, .iaload, 0), (185, 2, .istore 12, .istore 12, 0), (187, 2, .iload 7, .iload 7, 0), (189, 1, .iconst 2, .iconst 2, 0), (190, 1, .irem, .irem, 0), (191, 3, .ifCond .ne 205, .ifCond .ne 14, 0), (194, 2, .iload 10, .iload 10, 0), (196, 2, .iload 11, .iload 11, 0), (198, 1, .ior, .ior, 0), (199, 2, .iload 12, .iload 12, 0), (201, 1, .ior, .ior, 0), (202, 3, .goto 213, .goto 11, 0), (205, 2, .iload 10, .iload 10, 0), (207, 2, .iload 11, .iload 11, 0), (209, 1, .iand, .iand, 0), (210, 2, .iload 12, .iload 12, 0), (212, 1, .iand, .iand, 0), (213, 2, .istore 9, .istore 9, 0), (215, 2, .iload 10, .iload 10, 0), (217, 2, .iload 9, .iload 9, 0), (219, 3, .if_icmp .ne 226, .if_icmp .ne 7, 0), (222, 1, .iconst (-1), .iconst (-1), 0), (223, 3, .goto 238, .goto 15, 0), (226, 2, .iload 11, .iload 11, 0), (228, 2, .iload 9, .iload 9, 0), (230, 3, .if_icmp .ne 237, .if_icmp .ne 7, 0), (233, 1, .iconst 0, .iconst 0, 0), (234, 3, .goto 238, .goto 4, 0), (237, 1, .iconst 1, .iconst 1, 0), (238, 2, .istore 6, .istore 6, 0), (240, 1, .aload 0, .aload_n 0, 0), (241, 3, .getfield 727, .getfield 43, 353), (244, 2, .iload 5, .iload 5, 0), (246, 2, .iload 7, .iload 7, 0), (248, 1, .imul, .imul, 0), (249, 2, .iconst 6, .bipush 6, 0), (251, 1, .iadd, .iadd, 0), (252, 2, .iload 8, .iload 8, 0), (254, 1, .iadd, .iadd, 0), (255, 2, .iload 9, .iload 9, 0), (257, 1, .iastore, .iastore, 0), (258, 3, .iinc 8 1, .iinc 8 1, 0), (261, 3, .goto 77, .goto (-184), 0), (264, 3, .iinc 7 (-1), .iinc 7 (-1), 0), (267, 3, .goto 67, .goto (-200), 0), (270, 1, .iload 3, .iload_n 3, 0), (271, 2, .iconst 10, .bipush 10, 0), (273, 1, .irem, .irem, 0), (274, 3, .ifCond .ne 287, .ifCond .ne 13, 0), (277, 1, .aload 0, .aload_n 0, 0), (278, 3, .getfield 727, .getfield 43, 353), (281, 2, .iconst 6, .bipush 6, 0), (283, 1, .iaload, .iaload, 0), (284, 3, .goto 289, .goto 5, 0), (287, 2, .iload 6, .iload 6, 0), (289, 1, .ireturn, .ireturn, 0)]
def am_pX11_crowd : Am_p := [(0, 1, .aload 0, .aload_n 0, 0), (1, 1, .iload 1, .iload_n 1, 0), (2, 1, .i2l, .i2l, 0), (3, 3, .invokevirtual 164, .invokevirtual 91, 277), (6, 3, .ifCond .eq 26, .ifCond .eq 20, 0), (9, 1, .iload 2, .iload_n 2, 0), (10, 3, .invokestatic 187, .invokestatic 202, 322), (13, 3, .ifCond .eq 26, .ifCond .eq 13, 0), (16, 1, .iload 3, .iload_n 3, 0), (17, 1, .i2l, .i2l, 0), (18, 1, .ldc2_w 0, .lconst 0, 0), (19, 1, .ldc2_w 1, .lconst 1, 0), (20, 3, .invokestatic 159, .invokestatic 87, 276), (23, 3, .ifCond .ne 28, .ifCond .ne 5, 0), (26, 1, .iconst (-1), .iconst (-1), 0), (27, 1, .ireturn, .ireturn, 0), (28, 1, .iconst 0, .iconst 0, 0), (29, 2, .istore 4, .istore 4, 0), (31, 1, .iconst 0, .iconst 0, 0), (32, 2, .istore 5, .istore 5, 0), (34, 1, .iconst 0, .iconst 0, 0), (35, 2, .istore 6, .istore 6, 0), (37, 2, .iload 6, .iload 6, 0), (39, 1, .aload 0, .aload_n 0, 0), (40, 3, .getfield 710, .getfield 84, 275), (43, 3, .if_icmp .ge 82, .if_icmp .ge 39, 0), (46, 2, .iload 6, .iload 6, 0), (48, 1, .iload 1, .iload_n 1, 0), (49, 3, .if_icmp .eq 76, .if_icmp .eq 27, 0), (52, 1, .aload 0, .aload_n 0, 0), (53, 1, .iload 1, .iload_n 1, 0), (54, 2, .iload 6, .iload 6, 0), (56, 1, .iload 2, .iload_n 2, 0), (57, 1, .i2l, .i2l, 0), (58, 3, .invokevirtual 192, .invokevirtual 205, 323), (61, 3, .ifCond .eq 76, .ifCond .eq 15, 0), (64, 3, .iinc 4 1, .iinc 4 1, 0), (67, 2, .iload 5, .iload 5, 0), (69, 1, .iconst 1, .iconst 1, 0), (70, 2, .iload 6, .iload 6, 0), (72, 1, .ishl, .ishl, 0), (73, 1, .ior, .ior, 0), (74, 2, .istore 5, .istore 5, 0), (76, 3, .iinc 6 1, .iinc 6 1, 0), (79, 3, .goto 37, .goto (-42), 0), (82, 1, .iload 3, .iload_n 3, 0), (83, 3, .ifCond .ne 91, .ifCond .ne 8, 0), (86, 2, .iload 4, .iload 4, 0), (88, 3, .goto 93, .goto 5, 0), (91, 2, .iload 5, .iload 5, 0), (93, 1, .ireturn, .ireturn, 0)]
def am_pX11_gapBehind : Am_p := [(0, 1, .aload 0, .aload_n 0, 0), (1, 1, .iload 2, .iload_n 2, 0), (2, 1, .aload 0, .aload_n 0, 0), (3, 1, .iload 2, .iload_n 2, 0), (4, 1, .iload 3, .iload_n 3, 0), (5, 1, .i2l, .i2l, 0), (6, 3, .invokevirtual 188, .invokevirtual 188, 318), (9, 3, .invokevirtual 189, .invokevirtual 192, 319), (12, 2, .istore 4, .istore 4, 0), (14, 3, .iconst 360, .sipush 360, 0), (17, 2, .istore 5, .istore 5, 0), (19, 1, .iconst 0, .iconst 0, 0), (20, 2, .istore 6, .istore 6, 0), (22, 2, .iload 6, .iload 6, 0), (24, 1, .aload 0, .aload_n 0, 0), (25, 3, .getfield 710, .getfield 84, 275), (28, 3, .if_icmp .ge 94, .if_icmp .ge 66, 0), (31, 1, .iload 1, .iload_n 1, 0), (32, 2, .iload 6, .iload 6, 0), (34, 3, .invokestatic 160, .invokestatic 219, 328), (37, 3, .ifCond .eq 88, .ifCond .eq 51, 0), (40, 1, .aload 0, .aload_n 0, 0), (41, 2, .iload 6, .iload 6, 0), (43, 1, .aload 0, .aload_n 0, 0), (44, 2, .iload 6, .iload 6, 0), (46, 1, .iload 3, .iload_n 3, 0), (47, 1, .i2l, .i2l, 0), (48, 3, .invokevirtual 188, .invokevirtual 188, 318), (51, 3, .invokevirtual 189, .invokevirtual 192, 319), (54, 2, .iload 4, .iload 4, 0), (56, 1, .isub, .isub, 0), (57, 3, .iconst 360, .sipush 360, 0), (60, 1, .iadd, .iadd, 0), (61, 3, .iconst 360, .sipush 360, 0), (64, 1, .irem, .irem, 0), (65, 2, .istore 7, .istore 7, 0), (67, 2, .iload 7, .iload 7, 0), (69, 3, .ifCond .le 84, .ifCond .le 15, 0), (72, 2, .iload 7, .iload 7, 0), (74, 2, .iload 5, .iload 5, 0), (76, 3, .if_icmp .ge 84, .if_icmp .ge 8, 0), (79, 2, .iload 7, .iload 7, 0), (81, 3, .goto 86, .goto 5, 0), (84, 2, .iload 5, .iload 5, 0), (86, 2, .istore 5, .istore 5, 0), (88, 3, .iinc 6 1, .iinc 6 1, 0), (91, 3, .goto 22, .goto (-69), 0), (94, 2, .iload 5, .iload 5, 0), (96, 1, .ireturn, .ireturn, 0)]
def am_pX11_arc : Am_p := [(0, 1, .aload 0, .aload_n 0, 0), (1, 1, .iload 1, .iload_n 1, 0), (2, 3, .invokevirtual 198, .invokevirtual 212, 326), (5, 3, .ifCond .eq 15, .ifCond .eq 10, 0), (8, 1, .iload 2, .iload_n 2, 0), (9, 3, .invokestatic 187, .invokestatic 202, 322), (12, 3, .ifCond .ne 17, .ifCond .ne 5, 0), (15, 1, .iconst (-1), .iconst (-1), 0), (16, 1, .ireturn, .ireturn, 0), (17, 1, .iconst 0, .iconst 0, 0), (18, 1, .istore 3, .istore_n 3, 0), (19, 1, .iconst 0, .iconst 0, 0), (20, 2, .istore 4, .istore 4, 0), (22, 2, .iload 4, .iload 4, 0), (24, 1, .aload 0, .aload_n 0, 0), (25, 3, .getfield 710, .getfield 84, 275), (28, 3, .if_icmp .ge 69, .if_icmp .ge 41, 0), (31, 1, .iload 1, .iload_n 1, 0), (32, 2, .iload 4, .iload 4, 0), (34, 3, .invokestatic 160, .invokestatic 219, 328), (37, 3, .ifCond .eq 63, .ifCond .eq 26, 0), (40, 1, .aload 0, .aload_n 0, 0), (41, 1, .iload 1, .iload_n 1, 0), (42, 2, .iload 4, .iload 4, 0), (44, 1, .iload 2, .iload_n 2, 0), (45, 3, .invokevirtual 231, .invokevirtual 287, 354), (48, 2, .istore 5, .istore 5, 0), (50, 2, .iload 5, .iload 5, 0), (52, 1, .iload 3, .iload_n 3, 0), (53, 3, .if_icmp .le 61, .if_icmp .le 8, 0), (56, 2, .iload 5, .iload 5, 0), (58, 3, .goto 62, .goto 4, 0), (61, 1, .iload 3, .iload_n 3, 0), (62, 1, .istore 3, .istore_n 3, 0), (63, 3, .iinc 4 1, .iinc 4 1, 0), (66, 3, .goto 22, .goto (-44), 0), (69, 1, .iload 3, .iload_n 3, 0), (70, 3, .ifCond .ne 77, .ifCond .ne 7, 0), (73, 1, .iconst 0, .iconst 0, 0), (74, 3, .goto 82, .goto 8, 0), (77, 3, .iconst 360, .sipush 360, 0), (80, 1, .iload 3, .iload_n 3, 0), (81, 1, .isub, .isub, 0), (82, 1, .ireturn, .ireturn, 0)]
def am_pX11_drawn : Am_p := [(0, 1, .iload 2, .iload_n 2, 0), (1, 3, .ifCond .lt 67, .ifCond .lt 66, 0), (4, 1, .iload 2, .iload_n 2, 0), (5, 3, .iconst 10000, .sipush 10000, 0), (8, 1, .idiv, .idiv, 0), (9, 1, .i2l, .i2l, 0), (10, 1, .ldc2_w 1, .lconst 1, 0), (11, 3, .ldc2_w 30, .ldc2_w 290, 355), (14, 3, .invokestatic 159, .invokestatic 87, 276), (17, 3, .ifCond .eq 67, .ifCond .eq 50, 0), (20, 1, .iload 2, .iload_n 2, 0), (21, 2, .iconst 100, .bipush 100, 0), (23, 1, .idiv, .idiv, 0), (24, 2, .iconst 100, .bipush 100, 0), (26, 1, .irem, .irem, 0), (27, 1, .i2l, .i2l, 0), (28, 1, .ldc2_w 1, .lconst 1, 0), (29, 3, .ldc2_w 60, .ldc2_w 95, 278), (32, 3, .invokestatic 159, .invokestatic 87, 276), (35, 3, .ifCond .eq 67, .ifCond .eq 32, 0), (38, 1, .iload 2, .iload_n 2, 0), (39, 2, .iconst 100, .bipush 100, 0), (41, 1, .irem, .irem, 0), (42, 1, .i2l, .i2l, 0), (43, 1, .ldc2_w 0, .lconst 0, 0), (44, 3, .ldc2_w 12, .ldc2_w 292, 356), (47, 3, .invokestatic 159, .invokestatic 87, 276), (50, 3, .ifCond .eq 67, .ifCond .eq 17, 0), (53, 1, .iload 3, .iload_n 3, 0), (54, 1, .iconst (-1), .iconst (-1), 0), (55, 3, .if_icmp .eq 69, .if_icmp .eq 14, 0), (58, 1, .aload 0, .aload_n 0, 0), (59, 1, .iload 3, .iload_n 3, 0), (60, 1, .i2l, .i2l, 0), (61, 3, .invokevirtual 164, .invokevirtual 91, 277), (64, 3, .ifCond .ne 69, .ifCond .ne 5, 0), (67, 1, .iconst (-1), .iconst (-1), 0), (68, 1, .ireturn, .ireturn, 0), (69, 1, .iload 1, .iload_n 1, 0), (70, 2, .istore 4, .istore 4, 0), (72, 1, .iconst 0, .iconst 0, 0), (73, 2, .istore 5, .istore 5, 0), (75, 1, .iconst 0, .iconst 0, 0), (76, 2, .istore 6, .istore 6, 0), (78, 1, .iconst 0, .iconst 0, 0), (79, 2, .istore 7, .istore 7, 0), (81, 2, .iload 7, .iload 7, 0), (83, 1, .iload 2, .iload_n 2, 0), (84, 3, .iconst 10000, .sipush 10000, 0), (87, 1, .idiv, .idiv, 0), (88, 3, .if_icmp .ge 295, .if_icmp .ge 207, 0), (91, 1, .aload 0, .aload_n 0, 0), (92, 3, .invokevirtual 211, .invokevirtual 261, 343), (95, 1, .iconst 0, .iconst 0, 0), (96, 2, .istore 8, .istore 8, 0), (98, 2, .iload 8, .iload 8, 0), (100, 1, .iload 2, .iload_n 2, 0), (101, 2, .iconst 100, .bipush 100, 0), (103, 1, .idiv, .idiv, 0), (104, 2, .iconst 100, .bipush 100, 0), (106, 1, .irem, .irem, 0), (107, 3, .if_icmp .ge 231, .if_icmp .ge 124, 0), (110, 2, .iload 5, .iload 5, 0), (112, 1, .iload 3, .iload_n 3, 0), (113, 3, .ifCond .lt 128, .ifCond .lt 15, 0), (116, 1, .aload 0, .aload_n 0, 0), (117, 1, .iload 3, .iload_n 3, 0), (118, 3, .invokevirtual 214, .invokevirtual 294, 357), (121, 3, .ifCond .eq 128, .ifCond .eq 7, 0), (124, 1, .iconst 1, .iconst 1, 0), (125, 3, .goto 129, .goto 4, 0), (128, 1, .iconst 0, .iconst 0, 0), (129, 1, .iadd, .iadd, 0), (130, 2, .istore 5, .istore 5, 0), (132, 1, .aload 0, .aload_n 0, 0), (133, 2, .iload 8, .iload 8, 0), (135, 3, .invokevirtual 216, .invokevirtual 264, 344), (138, 1, .iconst 0, .iconst 0, 0), (139, 2, .istore 9, .istore 9, 0), (141, 2, .iload 9, .iload 9, 0), (143, 1, .aload 0, .aload_n 0, 0), (144, 3, .getfield 710, .getfield 84, 275), (147, 3, .if_icmp .ge 225, .if_icmp .ge 78, 0), (150, 2, .iload 4, .iload 4, 0), (152, 3, .iconst 1103515245, .ldc_w 297, 358), (155, 1, .imul, .imul, 0), (156, 3, .iconst 12345, .sipush 12345, 0), (159, 1, .iadd, .iadd, 0), (160, 2, .istore 4, .istore 4, 0), (162, 1, .aload 0, .aload_n 0, 0), (163, 3, .getfield 722, .getfield 34, 336), (166, 2, .iload 9, .iload 9, 0), (168, 2, .iload 4, .iload 4, 0), (170, 2, .iconst 8, .bipush 8, 0), (172, 1, .iushr, .iushr, 0), (173, 2, .iconst 12, .bipush 12, 0), (175, 1, .irem, .irem, 0), (176, 1, .iload 2, .iload_n 2, 0), (177, 2, .iconst 100, .bipush 100, 0), (179, 1, .irem, .irem, 0), (180, 3, .if_icmp .ge 211, .if_icmp .ge 31, 0), (183, 1, .aload 0, .aload_n 0, 0), (184, 3, .getfield 722, .getfield 34, 336), (187, 2, .iload 9, .iload 9, 0), (189, 1, .iaload, .iaload, 0), (190, 1, .aload 0, .aload_n 0, 0), (191, 3, .getfield 711, .getfield 22, 280), (194, 2, .iload 9, .iload 9, 0), (196, 1, .iaload, .iaload, 0), (197, 1, .iadd, .iadd, 0), (198, 1, .iconst 1, .iconst 1, 0), (199, 1, .isub, .isub, 0), (200, 1, .aload 0, .aload_n 0, 0), (201, 3, .getfield 711, .getfield 22, 280), (204, 2, .iload 9, .iload 9, 0), (206, 1, .iaload, .iaload, 0), (207, 1, .irem, .irem, 0), (208, 3, .goto 218, .goto 10, 0), (211, 1, .aload 0, .aload_n 0, 0), (212, 3, .getfield 722, .getfield 34, 336), (215, 2, .iload 9, .iload 9, 0), (217, 1, .iaload, .iaload, 0), (218, 1, .iastore, .iastore, 0), (219, 3, .iinc 9 1, .iinc 9 1, 0), (222, 3, .goto 141, .goto (-81), 0), (225, 3, .iinc 8 1, .iinc 8 1, 0), (228, 3, .goto 98, .goto (-130), 0), (231, 1, .iconst 1, .iconst 1, 0), (232, 2, .istore 8, .istore 8, 0), (234, 1, .iconst 0, .iconst 0, 0), (235, 2, .istore 9, .istore 9, 0), (237, 2, .iload 9, .iload 9, 0), (239, 1, .aload 0, .aload_n 0, 0), (240, 3, .getfield 710, .getfield 84, 275), (243, 3, .if_icmp .ge 274, .if_icmp .ge 31, 0), (246, 2, .iload 8, .iload 8, 0), (248, 3, .ifCond .eq 265, .ifCond .eq 17, 0), (251, 1, .aload 0, .aload_n 0, 0), (252, 3, .getfield 722, .getfield 34, 336), (255, 2, .iload 9, .iload 9, 0), (257, 1, .iaload, .iaload, 0), (258, 3, .ifCond .ne 265, .ifCond .ne 7, 0), (261, 1, .iconst 1, .iconst 1, 0), (262, 3, .goto 266, .goto 4, 0), (265, 1, .iconst 0, .iconst 0, 0), (266, 2, .istore 8, .istore 8, 0), (268, 3, .iinc 9 1, .iinc 9 1, 0), (271, 3, .goto 237, .goto (-34), 0), (274, 2, .iload 6, .iload 6, 0), (276, 2, .iload 8, .iload 8, 0), (278, 3, .ifCond .eq 285, .ifCond .eq 7, 0), (281, 1, .iconst 1, .iconst 1, 0), (282, 3, .goto 286, .goto 4, 0), (285, 1, .iconst 0, .iconst 0, 0), (286, 1, .iadd, .iadd, 0), (287, 2, .istore 6, .istore 6, 0), (289, 3, .iinc 7 1, .iinc 7 1, 0), (292, 3, .goto 81, .goto (-211), 0), (295, 1, .iload 3, .iload_n 3, 0), (296, 3, .ifCond .ge 304, .ifCond .ge 8, 0), (299, 2, .iload 6, .iload 6, 0), (301, 3, .goto 306, .goto 5, 0), (304, 2, .iload 5, .iload 5, 0), (306, 1, .ireturn, .ireturn, 0)]
def am_pX11_day : Am_p := [(0, 1, .aload 0, .aload_n 0, 0), (1, 3, .invokevirtual 211, .invokevirtual 261, 343), (4, 1, .aload 0, .aload_n 0, 0), (5, 1, .iconst 0, .iconst 0, 0), (6, 3, .invokevirtual 216, .invokevirtual 264, 344), (9, 1, .iconst 0, .iconst 0, 0), (10, 1, .istore 1, .istore_n 1, 0), (11, 1, .iload 1, .iload_n 1, 0), (12, 1, .aload 0, .aload_n 0, 0), (13, 3, .getfield 710, .getfield 84, 275), (16, 3, .if_icmp .ge 37, .if_icmp .ge 21, 0), (19, 1, .aload 0, .aload_n 0, 0), (20, 3, .getfield 704, .getfield 9, 269), (23, 1, .iload 1, .iload_n 1, 0), (24, 1, .aload 0, .aload_n 0, 0), (25, 3, .getfield 722, .getfield 34, 336), (28, 1, .iload 1, .iload_n 1, 0), (29, 1, .iaload, .iaload, 0), (30, 1, .iastore, .iastore, 0), (31, 3, .iinc 1 1, .iinc 1 1, 0), (34, 3, .goto 11, .goto (-23), 0), (37, 1, .aload 0, .aload_n 0, 0), (38, 3, .getfield 728, .getfield 46, 359), (41, 1, .iconst 0, .iconst 0, 0), (42, 1, .dup2, .dup2, 0), (43, 1, .iaload, .iaload, 0), (44, 1, .iconst 1, .iconst 1, 0), (45, 1, .iadd, .iadd, 0), (46, 1, .iastore, .iastore, 0), (47, 1, .aload 0, .aload_n 0, 0), (48, 3, .getfield 728, .getfield 46, 359), (51, 1, .iconst 1, .iconst 1, 0), (52, 1, .dup2, .dup2, 0), (53, 1, .iaload, .iaload, 0), (54, 1, .aload 0, .aload_n 0, 0), (55, 3, .getfield 723, .getfield 245, 337), (58, 1, .iadd, .iadd, 0), (59, 1, .iastore, .iastore, 0), (60, 1, .aload 0, .aload_n 0, 0), (61, 3, .getfield 728, .getfield 46, 359), (64, 1, .iconst 2, .iconst 2, 0), (65, 1, .dup2, .dup2, 0), (66, 1, .iaload, .iaload, 0), (67, 1, .aload 0, .aload_n 0, 0), (68, 3, .getfield 724, .getfield 248, 338), (71, 1, .iadd, .iadd, 0), (72, 1, .iastore, .iastore, 0), (73, 1, .aload 0, .aload_n 0, 0), (74, 3, .getfield 723, .getfield 245, 337), (77, 1, .ireturn, .ireturn, 0)]
def am_pX11_nudged : Am_p := [(0, 1, .aload 0, .aload_n 0, 0), (1, 1, .iload 1, .iload_n 1, 0), (2, 1, .i2l, .i2l, 0), (3, 3, .invokevirtual 164, .invokevirtual 91, 277), (6, 3, .ifCond .eq 23, .ifCond .eq 17, 0), (9, 1, .iload 2, .iload_n 2, 0), (10, 1, .i2l, .i2l, 0), (11, 3, .ldc2_w 18446744073709551607, .ldc2_w 115, 289), (14, 3, .ldc2_w 9, .ldc2_w 97, 279), (17, 3, .invokestatic 159, .invokestatic 87, 276), (20, 3, .ifCond .ne 25, .ifCond .ne 5, 0), (23, 1, .iconst (-1), .iconst (-1), 0), (24, 1, .ireturn, .ireturn, 0), (25, 1, .aload 0, .aload_n 0, 0), (26, 3, .getfield 704, .getfield 9, 269), (29, 1, .iload 1, .iload_n 1, 0), (30, 1, .aload 0, .aload_n 0, 0), (31, 3, .getfield 704, .getfield 9, 269), (34, 1, .iload 1, .iload_n 1, 0), (35, 1, .iaload, .iaload, 0), (36, 1, .iload 2, .iload_n 2, 0), (37, 1, .iadd, .iadd, 0), (38, 1, .aload 0, .aload_n 0, 0), (39, 3, .getfield 711, .getfield 22, 280), (42, 1, .iload 1, .iload_n 1, 0), (43, 1, .iaload, .iaload, 0), (44, 1, .irem, .irem, 0), (45, 1, .aload 0, .aload_n 0, 0), (46, 3, .getfield 711, .getfield 22, 280), (49, 1, .iload 1, .iload_n 1, 0), (50, 1, .iaload, .iaload, 0), (51, 1, .iadd, .iadd, 0), (52, 1, .aload 0, .aload_n 0, 0), (53, 3, .getfield 711, .getfield 22, 280), (56, 1, .iload 1, .iload_n 1, 0), (57, 1, .iaload, .iaload, 0), (58, 1, .irem, .irem, 0), (59, 1, .iastore, .iastore, 0), (60, 1, .aload 0, .aload_n 0, 0), (61, 3, .getfield 728, .getfield 46, 359), (64, 1, .iconst 3, .iconst 3, 0), (65, 1, .dup2, .dup2, 0), (66, 1, .iaload, .iaload, 0), (67, 1, .iconst 1, .iconst 1, 0), (68, 1, .iadd, .iadd, 0), (69, 1, .iastore, .iastore, 0), (70, 1, .aload 0, .aload_n 0, 0), (71, 3, .getfield 704, .getfield 9, 269), (74, 1, .iload 1, .iload_n 1, 0), (75, 1, .iaload, .iaload, 0), (76, 1, .ireturn, .ireturn, 0)]
def am_pX11_led : Am_p := [(0, 1, .iload 1, .iload_n 1, 0), (1, 1, .i2l, .i2l, 0), (2, 1, .ldc2_w 0, .lconst 0, 0), (3, 3, .ldc2_w 3, .ldc2_w 298, 360), (6, 3, .invokestatic 159, .invokestatic 87, 276), (9, 3, .ifCond .eq 21, .ifCond .eq 12, 0), (12, 1, .aload 0, .aload_n 0, 0), (13, 3, .getfield 728, .getfield 46, 359), (16, 1, .iload 1, .iload_n 1, 0), (17, 1, .iaload, .iaload, 0), (18, 3, .goto 22, .goto 4, 0), (21, 1, .iconst (-1), .iconst (-1), 0), (22, 1, .ireturn, .ireturn, 0)]
def am_pX11_image : Am_p := [(0, 1, .aload 0, .aload_n 0, 0), (1, 1, .iconst 1, .iconst 1, 0), (2, 3, .putfield 729, .putfield 300, 361), (5, 1, .aload 0, .aload_n 0, 0), (6, 1, .aload 0, .aload_n 0, 0), (7, 3, .getfield 710, .getfield 84, 275), (10, 3, .putfield 730, .putfield 304, 362), (13, 1, .iconst 0, .iconst 0, 0), (14, 1, .istore 1, .istore_n 1, 0), (15, 1, .iload 1, .iload_n 1, 0), (16, 1, .aload 0, .aload_n 0, 0), (17, 3, .getfield 710, .getfield 84, 275), (20, 3, .if_icmp .ge 41, .if_icmp .ge 21, 0), (23, 1, .aload 0, .aload_n 0, 0), (24, 3, .getfield 731, .getfield 49, 363), (27, 1, .iload 1, .iload_n 1, 0), (28, 1, .aload 0, .aload_n 0, 0), (29, 3, .getfield 704, .getfield 9, 269), (32, 1, .iload 1, .iload_n 1, 0), (33, 1, .iaload, .iaload, 0), (34, 1, .iastore, .iastore, 0), (35, 3, .iinc 1 1, .iinc 1 1, 0), (38, 3, .goto 15, .goto (-23), 0), (41, 1, .iconst 0, .iconst 0, 0), (42, 1, .istore 1, .istore_n 1, 0), (43, 1, .iload 1, .iload_n 1, 0), (44, 1, .iconst 4, .iconst 4, 0), (45, 3, .if_icmp .ge 66, .if_icmp .ge 21, 0), (48, 1, .aload 0, .aload_n 0, 0), (49, 3, .getfield 732, .getfield 52, 364), (52, 1, .iload 1, .iload_n 1, 0), (53, 1, .aload 0, .aload_n 0, 0), (54, 3, .getfield 728, .getfield 46, 359), (57, 1, .iload 1, .iload_n 1, 0), (58, 1, .iaload, .iaload, 0), (59, 1, .iastore, .iastore, 0), (60, 3, .iinc 1 1, .iinc 1 1, 0), (63, 3, .goto 43, .goto (-20), 0), (66, 1, .aload 0, .aload_n 0, 0), (67, 3, .getfield 728, .getfield 46, 359), (70, 1, .iconst 0, .iconst 0, 0), (71, 1, .iaload, .iaload, 0), (72, 1, .ireturn, .ireturn, 0)]
def am_pX11_back : Am_p := [(0, 1, .aload 0, .aload_n 0, 0), (1, 3, .getfield 729, .getfield 300, 361), (4, 3, .ifCond .ne 10, .ifCond .ne 6, 0), (7, 2, .iconst (-5), .bipush (-5), 0), (9, 1, .ireturn, .ireturn, 0), (10, 1, .iconst 0, .iconst 0, 0), (11, 1, .istore 1, .istore_n 1, 0), (12, 1, .iload 1, .iload_n 1, 0), (13, 1, .aload 0, .aload_n 0, 0), (14, 3, .getfield 730, .getfield 304, 362), (17, 3, .if_icmp .ge 38, .if_icmp .ge 21, 0), (20, 1, .aload 0, .aload_n 0, 0), (21, 3, .getfield 704, .getfield 9, 269), (24, 1, .iload 1, .iload_n 1, 0), (25, 1, .aload 0, .aload_n 0, 0), (26, 3, .getfield 731, .getfield 49, 363), (29, 1, .iload 1, .iload_n 1, 0), (30, 1, .iaload, .iaload, 0), (31, 1, .iastore, .iastore, 0), (32, 3, .iinc 1 1, .iinc 1 1, 0), (35, 3, .goto 12, .goto (-23), 0), (38, 1, .iconst 0, .iconst 0, 0), (39, 1, .istore 1, .istore_n 1, 0), (40, 1, .iload 1, .iload_n 1, 0), (41, 1, .iconst 4, .iconst 4, 0), (42, 3, .if_icmp .ge 63, .if_icmp .ge 21, 0), (45, 1, .aload 0, .aload_n 0, 0), (46, 3, .getfield 728, .getfield 46, 359), (49, 1, .iload 1, .iload_n 1, 0), (50, 1, .aload 0, .aload_n 0, 0), (51, 3, .getfield 732, .getfield 52, 364), (54, 1, .iload 1, .iload_n 1, 0), (55, 1, .iaload, .iaload, 0), (56, 1, .iastore, .iastore, 0), (57, 3, .iinc 1 1, .iinc 1 1, 0), (60, 3, .goto 40, .goto (-20), 0), (63, 1, .aload 0, .aload_n 0, 0), (64, 3, .getfield 728, .getfield 46, 359), (67, 1, .iconst 0, .iconst 0, 0), (68, 1, .iaload, .iaload, 0), (69, 1, .ireturn, .ireturn, 0)]
def am_pX11_isBody : Am_p := [(0, 1, .iload 1, .iload_n 1, 0), (1, 1, .i2l, .i2l, 0), (2, 1, .ldc2_w 0, .lconst 0, 0), (3, 1, .aload 0, .aload_n 0, 0), (4, 3, .getfield 733, .getfield 307, 365), (7, 1, .iconst 1, .iconst 1, 0), (8, 1, .isub, .isub, 0), (9, 1, .i2l, .i2l, 0), (10, 3, .invokestatic 159, .invokestatic 87, 276), (13, 1, .ireturn, .ireturn, 0)]
def am_pX11_kindOf : Am_p := [(0, 1, .aload 0, .aload_n 0, 0), (1, 3, .getfield 734, .getfield 55, 366), (4, 1, .iload 1, .iload_n 1, 0), (5, 1, .iaload, .iaload, 0), (6, 1, .ireturn, .ireturn, 0)]
def am_pX11_body : Am_p := [(0, 1, .iload 1, .iload_n 1, 0), (1, 1, .i2l, .i2l, 0), (2, 1, .ldc2_w 0, .lconst 0, 0), (3, 3, .ldc2_w 7, .ldc2_w 310, 367), (6, 3, .invokestatic 159, .invokestatic 87, 276), (9, 3, .ifCond .ne 14, .ifCond .ne 5, 0), (12, 1, .iconst (-1), .iconst (-1), 0), (13, 1, .ireturn, .ireturn, 0), (14, 1, .aload 0, .aload_n 0, 0), (15, 3, .getfield 733, .getfield 307, 365), (18, 2, .iconst 50, .bipush 50, 0), (20, 3, .if_icmp .ne 26, .if_icmp .ne 6, 0), (23, 2, .iconst (-3), .bipush (-3), 0), (25, 1, .ireturn, .ireturn, 0), (26, 1, .aload 0, .aload_n 0, 0), (27, 3, .getfield 734, .getfield 55, 366), (30, 1, .aload 0, .aload_n 0, 0), (31, 3, .getfield 733, .getfield 307, 365), (34, 1, .iload 1, .iload_n 1, 0), (35, 1, .iastore, .iastore, 0), (36, 1, .aload 0, .aload_n 0, 0), (37, 1, .dup, .dup, 0), (38, 3, .getfield 733, .getfield 307, 365), (41, 1, .iconst 1, .iconst 1, 0), (42, 1, .iadd, .iadd, 0), (43, 3, .putfield 733, .putfield 307, 365), (46, 1, .aload 0, .aload_n 0, 0), (47, 3, .getfield 733, .getfield 307, 365), (50, 1, .iconst 1, .iconst 1, 0), (51, 1, .isub, .isub, 0), (52, 1, .ireturn, .ireturn, 0)]
def am_pX11_above : Am_p := [(0, 1, .iload 0, .iload_n 0, 0), (1, 1, .iconst 3, .iconst 3, 0), (2, 3, .if_icmp .ne 9, .if_icmp .ne 7, 0), (5, 1, .iconst 2, .iconst 2, 0), (6, 3, .goto 38, .goto 32, 0), (9, 1, .iload 0, .iload_n 0, 0), (10, 1, .iconst 4, .iconst 4, 0), (11, 3, .if_icmp .ne 18, .if_icmp .ne 7, 0), (14, 1, .iconst 1, .iconst 1, 0), (15, 3, .goto 38, .goto 23, 0), (18, 1, .iload 0, .iload_n 0, 0), (19, 1, .iconst 5, .iconst 5, 0), (20, 3, .if_icmp .ne 27, .if_icmp .ne 7, 0), (23, 1, .iconst 3, .iconst 3, 0), (24, 3, .goto 38, .goto 14, 0), (27, 1, .iload 0, .iload_n 0, 0), (28, 2, .iconst 7, .bipush 7, 0), (30, 3, .if_icmp .ne 37, .if_icmp .ne 7, 0), (33, 1, .iconst 4, .iconst 4, 0), (34, 3, .goto 38, .goto 4, 0), (37, 1, .iconst 0, .iconst 0, 0), (38, 1, .ireturn, .ireturn, 0)]
def am_pX11_runs : Am_p := [(0, 1, .aload 0, .aload_n 0, 0), (1, 3, .getfield 736, .getfield 312, 368), (4, 2, .iconst 24, .bipush 24, 0), (6, 3, .if_icmp .ge 19, .if_icmp .ge 13, 0), (9, 1, .aload 0, .aload_n 0, 0), (10, 3, .getfield 735, .getfield 58, 369), (13, 1, .aload 0, .aload_n 0, 0), (14, 3, .getfield 736, .getfield 312, 368), (17, 1, .iload 1, .iload_n 1, 0), (18, 1, .iastore, .iastore, 0), (19, 1, .aload 0, .aload_n 0, 0), (20, 1, .dup, .dup, 0), (21, 3, .getfield 736, .getfield 312, 368), (24, 1, .iconst 1, .iconst 1, 0), (25, 1, .iadd, .iadd, 0), (26, 3, .putfield 736, .putfield 312, 368), (29, 1, .return_, .return_, 0)]
def am_pX11_drawsAs : Am_p := [(0, 1, .iload 1, .iload_n 1, 0), (1, 1, .iconst 1, .iconst 1, 0), (2, 3, .if_icmp .eq 16, .if_icmp .eq 14, 0), (5, 1, .iload 1, .iload_n 1, 0), (6, 1, .iconst 4, .iconst 4, 0), (7, 3, .if_icmp .eq 16, .if_icmp .eq 9, 0), (10, 1, .iload 1, .iload_n 1, 0), (11, 2, .iconst 7, .bipush 7, 0), (13, 3, .if_icmp .ne 31, .if_icmp .ne 18, 0), (16, 1, .aload 0, .aload_n 0, 0), (17, 2, .iconst 20, .bipush 20, 0), (19, 3, .invokevirtual 243, .invokevirtual 315, 370), (22, 1, .aload 0, .aload_n 0, 0), (23, 1, .iconst 0, .iconst 0, 0), (24, 1, .iload 2, .iload_n 2, 0), (25, 3, .invokevirtual 244, .invokevirtual 318, 371), (28, 1, .iconst 3, .iconst 3, 0), (29, 1, .iadd, .iadd, 0), (30, 1, .ireturn, .ireturn, 0), (31, 1, .iload 1, .iload_n 1, 0), (32, 2, .iconst 6, .bipush 6, 0), (34, 3, .if_icmp .ne 52, .if_icmp .ne 18, 0), (37, 1, .aload 0, .aload_n 0, 0), (38, 2, .iconst 70, .bipush 70, 0), (40, 3, .invokevirtual 243, .invokevirtual 315, 370), (43, 1, .aload 0, .aload_n 0, 0), (44, 1, .iconst 0, .iconst 0, 0), (45, 1, .iload 2, .iload_n 2, 0), (46, 3, .invokevirtual 244, .invokevirtual 318, 371), (49, 1, .iconst 2, .iconst 2, 0), (50, 1, .imul, .imul, 0), (51, 1, .ireturn, .ireturn, 0), (52, 1, .aload 0, .aload_n 0, 0), (53, 1, .iconst 1, .iconst 1, 0), (54, 3, .invokevirtual 243, .invokevirtual 315, 370), (57, 1, .iload 2, .iload_n 2, 0), (58, 1, .aload 0, .aload_n 0, 0), (59, 3, .getfield 738, .getfield 321, 372), (62, 1, .iadd, .iadd, 0), (63, 1, .ireturn, .ireturn, 0)]
def am_pX11_meetsAs : Am_p := [(0, 1, .iload 1, .iload_n 1, 0), (1, 1, .iconst 3, .iconst 3, 0), (2, 3, .if_icmp .eq 10, .if_icmp .eq 8, 0), (5, 1, .iload 1, .iload_n 1, 0), (6, 1, .iconst 5, .iconst 5, 0), (7, 3, .if_icmp .ne 25, .if_icmp .ne 18, 0), (10, 1, .aload 0, .aload_n 0, 0), (11, 2, .iconst 41, .bipush 41, 0), (13, 3, .invokevirtual 243, .invokevirtual 315, 370), (16, 1, .aload 0, .aload_n 0, 0), (17, 1, .iconst 2, .iconst 2, 0), (18, 1, .iload 2, .iload_n 2, 0), (19, 1, .iconst 1, .iconst 1, 0), (20, 1, .iadd, .iadd, 0), (21, 3, .invokevirtual 245, .invokevirtual 324, 373), (24, 1, .ireturn, .ireturn, 0), (25, 1, .iload 1, .iload_n 1, 0), (26, 1, .iconst 2, .iconst 2, 0), (27, 3, .if_icmp .ne 44, .if_icmp .ne 17, 0), (30, 1, .aload 0, .aload_n 0, 0), (31, 2, .iconst 30, .bipush 30, 0), (33, 3, .invokevirtual 243, .invokevirtual 315, 370), (36, 1, .aload 0, .aload_n 0, 0), (37, 1, .iconst 0, .iconst 0, 0), (38, 1, .iload 2, .iload_n 2, 0), (39, 3, .invokevirtual 245, .invokevirtual 324, 373), (42, 1, .ineg, .ineg, 0), (43, 1, .ireturn, .ireturn, 0), (44, 1, .iload 1, .iload_n 1, 0), (45, 2, .iconst 7, .bipush 7, 0), (47, 3, .if_icmp .ne 75, .if_icmp .ne 28, 0), (50, 1, .aload 0, .aload_n 0, 0), (51, 2, .iconst 80, .bipush 80, 0), (53, 3, .invokevirtual 243, .invokevirtual 315, 370), (56, 1, .aload 0, .aload_n 0, 0), (57, 1, .iconst 4, .iconst 4, 0), (58, 1, .iload 2, .iload_n 2, 0), (59, 3, .invokevirtual 245, .invokevirtual 324, 373), (62, 1, .istore 3, .istore_n 3, 0), (63, 1, .iload 3, .iload_n 3, 0), (64, 1, .aload 0, .aload_n 0, 0), (65, 1, .aload 0, .aload_n 0, 0), (66, 3, .getfield 737, .getfield 327, 374), (69, 1, .iconst 2, .iconst 2, 0), (70, 3, .invokevirtual 246, .invokevirtual 330, 375), (73, 1, .iadd, .iadd, 0), (74, 1, .ireturn, .ireturn, 0), (75, 1, .aload 0, .aload_n 0, 0), (76, 2, .iconst 10, .bipush 10, 0), (78, 3, .invokevirtual 243, .invokevirtual 315, 370), (81, 1, .aload 0, .aload_n 0, 0), (82, 1, .aload 0, .aload_n 0, 0), (83, 3, .getfield 737, .getfield 327, 374), (86, 1, .iload 2, .iload_n 2, 0), (87, 3, .invokevirtual 244, .invokevirtual 318, 371), (90, 1, .iconst 2, .iconst 2, 0), (91, 1, .imul, .imul, 0), (92, 1, .ireturn, .ireturn, 0)]
def am_pX11_shunsAs : Am_p := [(0, 1, .iload 1, .iload_n 1, 0), (1, 1, .iconst 3, .iconst 3, 0), (2, 3, .if_icmp .eq 10, .if_icmp .eq 8, 0), (5, 1, .iload 1, .iload_n 1, 0), (6, 1, .iconst 5, .iconst 5, 0), (7, 3, .if_icmp .ne 25, .if_icmp .ne 18, 0), (10, 1, .aload 0, .aload_n 0, 0), (11, 2, .iconst 40, .bipush 40, 0), (13, 3, .invokevirtual 243, .invokevirtual 315, 370), (16, 1, .aload 0, .aload_n 0, 0), (17, 1, .iconst 2, .iconst 2, 0), (18, 1, .iload 2, .iload_n 2, 0), (19, 3, .invokevirtual 246, .invokevirtual 330, 375), (22, 1, .iconst 3, .iconst 3, 0), (23, 1, .imul, .imul, 0), (24, 1, .ireturn, .ireturn, 0), (25, 1, .iload 1, .iload_n 1, 0), (26, 1, .iconst 4, .iconst 4, 0), (27, 3, .if_icmp .eq 36, .if_icmp .eq 9, 0), (30, 1, .iload 1, .iload_n 1, 0), (31, 2, .iconst 7, .bipush 7, 0), (33, 3, .if_icmp .ne 61, .if_icmp .ne 28, 0), (36, 1, .aload 0, .aload_n 0, 0), (37, 2, .iconst 50, .bipush 50, 0), (39, 3, .invokevirtual 243, .invokevirtual 315, 370), (42, 1, .aload 0, .aload_n 0, 0), (43, 1, .iconst 1, .iconst 1, 0), (44, 1, .iload 2, .iload_n 2, 0), (45, 3, .invokevirtual 246, .invokevirtual 330, 375), (48, 1, .istore 3, .istore_n 3, 0), (49, 1, .iload 3, .iload_n 3, 0), (50, 1, .aload 0, .aload_n 0, 0), (51, 1, .aload 0, .aload_n 0, 0), (52, 3, .getfield 737, .getfield 327, 374), (55, 1, .iconst 2, .iconst 2, 0), (56, 3, .invokevirtual 244, .invokevirtual 318, 371), (59, 1, .isub, .isub, 0), (60, 1, .ireturn, .ireturn, 0), (61, 1, .aload 0, .aload_n 0, 0), (62, 2, .iconst 11, .bipush 11, 0), (64, 3, .invokevirtual 243, .invokevirtual 315, 370), (67, 1, .iload 2, .iload_n 2, 0), (68, 1, .aload 0, .aload_n 0, 0), (69, 3, .getfield 738, .getfield 321, 372), (72, 1, .ixor, .ixor, 0), (73, 1, .ireturn, .ireturn, 0)]
def am_pX11_tellsAs : Am_p := [(0, 1, .iload 1, .iload_n 1, 0), (1, 1, .iconst 5, .iconst 5, 0), (2, 3, .if_icmp .ne 20, .if_icmp .ne 18, 0), (5, 1, .aload 0, .aload_n 0, 0), (6, 2, .iconst 60, .bipush 60, 0), (8, 3, .invokevirtual 243, .invokevirtual 315, 370), (11, 1, .aload 0, .aload_n 0, 0), (12, 1, .iconst 3, .iconst 3, 0), (13, 1, .iload 2, .iload_n 2, 0), (14, 3, .invokevirtual 247, .invokevirtual 333, 376), (17, 1, .iconst 5, .iconst 5, 0), (18, 1, .ixor, .ixor, 0), (19, 1, .ireturn, .ireturn, 0), (20, 1, .iload 1, .iload_n 1, 0), (21, 2, .iconst 7, .bipush 7, 0), (23, 3, .if_icmp .ne 41, .if_icmp .ne 18, 0), (26, 1, .aload 0, .aload_n 0, 0), (27, 2, .iconst 81, .bipush 81, 0), (29, 3, .invokevirtual 243, .invokevirtual 315, 370), (32, 1, .aload 0, .aload_n 0, 0), (33, 1, .iconst 4, .iconst 4, 0), (34, 1, .iload 2, .iload_n 2, 0), (35, 3, .invokevirtual 247, .invokevirtual 333, 376), (38, 1, .iconst 1, .iconst 1, 0), (39, 1, .isub, .isub, 0), (40, 1, .ireturn, .ireturn, 0), (41, 1, .aload 0, .aload_n 0, 0), (42, 1, .iconst 2, .iconst 2, 0), (43, 3, .invokevirtual 243, .invokevirtual 315, 370), (46, 1, .aload 0, .aload_n 0, 0), (47, 1, .aload 0, .aload_n 0, 0), (48, 3, .getfield 737, .getfield 327, 374), (51, 1, .iload 2, .iload_n 2, 0), (52, 3, .invokevirtual 245, .invokevirtual 324, 373), (55, 1, .istore 3, .istore_n 3, 0), (56, 1, .iload 3, .iload_n 3, 0), (57, 1, .aload 0, .aload_n 0, 0), (58, 1, .aload 0, .aload_n 0, 0), (59, 3, .getfield 737, .getfield 327, 374), (62, 1, .iconst 1, .iconst 1, 0), (63, 3, .invokevirtual 246, .invokevirtual 330, 375), (66, 1, .isub, .isub, 0), (67, 1, .ireturn, .ireturn, 0)]
def am_pX11_act : Am_p := [(0, 1, .aload 0, .aload_n 0, 0), (1, 1, .iconst 0, .iconst 0, 0), (2, 3, .putfield 736, .putfield 312, 368), (5, 1, .aload 0, .aload_n 0, 0), (6, 1, .iload 1, .iload_n 1, 0), (7, 3, .invokevirtual 239, .invokevirtual 336, 377), (10, 3, .ifCond .ne 15, .ifCond .ne 5, 0), (13, 1, .iconst 0, .iconst 0, 0), (14, 1, .ireturn, .ireturn, 0), (15, 1, .aload 0, .aload_n 0, 0), (16, 1, .aload 0, .aload_n 0, 0), (17, 3, .getfield 734, .getfield 55, 366), (20, 1, .iload 1, .iload_n 1, 0), (21, 1, .iaload, .iaload, 0), (22, 3, .putfield 737, .putfield 327, 374), (25, 1, .aload 0, .aload_n 0, 0), (26, 1, .iload 1, .iload_n 1, 0), (27, 3, .putfield 738, .putfield 321, 372), (30, 1, .iload 2, .iload_n 2, 0), (31, 29, .tableswitch 100 0 3 #[60, 70, 80, 90], .tableswitch 69 0 3 #[29, 39, 49, 59], 0), (60, 1, .aload 0, .aload_n 0, 0), (61, 1, .aload 0, .aload_n 0, 0), (62, 3, .getfield 737, .getfield 327, 374), (65, 1, .iload 3, .iload_n 3, 0), (66, 3, .invokevirtual 244, .invokevirtual 318, 371), (69, 1, .ireturn, .ireturn, 0), (70, 1, .aload 0, .aload_n 0, 0), (71, 1, .aload 0, .aload_n 0, 0), (72, 3, .getfield 737, .getfield 327, 374), (75, 1, .iload 3, .iload_n 3, 0), (76, 3, .invokevirtual 245, .invokevirtual 324, 373), (79, 1, .ireturn, .ireturn, 0), (80, 1, .aload 0, .aload_n 0, 0), (81, 1, .aload 0, .aload_n 0, 0), (82, 3, .getfield 737, .getfield 327, 374), (85, 1, .iload 3, .iload_n 3, 0), (86, 3, .invokevirtual 246, .invokevirtual 330, 375), (89, 1, .ireturn, .ireturn, 0), (90, 1, .aload 0, .aload_n 0, 0), (91, 1, .aload 0, .aload_n 0, 0), (92, 3, .getfield 737, .getfield 327, 374), (95, 1, .iload 3, .iload_n 3, 0), (96, 3, .invokevirtual 247, .invokevirtual 333, 376), (99, 1, .ireturn, .ireturn, 0), (100, 1, .iconst 0, .iconst 0, 0), (101, 1, .ireturn, .ireturn, 0)]
def am_pX11_trace : Am_p := [(0, 1, .iload 1, .iload_n 1, 0), (1, 3, .ifCond .lt 27, .ifCond .lt 26, 0), (4, 1, .iload 1, .iload_n 1, 0), (5, 1, .aload 0, .aload_n 0, 0), (6, 3, .getfield 736, .getfield 312, 368), (9, 3, .if_icmp .ge 27, .if_icmp .ge 18, 0), (12, 1, .iload 1, .iload_n 1, 0), (13, 2, .iconst 24, .bipush 24, 0), (15, 3, .if_icmp .ge 27, .if_icmp .ge 12, 0), (18, 1, .aload 0, .aload_n 0, 0), (19, 3, .getfield 735, .getfield 58, 369), (22, 1, .iload 1, .iload_n 1, 0), (23, 1, .iaload, .iaload, 0), (24, 3, .goto 28, .goto 4, 0), (27, 1, .iconst (-1), .iconst (-1), 0), (28, 1, .ireturn, .ireturn, 0)]
def am_pX11_isShelf : Am_p := [(0, 1, .iload 0, .iload_n 0, 0), (1, 1, .i2l, .i2l, 0), (2, 1, .ldc2_w 0, .lconst 0, 0), (3, 3, .ldc2_w 5, .ldc2_w 339, 378), (6, 3, .invokestatic 159, .invokestatic 87, 276), (9, 1, .ireturn, .ireturn, 0)]
def am_pX11_keep : Am_p := [(0, 1, .iload 1, .iload_n 1, 0), (1, 3, .invokestatic 250, .invokestatic 106, 283), (4, 3, .ifCond .eq 20, .ifCond .eq 16, 0), (7, 1, .iload 2, .iload_n 2, 0), (8, 1, .iconst (-1), .iconst (-1), 0), (9, 3, .if_icmp .eq 22, .if_icmp .eq 13, 0), (12, 1, .aload 0, .aload_n 0, 0), (13, 1, .iload 2, .iload_n 2, 0), (14, 3, .invokevirtual 239, .invokevirtual 336, 377), (17, 3, .ifCond .ne 22, .ifCond .ne 5, 0), (20, 1, .iconst (-1), .iconst (-1), 0), (21, 1, .ireturn, .ireturn, 0), (22, 1, .aload 0, .aload_n 0, 0), (23, 3, .getfield 739, .getfield 61, 285), (26, 1, .iload 1, .iload_n 1, 0), (27, 1, .iload 2, .iload_n 2, 0), (28, 1, .iastore, .iastore, 0), (29, 1, .aload 0, .aload_n 0, 0), (30, 3, .getfield 740, .getfield 64, 286), (33, 1, .iload 1, .iload_n 1, 0), (34, 1, .iconst 0, .iconst 0, 0), (35, 1, .iastore, .iastore, 0), (36, 1, .iconst 1, .iconst 1, 0), (37, 1, .ireturn, .ireturn, 0)]
def am_pX11_row : Am_p := [(0, 1, .iload 1, .iload_n 1, 0), (1, 3, .invokestatic 250, .invokestatic 106, 283), (4, 3, .ifCond .eq 25, .ifCond .eq 21, 0), (7, 1, .iload 2, .iload_n 2, 0), (8, 1, .i2l, .i2l, 0), (9, 1, .ldc2_w 0, .lconst 0, 0), (10, 3, .ldc2_w 4, .ldc2_w 341, 379), (13, 3, .invokestatic 159, .invokestatic 87, 276), (16, 3, .ifCond .eq 25, .ifCond .eq 9, 0), (19, 1, .iload 3, .iload_n 3, 0), (20, 2, .iconst 60, .bipush 60, 0), (22, 3, .if_icmp .le 27, .if_icmp .le 5, 0), (25, 1, .iconst (-1), .iconst (-1), 0), (26, 1, .ireturn, .ireturn, 0), (27, 1, .iload 3, .iload_n 3, 0), (28, 3, .ifCond .ge 34, .ifCond .ge 6, 0), (31, 2, .iconst (-14), .bipush (-14), 0), (33, 1, .ireturn, .ireturn, 0), (34, 1, .aload 0, .aload_n 0, 0), (35, 3, .getfield 739, .getfield 61, 285), (38, 1, .iload 1, .iload_n 1, 0), (39, 2, .iconst 50, .bipush 50, 0), (41, 1, .iload 2, .iload_n 2, 0), (42, 1, .iadd, .iadd, 0), (43, 1, .iastore, .iastore, 0), (44, 1, .aload 0, .aload_n 0, 0), (45, 3, .getfield 740, .getfield 64, 286), (48, 1, .iload 1, .iload_n 1, 0), (49, 1, .iload 3, .iload_n 3, 0), (50, 1, .iastore, .iastore, 0), (51, 2, .iconst 60, .bipush 60, 0), (53, 1, .iload 1, .iload_n 1, 0), (54, 1, .imul, .imul, 0), (55, 2, .istore 4, .istore 4, 0), (57, 2, .iload 4, .iload 4, 0), (59, 2, .iconst 60, .bipush 60, 0), (61, 1, .iload 1, .iload_n 1, 0), (62, 1, .imul, .imul, 0), (63, 2, .iconst 60, .bipush 60, 0), (65, 1, .iadd, .iadd, 0), (66, 3, .if_icmp .ge 83, .if_icmp .ge 17, 0), (69, 1, .aload 0, .aload_n 0, 0), (70, 3, .getfield 741, .getfield 67, 287), (73, 2, .iload 4, .iload 4, 0), (75, 1, .ldc2_w 0, .lconst 0, 0), (76, 1, .lastore, .lastore, 0), (77, 3, .iinc 4 1, .iinc 4 1, 0), (80, 3, .goto 57, .goto (-23), 0), (83, 1, .iconst 1, .iconst 1, 0), (84, 1, .ireturn, .ireturn, 0)]
def am_pX11_refusal : Am_p := [(0, 1, .iload 1, .iload_n 1, 0), (1, 3, .invokestatic 250, .invokestatic 106, 283), (4, 3, .ifCond .ne 9, .ifCond .ne 5, 0), (7, 1, .iconst (-1), .iconst (-1), 0), (8, 1, .ireturn, .ireturn, 0), (9, 1, .aload 0, .aload_n 0, 0), (10, 3, .getfield 739, .getfield 61, 285), (13, 1, .iload 1, .iload_n 1, 0), (14, 1, .iaload, .iaload, 0), (15, 3, .ifCond .ge 21, .ifCond .ge 6, 0), (18, 2, .iconst (-11), .bipush (-11), 0), (20, 1, .ireturn, .ireturn, 0), (21, 1, .aload 0, .aload_n 0, 0), (22, 3, .getfield 739, .getfield 61, 285), (25, 1, .iload 1, .iload_n 1, 0), (26, 1, .iaload, .iaload, 0), (27, 2, .iconst 50, .bipush 50, 0), (29, 3, .if_icmp .ge 35, .if_icmp .ge 6, 0), (32, 2, .iconst (-12), .bipush (-12), 0), (34, 1, .ireturn, .ireturn, 0), (35, 1, .iload 2, .iload_n 2, 0), (36, 3, .ifCond .lt 53, .ifCond .lt 17, 0), (39, 1, .iload 2, .iload_n 2, 0), (40, 1, .aload 0, .aload_n 0, 0), (41, 3, .getfield 740, .getfield 64, 286), (44, 1, .iload 1, .iload_n 1, 0), (45, 1, .iaload, .iaload, 0), (46, 3, .if_icmp .ge 53, .if_icmp .ge 7, 0), (49, 1, .iconst 0, .iconst 0, 0), (50, 3, .goto 55, .goto 5, 0), (53, 2, .iconst (-13), .bipush (-13), 0), (55, 1, .ireturn, .ireturn, 0)]
def am_pX11_asSort : Am_p := [(0, 1, .iload 0, .iload_n 0, 0), (1, 3, .ifCond .ne 11, .ifCond .ne 10, 0), (4, 1, .lload 1, .lload_n 1, 0), (5, 1, .l2i, .l2i, 0), (6, 1, .i2b, .i2b, 0), (7, 1, .i2l, .i2l, 0), (8, 3, .goto 54, .goto 46, 0), (11, 1, .iload 0, .iload_n 0, 0), (12, 1, .iconst 1, .iconst 1, 0), (13, 3, .if_icmp .ne 23, .if_icmp .ne 10, 0), (16, 1, .lload 1, .lload_n 1, 0), (17, 1, .l2i, .l2i, 0), (18, 1, .i2s, .i2s, 0), (19, 1, .i2l, .i2l, 0), (20, 3, .goto 54, .goto 34, 0), (23, 1, .iload 0, .iload_n 0, 0), (24, 1, .iconst 2, .iconst 2, 0), (25, 3, .if_icmp .ne 34, .if_icmp .ne 9, 0), (28, 1, .lload 1, .lload_n 1, 0), (29, 1, .l2i, .l2i, 0), (30, 1, .i2l, .i2l, 0), (31, 3, .goto 54, .goto 23, 0), (34, 1, .iload 0, .iload_n 0, 0), (35, 1, .iconst 4, .iconst 4, 0), (36, 3, .if_icmp .ne 53, .if_icmp .ne 17, 0), (39, 1, .lload 1, .lload_n 1, 0), (40, 1, .ldc2_w 0, .lconst 0, 0), (41, 1, .lcmp, .lcmp, 0), (42, 3, .ifCond .eq 49, .ifCond .eq 7, 0), (45, 1, .ldc2_w 1, .lconst 1, 0), (46, 3, .goto 54, .goto 8, 0), (49, 1, .ldc2_w 0, .lconst 0, 0), (50, 3, .goto 54, .goto 4, 0), (53, 1, .lload 1, .lload_n 1, 0), (54, 1, .lreturn, .lreturn, 0)]
def am_pX11_put : Am_p := [(0, 1, .aload 0, .aload_n 0, 0), (1, 1, .iload 1, .iload_n 1, 0), (2, 1, .iload 2, .iload_n 2, 0), (3, 3, .invokevirtual 253, .invokevirtual 343, 380), (6, 2, .istore 5, .istore 5, 0), (8, 2, .iload 5, .iload 5, 0), (10, 3, .ifCond .ne 37, .ifCond .ne 27, 0), (13, 1, .aload 0, .aload_n 0, 0), (14, 3, .getfield 741, .getfield 67, 287), (17, 2, .iconst 60, .bipush 60, 0), (19, 1, .iload 1, .iload_n 1, 0), (20, 1, .imul, .imul, 0), (21, 1, .iload 2, .iload_n 2, 0), (22, 1, .iadd, .iadd, 0), (23, 1, .aload 0, .aload_n 0, 0), (24, 3, .getfield 739, .getfield 61, 285), (27, 1, .iload 1, .iload_n 1, 0), (28, 1, .iaload, .iaload, 0), (29, 2, .iconst 50, .bipush 50, 0), (31, 1, .isub, .isub, 0), (32, 1, .lload 3, .lload_n 3, 0), (33, 3, .invokestatic 254, .invokestatic 346, 381), (36, 1, .lastore, .lastore, 0), (37, 2, .iload 5, .iload 5, 0), (39, 3, .ifCond .ne 46, .ifCond .ne 7, 0), (42, 1, .iconst 1, .iconst 1, 0), (43, 3, .goto 48, .goto 5, 0), (46, 2, .iload 5, .iload 5, 0), (48, 1, .ireturn, .ireturn, 0)]
def am_pX11_element : Am_p := [(0, 1, .aload 0, .aload_n 0, 0), (1, 1, .iload 1, .iload_n 1, 0), (2, 1, .iload 2, .iload_n 2, 0), (3, 3, .invokevirtual 253, .invokevirtual 343, 380), (6, 3, .ifCond .eq 15, .ifCond .eq 9, 0), (9, 3, .ldc2_w 9223372036854775808, .ldc2_w 217, 327), (12, 3, .goto 26, .goto 14, 0), (15, 1, .aload 0, .aload_n 0, 0), (16, 3, .getfield 741, .getfield 67, 287), (19, 2, .iconst 60, .bipush 60, 0), (21, 1, .iload 1, .iload_n 1, 0), (22, 1, .imul, .imul, 0), (23, 1, .iload 2, .iload_n 2, 0), (24, 1, .iadd, .iadd, 0), (25, 1, .laload, .laload, 0), (26, 1, .lreturn, .lreturn, 0)]
def am_pX11_shift : Am_p := [(0, 1, .iload 1, .iload_n 1, 0), (1, 3, .invokestatic 250, .invokestatic 106, 283), (4, 3, .ifCond .eq 14, .ifCond .eq 10, 0), (7, 1, .iload 3, .iload_n 3, 0), (8, 3, .invokestatic 250, .invokestatic 106, 283), (11, 3, .ifCond .ne 16, .ifCond .ne 5, 0), (14, 1, .iconst (-1), .iconst (-1), 0), (15, 1, .ireturn, .ireturn, 0), (16, 1, .aload 0, .aload_n 0, 0), (17, 3, .getfield 739, .getfield 61, 285), (20, 1, .iload 1, .iload_n 1, 0), (21, 1, .iaload, .iaload, 0), (22, 3, .ifCond .lt 34, .ifCond .lt 12, 0), (25, 1, .aload 0, .aload_n 0, 0), (26, 3, .getfield 739, .getfield 61, 285), (29, 1, .iload 3, .iload_n 3, 0), (30, 1, .iaload, .iaload, 0), (31, 3, .ifCond .ge 37, .ifCond .ge 6, 0), (34, 2, .iconst (-11), .bipush (-11), 0), (36, 1, .ireturn, .ireturn, 0), (37, 1, .aload 0, .aload_n 0, 0), (38, 3, .getfield 739, .getfield 61, 285), (41, 1, .iload 1, .iload_n 1, 0), (42, 1, .iaload, .iaload, 0), (43, 2, .iconst 50, .bipush 50, 0), (45, 3, .if_icmp .lt 63, .if_icmp .lt 18, 0), (48, 1, .aload 0, .aload_n 0, 0), (49, 3, .getfield 739, .getfield 61, 285), (52, 1, .iload 1, .iload_n 1, 0), (53, 1, .iaload, .iaload, 0), (54, 1, .aload 0, .aload_n 0, 0), (55, 3, .getfield 739, .getfield 61, 285), (58, 1, .iload 3, .iload_n 3, 0), (59, 1, .iaload, .iaload, 0), (60, 3, .if_icmp .eq 66, .if_icmp .eq 6, 0), (63, 2, .iconst (-12), .bipush (-12), 0), (65, 1, .ireturn, .ireturn, 0), (66, 2, .iload 5, .iload 5, 0), (68, 3, .ifCond .lt 107, .ifCond .lt 39, 0), (71, 1, .iload 2, .iload_n 2, 0), (72, 3, .ifCond .lt 107, .ifCond .lt 35, 0), (75, 2, .iload 4, .iload 4, 0), (77, 3, .ifCond .lt 107, .ifCond .lt 30, 0), (80, 1, .iload 2, .iload_n 2, 0), (81, 1, .aload 0, .aload_n 0, 0), (82, 3, .getfield 740, .getfield 64, 286), (85, 1, .iload 1, .iload_n 1, 0), (86, 1, .iaload, .iaload, 0), (87, 2, .iload 5, .iload 5, 0), (89, 1, .isub, .isub, 0), (90, 3, .if_icmp .gt 107, .if_icmp .gt 17, 0), (93, 2, .iload 4, .iload 4, 0), (95, 1, .aload 0, .aload_n 0, 0), (96, 3, .getfield 740, .getfield 64, 286), (99, 1, .iload 3, .iload_n 3, 0), (100, 1, .iaload, .iaload, 0), (101, 2, .iload 5, .iload 5, 0), (103, 1, .isub, .isub, 0), (104, 3, .if_icmp .le 110, .if_icmp .le 6, 0), (107, 2, .iconst (-13), .bipush (-13), 0), (109, 1, .ireturn, .ireturn, 0), (110, 1, .iconst 0, .iconst 0, 0), (111, 2, .istore 6, .istore 6, 0), (113, 2, .iload 6, .iload 6, 0), (115, 2, .iload 5, .iload 5, 0), (117, 3, .if_icmp .ge 147, .if_icmp .ge 30, 0), (120, 1, .aload 0, .aload_n 0, 0), (121, 3, .getfield 742, .getfield 71, 382), (124, 2, .iload 6, .iload 6, 0), (126, 1, .aload 0, .aload_n 0, 0), (127, 3, .getfield 741, .getfield 67, 287), (130, 2, .iconst 60, .bipush 60, 0), (132, 1, .iload 1, .iload_n 1, 0), (133, 1, .imul, .imul, 0), (134, 1, .iload 2, .iload_n 2, 0), (135, 1, .iadd, .iadd, 0), (136, 2, .iload 6, .iload 6, 0), (138, 1, .iadd, .iadd, 0), (139, 1, .laload, .laload, 0), (140, 1, .lastore, .lastore, 0), (141, 3, .iinc 6 1, .iinc 6 1, 0), (144, 3, .goto 113, .goto (-31), 0), (147, 1, .iconst 0, .iconst 0, 0), (148, 2, .istore 6, .istore 6, 0), (150, 2, .iload 6, .iload 6, 0), (152, 2, .iload 5, .iload 5, 0), (154, 3, .if_icmp .ge 185, .if_icmp .ge 31, 0), (157, 1, .aload 0, .aload_n 0, 0), (158, 3, .getfield 741, .getfield 67, 287), (161, 2, .iconst 60, .bipush 60, 0), (163, 1, .iload 3, .iload_n 3, 0), (164, 1, .imul, .imul, 0), (165, 2, .iload 4, .iload 4, 0), (167, 1, .iadd, .iadd, 0), (168, 2, .iload 6, .iload 6, 0), (170, 1, .iadd, .iadd, 0), (171, 1, .aload 0, .aload_n 0, 0), (172, 3, .getfield 742, .getfield 71, 382), (175, 2, .iload 6, .iload 6, 0), (177, 1, .laload, .laload, 0), (178, 1, .lastore, .lastore, 0), (179, 3, .iinc 6 1, .iinc 6 1, 0), (182, 3, .goto 150, .goto (-32), 0), (185, 2, .iload 5, .iload 5, 0), (187, 1, .ireturn, .ireturn, 0)]
def am_pX11_taken : Am_p := [(0, 1, .iload 1, .iload_n 1, 0), (1, 3, .invokestatic 250, .invokestatic 106, 283), (4, 3, .ifCond .eq 19, .ifCond .eq 15, 0), (7, 1, .iload 2, .iload_n 2, 0), (8, 1, .i2l, .i2l, 0), (9, 1, .ldc2_w 0, .lconst 0, 0), (10, 3, .ldc2_w 7, .ldc2_w 310, 367), (13, 3, .invokestatic 159, .invokestatic 87, 276), (16, 3, .ifCond .ne 21, .ifCond .ne 5, 0), (19, 1, .iconst (-1), .iconst (-1), 0), (20, 1, .ireturn, .ireturn, 0), (21, 1, .aload 0, .aload_n 0, 0), (22, 3, .getfield 739, .getfield 61, 285), (25, 1, .iload 1, .iload_n 1, 0), (26, 1, .iaload, .iaload, 0), (27, 3, .ifCond .ge 33, .ifCond .ge 6, 0), (30, 2, .iconst (-11), .bipush (-11), 0), (32, 1, .ireturn, .ireturn, 0), (33, 1, .aload 0, .aload_n 0, 0), (34, 3, .getfield 739, .getfield 61, 285), (37, 1, .iload 1, .iload_n 1, 0), (38, 1, .iaload, .iaload, 0), (39, 2, .iconst 50, .bipush 50, 0), (41, 3, .if_icmp .lt 47, .if_icmp .lt 6, 0), (44, 2, .iconst (-12), .bipush (-12), 0), (46, 1, .ireturn, .ireturn, 0), (47, 1, .aload 0, .aload_n 0, 0), (48, 1, .aload 0, .aload_n 0, 0), (49, 3, .getfield 739, .getfield 61, 285), (52, 1, .iload 1, .iload_n 1, 0), (53, 1, .iaload, .iaload, 0), (54, 3, .invokevirtual 240, .invokevirtual 350, 383), (57, 1, .istore 3, .istore_n 3, 0), (58, 1, .iload 3, .iload_n 3, 0), (59, 1, .iload 2, .iload_n 2, 0), (60, 3, .if_icmp .eq 75, .if_icmp .eq 15, 0), (63, 1, .iload 3, .iload_n 3, 0), (64, 3, .ifCond .le 75, .ifCond .le 11, 0), (67, 1, .iload 3, .iload_n 3, 0), (68, 3, .invokestatic 242, .invokestatic 353, 384), (71, 1, .istore 3, .istore_n 3, 0), (72, 3, .goto 58, .goto (-14), 0), (75, 1, .iload 3, .iload_n 3, 0), (76, 1, .iload 2, .iload_n 2, 0), (77, 3, .if_icmp .ne 93, .if_icmp .ne 16, 0), (80, 1, .aload 0, .aload_n 0, 0), (81, 1, .aload 0, .aload_n 0, 0), (82, 3, .getfield 739, .getfield 61, 285), (85, 1, .iload 1, .iload_n 1, 0), (86, 1, .iaload, .iaload, 0), (87, 3, .invokevirtual 240, .invokevirtual 350, 383), (90, 3, .goto 95, .goto 5, 0), (93, 2, .iconst (-12), .bipush (-12), 0), (95, 1, .ireturn, .ireturn, 0)]
def am_pX11_count : Am_p := [(0, 1, .iload 1, .iload_n 1, 0), (1, 35, .tableswitch 61 0 4 #[36, 41, 46, 51, 56], .tableswitch 60 0 4 #[35, 40, 45, 50, 55], 0), (36, 1, .aload 0, .aload_n 0, 0), (37, 3, .getfield 710, .getfield 84, 275), (40, 1, .ireturn, .ireturn, 0), (41, 1, .aload 0, .aload_n 0, 0), (42, 3, .getfield 713, .getfield 133, 296), (45, 1, .ireturn, .ireturn, 0), (46, 1, .aload 0, .aload_n 0, 0), (47, 3, .getfield 709, .getfield 78, 270), (50, 1, .ireturn, .ireturn, 0), (51, 1, .aload 0, .aload_n 0, 0), (52, 3, .getfield 733, .getfield 307, 365), (55, 1, .ireturn, .ireturn, 0), (56, 1, .aload 0, .aload_n 0, 0), (57, 3, .getfield 736, .getfield 312, 368), (60, 1, .ireturn, .ireturn, 0), (61, 1, .iconst (-1), .iconst (-1), 0), (62, 1, .ireturn, .ireturn, 0)]
def am_pJ6_bitCount_0f7a4 : Am_p := [(0, 1, .iload 0, .iload_n 0, 0), (1, 1, .iload 0, .iload_n 0, 0), (2, 1, .iconst 1, .iconst 1, 0), (3, 1, .iushr, .iushr, 0), (4, 3, .iconst 1431655765, .ldc_w 265, 385), (7, 1, .iand, .iand, 0), (8, 1, .isub, .isub, 0), (9, 1, .istore 0, .istore_n 0, 0), (10, 1, .iload 0, .iload_n 0, 0), (11, 3, .iconst 858993459, .ldc_w 266, 386), (14, 1, .iand, .iand, 0), (15, 1, .iload 0, .iload_n 0, 0), (16, 1, .iconst 2, .iconst 2, 0), (17, 1, .iushr, .iushr, 0), (18, 3, .iconst 858993459, .ldc_w 266, 386), (21, 1, .iand, .iand, 0), (22, 1, .iadd, .iadd, 0), (23, 1, .istore 0, .istore_n 0, 0), (24, 1, .iload 0, .iload_n 0, 0), (25, 1, .iload 0, .iload_n 0, 0), (26, 1, .iconst 4, .iconst 4, 0), (27, 1, .iushr, .iushr, 0), (28, 1, .iadd, .iadd, 0), (29, 3, .iconst 252645135, .ldc_w 267, 387), (32, 1, .iand, .iand, 0), (33, 1, .istore 0, .istore_n 0, 0), (34, 1, .iload 0, .iload_n 0, 0), (35, 1, .iload 0, .iload_n 0, 0), (36, 2, .iconst 8, .bipush 8, 0), (38, 1, .iushr, .iushr, 0), (39, 1, .iadd, .iadd, 0), (40, 1, .istore 0, .istore_n 0, 0), (41, 1, .iload 0, .iload_n 0, 0), (42, 1, .iload 0, .iload_n 0, 0), (43, 2, .iconst 16, .bipush 16, 0), (45, 1, .iushr, .iushr, 0), (46, 1, .iadd, .iadd, 0), (47, 1, .istore 0, .istore_n 0, 0), (48, 1, .iload 0, .iload_n 0, 0), (49, 2, .iconst 63, .bipush 63, 0), (51, 1, .iand, .iand, 0), (52, 1, .ireturn, .ireturn, 0)]
def am_pJ9_floorMod_7cf53 : Am_p := [(0, 1, .iload 0, .iload_n 0, 0), (1, 1, .iload 1, .iload_n 1, 0), (2, 1, .irem, .irem, 0), (3, 1, .istore 2, .istore_n 2, 0), (4, 1, .iload 0, .iload_n 0, 0), (5, 1, .iload 1, .iload_n 1, 0), (6, 1, .ixor, .ixor, 0), (7, 3, .ifCond .ge 18, .ifCond .ge 11, 0), (10, 1, .iload 2, .iload_n 2, 0), (11, 3, .ifCond .eq 18, .ifCond .eq 7, 0), (14, 1, .iload 2, .iload_n 2, 0), (15, 1, .iload 1, .iload_n 1, 0), (16, 1, .iadd, .iadd, 0), (17, 1, .ireturn, .ireturn, 0), (18, 1, .iload 2, .iload_n 2, 0), (19, 1, .ireturn, .ireturn, 0)]
def am_pJ7_fill_d0a16 : Am_p := [(0, 1, .iconst 0, .iconst 0, 0), (1, 1, .istore 3, .istore_n 3, 0), (2, 1, .aload 0, .aload_n 0, 0), (3, 1, .arraylength, .arraylength, 0), (4, 2, .istore 4, .istore 4, 0), (6, 1, .iload 3, .iload_n 3, 0), (7, 2, .iload 4, .iload 4, 0), (9, 3, .if_icmp .ge 22, .if_icmp .ge 13, 0), (12, 1, .aload 0, .aload_n 0, 0), (13, 1, .iload 3, .iload_n 3, 0), (14, 1, .lload 1, .lload_n 1, 0), (15, 1, .lastore, .lastore, 0), (16, 3, .iinc 3 1, .iinc 3 1, 0), (19, 3, .goto 6, .goto (-13), 0), (22, 1, .return_, .return_, 0)]
def am_pg0 : List Am_p := [am_pX0_add, am_pX0_forgetOldest, am_pX1_firstMeeting, am_pX1_meetingsIn, am_pX1_togetherAgain, am_pX1_allAtStart, am_pX1_nextAtStart, am_pX1_leastCommon, am_pX1_moodOn, am_pX1_bestDay, am_pX1_metOn, am_pX1_isFree, am_pX1_firstFreeDay, am_pX1_freeDaysIn, am_pX1_leastNudge, am_pX1_isLonely, am_pX1_lonelyPlaces, am_pX1_leastLonelyPlace, am_pX1_daysSinceScene, am_pX1_firstWinningNudge]
def am_pg1 : List Am_p := [am_pX1_endsMet, am_pX1_leastArc, am_pX1_arcFrom, am_pX2_keepImage, am_pX2_layBack, am_pX3_placeBehind, am_pX3_pushesIn, am_pX3_firstPushIn, am_pX3_meetingsIn, am_pX3_roundAgain, am_pX3_firstSeen, am_pX3_firstUnlike, am_pX3_drawnYears, am_pX3_slipped, am_pX4_nameOf, am_pX4_become, am_pX4_turnTo, am_pX4_push, am_pX4_workedOut, am_pX4_namedBy]
def am_pg2 : List Am_p := [am_pX4_turned, am_pX4_joined, am_pX5_isKind, am_pX5_isUnder, am_pX5_has, am_pX5_added, am_pX5_acted, am_pX5_own, am_pX5_above, am_pX5_ranFrom, am_pX5_codeFrom, am_pX5_note, am_pX5_drawing, am_pX5_meeting, am_pX5_shunning, am_pX5_telling, am_pX6_isShelf, am_pX6_isEmpty, am_pX6_isMood, am_pX6_isBook]
def am_pg3 : List Am_p := [am_pX6_clear, am_pX6_holdMood, am_pX6_holdRow, am_pX6_rowRefusal, am_pX6_bookRefusal, am_pX6_placeRefusal, am_pX6_pairRefusal, am_pX6_hasSpan, am_pX6_lowest, am_pX7_fitsBody, am_pX7_added, am_pX7_has, am_pX7_hasPair, am_pX7_hasAll, am_pX7_hasNumber, am_pX7_fitsNumber, am_pX7_told, am_pX7_tell, am_pX7_degrees, am_pX7_gap]
def am_pg4 : List Am_p := [am_pX7_placeOn, am_pX7_degreesOn, am_pX7_gapOn, am_pX7_meetOn, am_pX7_meetMoved, am_pX8_fed, am_pX8_isText, am_pX8_next, am_pX8_draft, am_pX8_readsLine, am_pX8_readsEither, am_pX8_readsBoth, am_pX8_readsCompared, am_pX8_readsSum, am_pX8_readsProduct, am_pX8_readsOperand, am_pX8_readsClosed, am_pX8_readsTurned, am_pX8_readNumber, am_pX9_begin]
def am_pg5 : List Am_p := [am_pX9_keepPlaces, am_pX9_pass, am_pX9_move, am_pX9_look, am_pX9_pushOf, am_pX9_allPlaces, am_pX9_areAllAtStart, am_pX10_orb, am_pX10_orbs, am_pX10_mend, am_pX10_of, am_pX10_feed, am_pX10_law, am_pX10_at, am_pX10_apart, am_pX10_meets, am_pX10_often, am_pX10_together, am_pX10_start, am_pX10_mood]
def am_pg6 : List Am_p := [am_pX10_best, am_pX10_sign, am_pX10_nudge, am_pX10_never, am_pX10_scene, am_pX10_later, am_pX10_pushes, am_pX10_met, am_pX10_again, am_pX10_judge, am_pX10_liking, am_pX10_whose, am_pX10_byTurns, am_pX10_crowd, am_pX10_arc, am_pX10_drawn, am_pX10_day, am_pX10_nudged, am_pX10_led, am_pX10_image]
def am_pg7 : List Am_p := [am_pX10_back, am_pX10_undo, am_pX10_redo, am_pX10_body, am_pX10_act, am_pX10_trace, am_pX10_keep, am_pX10_row, am_pX10_put, am_pX10_element, am_pX10_shift, am_pX10_taken, am_pX10_count, am_pX10_isDay, am_pX10_isWhat, am_pX10_isSpan, am_pX10_isPushedSpan, am_pX10_bodiesFrom, am_pX10_likings, am_pX11_within]
def am_pg8 : List Am_p := [am_pX11_isIn, am_pX11_becomes, am_pX11_undo, am_pX11_redo, am_pX11_isOrb, am_pX11_isAb, am_pX11_mayCome, am_pX11_adds, am_pX11_orb, am_pX11_orbs, am_pX11_placeOf, am_pX11_mayBecome, am_pX11_mend, am_pX11_of, am_pX11_feed, am_pX11_byteAt, am_pX11_wrong, am_pX11_takes, am_pX11_either, am_pX11_both]
def am_pg9 : List Am_p := [am_pX11_compared, am_pX11_sums, am_pX11_product, am_pX11_nameOf, am_pX11_one, am_pX11_workOut, am_pX11_law, am_pX11_isDay, am_pX11_clock, am_pX11_degreesOf, am_pX11_arcOf, am_pX11_apartOn, am_pX11_meetOn, am_pX11_at, am_pX11_apart, am_pX11_meets, am_pX11_often, am_pX11_common, am_pX11_isSet, am_pX11_together]
def am_pg10 : List Am_p := [am_pX11_start, am_pX11_moodOn, am_pX11_mood, am_pX11_best, am_pX11_isQuiet, am_pX11_sign, am_pX11_meetsMoved, am_pX11_nudge, am_pX11_never, am_pX11_ago, am_pX11_scene, am_pX11_begins, am_pX11_apartNow, am_pX11_meetNow, am_pX11_meetsAnybody, am_pX11_pushOf, am_pX11_passes, am_pX11_goes, am_pX11_isPushed, am_pX11_later]
def am_pg11 : List Am_p := [am_pX11_pushes, am_pX11_met, am_pX11_stoodAs, am_pX11_again, am_pX11_bytesIs, am_pX11_firstFalse, am_pX11_judge, am_pX11_liking, am_pX11_whose, am_pX11_byTurns, am_pX11_crowd, am_pX11_gapBehind, am_pX11_arc, am_pX11_drawn, am_pX11_day, am_pX11_nudged, am_pX11_led, am_pX11_image, am_pX11_back, am_pX11_isBody]
def am_pg12 : List Am_p := [am_pX11_kindOf, am_pX11_body, am_pX11_above, am_pX11_runs, am_pX11_drawsAs, am_pX11_meetsAs, am_pX11_shunsAs, am_pX11_tellsAs, am_pX11_act, am_pX11_trace, am_pX11_isShelf, am_pX11_keep, am_pX11_row, am_pX11_refusal, am_pX11_asSort, am_pX11_put, am_pX11_element, am_pX11_shift, am_pX11_taken, am_pX11_count]
def am_pg13 : List Am_p := [am_pJ6_bitCount_0f7a4, am_pJ9_floorMod_7cf53, am_pJ7_fill_d0a16]
def am_pgL : List Am_p := am_pg0 ++ (am_pg1 ++ (am_pg2 ++ (am_pg3 ++ (am_pg4 ++ (am_pg5 ++ (am_pg6 ++ (am_pg7 ++ (am_pg8 ++ (am_pg9 ++ (am_pg10 ++ (am_pg11 ++ (am_pg12 ++ (am_pg13)))))))))))))
def am_pg (j : Nat) : Am_p := am_pgL.getD j []
def am_pL0 : Am_p := [(16, 1, .iconst 0, .iconst 0, 0), (17, 1, .istore 3, .istore_n 3, 0), (18, 1, .iload 3, .iload_n 3, 0), (19, 1, .aload 0, .aload_n 0, 0), (20, 1, .arraylength, .arraylength, 0), (21, 2, .iconst 6, .bipush 6, 0), (23, 1, .isub, .isub, 0), (24, 3, .if_icmp .gt 1759, .if_icmp .gt 1735, 0), (27, 1, .aload 0, .aload_n 0, 0), (28, 1, .iload 3, .iload_n 3, 0), (29, 1, .iaload, .iaload, 0), (30, 2, .iconst 63, .bipush 63, 0), (32, 1, .iand, .iand, 0), (33, 199, .tableswitch 1753 0 45 #[232, 265, 308, 351, 384, 407, 420, 463, 506, 539, 582, 606, 630, 663, 706, 749, 782, 825, 848, 881, 914, 947, 970, 1003, 1056, 1079, 1122, 1165, 1198, 1241, 1254, 1287, 1310, 1323, 1336, 1349, 1362, 1385, 1428, 1451, 1484, 1527, 1600, 1634, 1697, 1730], .tableswitch 1720 0 45 #[199, 232, 275, 318, 351, 374, 387, 430, 473, 506, 549, 573, 597, 630, 673, 716, 749, 792, 815, 848, 881, 914, 937, 970, 1023, 1046, 1089, 1132, 1165, 1208, 1221, 1254, 1277, 1290, 1303, 1316, 1329, 1352, 1395, 1418, 1451, 1494, 1567, 1601, 1664, 1697], 0), (232, 1, .aload 1, .aload_n 1, 0), (233, 1, .aload 0, .aload_n 0, 0), (234, 1, .iload 3, .iload_n 3, 0), (235, 1, .iconst 1, .iconst 1, 0), (236, 1, .iadd, .iadd, 0), (237, 1, .iaload, .iaload, 0), (238, 1, .aload 0, .aload_n 0, 0), (239, 1, .iload 3, .iload_n 3, 0), (240, 1, .iconst 2, .iconst 2, 0), (241, 1, .iadd, .iadd, 0), (242, 1, .iaload, .iaload, 0), (243, 3, .invokevirtual 107, .invokevirtual 13, 388), (246, 1, .aload 2, .aload_n 2, 0), (247, 1, .aload 0, .aload_n 0, 0), (248, 1, .iload 3, .iload_n 3, 0), (249, 1, .iconst 1, .iconst 1, 0), (250, 1, .iadd, .iadd, 0), (251, 1, .iaload, .iaload, 0), (252, 1, .aload 0, .aload_n 0, 0), (253, 1, .iload 3, .iload_n 3, 0), (254, 1, .iconst 2, .iconst 2, 0), (255, 1, .iadd, .iadd, 0), (256, 1, .iaload, .iaload, 0), (257, 3, .invokevirtual 168, .invokevirtual 17, 389), (260, 3, .if_icmp .eq 1753, .if_icmp .eq 1493, 0), (263, 1, .iconst 0, .iconst 0, 0), (264, 1, .ireturn, .ireturn, 0), (265, 1, .aload 1, .aload_n 1, 0), (266, 1, .aload 0, .aload_n 0, 0), (267, 1, .iload 3, .iload_n 3, 0), (268, 1, .iconst 1, .iconst 1, 0), (269, 1, .iadd, .iadd, 0), (270, 1, .iaload, .iaload, 0), (271, 1, .aload 0, .aload_n 0, 0), (272, 1, .iload 3, .iload_n 3, 0), (273, 1, .iconst 2, .iconst 2, 0)]
def am_pL1 : Am_p := [(274, 1, .iadd, .iadd, 0), (275, 1, .iaload, .iaload, 0), (276, 1, .aload 0, .aload_n 0, 0), (277, 1, .iload 3, .iload_n 3, 0), (278, 1, .iconst 3, .iconst 3, 0), (279, 1, .iadd, .iadd, 0), (280, 1, .iaload, .iaload, 0), (281, 3, .invokevirtual 108, .invokevirtual 18, 390), (284, 1, .aload 2, .aload_n 2, 0), (285, 1, .aload 0, .aload_n 0, 0), (286, 1, .iload 3, .iload_n 3, 0), (287, 1, .iconst 1, .iconst 1, 0), (288, 1, .iadd, .iadd, 0), (289, 1, .iaload, .iaload, 0), (290, 1, .aload 0, .aload_n 0, 0), (291, 1, .iload 3, .iload_n 3, 0), (292, 1, .iconst 2, .iconst 2, 0), (293, 1, .iadd, .iadd, 0), (294, 1, .iaload, .iaload, 0), (295, 1, .aload 0, .aload_n 0, 0), (296, 1, .iload 3, .iload_n 3, 0), (297, 1, .iconst 3, .iconst 3, 0), (298, 1, .iadd, .iadd, 0), (299, 1, .iaload, .iaload, 0), (300, 3, .invokevirtual 169, .invokevirtual 22, 391), (303, 3, .if_icmp .eq 1753, .if_icmp .eq 1450, 0), (306, 1, .iconst 0, .iconst 0, 0), (307, 1, .ireturn, .ireturn, 0), (308, 1, .aload 1, .aload_n 1, 0), (309, 1, .aload 0, .aload_n 0, 0), (310, 1, .iload 3, .iload_n 3, 0), (311, 1, .iconst 1, .iconst 1, 0), (312, 1, .iadd, .iadd, 0), (313, 1, .iaload, .iaload, 0), (314, 1, .aload 0, .aload_n 0, 0), (315, 1, .iload 3, .iload_n 3, 0), (316, 1, .iconst 2, .iconst 2, 0), (317, 1, .iadd, .iadd, 0), (318, 1, .iaload, .iaload, 0), (319, 1, .aload 0, .aload_n 0, 0), (320, 1, .iload 3, .iload_n 3, 0), (321, 1, .iconst 3, .iconst 3, 0), (322, 1, .iadd, .iadd, 0), (323, 1, .iaload, .iaload, 0), (324, 3, .invokevirtual 109, .invokevirtual 23, 392), (327, 1, .aload 2, .aload_n 2, 0), (328, 1, .aload 0, .aload_n 0, 0), (329, 1, .iload 3, .iload_n 3, 0), (330, 1, .iconst 1, .iconst 1, 0), (331, 1, .iadd, .iadd, 0)]
def am_pL2 : Am_p := [(332, 1, .iaload, .iaload, 0), (333, 1, .aload 0, .aload_n 0, 0), (334, 1, .iload 3, .iload_n 3, 0), (335, 1, .iconst 2, .iconst 2, 0), (336, 1, .iadd, .iadd, 0), (337, 1, .iaload, .iaload, 0), (338, 1, .aload 0, .aload_n 0, 0), (339, 1, .iload 3, .iload_n 3, 0), (340, 1, .iconst 3, .iconst 3, 0), (341, 1, .iadd, .iadd, 0), (342, 1, .iaload, .iaload, 0), (343, 3, .invokevirtual 172, .invokevirtual 26, 393), (346, 3, .if_icmp .eq 1753, .if_icmp .eq 1407, 0), (349, 1, .iconst 0, .iconst 0, 0), (350, 1, .ireturn, .ireturn, 0), (351, 1, .aload 1, .aload_n 1, 0), (352, 1, .aload 0, .aload_n 0, 0), (353, 1, .iload 3, .iload_n 3, 0), (354, 1, .iconst 1, .iconst 1, 0), (355, 1, .iadd, .iadd, 0), (356, 1, .iaload, .iaload, 0), (357, 1, .aload 0, .aload_n 0, 0), (358, 1, .iload 3, .iload_n 3, 0), (359, 1, .iconst 2, .iconst 2, 0), (360, 1, .iadd, .iadd, 0), (361, 1, .iaload, .iaload, 0), (362, 3, .invokevirtual 110, .invokevirtual 27, 394), (365, 1, .aload 2, .aload_n 2, 0), (366, 1, .aload 0, .aload_n 0, 0), (367, 1, .iload 3, .iload_n 3, 0), (368, 1, .iconst 1, .iconst 1, 0), (369, 1, .iadd, .iadd, 0), (370, 1, .iaload, .iaload, 0), (371, 1, .aload 0, .aload_n 0, 0), (372, 1, .iload 3, .iload_n 3, 0), (373, 1, .iconst 2, .iconst 2, 0), (374, 1, .iadd, .iadd, 0), (375, 1, .iaload, .iaload, 0), (376, 3, .invokevirtual 173, .invokevirtual 30, 395), (379, 3, .if_icmp .eq 1753, .if_icmp .eq 1374, 0), (382, 1, .iconst 0, .iconst 0, 0), (383, 1, .ireturn, .ireturn, 0), (384, 1, .aload 1, .aload_n 1, 0), (385, 1, .aload 0, .aload_n 0, 0), (386, 1, .iload 3, .iload_n 3, 0), (387, 1, .iconst 1, .iconst 1, 0), (388, 1, .iadd, .iadd, 0), (389, 1, .iaload, .iaload, 0), (390, 3, .invokevirtual 111, .invokevirtual 31, 396), (393, 1, .aload 2, .aload_n 2, 0)]
def am_pL3 : Am_p := [(394, 1, .aload 0, .aload_n 0, 0), (395, 1, .iload 3, .iload_n 3, 0), (396, 1, .iconst 1, .iconst 1, 0), (397, 1, .iadd, .iadd, 0), (398, 1, .iaload, .iaload, 0), (399, 3, .invokevirtual 174, .invokevirtual 35, 397), (402, 3, .if_icmp .eq 1753, .if_icmp .eq 1351, 0), (405, 1, .iconst 0, .iconst 0, 0), (406, 1, .ireturn, .ireturn, 0), (407, 1, .aload 1, .aload_n 1, 0), (408, 3, .invokevirtual 112, .invokevirtual 36, 398), (411, 1, .aload 2, .aload_n 2, 0), (412, 3, .invokevirtual 186, .invokevirtual 40, 399), (415, 3, .if_icmp .eq 1753, .if_icmp .eq 1338, 0), (418, 1, .iconst 0, .iconst 0, 0), (419, 1, .ireturn, .ireturn, 0), (420, 1, .aload 1, .aload_n 1, 0), (421, 1, .aload 0, .aload_n 0, 0), (422, 1, .iload 3, .iload_n 3, 0), (423, 1, .iconst 1, .iconst 1, 0), (424, 1, .iadd, .iadd, 0), (425, 1, .iaload, .iaload, 0), (426, 1, .aload 0, .aload_n 0, 0), (427, 1, .iload 3, .iload_n 3, 0), (428, 1, .iconst 2, .iconst 2, 0), (429, 1, .iadd, .iadd, 0), (430, 1, .iaload, .iaload, 0), (431, 1, .aload 0, .aload_n 0, 0), (432, 1, .iload 3, .iload_n 3, 0), (433, 1, .iconst 3, .iconst 3, 0), (434, 1, .iadd, .iadd, 0), (435, 1, .iaload, .iaload, 0), (436, 3, .invokevirtual 113, .invokevirtual 41, 400), (439, 1, .aload 2, .aload_n 2, 0), (440, 1, .aload 0, .aload_n 0, 0), (441, 1, .iload 3, .iload_n 3, 0), (442, 1, .iconst 1, .iconst 1, 0), (443, 1, .iadd, .iadd, 0), (444, 1, .iaload, .iaload, 0), (445, 1, .aload 0, .aload_n 0, 0), (446, 1, .iload 3, .iload_n 3, 0), (447, 1, .iconst 2, .iconst 2, 0), (448, 1, .iadd, .iadd, 0), (449, 1, .iaload, .iaload, 0), (450, 1, .aload 0, .aload_n 0, 0), (451, 1, .iload 3, .iload_n 3, 0), (452, 1, .iconst 3, .iconst 3, 0), (453, 1, .iadd, .iadd, 0), (454, 1, .iaload, .iaload, 0), (455, 3, .invokevirtual 193, .invokevirtual 44, 401)]
def am_pL4 : Am_p := [(458, 3, .if_icmp .eq 1753, .if_icmp .eq 1295, 0), (461, 1, .iconst 0, .iconst 0, 0), (462, 1, .ireturn, .ireturn, 0), (463, 1, .aload 1, .aload_n 1, 0), (464, 1, .aload 0, .aload_n 0, 0), (465, 1, .iload 3, .iload_n 3, 0), (466, 1, .iconst 1, .iconst 1, 0), (467, 1, .iadd, .iadd, 0), (468, 1, .iaload, .iaload, 0), (469, 1, .aload 0, .aload_n 0, 0), (470, 1, .iload 3, .iload_n 3, 0), (471, 1, .iconst 2, .iconst 2, 0), (472, 1, .iadd, .iadd, 0), (473, 1, .iaload, .iaload, 0), (474, 1, .aload 0, .aload_n 0, 0), (475, 1, .iload 3, .iload_n 3, 0), (476, 1, .iconst 3, .iconst 3, 0), (477, 1, .iadd, .iadd, 0), (478, 1, .iaload, .iaload, 0), (479, 3, .invokevirtual 114, .invokevirtual 45, 402), (482, 1, .aload 2, .aload_n 2, 0), (483, 1, .aload 0, .aload_n 0, 0), (484, 1, .iload 3, .iload_n 3, 0), (485, 1, .iconst 1, .iconst 1, 0), (486, 1, .iadd, .iadd, 0), (487, 1, .iaload, .iaload, 0), (488, 1, .aload 0, .aload_n 0, 0), (489, 1, .iload 3, .iload_n 3, 0), (490, 1, .iconst 2, .iconst 2, 0), (491, 1, .iadd, .iadd, 0), (492, 1, .iaload, .iaload, 0), (493, 1, .aload 0, .aload_n 0, 0), (494, 1, .iload 3, .iload_n 3, 0), (495, 1, .iconst 3, .iconst 3, 0), (496, 1, .iadd, .iadd, 0), (497, 1, .iaload, .iaload, 0), (498, 3, .invokevirtual 194, .invokevirtual 48, 403), (501, 3, .if_icmp .eq 1753, .if_icmp .eq 1252, 0), (504, 1, .iconst 0, .iconst 0, 0), (505, 1, .ireturn, .ireturn, 0), (506, 1, .aload 1, .aload_n 1, 0), (507, 1, .aload 0, .aload_n 0, 0), (508, 1, .iload 3, .iload_n 3, 0), (509, 1, .iconst 1, .iconst 1, 0), (510, 1, .iadd, .iadd, 0), (511, 1, .iaload, .iaload, 0), (512, 1, .aload 0, .aload_n 0, 0), (513, 1, .iload 3, .iload_n 3, 0), (514, 1, .iconst 2, .iconst 2, 0), (515, 1, .iadd, .iadd, 0)]
def am_pL5 : Am_p := [(516, 1, .iaload, .iaload, 0), (517, 3, .invokevirtual 115, .invokevirtual 49, 404), (520, 1, .aload 2, .aload_n 2, 0), (521, 1, .aload 0, .aload_n 0, 0), (522, 1, .iload 3, .iload_n 3, 0), (523, 1, .iconst 1, .iconst 1, 0), (524, 1, .iadd, .iadd, 0), (525, 1, .iaload, .iaload, 0), (526, 1, .aload 0, .aload_n 0, 0), (527, 1, .iload 3, .iload_n 3, 0), (528, 1, .iconst 2, .iconst 2, 0), (529, 1, .iadd, .iadd, 0), (530, 1, .iaload, .iaload, 0), (531, 3, .invokevirtual 195, .invokevirtual 52, 405), (534, 3, .if_icmp .eq 1753, .if_icmp .eq 1219, 0), (537, 1, .iconst 0, .iconst 0, 0), (538, 1, .ireturn, .ireturn, 0), (539, 1, .aload 1, .aload_n 1, 0), (540, 1, .aload 0, .aload_n 0, 0), (541, 1, .iload 3, .iload_n 3, 0), (542, 1, .iconst 1, .iconst 1, 0), (543, 1, .iadd, .iadd, 0), (544, 1, .iaload, .iaload, 0), (545, 1, .aload 0, .aload_n 0, 0), (546, 1, .iload 3, .iload_n 3, 0), (547, 1, .iconst 2, .iconst 2, 0), (548, 1, .iadd, .iadd, 0), (549, 1, .iaload, .iaload, 0), (550, 1, .aload 0, .aload_n 0, 0), (551, 1, .iload 3, .iload_n 3, 0), (552, 1, .iconst 3, .iconst 3, 0), (553, 1, .iadd, .iadd, 0), (554, 1, .iaload, .iaload, 0), (555, 3, .invokevirtual 116, .invokevirtual 53, 406), (558, 1, .aload 2, .aload_n 2, 0), (559, 1, .aload 0, .aload_n 0, 0), (560, 1, .iload 3, .iload_n 3, 0), (561, 1, .iconst 1, .iconst 1, 0), (562, 1, .iadd, .iadd, 0), (563, 1, .iaload, .iaload, 0), (564, 1, .aload 0, .aload_n 0, 0), (565, 1, .iload 3, .iload_n 3, 0), (566, 1, .iconst 2, .iconst 2, 0), (567, 1, .iadd, .iadd, 0), (568, 1, .iaload, .iaload, 0), (569, 1, .aload 0, .aload_n 0, 0), (570, 1, .iload 3, .iload_n 3, 0), (571, 1, .iconst 3, .iconst 3, 0), (572, 1, .iadd, .iadd, 0), (573, 1, .iaload, .iaload, 0)]
def am_pL6 : Am_p := [(574, 3, .invokevirtual 196, .invokevirtual 56, 407), (577, 3, .if_icmp .eq 1753, .if_icmp .eq 1176, 0), (580, 1, .iconst 0, .iconst 0, 0), (581, 1, .ireturn, .ireturn, 0), (582, 1, .aload 1, .aload_n 1, 0), (583, 1, .aload 0, .aload_n 0, 0), (584, 1, .iload 3, .iload_n 3, 0), (585, 1, .iconst 1, .iconst 1, 0), (586, 1, .iadd, .iadd, 0), (587, 1, .iaload, .iaload, 0), (588, 3, .invokevirtual 117, .invokevirtual 57, 408), (591, 1, .aload 2, .aload_n 2, 0), (592, 1, .aload 0, .aload_n 0, 0), (593, 1, .iload 3, .iload_n 3, 0), (594, 1, .iconst 1, .iconst 1, 0), (595, 1, .iadd, .iadd, 0), (596, 1, .iaload, .iaload, 0), (597, 3, .invokevirtual 199, .invokevirtual 61, 409), (600, 1, .lcmp, .lcmp, 0), (601, 3, .ifCond .eq 1753, .ifCond .eq 1152, 0), (604, 1, .iconst 0, .iconst 0, 0), (605, 1, .ireturn, .ireturn, 0), (606, 1, .aload 1, .aload_n 1, 0), (607, 1, .aload 0, .aload_n 0, 0), (608, 1, .iload 3, .iload_n 3, 0), (609, 1, .iconst 1, .iconst 1, 0), (610, 1, .iadd, .iadd, 0), (611, 1, .iaload, .iaload, 0), (612, 3, .invokevirtual 118, .invokevirtual 62, 410), (615, 1, .aload 2, .aload_n 2, 0), (616, 1, .aload 0, .aload_n 0, 0), (617, 1, .iload 3, .iload_n 3, 0), (618, 1, .iconst 1, .iconst 1, 0), (619, 1, .iadd, .iadd, 0), (620, 1, .iaload, .iaload, 0), (621, 3, .invokevirtual 200, .invokevirtual 65, 411), (624, 1, .lcmp, .lcmp, 0), (625, 3, .ifCond .eq 1753, .ifCond .eq 1128, 0), (628, 1, .iconst 0, .iconst 0, 0), (629, 1, .ireturn, .ireturn, 0), (630, 1, .aload 1, .aload_n 1, 0), (631, 1, .aload 0, .aload_n 0, 0), (632, 1, .iload 3, .iload_n 3, 0), (633, 1, .iconst 1, .iconst 1, 0), (634, 1, .iadd, .iadd, 0), (635, 1, .iaload, .iaload, 0), (636, 1, .aload 0, .aload_n 0, 0), (637, 1, .iload 3, .iload_n 3, 0), (638, 1, .iconst 2, .iconst 2, 0), (639, 1, .iadd, .iadd, 0)]
def am_pL7 : Am_p := [(640, 1, .iaload, .iaload, 0), (641, 3, .invokevirtual 119, .invokevirtual 66, 412), (644, 1, .aload 2, .aload_n 2, 0), (645, 1, .aload 0, .aload_n 0, 0), (646, 1, .iload 3, .iload_n 3, 0), (647, 1, .iconst 1, .iconst 1, 0), (648, 1, .iadd, .iadd, 0), (649, 1, .iaload, .iaload, 0), (650, 1, .aload 0, .aload_n 0, 0), (651, 1, .iload 3, .iload_n 3, 0), (652, 1, .iconst 2, .iconst 2, 0), (653, 1, .iadd, .iadd, 0), (654, 1, .iaload, .iaload, 0), (655, 3, .invokevirtual 202, .invokevirtual 69, 413), (658, 3, .if_icmp .eq 1753, .if_icmp .eq 1095, 0), (661, 1, .iconst 0, .iconst 0, 0), (662, 1, .ireturn, .ireturn, 0), (663, 1, .aload 1, .aload_n 1, 0), (664, 1, .aload 0, .aload_n 0, 0), (665, 1, .iload 3, .iload_n 3, 0), (666, 1, .iconst 1, .iconst 1, 0), (667, 1, .iadd, .iadd, 0), (668, 1, .iaload, .iaload, 0), (669, 1, .aload 0, .aload_n 0, 0), (670, 1, .iload 3, .iload_n 3, 0), (671, 1, .iconst 2, .iconst 2, 0), (672, 1, .iadd, .iadd, 0), (673, 1, .iaload, .iaload, 0), (674, 1, .aload 0, .aload_n 0, 0), (675, 1, .iload 3, .iload_n 3, 0), (676, 1, .iconst 3, .iconst 3, 0), (677, 1, .iadd, .iadd, 0), (678, 1, .iaload, .iaload, 0), (679, 3, .invokevirtual 120, .invokevirtual 70, 414), (682, 1, .aload 2, .aload_n 2, 0), (683, 1, .aload 0, .aload_n 0, 0), (684, 1, .iload 3, .iload_n 3, 0), (685, 1, .iconst 1, .iconst 1, 0), (686, 1, .iadd, .iadd, 0), (687, 1, .iaload, .iaload, 0), (688, 1, .aload 0, .aload_n 0, 0), (689, 1, .iload 3, .iload_n 3, 0), (690, 1, .iconst 2, .iconst 2, 0), (691, 1, .iadd, .iadd, 0), (692, 1, .iaload, .iaload, 0), (693, 1, .aload 0, .aload_n 0, 0), (694, 1, .iload 3, .iload_n 3, 0), (695, 1, .iconst 3, .iconst 3, 0), (696, 1, .iadd, .iadd, 0), (697, 1, .iaload, .iaload, 0)]
def am_pL8 : Am_p := [(698, 3, .invokevirtual 203, .invokevirtual 73, 415), (701, 3, .if_icmp .eq 1753, .if_icmp .eq 1052, 0), (704, 1, .iconst 0, .iconst 0, 0), (705, 1, .ireturn, .ireturn, 0), (706, 1, .aload 1, .aload_n 1, 0), (707, 1, .aload 0, .aload_n 0, 0), (708, 1, .iload 3, .iload_n 3, 0), (709, 1, .iconst 1, .iconst 1, 0), (710, 1, .iadd, .iadd, 0), (711, 1, .iaload, .iaload, 0), (712, 1, .aload 0, .aload_n 0, 0), (713, 1, .iload 3, .iload_n 3, 0), (714, 1, .iconst 2, .iconst 2, 0), (715, 1, .iadd, .iadd, 0), (716, 1, .iaload, .iaload, 0), (717, 1, .aload 0, .aload_n 0, 0), (718, 1, .iload 3, .iload_n 3, 0), (719, 1, .iconst 3, .iconst 3, 0), (720, 1, .iadd, .iadd, 0), (721, 1, .iaload, .iaload, 0), (722, 3, .invokevirtual 121, .invokevirtual 74, 416), (725, 1, .aload 2, .aload_n 2, 0), (726, 1, .aload 0, .aload_n 0, 0), (727, 1, .iload 3, .iload_n 3, 0), (728, 1, .iconst 1, .iconst 1, 0), (729, 1, .iadd, .iadd, 0), (730, 1, .iaload, .iaload, 0), (731, 1, .aload 0, .aload_n 0, 0), (732, 1, .iload 3, .iload_n 3, 0), (733, 1, .iconst 2, .iconst 2, 0), (734, 1, .iadd, .iadd, 0), (735, 1, .iaload, .iaload, 0), (736, 1, .aload 0, .aload_n 0, 0), (737, 1, .iload 3, .iload_n 3, 0), (738, 1, .iconst 3, .iconst 3, 0), (739, 1, .iadd, .iadd, 0), (740, 1, .iaload, .iaload, 0), (741, 3, .invokevirtual 205, .invokevirtual 77, 417), (744, 3, .if_icmp .eq 1753, .if_icmp .eq 1009, 0), (747, 1, .iconst 0, .iconst 0, 0), (748, 1, .ireturn, .ireturn, 0), (749, 1, .aload 1, .aload_n 1, 0), (750, 1, .aload 0, .aload_n 0, 0), (751, 1, .iload 3, .iload_n 3, 0), (752, 1, .iconst 1, .iconst 1, 0), (753, 1, .iadd, .iadd, 0), (754, 1, .iaload, .iaload, 0), (755, 1, .aload 0, .aload_n 0, 0), (756, 1, .iload 3, .iload_n 3, 0), (757, 1, .iconst 2, .iconst 2, 0)]
def am_pL9 : Am_p := [(758, 1, .iadd, .iadd, 0), (759, 1, .iaload, .iaload, 0), (760, 3, .invokevirtual 122, .invokevirtual 78, 418), (763, 1, .aload 2, .aload_n 2, 0), (764, 1, .aload 0, .aload_n 0, 0), (765, 1, .iload 3, .iload_n 3, 0), (766, 1, .iconst 1, .iconst 1, 0), (767, 1, .iadd, .iadd, 0), (768, 1, .iaload, .iaload, 0), (769, 1, .aload 0, .aload_n 0, 0), (770, 1, .iload 3, .iload_n 3, 0), (771, 1, .iconst 2, .iconst 2, 0), (772, 1, .iadd, .iadd, 0), (773, 1, .iaload, .iaload, 0), (774, 3, .invokevirtual 207, .invokevirtual 81, 419), (777, 3, .if_icmp .eq 1753, .if_icmp .eq 976, 0), (780, 1, .iconst 0, .iconst 0, 0), (781, 1, .ireturn, .ireturn, 0), (782, 1, .aload 1, .aload_n 1, 0), (783, 1, .aload 0, .aload_n 0, 0), (784, 1, .iload 3, .iload_n 3, 0), (785, 1, .iconst 1, .iconst 1, 0), (786, 1, .iadd, .iadd, 0), (787, 1, .iaload, .iaload, 0), (788, 1, .aload 0, .aload_n 0, 0), (789, 1, .iload 3, .iload_n 3, 0), (790, 1, .iconst 2, .iconst 2, 0), (791, 1, .iadd, .iadd, 0), (792, 1, .iaload, .iaload, 0), (793, 1, .aload 0, .aload_n 0, 0), (794, 1, .iload 3, .iload_n 3, 0), (795, 1, .iconst 3, .iconst 3, 0), (796, 1, .iadd, .iadd, 0), (797, 1, .iaload, .iaload, 0), (798, 3, .invokevirtual 123, .invokevirtual 82, 420), (801, 1, .aload 2, .aload_n 2, 0), (802, 1, .aload 0, .aload_n 0, 0), (803, 1, .iload 3, .iload_n 3, 0), (804, 1, .iconst 1, .iconst 1, 0), (805, 1, .iadd, .iadd, 0), (806, 1, .iaload, .iaload, 0), (807, 1, .aload 0, .aload_n 0, 0), (808, 1, .iload 3, .iload_n 3, 0), (809, 1, .iconst 2, .iconst 2, 0), (810, 1, .iadd, .iadd, 0), (811, 1, .iaload, .iaload, 0), (812, 1, .aload 0, .aload_n 0, 0), (813, 1, .iload 3, .iload_n 3, 0), (814, 1, .iconst 3, .iconst 3, 0), (815, 1, .iadd, .iadd, 0)]
def am_pL10 : Am_p := [(816, 1, .iaload, .iaload, 0), (817, 3, .invokevirtual 208, .invokevirtual 85, 421), (820, 3, .if_icmp .eq 1753, .if_icmp .eq 933, 0), (823, 1, .iconst 0, .iconst 0, 0), (824, 1, .ireturn, .ireturn, 0), (825, 1, .aload 1, .aload_n 1, 0), (826, 1, .aload 0, .aload_n 0, 0), (827, 1, .iload 3, .iload_n 3, 0), (828, 1, .iconst 1, .iconst 1, 0), (829, 1, .iadd, .iadd, 0), (830, 1, .iaload, .iaload, 0), (831, 3, .invokevirtual 124, .invokevirtual 86, 422), (834, 1, .aload 2, .aload_n 2, 0), (835, 1, .aload 0, .aload_n 0, 0), (836, 1, .iload 3, .iload_n 3, 0), (837, 1, .iconst 1, .iconst 1, 0), (838, 1, .iadd, .iadd, 0), (839, 1, .iaload, .iaload, 0), (840, 3, .invokevirtual 210, .invokevirtual 89, 423), (843, 3, .if_icmp .eq 1753, .if_icmp .eq 910, 0), (846, 1, .iconst 0, .iconst 0, 0), (847, 1, .ireturn, .ireturn, 0), (848, 1, .aload 1, .aload_n 1, 0), (849, 1, .aload 0, .aload_n 0, 0), (850, 1, .iload 3, .iload_n 3, 0), (851, 1, .iconst 1, .iconst 1, 0), (852, 1, .iadd, .iadd, 0), (853, 1, .iaload, .iaload, 0), (854, 1, .aload 0, .aload_n 0, 0), (855, 1, .iload 3, .iload_n 3, 0), (856, 1, .iconst 2, .iconst 2, 0), (857, 1, .iadd, .iadd, 0), (858, 1, .iaload, .iaload, 0), (859, 3, .invokevirtual 125, .invokevirtual 90, 424), (862, 1, .aload 2, .aload_n 2, 0), (863, 1, .aload 0, .aload_n 0, 0), (864, 1, .iload 3, .iload_n 3, 0), (865, 1, .iconst 1, .iconst 1, 0), (866, 1, .iadd, .iadd, 0), (867, 1, .iaload, .iaload, 0), (868, 1, .aload 0, .aload_n 0, 0), (869, 1, .iload 3, .iload_n 3, 0), (870, 1, .iconst 2, .iconst 2, 0), (871, 1, .iadd, .iadd, 0), (872, 1, .iaload, .iaload, 0), (873, 3, .invokevirtual 219, .invokevirtual 93, 425), (876, 3, .if_icmp .eq 1753, .if_icmp .eq 877, 0), (879, 1, .iconst 0, .iconst 0, 0), (880, 1, .ireturn, .ireturn, 0), (881, 1, .aload 1, .aload_n 1, 0)]
def am_pL11 : Am_p := [(882, 1, .aload 0, .aload_n 0, 0), (883, 1, .iload 3, .iload_n 3, 0), (884, 1, .iconst 1, .iconst 1, 0), (885, 1, .iadd, .iadd, 0), (886, 1, .iaload, .iaload, 0), (887, 1, .aload 0, .aload_n 0, 0), (888, 1, .iload 3, .iload_n 3, 0), (889, 1, .iconst 2, .iconst 2, 0), (890, 1, .iadd, .iadd, 0), (891, 1, .iaload, .iaload, 0), (892, 3, .invokevirtual 126, .invokevirtual 94, 426), (895, 1, .aload 2, .aload_n 2, 0), (896, 1, .aload 0, .aload_n 0, 0), (897, 1, .iload 3, .iload_n 3, 0), (898, 1, .iconst 1, .iconst 1, 0), (899, 1, .iadd, .iadd, 0), (900, 1, .iaload, .iaload, 0), (901, 1, .aload 0, .aload_n 0, 0), (902, 1, .iload 3, .iload_n 3, 0), (903, 1, .iconst 2, .iconst 2, 0), (904, 1, .iadd, .iadd, 0), (905, 1, .iaload, .iaload, 0), (906, 3, .invokevirtual 220, .invokevirtual 97, 427), (909, 3, .if_icmp .eq 1753, .if_icmp .eq 844, 0), (912, 1, .iconst 0, .iconst 0, 0), (913, 1, .ireturn, .ireturn, 0), (914, 1, .aload 1, .aload_n 1, 0), (915, 1, .aload 0, .aload_n 0, 0), (916, 1, .iload 3, .iload_n 3, 0), (917, 1, .iconst 1, .iconst 1, 0), (918, 1, .iadd, .iadd, 0), (919, 1, .iaload, .iaload, 0), (920, 1, .aload 0, .aload_n 0, 0), (921, 1, .iload 3, .iload_n 3, 0), (922, 1, .iconst 2, .iconst 2, 0), (923, 1, .iadd, .iadd, 0), (924, 1, .iaload, .iaload, 0), (925, 3, .invokevirtual 127, .invokevirtual 98, 428), (928, 1, .aload 2, .aload_n 2, 0), (929, 1, .aload 0, .aload_n 0, 0), (930, 1, .iload 3, .iload_n 3, 0), (931, 1, .iconst 1, .iconst 1, 0), (932, 1, .iadd, .iadd, 0), (933, 1, .iaload, .iaload, 0), (934, 1, .aload 0, .aload_n 0, 0), (935, 1, .iload 3, .iload_n 3, 0), (936, 1, .iconst 2, .iconst 2, 0), (937, 1, .iadd, .iadd, 0), (938, 1, .iaload, .iaload, 0), (939, 3, .invokevirtual 221, .invokevirtual 101, 429)]
def am_pL12 : Am_p := [(942, 3, .if_icmp .eq 1753, .if_icmp .eq 811, 0), (945, 1, .iconst 0, .iconst 0, 0), (946, 1, .ireturn, .ireturn, 0), (947, 1, .aload 1, .aload_n 1, 0), (948, 1, .aload 0, .aload_n 0, 0), (949, 1, .iload 3, .iload_n 3, 0), (950, 1, .iconst 1, .iconst 1, 0), (951, 1, .iadd, .iadd, 0), (952, 1, .iaload, .iaload, 0), (953, 3, .invokevirtual 128, .invokevirtual 102, 430), (956, 1, .aload 2, .aload_n 2, 0), (957, 1, .aload 0, .aload_n 0, 0), (958, 1, .iload 3, .iload_n 3, 0), (959, 1, .iconst 1, .iconst 1, 0), (960, 1, .iadd, .iadd, 0), (961, 1, .iaload, .iaload, 0), (962, 3, .invokevirtual 223, .invokevirtual 105, 431), (965, 3, .if_icmp .eq 1753, .if_icmp .eq 788, 0), (968, 1, .iconst 0, .iconst 0, 0), (969, 1, .ireturn, .ireturn, 0), (970, 1, .aload 1, .aload_n 1, 0), (971, 1, .aload 0, .aload_n 0, 0), (972, 1, .iload 3, .iload_n 3, 0), (973, 1, .iconst 1, .iconst 1, 0), (974, 1, .iadd, .iadd, 0), (975, 1, .iaload, .iaload, 0), (976, 1, .aload 0, .aload_n 0, 0), (977, 1, .iload 3, .iload_n 3, 0), (978, 1, .iconst 2, .iconst 2, 0), (979, 1, .iadd, .iadd, 0), (980, 1, .iaload, .iaload, 0), (981, 3, .invokevirtual 129, .invokevirtual 106, 432), (984, 1, .aload 2, .aload_n 2, 0), (985, 1, .aload 0, .aload_n 0, 0), (986, 1, .iload 3, .iload_n 3, 0), (987, 1, .iconst 1, .iconst 1, 0), (988, 1, .iadd, .iadd, 0), (989, 1, .iaload, .iaload, 0), (990, 1, .aload 0, .aload_n 0, 0), (991, 1, .iload 3, .iload_n 3, 0), (992, 1, .iconst 2, .iconst 2, 0), (993, 1, .iadd, .iadd, 0), (994, 1, .iaload, .iaload, 0), (995, 3, .invokevirtual 226, .invokevirtual 109, 433), (998, 3, .if_icmp .eq 1753, .if_icmp .eq 755, 0), (1001, 1, .iconst 0, .iconst 0, 0), (1002, 1, .ireturn, .ireturn, 0), (1003, 1, .aload 1, .aload_n 1, 0), (1004, 1, .aload 0, .aload_n 0, 0), (1005, 1, .iload 3, .iload_n 3, 0)]
def am_pL13 : Am_p := [(1006, 1, .iconst 1, .iconst 1, 0), (1007, 1, .iadd, .iadd, 0), (1008, 1, .iaload, .iaload, 0), (1009, 1, .aload 0, .aload_n 0, 0), (1010, 1, .iload 3, .iload_n 3, 0), (1011, 1, .iconst 2, .iconst 2, 0), (1012, 1, .iadd, .iadd, 0), (1013, 1, .iaload, .iaload, 0), (1014, 1, .aload 0, .aload_n 0, 0), (1015, 1, .iload 3, .iload_n 3, 0), (1016, 1, .iconst 3, .iconst 3, 0), (1017, 1, .iadd, .iadd, 0), (1018, 1, .iaload, .iaload, 0), (1019, 1, .aload 0, .aload_n 0, 0), (1020, 1, .iload 3, .iload_n 3, 0), (1021, 1, .iconst 4, .iconst 4, 0), (1022, 1, .iadd, .iadd, 0), (1023, 1, .iaload, .iaload, 0), (1024, 3, .invokevirtual 130, .invokevirtual 110, 434), (1027, 1, .aload 2, .aload_n 2, 0), (1028, 1, .aload 0, .aload_n 0, 0), (1029, 1, .iload 3, .iload_n 3, 0), (1030, 1, .iconst 1, .iconst 1, 0), (1031, 1, .iadd, .iadd, 0), (1032, 1, .iaload, .iaload, 0), (1033, 1, .aload 0, .aload_n 0, 0), (1034, 1, .iload 3, .iload_n 3, 0), (1035, 1, .iconst 2, .iconst 2, 0), (1036, 1, .iadd, .iadd, 0), (1037, 1, .iaload, .iaload, 0), (1038, 1, .aload 0, .aload_n 0, 0), (1039, 1, .iload 3, .iload_n 3, 0), (1040, 1, .iconst 3, .iconst 3, 0), (1041, 1, .iadd, .iadd, 0), (1042, 1, .iaload, .iaload, 0), (1043, 1, .aload 0, .aload_n 0, 0), (1044, 1, .iload 3, .iload_n 3, 0), (1045, 1, .iconst 4, .iconst 4, 0), (1046, 1, .iadd, .iadd, 0), (1047, 1, .iaload, .iaload, 0), (1048, 3, .invokevirtual 227, .invokevirtual 114, 435), (1051, 3, .if_icmp .eq 1753, .if_icmp .eq 702, 0), (1054, 1, .iconst 0, .iconst 0, 0), (1055, 1, .ireturn, .ireturn, 0), (1056, 1, .aload 1, .aload_n 1, 0), (1057, 1, .aload 0, .aload_n 0, 0), (1058, 1, .iload 3, .iload_n 3, 0), (1059, 1, .iconst 1, .iconst 1, 0), (1060, 1, .iadd, .iadd, 0), (1061, 1, .iaload, .iaload, 0)]
def am_pL14 : Am_p := [(1062, 3, .invokevirtual 131, .invokevirtual 115, 436), (1065, 1, .aload 2, .aload_n 2, 0), (1066, 1, .aload 0, .aload_n 0, 0), (1067, 1, .iload 3, .iload_n 3, 0), (1068, 1, .iconst 1, .iconst 1, 0), (1069, 1, .iadd, .iadd, 0), (1070, 1, .iaload, .iaload, 0), (1071, 3, .invokevirtual 228, .invokevirtual 118, 437), (1074, 3, .if_icmp .eq 1753, .if_icmp .eq 679, 0), (1077, 1, .iconst 0, .iconst 0, 0), (1078, 1, .ireturn, .ireturn, 0), (1079, 1, .aload 1, .aload_n 1, 0), (1080, 1, .aload 0, .aload_n 0, 0), (1081, 1, .iload 3, .iload_n 3, 0), (1082, 1, .iconst 1, .iconst 1, 0), (1083, 1, .iadd, .iadd, 0), (1084, 1, .iaload, .iaload, 0), (1085, 1, .aload 0, .aload_n 0, 0), (1086, 1, .iload 3, .iload_n 3, 0), (1087, 1, .iconst 2, .iconst 2, 0), (1088, 1, .iadd, .iadd, 0), (1089, 1, .iaload, .iaload, 0), (1090, 1, .aload 0, .aload_n 0, 0), (1091, 1, .iload 3, .iload_n 3, 0), (1092, 1, .iconst 3, .iconst 3, 0), (1093, 1, .iadd, .iadd, 0), (1094, 1, .iaload, .iaload, 0), (1095, 3, .invokevirtual 132, .invokevirtual 119, 438), (1098, 1, .aload 2, .aload_n 2, 0), (1099, 1, .aload 0, .aload_n 0, 0), (1100, 1, .iload 3, .iload_n 3, 0), (1101, 1, .iconst 1, .iconst 1, 0), (1102, 1, .iadd, .iadd, 0), (1103, 1, .iaload, .iaload, 0), (1104, 1, .aload 0, .aload_n 0, 0), (1105, 1, .iload 3, .iload_n 3, 0), (1106, 1, .iconst 2, .iconst 2, 0), (1107, 1, .iadd, .iadd, 0), (1108, 1, .iaload, .iaload, 0), (1109, 1, .aload 0, .aload_n 0, 0), (1110, 1, .iload 3, .iload_n 3, 0), (1111, 1, .iconst 3, .iconst 3, 0), (1112, 1, .iadd, .iadd, 0), (1113, 1, .iaload, .iaload, 0), (1114, 3, .invokevirtual 229, .invokevirtual 122, 439), (1117, 3, .if_icmp .eq 1753, .if_icmp .eq 636, 0), (1120, 1, .iconst 0, .iconst 0, 0), (1121, 1, .ireturn, .ireturn, 0), (1122, 1, .aload 1, .aload_n 1, 0), (1123, 1, .aload 0, .aload_n 0, 0)]
def am_pL15 : Am_p := [(1124, 1, .iload 3, .iload_n 3, 0), (1125, 1, .iconst 1, .iconst 1, 0), (1126, 1, .iadd, .iadd, 0), (1127, 1, .iaload, .iaload, 0), (1128, 1, .aload 0, .aload_n 0, 0), (1129, 1, .iload 3, .iload_n 3, 0), (1130, 1, .iconst 2, .iconst 2, 0), (1131, 1, .iadd, .iadd, 0), (1132, 1, .iaload, .iaload, 0), (1133, 1, .aload 0, .aload_n 0, 0), (1134, 1, .iload 3, .iload_n 3, 0), (1135, 1, .iconst 3, .iconst 3, 0), (1136, 1, .iadd, .iadd, 0), (1137, 1, .iaload, .iaload, 0), (1138, 3, .invokevirtual 133, .invokevirtual 123, 440), (1141, 1, .aload 2, .aload_n 2, 0), (1142, 1, .aload 0, .aload_n 0, 0), (1143, 1, .iload 3, .iload_n 3, 0), (1144, 1, .iconst 1, .iconst 1, 0), (1145, 1, .iadd, .iadd, 0), (1146, 1, .iaload, .iaload, 0), (1147, 1, .aload 0, .aload_n 0, 0), (1148, 1, .iload 3, .iload_n 3, 0), (1149, 1, .iconst 2, .iconst 2, 0), (1150, 1, .iadd, .iadd, 0), (1151, 1, .iaload, .iaload, 0), (1152, 1, .aload 0, .aload_n 0, 0), (1153, 1, .iload 3, .iload_n 3, 0), (1154, 1, .iconst 3, .iconst 3, 0), (1155, 1, .iadd, .iadd, 0), (1156, 1, .iaload, .iaload, 0), (1157, 3, .invokevirtual 230, .invokevirtual 126, 441), (1160, 3, .if_icmp .eq 1753, .if_icmp .eq 593, 0), (1163, 1, .iconst 0, .iconst 0, 0), (1164, 1, .ireturn, .ireturn, 0), (1165, 1, .aload 1, .aload_n 1, 0), (1166, 1, .aload 0, .aload_n 0, 0), (1167, 1, .iload 3, .iload_n 3, 0), (1168, 1, .iconst 1, .iconst 1, 0), (1169, 1, .iadd, .iadd, 0), (1170, 1, .iaload, .iaload, 0), (1171, 1, .aload 0, .aload_n 0, 0), (1172, 1, .iload 3, .iload_n 3, 0), (1173, 1, .iconst 2, .iconst 2, 0), (1174, 1, .iadd, .iadd, 0), (1175, 1, .iaload, .iaload, 0), (1176, 3, .invokevirtual 134, .invokevirtual 127, 442), (1179, 1, .aload 2, .aload_n 2, 0), (1180, 1, .aload 0, .aload_n 0, 0), (1181, 1, .iload 3, .iload_n 3, 0)]
def am_pL16 : Am_p := [(1182, 1, .iconst 1, .iconst 1, 0), (1183, 1, .iadd, .iadd, 0), (1184, 1, .iaload, .iaload, 0), (1185, 1, .aload 0, .aload_n 0, 0), (1186, 1, .iload 3, .iload_n 3, 0), (1187, 1, .iconst 2, .iconst 2, 0), (1188, 1, .iadd, .iadd, 0), (1189, 1, .iaload, .iaload, 0), (1190, 3, .invokevirtual 232, .invokevirtual 130, 443), (1193, 3, .if_icmp .eq 1753, .if_icmp .eq 560, 0), (1196, 1, .iconst 0, .iconst 0, 0), (1197, 1, .ireturn, .ireturn, 0), (1198, 1, .aload 1, .aload_n 1, 0), (1199, 1, .aload 0, .aload_n 0, 0), (1200, 1, .iload 3, .iload_n 3, 0), (1201, 1, .iconst 1, .iconst 1, 0), (1202, 1, .iadd, .iadd, 0), (1203, 1, .iaload, .iaload, 0), (1204, 1, .aload 0, .aload_n 0, 0), (1205, 1, .iload 3, .iload_n 3, 0), (1206, 1, .iconst 2, .iconst 2, 0), (1207, 1, .iadd, .iadd, 0), (1208, 1, .iaload, .iaload, 0), (1209, 1, .aload 0, .aload_n 0, 0), (1210, 1, .iload 3, .iload_n 3, 0), (1211, 1, .iconst 3, .iconst 3, 0), (1212, 1, .iadd, .iadd, 0), (1213, 1, .iaload, .iaload, 0), (1214, 3, .invokevirtual 135, .invokevirtual 131, 444), (1217, 1, .aload 2, .aload_n 2, 0), (1218, 1, .aload 0, .aload_n 0, 0), (1219, 1, .iload 3, .iload_n 3, 0), (1220, 1, .iconst 1, .iconst 1, 0), (1221, 1, .iadd, .iadd, 0), (1222, 1, .iaload, .iaload, 0), (1223, 1, .aload 0, .aload_n 0, 0), (1224, 1, .iload 3, .iload_n 3, 0), (1225, 1, .iconst 2, .iconst 2, 0), (1226, 1, .iadd, .iadd, 0), (1227, 1, .iaload, .iaload, 0), (1228, 1, .aload 0, .aload_n 0, 0), (1229, 1, .iload 3, .iload_n 3, 0), (1230, 1, .iconst 3, .iconst 3, 0), (1231, 1, .iadd, .iadd, 0), (1232, 1, .iaload, .iaload, 0), (1233, 3, .invokevirtual 233, .invokevirtual 134, 445), (1236, 3, .if_icmp .eq 1753, .if_icmp .eq 517, 0), (1239, 1, .iconst 0, .iconst 0, 0), (1240, 1, .ireturn, .ireturn, 0), (1241, 1, .aload 1, .aload_n 1, 0)]
def am_pL17 : Am_p := [(1242, 3, .invokevirtual 136, .invokevirtual 135, 446), (1245, 1, .aload 2, .aload_n 2, 0), (1246, 3, .invokevirtual 234, .invokevirtual 138, 447), (1249, 3, .if_icmp .eq 1753, .if_icmp .eq 504, 0), (1252, 1, .iconst 0, .iconst 0, 0), (1253, 1, .ireturn, .ireturn, 0), (1254, 1, .aload 1, .aload_n 1, 0), (1255, 1, .aload 0, .aload_n 0, 0), (1256, 1, .iload 3, .iload_n 3, 0), (1257, 1, .iconst 1, .iconst 1, 0), (1258, 1, .iadd, .iadd, 0), (1259, 1, .iaload, .iaload, 0), (1260, 1, .aload 0, .aload_n 0, 0), (1261, 1, .iload 3, .iload_n 3, 0), (1262, 1, .iconst 2, .iconst 2, 0), (1263, 1, .iadd, .iadd, 0), (1264, 1, .iaload, .iaload, 0), (1265, 3, .invokevirtual 137, .invokevirtual 139, 448), (1268, 1, .aload 2, .aload_n 2, 0), (1269, 1, .aload 0, .aload_n 0, 0), (1270, 1, .iload 3, .iload_n 3, 0), (1271, 1, .iconst 1, .iconst 1, 0), (1272, 1, .iadd, .iadd, 0), (1273, 1, .iaload, .iaload, 0), (1274, 1, .aload 0, .aload_n 0, 0), (1275, 1, .iload 3, .iload_n 3, 0), (1276, 1, .iconst 2, .iconst 2, 0), (1277, 1, .iadd, .iadd, 0), (1278, 1, .iaload, .iaload, 0), (1279, 3, .invokevirtual 235, .invokevirtual 142, 449), (1282, 3, .if_icmp .eq 1753, .if_icmp .eq 471, 0), (1285, 1, .iconst 0, .iconst 0, 0), (1286, 1, .ireturn, .ireturn, 0), (1287, 1, .aload 1, .aload_n 1, 0), (1288, 1, .aload 0, .aload_n 0, 0), (1289, 1, .iload 3, .iload_n 3, 0), (1290, 1, .iconst 1, .iconst 1, 0), (1291, 1, .iadd, .iadd, 0), (1292, 1, .iaload, .iaload, 0), (1293, 3, .invokevirtual 138, .invokevirtual 143, 450), (1296, 1, .aload 2, .aload_n 2, 0), (1297, 1, .aload 0, .aload_n 0, 0), (1298, 1, .iload 3, .iload_n 3, 0), (1299, 1, .iconst 1, .iconst 1, 0), (1300, 1, .iadd, .iadd, 0), (1301, 1, .iaload, .iaload, 0), (1302, 3, .invokevirtual 236, .invokevirtual 146, 451), (1305, 3, .if_icmp .eq 1753, .if_icmp .eq 448, 0), (1308, 1, .iconst 0, .iconst 0, 0), (1309, 1, .ireturn, .ireturn, 0)]
def am_pL18 : Am_p := [(1310, 1, .aload 1, .aload_n 1, 0), (1311, 3, .invokevirtual 139, .invokevirtual 147, 452), (1314, 1, .aload 2, .aload_n 2, 0), (1315, 3, .invokevirtual 237, .invokevirtual 150, 453), (1318, 3, .if_icmp .eq 1753, .if_icmp .eq 435, 0), (1321, 1, .iconst 0, .iconst 0, 0), (1322, 1, .ireturn, .ireturn, 0), (1323, 1, .aload 1, .aload_n 1, 0), (1324, 3, .invokevirtual 140, .invokevirtual 151, 454), (1327, 1, .aload 2, .aload_n 2, 0), (1328, 3, .invokevirtual 238, .invokevirtual 154, 455), (1331, 3, .if_icmp .eq 1753, .if_icmp .eq 422, 0), (1334, 1, .iconst 0, .iconst 0, 0), (1335, 1, .ireturn, .ireturn, 0), (1336, 1, .aload 1, .aload_n 1, 0), (1337, 3, .invokevirtual 141, .invokevirtual 155, 456), (1340, 1, .aload 2, .aload_n 2, 0), (1341, 3, .invokevirtual 162, .invokevirtual 158, 457), (1344, 3, .if_icmp .eq 1753, .if_icmp .eq 409, 0), (1347, 1, .iconst 0, .iconst 0, 0), (1348, 1, .ireturn, .ireturn, 0), (1349, 1, .aload 1, .aload_n 1, 0), (1350, 3, .invokevirtual 142, .invokevirtual 159, 458), (1353, 1, .aload 2, .aload_n 2, 0), (1354, 3, .invokevirtual 163, .invokevirtual 162, 459), (1357, 3, .if_icmp .eq 1753, .if_icmp .eq 396, 0), (1360, 1, .iconst 0, .iconst 0, 0), (1361, 1, .ireturn, .ireturn, 0), (1362, 1, .aload 1, .aload_n 1, 0), (1363, 1, .aload 0, .aload_n 0, 0), (1364, 1, .iload 3, .iload_n 3, 0), (1365, 1, .iconst 1, .iconst 1, 0), (1366, 1, .iadd, .iadd, 0), (1367, 1, .iaload, .iaload, 0), (1368, 3, .invokevirtual 143, .invokevirtual 163, 460), (1371, 1, .aload 2, .aload_n 2, 0), (1372, 1, .aload 0, .aload_n 0, 0), (1373, 1, .iload 3, .iload_n 3, 0), (1374, 1, .iconst 1, .iconst 1, 0), (1375, 1, .iadd, .iadd, 0), (1376, 1, .iaload, .iaload, 0), (1377, 3, .invokevirtual 241, .invokevirtual 166, 461), (1380, 3, .if_icmp .eq 1753, .if_icmp .eq 373, 0), (1383, 1, .iconst 0, .iconst 0, 0), (1384, 1, .ireturn, .ireturn, 0), (1385, 1, .aload 1, .aload_n 1, 0), (1386, 1, .aload 0, .aload_n 0, 0), (1387, 1, .iload 3, .iload_n 3, 0), (1388, 1, .iconst 1, .iconst 1, 0), (1389, 1, .iadd, .iadd, 0)]
def am_pL19 : Am_p := [(1390, 1, .iaload, .iaload, 0), (1391, 1, .aload 0, .aload_n 0, 0), (1392, 1, .iload 3, .iload_n 3, 0), (1393, 1, .iconst 2, .iconst 2, 0), (1394, 1, .iadd, .iadd, 0), (1395, 1, .iaload, .iaload, 0), (1396, 1, .aload 0, .aload_n 0, 0), (1397, 1, .iload 3, .iload_n 3, 0), (1398, 1, .iconst 3, .iconst 3, 0), (1399, 1, .iadd, .iadd, 0), (1400, 1, .iaload, .iaload, 0), (1401, 3, .invokevirtual 144, .invokevirtual 167, 462), (1404, 1, .aload 2, .aload_n 2, 0), (1405, 1, .aload 0, .aload_n 0, 0), (1406, 1, .iload 3, .iload_n 3, 0), (1407, 1, .iconst 1, .iconst 1, 0), (1408, 1, .iadd, .iadd, 0), (1409, 1, .iaload, .iaload, 0), (1410, 1, .aload 0, .aload_n 0, 0), (1411, 1, .iload 3, .iload_n 3, 0), (1412, 1, .iconst 2, .iconst 2, 0), (1413, 1, .iadd, .iadd, 0), (1414, 1, .iaload, .iaload, 0), (1415, 1, .aload 0, .aload_n 0, 0), (1416, 1, .iload 3, .iload_n 3, 0), (1417, 1, .iconst 3, .iconst 3, 0), (1418, 1, .iadd, .iadd, 0), (1419, 1, .iaload, .iaload, 0), (1420, 3, .invokevirtual 248, .invokevirtual 170, 463), (1423, 3, .if_icmp .eq 1753, .if_icmp .eq 330, 0), (1426, 1, .iconst 0, .iconst 0, 0), (1427, 1, .ireturn, .ireturn, 0), (1428, 1, .aload 1, .aload_n 1, 0), (1429, 1, .aload 0, .aload_n 0, 0), (1430, 1, .iload 3, .iload_n 3, 0), (1431, 1, .iconst 1, .iconst 1, 0), (1432, 1, .iadd, .iadd, 0), (1433, 1, .iaload, .iaload, 0), (1434, 3, .invokevirtual 145, .invokevirtual 171, 464), (1437, 1, .aload 2, .aload_n 2, 0), (1438, 1, .aload 0, .aload_n 0, 0), (1439, 1, .iload 3, .iload_n 3, 0), (1440, 1, .iconst 1, .iconst 1, 0), (1441, 1, .iadd, .iadd, 0), (1442, 1, .iaload, .iaload, 0), (1443, 3, .invokevirtual 249, .invokevirtual 174, 465), (1446, 3, .if_icmp .eq 1753, .if_icmp .eq 307, 0), (1449, 1, .iconst 0, .iconst 0, 0), (1450, 1, .ireturn, .ireturn, 0), (1451, 1, .aload 1, .aload_n 1, 0)]
def am_pL20 : Am_p := [(1452, 1, .aload 0, .aload_n 0, 0), (1453, 1, .iload 3, .iload_n 3, 0), (1454, 1, .iconst 1, .iconst 1, 0), (1455, 1, .iadd, .iadd, 0), (1456, 1, .iaload, .iaload, 0), (1457, 1, .aload 0, .aload_n 0, 0), (1458, 1, .iload 3, .iload_n 3, 0), (1459, 1, .iconst 2, .iconst 2, 0), (1460, 1, .iadd, .iadd, 0), (1461, 1, .iaload, .iaload, 0), (1462, 3, .invokevirtual 146, .invokevirtual 175, 466), (1465, 1, .aload 2, .aload_n 2, 0), (1466, 1, .aload 0, .aload_n 0, 0), (1467, 1, .iload 3, .iload_n 3, 0), (1468, 1, .iconst 1, .iconst 1, 0), (1469, 1, .iadd, .iadd, 0), (1470, 1, .iaload, .iaload, 0), (1471, 1, .aload 0, .aload_n 0, 0), (1472, 1, .iload 3, .iload_n 3, 0), (1473, 1, .iconst 2, .iconst 2, 0), (1474, 1, .iadd, .iadd, 0), (1475, 1, .iaload, .iaload, 0), (1476, 3, .invokevirtual 251, .invokevirtual 178, 467), (1479, 3, .if_icmp .eq 1753, .if_icmp .eq 274, 0), (1482, 1, .iconst 0, .iconst 0, 0), (1483, 1, .ireturn, .ireturn, 0), (1484, 1, .aload 1, .aload_n 1, 0), (1485, 1, .aload 0, .aload_n 0, 0), (1486, 1, .iload 3, .iload_n 3, 0), (1487, 1, .iconst 1, .iconst 1, 0), (1488, 1, .iadd, .iadd, 0), (1489, 1, .iaload, .iaload, 0), (1490, 1, .aload 0, .aload_n 0, 0), (1491, 1, .iload 3, .iload_n 3, 0), (1492, 1, .iconst 2, .iconst 2, 0), (1493, 1, .iadd, .iadd, 0), (1494, 1, .iaload, .iaload, 0), (1495, 1, .aload 0, .aload_n 0, 0), (1496, 1, .iload 3, .iload_n 3, 0), (1497, 1, .iconst 3, .iconst 3, 0), (1498, 1, .iadd, .iadd, 0), (1499, 1, .iaload, .iaload, 0), (1500, 3, .invokevirtual 147, .invokevirtual 179, 468), (1503, 1, .aload 2, .aload_n 2, 0), (1504, 1, .aload 0, .aload_n 0, 0), (1505, 1, .iload 3, .iload_n 3, 0), (1506, 1, .iconst 1, .iconst 1, 0), (1507, 1, .iadd, .iadd, 0), (1508, 1, .iaload, .iaload, 0), (1509, 1, .aload 0, .aload_n 0, 0)]
def am_pL21 : Am_p := [(1510, 1, .iload 3, .iload_n 3, 0), (1511, 1, .iconst 2, .iconst 2, 0), (1512, 1, .iadd, .iadd, 0), (1513, 1, .iaload, .iaload, 0), (1514, 1, .aload 0, .aload_n 0, 0), (1515, 1, .iload 3, .iload_n 3, 0), (1516, 1, .iconst 3, .iconst 3, 0), (1517, 1, .iadd, .iadd, 0), (1518, 1, .iaload, .iaload, 0), (1519, 3, .invokevirtual 252, .invokevirtual 182, 469), (1522, 3, .if_icmp .eq 1753, .if_icmp .eq 231, 0), (1525, 1, .iconst 0, .iconst 0, 0), (1526, 1, .ireturn, .ireturn, 0), (1527, 1, .aload 1, .aload_n 1, 0), (1528, 1, .aload 0, .aload_n 0, 0), (1529, 1, .iload 3, .iload_n 3, 0), (1530, 1, .iconst 1, .iconst 1, 0), (1531, 1, .iadd, .iadd, 0), (1532, 1, .iaload, .iaload, 0), (1533, 1, .aload 0, .aload_n 0, 0), (1534, 1, .iload 3, .iload_n 3, 0), (1535, 1, .iconst 2, .iconst 2, 0), (1536, 1, .iadd, .iadd, 0), (1537, 1, .iaload, .iaload, 0), (1538, 1, .aload 0, .aload_n 0, 0), (1539, 1, .iload 3, .iload_n 3, 0), (1540, 1, .iconst 3, .iconst 3, 0), (1541, 1, .iadd, .iadd, 0), (1542, 1, .iaload, .iaload, 0), (1543, 1, .i2l, .i2l, 0), (1544, 2, .iconst 32, .bipush 32, 0), (1546, 1, .lshl, .lshl, 0), (1547, 1, .aload 0, .aload_n 0, 0), (1548, 1, .iload 3, .iload_n 3, 0), (1549, 1, .iconst 4, .iconst 4, 0), (1550, 1, .iadd, .iadd, 0), (1551, 1, .iaload, .iaload, 0), (1552, 1, .i2l, .i2l, 0), (1553, 3, .ldc2_w 4294967295, .ldc2_w 183, 470), (1556, 1, .land, .land, 0), (1557, 1, .lor, .lor, 0), (1558, 3, .invokevirtual 148, .invokevirtual 185, 471), (1561, 1, .aload 2, .aload_n 2, 0), (1562, 1, .aload 0, .aload_n 0, 0), (1563, 1, .iload 3, .iload_n 3, 0), (1564, 1, .iconst 1, .iconst 1, 0), (1565, 1, .iadd, .iadd, 0), (1566, 1, .iaload, .iaload, 0), (1567, 1, .aload 0, .aload_n 0, 0), (1568, 1, .iload 3, .iload_n 3, 0)]
def am_pL22 : Am_p := [(1569, 1, .iconst 2, .iconst 2, 0), (1570, 1, .iadd, .iadd, 0), (1571, 1, .iaload, .iaload, 0), (1572, 1, .aload 0, .aload_n 0, 0), (1573, 1, .iload 3, .iload_n 3, 0), (1574, 1, .iconst 3, .iconst 3, 0), (1575, 1, .iadd, .iadd, 0), (1576, 1, .iaload, .iaload, 0), (1577, 1, .i2l, .i2l, 0), (1578, 2, .iconst 32, .bipush 32, 0), (1580, 1, .lshl, .lshl, 0), (1581, 1, .aload 0, .aload_n 0, 0), (1582, 1, .iload 3, .iload_n 3, 0), (1583, 1, .iconst 4, .iconst 4, 0), (1584, 1, .iadd, .iadd, 0), (1585, 1, .iaload, .iaload, 0), (1586, 1, .i2l, .i2l, 0), (1587, 3, .ldc2_w 4294967295, .ldc2_w 183, 470), (1590, 1, .land, .land, 0), (1591, 1, .lor, .lor, 0), (1592, 3, .invokevirtual 255, .invokevirtual 189, 472), (1595, 3, .if_icmp .eq 1753, .if_icmp .eq 158, 0), (1598, 1, .iconst 0, .iconst 0, 0), (1599, 1, .ireturn, .ireturn, 0), (1600, 1, .aload 1, .aload_n 1, 0), (1601, 1, .aload 0, .aload_n 0, 0), (1602, 1, .iload 3, .iload_n 3, 0), (1603, 1, .iconst 1, .iconst 1, 0), (1604, 1, .iadd, .iadd, 0), (1605, 1, .iaload, .iaload, 0), (1606, 1, .aload 0, .aload_n 0, 0), (1607, 1, .iload 3, .iload_n 3, 0), (1608, 1, .iconst 2, .iconst 2, 0), (1609, 1, .iadd, .iadd, 0), (1610, 1, .iaload, .iaload, 0), (1611, 3, .invokevirtual 149, .invokevirtual 190, 473), (1614, 1, .aload 2, .aload_n 2, 0), (1615, 1, .aload 0, .aload_n 0, 0), (1616, 1, .iload 3, .iload_n 3, 0), (1617, 1, .iconst 1, .iconst 1, 0), (1618, 1, .iadd, .iadd, 0), (1619, 1, .iaload, .iaload, 0), (1620, 1, .aload 0, .aload_n 0, 0), (1621, 1, .iload 3, .iload_n 3, 0), (1622, 1, .iconst 2, .iconst 2, 0), (1623, 1, .iadd, .iadd, 0), (1624, 1, .iaload, .iaload, 0), (1625, 3, .invokevirtual 256, .invokevirtual 194, 474), (1628, 1, .lcmp, .lcmp, 0), (1629, 3, .ifCond .eq 1753, .ifCond .eq 124, 0)]
def am_pL23 : Am_p := [(1632, 1, .iconst 0, .iconst 0, 0), (1633, 1, .ireturn, .ireturn, 0), (1634, 1, .aload 1, .aload_n 1, 0), (1635, 1, .aload 0, .aload_n 0, 0), (1636, 1, .iload 3, .iload_n 3, 0), (1637, 1, .iconst 1, .iconst 1, 0), (1638, 1, .iadd, .iadd, 0), (1639, 1, .iaload, .iaload, 0), (1640, 1, .aload 0, .aload_n 0, 0), (1641, 1, .iload 3, .iload_n 3, 0), (1642, 1, .iconst 2, .iconst 2, 0), (1643, 1, .iadd, .iadd, 0), (1644, 1, .iaload, .iaload, 0), (1645, 1, .aload 0, .aload_n 0, 0), (1646, 1, .iload 3, .iload_n 3, 0), (1647, 1, .iconst 3, .iconst 3, 0), (1648, 1, .iadd, .iadd, 0), (1649, 1, .iaload, .iaload, 0), (1650, 1, .aload 0, .aload_n 0, 0), (1651, 1, .iload 3, .iload_n 3, 0), (1652, 1, .iconst 4, .iconst 4, 0), (1653, 1, .iadd, .iadd, 0), (1654, 1, .iaload, .iaload, 0), (1655, 1, .aload 0, .aload_n 0, 0), (1656, 1, .iload 3, .iload_n 3, 0), (1657, 1, .iconst 5, .iconst 5, 0), (1658, 1, .iadd, .iadd, 0), (1659, 1, .iaload, .iaload, 0), (1660, 3, .invokevirtual 150, .invokevirtual 195, 475), (1663, 1, .aload 2, .aload_n 2, 0), (1664, 1, .aload 0, .aload_n 0, 0), (1665, 1, .iload 3, .iload_n 3, 0), (1666, 1, .iconst 1, .iconst 1, 0), (1667, 1, .iadd, .iadd, 0), (1668, 1, .iaload, .iaload, 0), (1669, 1, .aload 0, .aload_n 0, 0), (1670, 1, .iload 3, .iload_n 3, 0), (1671, 1, .iconst 2, .iconst 2, 0), (1672, 1, .iadd, .iadd, 0), (1673, 1, .iaload, .iaload, 0), (1674, 1, .aload 0, .aload_n 0, 0), (1675, 1, .iload 3, .iload_n 3, 0), (1676, 1, .iconst 3, .iconst 3, 0), (1677, 1, .iadd, .iadd, 0), (1678, 1, .iaload, .iaload, 0), (1679, 1, .aload 0, .aload_n 0, 0), (1680, 1, .iload 3, .iload_n 3, 0), (1681, 1, .iconst 4, .iconst 4, 0), (1682, 1, .iadd, .iadd, 0), (1683, 1, .iaload, .iaload, 0)]
def am_pL24 : Am_p := [(1684, 1, .aload 0, .aload_n 0, 0), (1685, 1, .iload 3, .iload_n 3, 0), (1686, 1, .iconst 5, .iconst 5, 0), (1687, 1, .iadd, .iadd, 0), (1688, 1, .iaload, .iaload, 0), (1689, 3, .invokevirtual 257, .invokevirtual 199, 476), (1692, 3, .if_icmp .eq 1753, .if_icmp .eq 61, 0), (1695, 1, .iconst 0, .iconst 0, 0), (1696, 1, .ireturn, .ireturn, 0), (1697, 1, .aload 1, .aload_n 1, 0), (1698, 1, .aload 0, .aload_n 0, 0), (1699, 1, .iload 3, .iload_n 3, 0), (1700, 1, .iconst 1, .iconst 1, 0), (1701, 1, .iadd, .iadd, 0), (1702, 1, .iaload, .iaload, 0), (1703, 1, .aload 0, .aload_n 0, 0), (1704, 1, .iload 3, .iload_n 3, 0), (1705, 1, .iconst 2, .iconst 2, 0), (1706, 1, .iadd, .iadd, 0), (1707, 1, .iaload, .iaload, 0), (1708, 3, .invokevirtual 151, .invokevirtual 200, 477), (1711, 1, .aload 2, .aload_n 2, 0), (1712, 1, .aload 0, .aload_n 0, 0), (1713, 1, .iload 3, .iload_n 3, 0), (1714, 1, .iconst 1, .iconst 1, 0), (1715, 1, .iadd, .iadd, 0), (1716, 1, .iaload, .iaload, 0), (1717, 1, .aload 0, .aload_n 0, 0), (1718, 1, .iload 3, .iload_n 3, 0), (1719, 1, .iconst 2, .iconst 2, 0), (1720, 1, .iadd, .iadd, 0), (1721, 1, .iaload, .iaload, 0), (1722, 3, .invokevirtual 258, .invokevirtual 203, 478), (1725, 3, .if_icmp .eq 1753, .if_icmp .eq 28, 0), (1728, 1, .iconst 0, .iconst 0, 0), (1729, 1, .ireturn, .ireturn, 0), (1730, 1, .aload 1, .aload_n 1, 0), (1731, 1, .aload 0, .aload_n 0, 0), (1732, 1, .iload 3, .iload_n 3, 0), (1733, 1, .iconst 1, .iconst 1, 0), (1734, 1, .iadd, .iadd, 0), (1735, 1, .iaload, .iaload, 0), (1736, 3, .invokevirtual 152, .invokevirtual 204, 479), (1739, 1, .aload 2, .aload_n 2, 0), (1740, 1, .aload 0, .aload_n 0, 0), (1741, 1, .iload 3, .iload_n 3, 0), (1742, 1, .iconst 1, .iconst 1, 0), (1743, 1, .iadd, .iadd, 0), (1744, 1, .iaload, .iaload, 0), (1745, 3, .invokevirtual 259, .invokevirtual 207, 480)]
def am_pL25 : Am_p := [(1748, 3, .if_icmp .eq 1753, .if_icmp .eq 5, 0), (1751, 1, .iconst 0, .iconst 0, 0), (1752, 1, .ireturn, .ireturn, 0), (1753, 3, .iinc 3 6, .iinc 3 6, 0), (1756, 3, .goto 18, .goto (-1738), 0), (1759, 1, .iconst 1, .iconst 1, 0), (1760, 1, .ireturn, .ireturn, 0)]
def am_pL : Am_p := am_pL0 ++ (am_pL1 ++ (am_pL2 ++ (am_pL3 ++ (am_pL4 ++ (am_pL5 ++ (am_pL6 ++ (am_pL7 ++ (am_pL8 ++ (am_pL9 ++ (am_pL10 ++ (am_pL11 ++ (am_pL12 ++ (am_pL13 ++ (am_pL14 ++ (am_pL15 ++ (am_pL16 ++ (am_pL17 ++ (am_pL18 ++ (am_pL19 ++ (am_pL20 ++ (am_pL21 ++ (am_pL22 ++ (am_pL23 ++ (am_pL24 ++ (am_pL25)))))))))))))))))))))))))
end
section
/-! the kernel looks at every instruction and every word -/
def am_mokB (j : Nat) (q : Am_m) : Bool :=
  (match q.2.2.2.2.2.1 with
    | false => am_wq (q.2.2.2.2.2.2.2.getD 2 0) (6, j, 0, 0) && am_wq (q.2.2.2.2.2.2.2.getD 3 0) (7, j, 0, 0) && decide (q.1 < 12)
    | true => am_wq (q.2.2.2.2.2.2.2.getD 2 0) (9, j, 0, 0)) &&
  am_wq (q.2.2.2.2.2.2.2.getD 0 0) (5, j, 0, 0) && am_wq (q.2.2.2.2.2.2.2.getD 1 0) (8, q.1, 0, 0) && decide (q.2.2.2.1 ≤ 20) && decide (q.1 < 16)
def am_ok1 (j : Nat) (q : Am_m) (P : Am_p) : Bool := am_mokB j q && am_chk q.1 q.2.2.1 P
def am_ok2 : Nat → List Am_m → List Am_p → Bool
  | j, q :: r, P :: r2 => am_ok1 j q P && am_ok2 (j + 1) r r2
  | _, [], [] => true
  | _, _, _ => false
theorem am_ok2_app : ∀ {a : List Am_m} {b : List Am_p} {c : List Am_m} {d : List Am_p} {i k : Nat}, am_ok2 i a b = true → i + a.length = k → am_ok2 k c d = true → am_ok2 i (a ++ c) (b ++ d) = true
  | [], [], _, _, i, k, _, e, h2 => by simp at e; subst e; exact h2
  | [], _ :: _, _, _, _, _, h, _, _ => by simp [am_ok2] at h
  | _ :: _, [], _, _, _, _, h, _, _ => by simp [am_ok2] at h
  | q :: r, P :: r2, c, d, i, k, h, e, h2 => by
    simp only [am_ok2, Bool.and_eq_true] at h
    simp only [List.cons_append, am_ok2, Bool.and_eq_true]
    exact ⟨h.1, am_ok2_app h.2 (by simp at e; omega) h2⟩
theorem am_ok2_at : ∀ {a : List Am_m} {b : List Am_p} {i : Nat}, am_ok2 i a b = true → ∀ {j : Nat} {dq : Am_m} {dp : Am_p}, j < a.length → am_ok1 (i + j) (a.getD j dq) (b.getD j dp) = true
  | [], _, _, _, j, _, _, hj => by simp at hj
  | _ :: _, [], _, h, _, _, _, _ => by simp [am_ok2] at h
  | q :: r, P :: r2, i, h, j, dq, dp, hj => by
    simp only [am_ok2, Bool.and_eq_true] at h
    cases j with
    | zero => exact h.1
    | succ j =>
      have := am_ok2_at h.2 (j := j) (dq := dq) (dp := dp) (by simpa using hj)
      rw [show i + 1 + j = i + (j + 1) by omega] at this
      exact this
set_option maxRecDepth 100000 in
set_option maxHeartbeats 4000000 in
theorem am_ck0 : am_ok2 0 am_mt0 am_pg0 = true := by decide +kernel
set_option maxRecDepth 100000 in
set_option maxHeartbeats 4000000 in
theorem am_ck1 : am_ok2 20 am_mt1 am_pg1 = true := by decide +kernel
set_option maxRecDepth 100000 in
set_option maxHeartbeats 4000000 in
theorem am_ck2 : am_ok2 40 am_mt2 am_pg2 = true := by decide +kernel
set_option maxRecDepth 100000 in
set_option maxHeartbeats 4000000 in
theorem am_ck3 : am_ok2 60 am_mt3 am_pg3 = true := by decide +kernel
set_option maxRecDepth 100000 in
set_option maxHeartbeats 4000000 in
theorem am_ck4 : am_ok2 80 am_mt4 am_pg4 = true := by decide +kernel
end
section
set_option maxRecDepth 100000 in
set_option maxHeartbeats 4000000 in
theorem am_ck5 : am_ok2 100 am_mt5 am_pg5 = true := by decide +kernel
set_option maxRecDepth 100000 in
set_option maxHeartbeats 4000000 in
theorem am_ck6 : am_ok2 120 am_mt6 am_pg6 = true := by decide +kernel
set_option maxRecDepth 100000 in
set_option maxHeartbeats 4000000 in
theorem am_ck7 : am_ok2 140 am_mt7 am_pg7 = true := by decide +kernel
set_option maxRecDepth 100000 in
set_option maxHeartbeats 4000000 in
theorem am_ck8 : am_ok2 160 am_mt8 am_pg8 = true := by decide +kernel
set_option maxRecDepth 100000 in
set_option maxHeartbeats 4000000 in
theorem am_ck9 : am_ok2 180 am_mt9 am_pg9 = true := by decide +kernel
end
section
set_option maxRecDepth 100000 in
set_option maxHeartbeats 4000000 in
theorem am_ck10 : am_ok2 200 am_mt10 am_pg10 = true := by decide +kernel
set_option maxRecDepth 100000 in
set_option maxHeartbeats 4000000 in
theorem am_ck11 : am_ok2 220 am_mt11 am_pg11 = true := by decide +kernel
set_option maxRecDepth 100000 in
set_option maxHeartbeats 4000000 in
theorem am_ck12 : am_ok2 240 am_mt12 am_pg12 = true := by decide +kernel
set_option maxRecDepth 100000 in
set_option maxHeartbeats 4000000 in
theorem am_ck13 : am_ok2 260 am_mt13 am_pg13 = true := by decide +kernel
theorem am_ckA : am_ok2 0 am_mtL am_pgL = true := am_ok2_app am_ck0 rfl (am_ok2_app am_ck1 rfl (am_ok2_app am_ck2 rfl (am_ok2_app am_ck3 rfl (am_ok2_app am_ck4 rfl (am_ok2_app am_ck5 rfl (am_ok2_app am_ck6 rfl (am_ok2_app am_ck7 rfl (am_ok2_app am_ck8 rfl (am_ok2_app am_ck9 rfl (am_ok2_app am_ck10 rfl (am_ok2_app am_ck11 rfl (am_ok2_app am_ck12 rfl (am_ck13)))))))))))))
theorem am_NM_len : am_mtL.length = am_NM := by decide +kernel
theorem am_at1 {j : Nat} (hj : j < am_NM) : am_mokB j (am_mt j) = true ∧ am_chk (am_mt j).1 (am_mt j).2.2.1 (am_pg j) = true := by
  have h := am_ok2_at am_ckA (j := j) (dq := (99, yL_law, cL_law, 0, none, false, 0, [])) (dp := []) (by rw [am_NM_len]; exact hj)
  rw [Nat.zero_add] at h
  unfold am_ok1 at h
  rw [Bool.and_eq_true] at h
  exact h
theorem am_own_ok : ∀ o, o < 16 → am_own o ≠ "java/lang/invoke/MethodHandle" ∧ am_own o ≠ "java/lang/invoke/VarHandle" ∧ (plainName (am_own o) = true ∨ o = 13) := by decide +kernel
theorem am_floorMod_ok : plainFor (am_mt 261).2.1 = true := by decide +kernel
theorem am_only13 : ∀ j, j < am_NM → (am_mt j).1 = 13 → j = 261 := by decide +kernel
set_option maxRecDepth 20000 in
theorem am_cls0 : am_mt0.map (fun q => q.2.1.cls) = am_mt0.map (fun q => am_own q.1) := rfl
set_option maxRecDepth 20000 in
theorem am_cls1 : am_mt1.map (fun q => q.2.1.cls) = am_mt1.map (fun q => am_own q.1) := rfl
set_option maxRecDepth 20000 in
theorem am_cls2 : am_mt2.map (fun q => q.2.1.cls) = am_mt2.map (fun q => am_own q.1) := rfl
set_option maxRecDepth 20000 in
theorem am_cls3 : am_mt3.map (fun q => q.2.1.cls) = am_mt3.map (fun q => am_own q.1) := rfl
set_option maxRecDepth 20000 in
theorem am_cls4 : am_mt4.map (fun q => q.2.1.cls) = am_mt4.map (fun q => am_own q.1) := rfl
set_option maxRecDepth 20000 in
theorem am_cls5 : am_mt5.map (fun q => q.2.1.cls) = am_mt5.map (fun q => am_own q.1) := rfl
set_option maxRecDepth 20000 in
theorem am_cls6 : am_mt6.map (fun q => q.2.1.cls) = am_mt6.map (fun q => am_own q.1) := rfl
set_option maxRecDepth 20000 in
theorem am_cls7 : am_mt7.map (fun q => q.2.1.cls) = am_mt7.map (fun q => am_own q.1) := rfl
set_option maxRecDepth 20000 in
theorem am_cls8 : am_mt8.map (fun q => q.2.1.cls) = am_mt8.map (fun q => am_own q.1) := rfl
set_option maxRecDepth 20000 in
theorem am_cls9 : am_mt9.map (fun q => q.2.1.cls) = am_mt9.map (fun q => am_own q.1) := rfl
set_option maxRecDepth 20000 in
theorem am_cls10 : am_mt10.map (fun q => q.2.1.cls) = am_mt10.map (fun q => am_own q.1) := rfl
set_option maxRecDepth 20000 in
theorem am_cls11 : am_mt11.map (fun q => q.2.1.cls) = am_mt11.map (fun q => am_own q.1) := rfl
set_option maxRecDepth 20000 in
theorem am_cls12 : am_mt12.map (fun q => q.2.1.cls) = am_mt12.map (fun q => am_own q.1) := rfl
set_option maxRecDepth 20000 in
theorem am_cls13 : am_mt13.map (fun q => q.2.1.cls) = am_mt13.map (fun q => am_own q.1) := rfl
theorem am_map_app {a b : List Am_m} (h : a.map (fun q => q.2.1.cls) = a.map (fun q => am_own q.1)) (h2 : b.map (fun q => q.2.1.cls) = b.map (fun q => am_own q.1)) : (a ++ b).map (fun q => q.2.1.cls) = (a ++ b).map (fun q => am_own q.1) := by rw [List.map_append, List.map_append, h, h2]
theorem am_clsL : am_mtL.map (fun q => q.2.1.cls) = am_mtL.map (fun q => am_own q.1) := am_map_app am_cls0 (am_map_app am_cls1 (am_map_app am_cls2 (am_map_app am_cls3 (am_map_app am_cls4 (am_map_app am_cls5 (am_map_app am_cls6 (am_map_app am_cls7 (am_map_app am_cls8 (am_map_app am_cls9 (am_map_app am_cls10 (am_map_app am_cls11 (am_map_app am_cls12 am_cls13))))))))))))
theorem am_hcl : ∀ j, j < am_NM → (am_mt j).2.1.cls = am_own (am_mt j).1 := by
  intro j hj
  have h := congrArg (fun l : List String => l[j]?) am_clsL
  rw [List.getElem?_map, List.getElem?_map] at h
  unfold am_mt
  rw [List.getD_eq_getElem?_getD]
  rw [List.getElem?_eq_getElem (show j < am_mtL.length by rw [am_NM_len]; exact hj)] at h ⊢
  exact Option.some.inj h
theorem am_all_app {α : Type} {f : α → Bool} {a b : List α} (h : a.all f = true) (h2 : b.all f = true) : (a ++ b).all f = true := by rw [List.all_append, h, h2]; rfl
theorem am_ps0 : am_mt0.all (fun q => decide ((parseMethodDescriptor q.2.1.desc).map (fun d => d.parameters.length) = some q.2.2.2.2.2.2.1)) = true := by decide +kernel
theorem am_ps1 : am_mt1.all (fun q => decide ((parseMethodDescriptor q.2.1.desc).map (fun d => d.parameters.length) = some q.2.2.2.2.2.2.1)) = true := by decide +kernel
theorem am_ps2 : am_mt2.all (fun q => decide ((parseMethodDescriptor q.2.1.desc).map (fun d => d.parameters.length) = some q.2.2.2.2.2.2.1)) = true := by decide +kernel
theorem am_ps3 : am_mt3.all (fun q => decide ((parseMethodDescriptor q.2.1.desc).map (fun d => d.parameters.length) = some q.2.2.2.2.2.2.1)) = true := by decide +kernel
theorem am_ps4 : am_mt4.all (fun q => decide ((parseMethodDescriptor q.2.1.desc).map (fun d => d.parameters.length) = some q.2.2.2.2.2.2.1)) = true := by decide +kernel
theorem am_ps5 : am_mt5.all (fun q => decide ((parseMethodDescriptor q.2.1.desc).map (fun d => d.parameters.length) = some q.2.2.2.2.2.2.1)) = true := by decide +kernel
theorem am_ps6 : am_mt6.all (fun q => decide ((parseMethodDescriptor q.2.1.desc).map (fun d => d.parameters.length) = some q.2.2.2.2.2.2.1)) = true := by decide +kernel
theorem am_ps7 : am_mt7.all (fun q => decide ((parseMethodDescriptor q.2.1.desc).map (fun d => d.parameters.length) = some q.2.2.2.2.2.2.1)) = true := by decide +kernel
theorem am_ps8 : am_mt8.all (fun q => decide ((parseMethodDescriptor q.2.1.desc).map (fun d => d.parameters.length) = some q.2.2.2.2.2.2.1)) = true := by decide +kernel
theorem am_ps9 : am_mt9.all (fun q => decide ((parseMethodDescriptor q.2.1.desc).map (fun d => d.parameters.length) = some q.2.2.2.2.2.2.1)) = true := by decide +kernel
theorem am_ps10 : am_mt10.all (fun q => decide ((parseMethodDescriptor q.2.1.desc).map (fun d => d.parameters.length) = some q.2.2.2.2.2.2.1)) = true := by decide +kernel
theorem am_ps11 : am_mt11.all (fun q => decide ((parseMethodDescriptor q.2.1.desc).map (fun d => d.parameters.length) = some q.2.2.2.2.2.2.1)) = true := by decide +kernel
theorem am_ps12 : am_mt12.all (fun q => decide ((parseMethodDescriptor q.2.1.desc).map (fun d => d.parameters.length) = some q.2.2.2.2.2.2.1)) = true := by decide +kernel
theorem am_ps13 : am_mt13.all (fun q => decide ((parseMethodDescriptor q.2.1.desc).map (fun d => d.parameters.length) = some q.2.2.2.2.2.2.1)) = true := by decide +kernel
theorem am_psA : am_mtL.all (fun q => decide ((parseMethodDescriptor q.2.1.desc).map (fun d => d.parameters.length) = some q.2.2.2.2.2.2.1)) = true := am_all_app am_ps0 (am_all_app am_ps1 (am_all_app am_ps2 (am_all_app am_ps3 (am_all_app am_ps4 (am_all_app am_ps5 (am_all_app am_ps6 (am_all_app am_ps7 (am_all_app am_ps8 (am_all_app am_ps9 (am_all_app am_ps10 (am_all_app am_ps11 (am_all_app am_ps12 (am_ps13)))))))))))))
theorem am_hmok : ∀ j, j < am_NM → am_mok j := by
  intro j hj
  obtain ⟨h, -⟩ := am_at1 hj
  have hcl := am_hcl j hj
  have hps : (parseMethodDescriptor (am_mt j).2.1.desc).map (fun d => d.parameters.length) = some (am_mt j).2.2.2.2.2.2.1 := by
    have hm : am_mt j ∈ am_mtL := by
      unfold am_mt
      rw [List.getD_eq_getElem?_getD, List.getElem?_eq_getElem (show j < am_mtL.length by rw [am_NM_len]; exact hj)]
      exact List.getElem_mem _
    exact of_decide_eq_true (List.all_eq_true.mp am_psA _ hm)
  unfold am_mokB at h
  simp only [Bool.and_eq_true, decide_eq_true_eq] at h
  obtain ⟨⟨⟨⟨h1, h2⟩, h3⟩, h4⟩, h5⟩ := h
  have ho := am_own_ok _ h5
  have h2' : Cond.code (am_mt j).2.1 (am_mt j).2.2.1 (am_mt j).2.2.2.1 (am_mt j).2.2.2.2.1 ∈ am_TB := am_wd_in h2
  have h3' : Cond.initialized (am_own (am_mt j).1) ∈ am_TB := am_wd_in h3
  refine ⟨fun q => ?_, fun q => ?_, by rw [hcl]; exact h3', h2', by rw [hcl]; exact ⟨ho.1, ho.2.1⟩, hps, h4, by rcases ho.2.2 with q | q; exact plainFor_of_name (by rw [hcl]; exact q); rw [am_only13 j hj q]; exact am_floorMod_ok⟩
  · rw [q] at h1
    simp only [Bool.and_eq_true, decide_eq_true_eq] at h1
    have a1 : Cond.instanceMethod (am_mt j).2.1 ∈ am_TB := am_wd_in h1.1.1
    have a2 : Cond.selects (am_mt j).2.1.cls (am_mt j).2.1 (am_mt j).2.1 ∈ am_TB := am_wd_in h1.1.2
    refine ⟨a1, a2, h1.2, ?_⟩
    rw [hcl]
    have hr : ∀ o, o < 12 → am_own o = am_R o := by
      intro o ho
      rcases (show o = 0 ∨ o = 1 ∨ o = 2 ∨ o = 3 ∨ o = 4 ∨ o = 5 ∨ o = 6 ∨ o = 7 ∨ o = 8 ∨ o = 9 ∨ o = 10 ∨ o = 11 by omega) with rfl | rfl | rfl | rfl | rfl | rfl | rfl | rfl | rfl | rfl | rfl | rfl <;> rfl
    exact hr _ h1.2
  · rw [q] at h1
    have a1 : Cond.static (am_mt j).2.1 ∈ am_TB := am_wd_in h1
    exact a1
theorem am_hpg : ∀ j, j < am_NM → am_chk (am_mt j).1 (am_mt j).2.2.1 (am_pg j) = true := fun j hj => (am_at1 hj).2
end
section
set_option maxRecDepth 100000 in
set_option maxHeartbeats 4000000 in
theorem am_ckL0 : am_chk 12 code am_pL0 = true := by decide +kernel
set_option maxRecDepth 100000 in
set_option maxHeartbeats 4000000 in
theorem am_ckL1 : am_chk 12 code am_pL1 = true := by decide +kernel
set_option maxRecDepth 100000 in
set_option maxHeartbeats 4000000 in
theorem am_ckL2 : am_chk 12 code am_pL2 = true := by decide +kernel
set_option maxRecDepth 100000 in
set_option maxHeartbeats 4000000 in
theorem am_ckL3 : am_chk 12 code am_pL3 = true := by decide +kernel
end
section
set_option maxRecDepth 100000 in
set_option maxHeartbeats 4000000 in
theorem am_ckL4 : am_chk 12 code am_pL4 = true := by decide +kernel
set_option maxRecDepth 100000 in
set_option maxHeartbeats 4000000 in
theorem am_ckL5 : am_chk 12 code am_pL5 = true := by decide +kernel
set_option maxRecDepth 100000 in
set_option maxHeartbeats 4000000 in
theorem am_ckL6 : am_chk 12 code am_pL6 = true := by decide +kernel
set_option maxRecDepth 100000 in
set_option maxHeartbeats 4000000 in
theorem am_ckL7 : am_chk 12 code am_pL7 = true := by decide +kernel
end
section
set_option maxRecDepth 100000 in
set_option maxHeartbeats 4000000 in
theorem am_ckL8 : am_chk 12 code am_pL8 = true := by decide +kernel
set_option maxRecDepth 100000 in
set_option maxHeartbeats 4000000 in
theorem am_ckL9 : am_chk 12 code am_pL9 = true := by decide +kernel
set_option maxRecDepth 100000 in
set_option maxHeartbeats 4000000 in
theorem am_ckL10 : am_chk 12 code am_pL10 = true := by decide +kernel
set_option maxRecDepth 100000 in
set_option maxHeartbeats 4000000 in
theorem am_ckL11 : am_chk 12 code am_pL11 = true := by decide +kernel
end
section
set_option maxRecDepth 100000 in
set_option maxHeartbeats 4000000 in
theorem am_ckL12 : am_chk 12 code am_pL12 = true := by decide +kernel
set_option maxRecDepth 100000 in
set_option maxHeartbeats 4000000 in
theorem am_ckL13 : am_chk 12 code am_pL13 = true := by decide +kernel
set_option maxRecDepth 100000 in
set_option maxHeartbeats 4000000 in
theorem am_ckL14 : am_chk 12 code am_pL14 = true := by decide +kernel
set_option maxRecDepth 100000 in
set_option maxHeartbeats 4000000 in
theorem am_ckL15 : am_chk 12 code am_pL15 = true := by decide +kernel
end
section
set_option maxRecDepth 100000 in
set_option maxHeartbeats 4000000 in
theorem am_ckL16 : am_chk 12 code am_pL16 = true := by decide +kernel
set_option maxRecDepth 100000 in
set_option maxHeartbeats 4000000 in
theorem am_ckL17 : am_chk 12 code am_pL17 = true := by decide +kernel
set_option maxRecDepth 100000 in
set_option maxHeartbeats 4000000 in
theorem am_ckL18 : am_chk 12 code am_pL18 = true := by decide +kernel
set_option maxRecDepth 100000 in
set_option maxHeartbeats 4000000 in
theorem am_ckL19 : am_chk 12 code am_pL19 = true := by decide +kernel
end
section
set_option maxRecDepth 100000 in
set_option maxHeartbeats 4000000 in
theorem am_ckL20 : am_chk 12 code am_pL20 = true := by decide +kernel
set_option maxRecDepth 100000 in
set_option maxHeartbeats 4000000 in
theorem am_ckL21 : am_chk 12 code am_pL21 = true := by decide +kernel
set_option maxRecDepth 100000 in
set_option maxHeartbeats 4000000 in
theorem am_ckL22 : am_chk 12 code am_pL22 = true := by decide +kernel
set_option maxRecDepth 100000 in
set_option maxHeartbeats 4000000 in
theorem am_ckL23 : am_chk 12 code am_pL23 = true := by decide +kernel
end
section
set_option maxRecDepth 100000 in
set_option maxHeartbeats 4000000 in
theorem am_ckL24 : am_chk 12 code am_pL24 = true := by decide +kernel
set_option maxRecDepth 100000 in
set_option maxHeartbeats 4000000 in
theorem am_ckL25 : am_chk 12 code am_pL25 = true := by decide +kernel
theorem am_chk_app {o : Nat} {cc : ByteArray} {a b : Am_p} (h : am_chk o cc a = true) (h2 : am_chk o cc b = true) : am_chk o cc (a ++ b) = true := by
  unfold am_chk at h h2 ⊢
  rw [List.all_append, h, h2]
  rfl
theorem am_ckL : am_chk 12 code am_pL = true := am_chk_app am_ckL0 (am_chk_app am_ckL1 (am_chk_app am_ckL2 (am_chk_app am_ckL3 (am_chk_app am_ckL4 (am_chk_app am_ckL5 (am_chk_app am_ckL6 (am_chk_app am_ckL7 (am_chk_app am_ckL8 (am_chk_app am_ckL9 (am_chk_app am_ckL10 (am_chk_app am_ckL11 (am_chk_app am_ckL12 (am_chk_app am_ckL13 (am_chk_app am_ckL14 (am_chk_app am_ckL15 (am_chk_app am_ckL16 (am_chk_app am_ckL17 (am_chk_app am_ckL18 (am_chk_app am_ckL19 (am_chk_app am_ckL20 (am_chk_app am_ckL21 (am_chk_app am_ckL22 (am_chk_app am_ckL23 (am_chk_app am_ckL24 am_ckL25))))))))))))))))))))))))
end
section
/-! numbers: z_I, z_L the ints and longs of an integer -/
def z_I (z : Int) : Int32 := Int32.ofInt z
def z_L (z : Int) : Int64 := Int64.ofInt z
theorem z_min : Int32.minValue.toInt = -2147483648 := by decide
theorem z_max : Int32.maxValue.toInt = 2147483647 := by decide
theorem z_minL : Int64.minValue.toInt = -9223372036854775808 := by decide
theorem z_maxL : Int64.maxValue.toInt = 9223372036854775807 := by decide
theorem z_toInt {a : Int} (h : -2147483648 ≤ a ∧ a < 2147483648) : (z_I a).toInt = a := Int32.toInt_ofInt_of_le h.1 h.2
theorem z_toIntL {a : Int} (h : -9223372036854775808 ≤ a ∧ a < 9223372036854775808) : (z_L a).toInt = a := Int64.toInt_ofInt_of_le h.1 h.2
theorem z_of (x : Int32) : ∃ z : Int, (-2147483648 ≤ z ∧ z < 2147483648) ∧ x = z_I z := ⟨x.toInt, ⟨Int32.le_toInt x, Int32.toInt_lt x⟩, (Int32.ofInt_toInt x).symm⟩
theorem z_ofL (x : Int64) : ∃ z : Int, (-9223372036854775808 ≤ z ∧ z < 9223372036854775808) ∧ x = z_L z := ⟨x.toInt, ⟨Int64.le_toInt x, Int64.toInt_lt x⟩, (Int64.ofInt_toInt x).symm⟩
theorem z_lt {a b : Int} (ha : -2147483648 ≤ a ∧ a < 2147483648) (hb : -2147483648 ≤ b ∧ b < 2147483648) : z_I a < z_I b ↔ a < b := by rw [Int32.lt_iff_toInt_lt, z_toInt ha, z_toInt hb]
theorem z_le {a b : Int} (ha : -2147483648 ≤ a ∧ a < 2147483648) (hb : -2147483648 ≤ b ∧ b < 2147483648) : z_I a ≤ z_I b ↔ a ≤ b := by rw [Int32.le_iff_toInt_le, z_toInt ha, z_toInt hb]
theorem z_eq {a b : Int} (ha : -2147483648 ≤ a ∧ a < 2147483648) (hb : -2147483648 ≤ b ∧ b < 2147483648) : z_I a = z_I b ↔ a = b := by rw [← Int32.toInt_inj, z_toInt ha, z_toInt hb]
theorem z_ltL {a b : Int} (ha : -9223372036854775808 ≤ a ∧ a < 9223372036854775808) (hb : -9223372036854775808 ≤ b ∧ b < 9223372036854775808) : z_L a < z_L b ↔ a < b := by rw [Int64.lt_iff_toInt_lt, z_toIntL ha, z_toIntL hb]
theorem z_eqL {a b : Int} (ha : -9223372036854775808 ≤ a ∧ a < 9223372036854775808) (hb : -9223372036854775808 ≤ b ∧ b < 9223372036854775808) : z_L a = z_L b ↔ a = b := by rw [← Int64.toInt_inj, z_toIntL ha, z_toIntL hb]
theorem z_add (a b : Int) : z_I a + z_I b = z_I (a + b) := (Int32.ofInt_add a b).symm
theorem z_sub (a b : Int) : z_I a - z_I b = z_I (a - b) := (Int32.ofInt_sub a b).symm
theorem z_mul (a b : Int) : z_I a * z_I b = z_I (a * b) := (Int32.ofInt_mul a b).symm
theorem z_neg (a : Int) : -z_I a = z_I (-a) := Int32.neg_ofInt
theorem z_addL (a b : Int) : z_L a + z_L b = z_L (a + b) := (Int64.ofInt_add a b).symm
theorem z_subL (a b : Int) : z_L a - z_L b = z_L (a - b) := (Int64.ofInt_sub a b).symm
theorem z_mulL (a b : Int) : z_L a * z_L b = z_L (a * b) := (Int64.ofInt_mul a b).symm
theorem z_div {a b : Int} (ha : -2147483648 ≤ a ∧ a < 2147483648) (hb : -2147483648 ≤ b ∧ b < 2147483648) : z_I a / z_I b = z_I (a.tdiv b) := (Int32.ofInt_tdiv (by rw [z_min]; omega) (by rw [z_max]; omega) (by rw [z_min]; omega) (by rw [z_max]; omega)).symm
theorem z_divL {a b : Int} (ha : -9223372036854775808 ≤ a ∧ a < 9223372036854775808) (hb : -9223372036854775808 ≤ b ∧ b < 9223372036854775808) : z_L a / z_L b = z_L (a.tdiv b) := (Int64.ofInt_tdiv (by rw [z_minL]; omega) (by rw [z_maxL]; omega) (by rw [z_minL]; omega) (by rw [z_maxL]; omega)).symm
theorem z_rem {a b : Int} (ha : -2147483648 ≤ a ∧ a < 2147483648) (hb : -2147483648 ≤ b ∧ b < 2147483648) : z_I a - z_I a / z_I b * z_I b = z_I (a.tmod b) := by
  rw [z_div ha hb, z_mul, z_sub]
  congr 1
  have h : b * a.tdiv b + a.tmod b = a := Int.mul_tdiv_add_tmod a b
  have h2 : a.tdiv b * b = b * a.tdiv b := Int.mul_comm _ _
  omega
theorem z_remL {a b : Int} (ha : -9223372036854775808 ≤ a ∧ a < 9223372036854775808) (hb : -9223372036854775808 ≤ b ∧ b < 9223372036854775808) : z_L a - z_L a / z_L b * z_L b = z_L (a.tmod b) := by
  rw [z_divL ha hb, z_mulL, z_subL]
  congr 1
  have h : b * a.tdiv b + a.tmod b = a := Int.mul_tdiv_add_tmod a b
  have h2 : a.tdiv b * b = b * a.tdiv b := Int.mul_comm _ _
  omega
theorem z_tdiv {a b : Int} (h : 0 ≤ a) : a.tdiv b = a / b := Int.tdiv_eq_ediv_of_nonneg h
theorem z_tmod {a b : Int} (h : 0 ≤ a) : a.tmod b = a % b := Int.tmod_eq_emod_of_nonneg h
theorem z_ne0 {b : Int} (hb : -2147483648 ≤ b ∧ b < 2147483648) (h : b ≠ 0) : ¬ z_I b = 0 := fun q => h ((z_eq hb (by omega)).mp (q.trans rfl))
theorem z_ne0L {b : Int} (hb : -9223372036854775808 ≤ b ∧ b < 9223372036854775808) (h : b ≠ 0) : ¬ z_L b = 0 := fun q => h ((z_eqL hb (by omega)).mp (q.trans rfl))
theorem z_cl {a : Int} (h : 0 ≤ a ∧ a < 2147483648) : (z_I a).toNatClampNeg = a.toNat := by
  show (z_I a).toInt.toNat = _
  rw [z_toInt (by omega)]
theorem z_in {a : Int} {n : Nat} (h : 0 ≤ a ∧ a < n) (hn : n ≤ 1000000000) : vp_in (z_I a) n := by
  rw [vp_in_iff, z_toInt (by omega)]
  omega
theorem z_il {a : Int} (h : -2147483648 ≤ a ∧ a < 2147483648) : (z_I a).toInt64 = z_L a := Int32.toInt64_ofInt (by rw [z_min]; omega) (by rw [z_max]; omega)
theorem z_li (a : Int) : (z_L a).toInt32 = z_I a := Int64.toInt32_ofInt
/-- a truth value as an int -/
def z_b (c : Prop) [Decidable c] : Int32 := if c then z_I 1 else z_I 0
theorem z_b1 {c : Prop} [Decidable c] {α : Prop} {f : Int32 → Prop} (h : f (z_b c)) (hc : c) (k : f (z_I 1) → α) : α := k (by rw [z_b, if_pos hc] at h; exact h)
theorem z_bT {c : Prop} [Decidable c] (hc : c) : z_b c = z_I 1 := if_pos hc
theorem z_bF {c : Prop} [Decidable c] (hc : ¬ c) : z_b c = z_I 0 := if_neg hc
theorem z_b_01 (c : Prop) [Decidable c] : z_b c = 0 ∨ z_b c = 1 := by
  unfold z_b
  split
  · right; rfl
  · left; rfl
theorem z_b_0 {c : Prop} [Decidable c] : z_b c = 0 ↔ ¬ c := by
  unfold z_b
  split
  · rename_i h
    exact ⟨fun q => absurd q (by decide), fun q => absurd h q⟩
  · rename_i h
    exact ⟨fun _ => h, fun _ => rfl⟩
/-! runs by their end -/
section RW
variable {sL : Nat} {xs : Nat → Int32}
def am_bg (sL : Nat) (xs : Nat → Int32) (d : Nat) : Am_C := am_big am_pg am_NM sL xs d
def am_rw (sL : Nat) (xs : Nat → Int32) (d : Nat) (P : Am_p) (rt pc : Nat) (lv st : List Value) (M : Am_M) (Q : Option Value → Am_M → Prop) : Prop := ∃ n v M', am_run am_mt (am_bg sL xs d) sL xs (am_lk P) rt v M' n pc lv st M ∧ Q v M'
def am_bi (sL : Nat) (xs : Nat → Int32) (d j : Nat) (as : List Value) (M : Am_M) (Q : Int32 → Am_M → Prop) : Prop := ∃ x M', am_bg sL xs d j as M (some (.int x)) M' ∧ Q x M'
def am_bl (sL : Nat) (xs : Nat → Int32) (d j : Nat) (as : List Value) (M : Am_M) (Q : Int64 → Am_M → Prop) : Prop := ∃ x M', am_bg sL xs d j as M (some (.long x)) M' ∧ Q x M'
def am_bv (sL : Nat) (xs : Nat → Int32) (d j : Nat) (as : List Value) (M : Am_M) (Q : Am_M → Prop) : Prop := ∃ M', am_bg sL xs d j as M none M' ∧ Q M'
def am_pi (Q : Int32 → Am_M → Prop) : Option Value → Am_M → Prop := fun v M => ∃ x, v = some (.int x) ∧ Q x M
def am_pl (Q : Int64 → Am_M → Prop) : Option Value → Am_M → Prop := fun v M => ∃ x, v = some (.long x) ∧ Q x M
def am_pv (Q : Am_M → Prop) : Option Value → Am_M → Prop := fun v M => v = none ∧ Q M
theorem am_bi_of {d j nL rt : Nat} {as lv : List Value} {P : Am_p} {M : Am_M} {Q : Int32 → Am_M → Prop} (hj : j < am_NM) (hn : (am_mt j).2.2.2.1 = nL) (hl : (am_en as).length ≤ nL) (hP : am_pg j = P) (hr : am_rtc (am_mt j).2.2.2.2.1 = rt) (he : am_ent nL as = lv) (k : am_rw sL xs d P rt 0 lv [] M (am_pi Q)) : am_bi sL xs (d + 1) j as M Q := by
  subst hn hP hr he
  obtain ⟨n, v, M', h, x, rfl, hq⟩ := k
  exact ⟨x, M', ⟨hj, hl, n, h⟩, hq⟩
theorem am_bl_of {d j nL rt : Nat} {as lv : List Value} {P : Am_p} {M : Am_M} {Q : Int64 → Am_M → Prop} (hj : j < am_NM) (hn : (am_mt j).2.2.2.1 = nL) (hl : (am_en as).length ≤ nL) (hP : am_pg j = P) (hr : am_rtc (am_mt j).2.2.2.2.1 = rt) (he : am_ent nL as = lv) (k : am_rw sL xs d P rt 0 lv [] M (am_pl Q)) : am_bl sL xs (d + 1) j as M Q := by
  subst hn hP hr he
  obtain ⟨n, v, M', h, x, rfl, hq⟩ := k
  exact ⟨x, M', ⟨hj, hl, n, h⟩, hq⟩
theorem am_bv_of {d j nL rt : Nat} {as lv : List Value} {P : Am_p} {M : Am_M} {Q : Am_M → Prop} (hj : j < am_NM) (hn : (am_mt j).2.2.2.1 = nL) (hl : (am_en as).length ≤ nL) (hP : am_pg j = P) (hr : am_rtc (am_mt j).2.2.2.2.1 = rt) (he : am_ent nL as = lv) (k : am_rw sL xs d P rt 0 lv [] M (am_pv Q)) : am_bv sL xs (d + 1) j as M Q := by
  subst hn hP hr he
  obtain ⟨n, v, M', h, rfl, hq⟩ := k
  exact ⟨M', ⟨hj, hl, n, h⟩, hq⟩
variable {d rt pc pc' len : Nat} {P : Am_p} {lv r l : List Value} {M : Am_M} {Q : Option Value → Am_M → Prop}
theorem am_rw_go {st lv2 st2 : List Value} {M2 : Am_M} {i : Instr} {pc' : Nat} (h : am_lk P pc = some (i, len)) (hs : ∀ (v : Option Value) (M' : Am_M) (K : Nat → List Value → List Value → Am_M → Prop), K pc' lv2 st2 M2 → am_stp am_mt (am_bg sL xs d) sL xs rt v M' i (pc + len) lv st M K) (k : am_rw sL xs d P rt pc' lv2 st2 M2 Q) : am_rw sL xs d P rt pc lv st M Q := by
  obtain ⟨n, v, M', hr, hq⟩ := k
  refine ⟨n + 1, v, M', ?_, hq⟩
  unfold am_run
  rw [h]
  exact hs v M' _ hr
theorem am_rw_end {st : List Value} {i : Instr} {v : Option Value} (h : am_lk P pc = some (i, len)) (hs : ∀ (K : Nat → List Value → List Value → Am_M → Prop), am_stp am_mt (am_bg sL xs d) sL xs rt v M i (pc + len) lv st M K) (hq : Q v M) : am_rw sL xs d P rt pc lv st M Q := by
  refine ⟨1, v, M, ?_, hq⟩
  unfold am_run
  rw [h]
  exact hs _
theorem am_r_iconst {n : Int} (h : am_lk P pc = some (.iconst n, len)) (e : pc + len = pc') (k : am_rw sL xs d P rt pc' lv (.int (z_I n) :: r) M Q) : am_rw sL xs d P rt pc lv r M Q := by
  subst e
  exact am_rw_go h (fun v M' K hk => hk) k
theorem am_r_lconst {n : Nat} {z : Int} (h : am_lk P pc = some (.ldc2_w n, len)) (e : pc + len = pc') (hz : Int64.ofNat n = z_L z) (k : am_rw sL xs d P rt pc' lv (.long (z_L z) :: r) M Q) : am_rw sL xs d P rt pc lv r M Q := by
  subst e
  exact am_rw_go h (fun v M' K hk => by show K _ _ (.long (Int64.ofNat n) :: r) _; rw [hz]; exact hk) k
theorem am_r_iload0 {x : Int32} (h : am_lk P pc = some (.iload 0, len)) (e : pc + len = pc') (k : am_rw sL xs d P rt pc' (.int x :: l) (.int x :: r) M Q) : am_rw sL xs d P rt pc (.int x :: l) r M Q := by
  subst e
  exact am_rw_go h (fun v M' K hk => hk) k
theorem am_r_lload0 {x : Int64} (h : am_lk P pc = some (.lload 0, len)) (e : pc + len = pc') (k : am_rw sL xs d P rt pc' (.long x :: l) (.long x :: r) M Q) : am_rw sL xs d P rt pc (.long x :: l) r M Q := by
  subst e
  exact am_rw_go h (fun v M' K hk => hk) k
theorem am_r_aload0 {x : Nat} (h : am_lk P pc = some (.aload 0, len)) (e : pc + len = pc') (k : am_rw sL xs d P rt pc' (.ref x :: l) (.ref x :: r) M Q) : am_rw sL xs d P rt pc (.ref x :: l) r M Q := by
  subst e
  exact am_rw_go h (fun v M' K hk => hk) k
theorem am_r_iload1 {a0 : Value} {x : Int32} (h : am_lk P pc = some (.iload 1, len)) (e : pc + len = pc') (k : am_rw sL xs d P rt pc' (a0 :: .int x :: l) (.int x :: r) M Q) : am_rw sL xs d P rt pc (a0 :: .int x :: l) r M Q := by
  subst e
  exact am_rw_go h (fun v M' K hk => hk) k
theorem am_r_lload1 {a0 : Value} {x : Int64} (h : am_lk P pc = some (.lload 1, len)) (e : pc + len = pc') (k : am_rw sL xs d P rt pc' (a0 :: .long x :: l) (.long x :: r) M Q) : am_rw sL xs d P rt pc (a0 :: .long x :: l) r M Q := by
  subst e
  exact am_rw_go h (fun v M' K hk => hk) k
theorem am_r_aload1 {a0 : Value} {x : Nat} (h : am_lk P pc = some (.aload 1, len)) (e : pc + len = pc') (k : am_rw sL xs d P rt pc' (a0 :: .ref x :: l) (.ref x :: r) M Q) : am_rw sL xs d P rt pc (a0 :: .ref x :: l) r M Q := by
  subst e
  exact am_rw_go h (fun v M' K hk => hk) k
theorem am_r_iload2 {a0 a1 : Value} {x : Int32} (h : am_lk P pc = some (.iload 2, len)) (e : pc + len = pc') (k : am_rw sL xs d P rt pc' (a0 :: a1 :: .int x :: l) (.int x :: r) M Q) : am_rw sL xs d P rt pc (a0 :: a1 :: .int x :: l) r M Q := by
  subst e
  exact am_rw_go h (fun v M' K hk => hk) k
theorem am_r_lload2 {a0 a1 : Value} {x : Int64} (h : am_lk P pc = some (.lload 2, len)) (e : pc + len = pc') (k : am_rw sL xs d P rt pc' (a0 :: a1 :: .long x :: l) (.long x :: r) M Q) : am_rw sL xs d P rt pc (a0 :: a1 :: .long x :: l) r M Q := by
  subst e
  exact am_rw_go h (fun v M' K hk => hk) k
theorem am_r_aload2 {a0 a1 : Value} {x : Nat} (h : am_lk P pc = some (.aload 2, len)) (e : pc + len = pc') (k : am_rw sL xs d P rt pc' (a0 :: a1 :: .ref x :: l) (.ref x :: r) M Q) : am_rw sL xs d P rt pc (a0 :: a1 :: .ref x :: l) r M Q := by
  subst e
  exact am_rw_go h (fun v M' K hk => hk) k
theorem am_r_iload3 {a0 a1 a2 : Value} {x : Int32} (h : am_lk P pc = some (.iload 3, len)) (e : pc + len = pc') (k : am_rw sL xs d P rt pc' (a0 :: a1 :: a2 :: .int x :: l) (.int x :: r) M Q) : am_rw sL xs d P rt pc (a0 :: a1 :: a2 :: .int x :: l) r M Q := by
  subst e
  exact am_rw_go h (fun v M' K hk => hk) k
theorem am_r_lload3 {a0 a1 a2 : Value} {x : Int64} (h : am_lk P pc = some (.lload 3, len)) (e : pc + len = pc') (k : am_rw sL xs d P rt pc' (a0 :: a1 :: a2 :: .long x :: l) (.long x :: r) M Q) : am_rw sL xs d P rt pc (a0 :: a1 :: a2 :: .long x :: l) r M Q := by
  subst e
  exact am_rw_go h (fun v M' K hk => hk) k
theorem am_r_aload3 {a0 a1 a2 : Value} {x : Nat} (h : am_lk P pc = some (.aload 3, len)) (e : pc + len = pc') (k : am_rw sL xs d P rt pc' (a0 :: a1 :: a2 :: .ref x :: l) (.ref x :: r) M Q) : am_rw sL xs d P rt pc (a0 :: a1 :: a2 :: .ref x :: l) r M Q := by
  subst e
  exact am_rw_go h (fun v M' K hk => hk) k
theorem am_r_iload4 {a0 a1 a2 a3 : Value} {x : Int32} (h : am_lk P pc = some (.iload 4, len)) (e : pc + len = pc') (k : am_rw sL xs d P rt pc' (a0 :: a1 :: a2 :: a3 :: .int x :: l) (.int x :: r) M Q) : am_rw sL xs d P rt pc (a0 :: a1 :: a2 :: a3 :: .int x :: l) r M Q := by
  subst e
  exact am_rw_go h (fun v M' K hk => hk) k
theorem am_r_lload4 {a0 a1 a2 a3 : Value} {x : Int64} (h : am_lk P pc = some (.lload 4, len)) (e : pc + len = pc') (k : am_rw sL xs d P rt pc' (a0 :: a1 :: a2 :: a3 :: .long x :: l) (.long x :: r) M Q) : am_rw sL xs d P rt pc (a0 :: a1 :: a2 :: a3 :: .long x :: l) r M Q := by
  subst e
  exact am_rw_go h (fun v M' K hk => hk) k
theorem am_r_aload4 {a0 a1 a2 a3 : Value} {x : Nat} (h : am_lk P pc = some (.aload 4, len)) (e : pc + len = pc') (k : am_rw sL xs d P rt pc' (a0 :: a1 :: a2 :: a3 :: .ref x :: l) (.ref x :: r) M Q) : am_rw sL xs d P rt pc (a0 :: a1 :: a2 :: a3 :: .ref x :: l) r M Q := by
  subst e
  exact am_rw_go h (fun v M' K hk => hk) k
theorem am_r_iload5 {a0 a1 a2 a3 a4 : Value} {x : Int32} (h : am_lk P pc = some (.iload 5, len)) (e : pc + len = pc') (k : am_rw sL xs d P rt pc' (a0 :: a1 :: a2 :: a3 :: a4 :: .int x :: l) (.int x :: r) M Q) : am_rw sL xs d P rt pc (a0 :: a1 :: a2 :: a3 :: a4 :: .int x :: l) r M Q := by
  subst e
  exact am_rw_go h (fun v M' K hk => hk) k
theorem am_r_lload5 {a0 a1 a2 a3 a4 : Value} {x : Int64} (h : am_lk P pc = some (.lload 5, len)) (e : pc + len = pc') (k : am_rw sL xs d P rt pc' (a0 :: a1 :: a2 :: a3 :: a4 :: .long x :: l) (.long x :: r) M Q) : am_rw sL xs d P rt pc (a0 :: a1 :: a2 :: a3 :: a4 :: .long x :: l) r M Q := by
  subst e
  exact am_rw_go h (fun v M' K hk => hk) k
theorem am_r_aload5 {a0 a1 a2 a3 a4 : Value} {x : Nat} (h : am_lk P pc = some (.aload 5, len)) (e : pc + len = pc') (k : am_rw sL xs d P rt pc' (a0 :: a1 :: a2 :: a3 :: a4 :: .ref x :: l) (.ref x :: r) M Q) : am_rw sL xs d P rt pc (a0 :: a1 :: a2 :: a3 :: a4 :: .ref x :: l) r M Q := by
  subst e
  exact am_rw_go h (fun v M' K hk => hk) k
theorem am_r_iload6 {a0 a1 a2 a3 a4 a5 : Value} {x : Int32} (h : am_lk P pc = some (.iload 6, len)) (e : pc + len = pc') (k : am_rw sL xs d P rt pc' (a0 :: a1 :: a2 :: a3 :: a4 :: a5 :: .int x :: l) (.int x :: r) M Q) : am_rw sL xs d P rt pc (a0 :: a1 :: a2 :: a3 :: a4 :: a5 :: .int x :: l) r M Q := by
  subst e
  exact am_rw_go h (fun v M' K hk => hk) k
theorem am_r_lload6 {a0 a1 a2 a3 a4 a5 : Value} {x : Int64} (h : am_lk P pc = some (.lload 6, len)) (e : pc + len = pc') (k : am_rw sL xs d P rt pc' (a0 :: a1 :: a2 :: a3 :: a4 :: a5 :: .long x :: l) (.long x :: r) M Q) : am_rw sL xs d P rt pc (a0 :: a1 :: a2 :: a3 :: a4 :: a5 :: .long x :: l) r M Q := by
  subst e
  exact am_rw_go h (fun v M' K hk => hk) k
theorem am_r_aload6 {a0 a1 a2 a3 a4 a5 : Value} {x : Nat} (h : am_lk P pc = some (.aload 6, len)) (e : pc + len = pc') (k : am_rw sL xs d P rt pc' (a0 :: a1 :: a2 :: a3 :: a4 :: a5 :: .ref x :: l) (.ref x :: r) M Q) : am_rw sL xs d P rt pc (a0 :: a1 :: a2 :: a3 :: a4 :: a5 :: .ref x :: l) r M Q := by
  subst e
  exact am_rw_go h (fun v M' K hk => hk) k
theorem am_r_iload7 {a0 a1 a2 a3 a4 a5 a6 : Value} {x : Int32} (h : am_lk P pc = some (.iload 7, len)) (e : pc + len = pc') (k : am_rw sL xs d P rt pc' (a0 :: a1 :: a2 :: a3 :: a4 :: a5 :: a6 :: .int x :: l) (.int x :: r) M Q) : am_rw sL xs d P rt pc (a0 :: a1 :: a2 :: a3 :: a4 :: a5 :: a6 :: .int x :: l) r M Q := by
  subst e
  exact am_rw_go h (fun v M' K hk => hk) k
theorem am_r_lload7 {a0 a1 a2 a3 a4 a5 a6 : Value} {x : Int64} (h : am_lk P pc = some (.lload 7, len)) (e : pc + len = pc') (k : am_rw sL xs d P rt pc' (a0 :: a1 :: a2 :: a3 :: a4 :: a5 :: a6 :: .long x :: l) (.long x :: r) M Q) : am_rw sL xs d P rt pc (a0 :: a1 :: a2 :: a3 :: a4 :: a5 :: a6 :: .long x :: l) r M Q := by
  subst e
  exact am_rw_go h (fun v M' K hk => hk) k
theorem am_r_aload7 {a0 a1 a2 a3 a4 a5 a6 : Value} {x : Nat} (h : am_lk P pc = some (.aload 7, len)) (e : pc + len = pc') (k : am_rw sL xs d P rt pc' (a0 :: a1 :: a2 :: a3 :: a4 :: a5 :: a6 :: .ref x :: l) (.ref x :: r) M Q) : am_rw sL xs d P rt pc (a0 :: a1 :: a2 :: a3 :: a4 :: a5 :: a6 :: .ref x :: l) r M Q := by
  subst e
  exact am_rw_go h (fun v M' K hk => hk) k
theorem am_r_iload8 {a0 a1 a2 a3 a4 a5 a6 a7 : Value} {x : Int32} (h : am_lk P pc = some (.iload 8, len)) (e : pc + len = pc') (k : am_rw sL xs d P rt pc' (a0 :: a1 :: a2 :: a3 :: a4 :: a5 :: a6 :: a7 :: .int x :: l) (.int x :: r) M Q) : am_rw sL xs d P rt pc (a0 :: a1 :: a2 :: a3 :: a4 :: a5 :: a6 :: a7 :: .int x :: l) r M Q := by
  subst e
  exact am_rw_go h (fun v M' K hk => hk) k
theorem am_r_lload8 {a0 a1 a2 a3 a4 a5 a6 a7 : Value} {x : Int64} (h : am_lk P pc = some (.lload 8, len)) (e : pc + len = pc') (k : am_rw sL xs d P rt pc' (a0 :: a1 :: a2 :: a3 :: a4 :: a5 :: a6 :: a7 :: .long x :: l) (.long x :: r) M Q) : am_rw sL xs d P rt pc (a0 :: a1 :: a2 :: a3 :: a4 :: a5 :: a6 :: a7 :: .long x :: l) r M Q := by
  subst e
  exact am_rw_go h (fun v M' K hk => hk) k
theorem am_r_aload8 {a0 a1 a2 a3 a4 a5 a6 a7 : Value} {x : Nat} (h : am_lk P pc = some (.aload 8, len)) (e : pc + len = pc') (k : am_rw sL xs d P rt pc' (a0 :: a1 :: a2 :: a3 :: a4 :: a5 :: a6 :: a7 :: .ref x :: l) (.ref x :: r) M Q) : am_rw sL xs d P rt pc (a0 :: a1 :: a2 :: a3 :: a4 :: a5 :: a6 :: a7 :: .ref x :: l) r M Q := by
  subst e
  exact am_rw_go h (fun v M' K hk => hk) k
theorem am_r_iload9 {a0 a1 a2 a3 a4 a5 a6 a7 a8 : Value} {x : Int32} (h : am_lk P pc = some (.iload 9, len)) (e : pc + len = pc') (k : am_rw sL xs d P rt pc' (a0 :: a1 :: a2 :: a3 :: a4 :: a5 :: a6 :: a7 :: a8 :: .int x :: l) (.int x :: r) M Q) : am_rw sL xs d P rt pc (a0 :: a1 :: a2 :: a3 :: a4 :: a5 :: a6 :: a7 :: a8 :: .int x :: l) r M Q := by
  subst e
  exact am_rw_go h (fun v M' K hk => hk) k
theorem am_r_lload9 {a0 a1 a2 a3 a4 a5 a6 a7 a8 : Value} {x : Int64} (h : am_lk P pc = some (.lload 9, len)) (e : pc + len = pc') (k : am_rw sL xs d P rt pc' (a0 :: a1 :: a2 :: a3 :: a4 :: a5 :: a6 :: a7 :: a8 :: .long x :: l) (.long x :: r) M Q) : am_rw sL xs d P rt pc (a0 :: a1 :: a2 :: a3 :: a4 :: a5 :: a6 :: a7 :: a8 :: .long x :: l) r M Q := by
  subst e
  exact am_rw_go h (fun v M' K hk => hk) k
theorem am_r_aload9 {a0 a1 a2 a3 a4 a5 a6 a7 a8 : Value} {x : Nat} (h : am_lk P pc = some (.aload 9, len)) (e : pc + len = pc') (k : am_rw sL xs d P rt pc' (a0 :: a1 :: a2 :: a3 :: a4 :: a5 :: a6 :: a7 :: a8 :: .ref x :: l) (.ref x :: r) M Q) : am_rw sL xs d P rt pc (a0 :: a1 :: a2 :: a3 :: a4 :: a5 :: a6 :: a7 :: a8 :: .ref x :: l) r M Q := by
  subst e
  exact am_rw_go h (fun v M' K hk => hk) k
theorem am_r_iload10 {a0 a1 a2 a3 a4 a5 a6 a7 a8 a9 : Value} {x : Int32} (h : am_lk P pc = some (.iload 10, len)) (e : pc + len = pc') (k : am_rw sL xs d P rt pc' (a0 :: a1 :: a2 :: a3 :: a4 :: a5 :: a6 :: a7 :: a8 :: a9 :: .int x :: l) (.int x :: r) M Q) : am_rw sL xs d P rt pc (a0 :: a1 :: a2 :: a3 :: a4 :: a5 :: a6 :: a7 :: a8 :: a9 :: .int x :: l) r M Q := by
  subst e
  exact am_rw_go h (fun v M' K hk => hk) k
theorem am_r_lload10 {a0 a1 a2 a3 a4 a5 a6 a7 a8 a9 : Value} {x : Int64} (h : am_lk P pc = some (.lload 10, len)) (e : pc + len = pc') (k : am_rw sL xs d P rt pc' (a0 :: a1 :: a2 :: a3 :: a4 :: a5 :: a6 :: a7 :: a8 :: a9 :: .long x :: l) (.long x :: r) M Q) : am_rw sL xs d P rt pc (a0 :: a1 :: a2 :: a3 :: a4 :: a5 :: a6 :: a7 :: a8 :: a9 :: .long x :: l) r M Q := by
  subst e
  exact am_rw_go h (fun v M' K hk => hk) k
theorem am_r_aload10 {a0 a1 a2 a3 a4 a5 a6 a7 a8 a9 : Value} {x : Nat} (h : am_lk P pc = some (.aload 10, len)) (e : pc + len = pc') (k : am_rw sL xs d P rt pc' (a0 :: a1 :: a2 :: a3 :: a4 :: a5 :: a6 :: a7 :: a8 :: a9 :: .ref x :: l) (.ref x :: r) M Q) : am_rw sL xs d P rt pc (a0 :: a1 :: a2 :: a3 :: a4 :: a5 :: a6 :: a7 :: a8 :: a9 :: .ref x :: l) r M Q := by
  subst e
  exact am_rw_go h (fun v M' K hk => hk) k
theorem am_r_iload11 {a0 a1 a2 a3 a4 a5 a6 a7 a8 a9 a10 : Value} {x : Int32} (h : am_lk P pc = some (.iload 11, len)) (e : pc + len = pc') (k : am_rw sL xs d P rt pc' (a0 :: a1 :: a2 :: a3 :: a4 :: a5 :: a6 :: a7 :: a8 :: a9 :: a10 :: .int x :: l) (.int x :: r) M Q) : am_rw sL xs d P rt pc (a0 :: a1 :: a2 :: a3 :: a4 :: a5 :: a6 :: a7 :: a8 :: a9 :: a10 :: .int x :: l) r M Q := by
  subst e
  exact am_rw_go h (fun v M' K hk => hk) k
theorem am_r_lload11 {a0 a1 a2 a3 a4 a5 a6 a7 a8 a9 a10 : Value} {x : Int64} (h : am_lk P pc = some (.lload 11, len)) (e : pc + len = pc') (k : am_rw sL xs d P rt pc' (a0 :: a1 :: a2 :: a3 :: a4 :: a5 :: a6 :: a7 :: a8 :: a9 :: a10 :: .long x :: l) (.long x :: r) M Q) : am_rw sL xs d P rt pc (a0 :: a1 :: a2 :: a3 :: a4 :: a5 :: a6 :: a7 :: a8 :: a9 :: a10 :: .long x :: l) r M Q := by
  subst e
  exact am_rw_go h (fun v M' K hk => hk) k
theorem am_r_aload11 {a0 a1 a2 a3 a4 a5 a6 a7 a8 a9 a10 : Value} {x : Nat} (h : am_lk P pc = some (.aload 11, len)) (e : pc + len = pc') (k : am_rw sL xs d P rt pc' (a0 :: a1 :: a2 :: a3 :: a4 :: a5 :: a6 :: a7 :: a8 :: a9 :: a10 :: .ref x :: l) (.ref x :: r) M Q) : am_rw sL xs d P rt pc (a0 :: a1 :: a2 :: a3 :: a4 :: a5 :: a6 :: a7 :: a8 :: a9 :: a10 :: .ref x :: l) r M Q := by
  subst e
  exact am_rw_go h (fun v M' K hk => hk) k
theorem am_r_iload12 {a0 a1 a2 a3 a4 a5 a6 a7 a8 a9 a10 a11 : Value} {x : Int32} (h : am_lk P pc = some (.iload 12, len)) (e : pc + len = pc') (k : am_rw sL xs d P rt pc' (a0 :: a1 :: a2 :: a3 :: a4 :: a5 :: a6 :: a7 :: a8 :: a9 :: a10 :: a11 :: .int x :: l) (.int x :: r) M Q) : am_rw sL xs d P rt pc (a0 :: a1 :: a2 :: a3 :: a4 :: a5 :: a6 :: a7 :: a8 :: a9 :: a10 :: a11 :: .int x :: l) r M Q := by
  subst e
  exact am_rw_go h (fun v M' K hk => hk) k
theorem am_r_lload12 {a0 a1 a2 a3 a4 a5 a6 a7 a8 a9 a10 a11 : Value} {x : Int64} (h : am_lk P pc = some (.lload 12, len)) (e : pc + len = pc') (k : am_rw sL xs d P rt pc' (a0 :: a1 :: a2 :: a3 :: a4 :: a5 :: a6 :: a7 :: a8 :: a9 :: a10 :: a11 :: .long x :: l) (.long x :: r) M Q) : am_rw sL xs d P rt pc (a0 :: a1 :: a2 :: a3 :: a4 :: a5 :: a6 :: a7 :: a8 :: a9 :: a10 :: a11 :: .long x :: l) r M Q := by
  subst e
  exact am_rw_go h (fun v M' K hk => hk) k
theorem am_r_aload12 {a0 a1 a2 a3 a4 a5 a6 a7 a8 a9 a10 a11 : Value} {x : Nat} (h : am_lk P pc = some (.aload 12, len)) (e : pc + len = pc') (k : am_rw sL xs d P rt pc' (a0 :: a1 :: a2 :: a3 :: a4 :: a5 :: a6 :: a7 :: a8 :: a9 :: a10 :: a11 :: .ref x :: l) (.ref x :: r) M Q) : am_rw sL xs d P rt pc (a0 :: a1 :: a2 :: a3 :: a4 :: a5 :: a6 :: a7 :: a8 :: a9 :: a10 :: a11 :: .ref x :: l) r M Q := by
  subst e
  exact am_rw_go h (fun v M' K hk => hk) k
theorem am_r_iload13 {a0 a1 a2 a3 a4 a5 a6 a7 a8 a9 a10 a11 a12 : Value} {x : Int32} (h : am_lk P pc = some (.iload 13, len)) (e : pc + len = pc') (k : am_rw sL xs d P rt pc' (a0 :: a1 :: a2 :: a3 :: a4 :: a5 :: a6 :: a7 :: a8 :: a9 :: a10 :: a11 :: a12 :: .int x :: l) (.int x :: r) M Q) : am_rw sL xs d P rt pc (a0 :: a1 :: a2 :: a3 :: a4 :: a5 :: a6 :: a7 :: a8 :: a9 :: a10 :: a11 :: a12 :: .int x :: l) r M Q := by
  subst e
  exact am_rw_go h (fun v M' K hk => hk) k
theorem am_r_lload13 {a0 a1 a2 a3 a4 a5 a6 a7 a8 a9 a10 a11 a12 : Value} {x : Int64} (h : am_lk P pc = some (.lload 13, len)) (e : pc + len = pc') (k : am_rw sL xs d P rt pc' (a0 :: a1 :: a2 :: a3 :: a4 :: a5 :: a6 :: a7 :: a8 :: a9 :: a10 :: a11 :: a12 :: .long x :: l) (.long x :: r) M Q) : am_rw sL xs d P rt pc (a0 :: a1 :: a2 :: a3 :: a4 :: a5 :: a6 :: a7 :: a8 :: a9 :: a10 :: a11 :: a12 :: .long x :: l) r M Q := by
  subst e
  exact am_rw_go h (fun v M' K hk => hk) k
theorem am_r_aload13 {a0 a1 a2 a3 a4 a5 a6 a7 a8 a9 a10 a11 a12 : Value} {x : Nat} (h : am_lk P pc = some (.aload 13, len)) (e : pc + len = pc') (k : am_rw sL xs d P rt pc' (a0 :: a1 :: a2 :: a3 :: a4 :: a5 :: a6 :: a7 :: a8 :: a9 :: a10 :: a11 :: a12 :: .ref x :: l) (.ref x :: r) M Q) : am_rw sL xs d P rt pc (a0 :: a1 :: a2 :: a3 :: a4 :: a5 :: a6 :: a7 :: a8 :: a9 :: a10 :: a11 :: a12 :: .ref x :: l) r M Q := by
  subst e
  exact am_rw_go h (fun v M' K hk => hk) k
theorem am_st_ne {i : Nat} {v : Value} (hv : v.category = 1) : ∀ (l : List Value) (j : Nat), i < j → am_st i v j l = l
  | [], _, _ => rfl
  | u :: l, j, h => by
    have ih : am_st i v (j + 1) l = l := am_st_ne hv l (j + 1) (by omega)
    simp only [am_st, ih]
    rw [if_neg (by omega), if_neg (by rw [hv]; omega)]
theorem am_st_ne2 {i : Nat} {v : Value} : ∀ (l : List Value) (j : Nat), i + 1 < j → am_st i v j l = l
  | [], _, _ => rfl
  | u :: l, j, h => by
    have ih : am_st i v (j + 1) l = l := am_st_ne2 l (j + 1) (by omega)
    simp only [am_st, ih]
    rw [if_neg (by omega), if_neg (by omega)]
theorem am_ss_i0 {w : Value} {x : Int32} : am_st 0 (.int x) 0 (w :: l) = .int x :: l := by
  have e := am_st_ne (i := 0) (v := .int x) rfl l 1 (by omega)
  simp only [am_st]
  simp [e, show (Value.int x).category = 1 from rfl]
theorem am_r_istore0 {w : Value} {x : Int32} (h : am_lk P pc = some (.istore 0, len)) (e : pc + len = pc') (k : am_rw sL xs d P rt pc' (.int x :: l) r M Q) : am_rw sL xs d P rt pc (w :: l) (.int x :: r) M Q := by
  subst e
  exact am_rw_go h (fun v M' K hk => ⟨by simp, by rw [am_ss_i0]; exact hk⟩) k
theorem am_ss_a0 {w : Value} {x : Nat} : am_st 0 (.ref x) 0 (w :: l) = .ref x :: l := by
  have e := am_st_ne (i := 0) (v := .ref x) rfl l 1 (by omega)
  simp only [am_st]
  simp [e, show (Value.ref x).category = 1 from rfl]
theorem am_r_astore0 {w : Value} {x : Nat} (h : am_lk P pc = some (.astore 0, len)) (e : pc + len = pc') (k : am_rw sL xs d P rt pc' (.ref x :: l) r M Q) : am_rw sL xs d P rt pc (w :: l) (.ref x :: r) M Q := by
  subst e
  exact am_rw_go h (fun v M' K hk => ⟨by simp, by rw [am_ss_a0]; exact hk⟩) k
theorem am_ss_l0 {w w2 : Value} {x : Int64} : am_st 0 (.long x) 0 (w :: w2 :: l) = .long x :: .null :: l := by
  have e := am_st_ne2 (i := 0) (v := .long x) l 2 (by omega)
  simp only [am_st]
  simp [e, show (Value.long x).category = 2 from rfl]
theorem am_r_lstore0 {w w2 : Value} {x : Int64} (h : am_lk P pc = some (.lstore 0, len)) (e : pc + len = pc') (k : am_rw sL xs d P rt pc' (.long x :: .null :: l) r M Q) : am_rw sL xs d P rt pc (w :: w2 :: l) (.long x :: r) M Q := by
  subst e
  exact am_rw_go h (fun v M' K hk => ⟨by simp, by rw [am_ss_l0]; exact hk⟩) k
theorem am_r_iinc0R {x : Int32} {n : Int} (h : am_lk P pc = some (.iinc 0 n, len)) (e : pc + len = pc') (k : am_rw sL xs d P rt pc' (.int (x + z_I n) :: l) r M Q) : am_rw sL xs d P rt pc (.int x :: l) r M Q := by
  subst e
  exact am_rw_go h (fun v M' K hk => (by have e := am_ss_i0 (w := .int x) (x := x + z_I n) (l := l); exact (show K _ (am_st 0 (.int (x + z_I n)) 0 (.int x :: l)) r M by rw [e]; exact hk))) k
theorem am_r_iinc0 {a n : Int} (h : am_lk P pc = some (.iinc 0 n, len)) (e : pc + len = pc') (k : am_rw sL xs d P rt pc' (.int (z_I (a + n)) :: l) r M Q) : am_rw sL xs d P rt pc (.int (z_I a) :: l) r M Q := by
  subst e
  exact am_rw_go h (fun v M' K hk => (by have e := am_ss_i0 (w := .int (z_I a)) (x := z_I a + z_I n) (l := l); rw [z_add] at e; exact (show K _ (am_st 0 (.int (z_I a + z_I n)) 0 (.int (z_I a) :: l)) r M by rw [z_add, e]; exact hk))) k
theorem am_ss_i1 {a0 : Value} {w : Value} {x : Int32} (hc : a0.category = 1) : am_st 1 (.int x) 0 (a0 :: w :: l) = a0 :: .int x :: l := by
  have e := am_st_ne (i := 1) (v := .int x) rfl l 2 (by omega)
  simp only [am_st]
  simp [hc, e, show (Value.int x).category = 1 from rfl]
theorem am_r_istore1 {a0 : Value} {w : Value} {x : Int32} (h : am_lk P pc = some (.istore 1, len)) (e : pc + len = pc') (hc : a0.category = 1) (k : am_rw sL xs d P rt pc' (a0 :: .int x :: l) r M Q) : am_rw sL xs d P rt pc (a0 :: w :: l) (.int x :: r) M Q := by
  subst e
  exact am_rw_go h (fun v M' K hk => ⟨by simp, by rw [am_ss_i1 hc]; exact hk⟩) k
theorem am_ss_a1 {a0 : Value} {w : Value} {x : Nat} (hc : a0.category = 1) : am_st 1 (.ref x) 0 (a0 :: w :: l) = a0 :: .ref x :: l := by
  have e := am_st_ne (i := 1) (v := .ref x) rfl l 2 (by omega)
  simp only [am_st]
  simp [hc, e, show (Value.ref x).category = 1 from rfl]
theorem am_r_astore1 {a0 : Value} {w : Value} {x : Nat} (h : am_lk P pc = some (.astore 1, len)) (e : pc + len = pc') (hc : a0.category = 1) (k : am_rw sL xs d P rt pc' (a0 :: .ref x :: l) r M Q) : am_rw sL xs d P rt pc (a0 :: w :: l) (.ref x :: r) M Q := by
  subst e
  exact am_rw_go h (fun v M' K hk => ⟨by simp, by rw [am_ss_a1 hc]; exact hk⟩) k
theorem am_ss_l1 {a0 : Value} {w w2 : Value} {x : Int64} (hc : a0.category = 1) : am_st 1 (.long x) 0 (a0 :: w :: w2 :: l) = a0 :: .long x :: .null :: l := by
  have e := am_st_ne2 (i := 1) (v := .long x) l 3 (by omega)
  simp only [am_st]
  simp [hc, e, show (Value.long x).category = 2 from rfl]
theorem am_r_lstore1 {a0 : Value} {w w2 : Value} {x : Int64} (h : am_lk P pc = some (.lstore 1, len)) (e : pc + len = pc') (hc : a0.category = 1) (k : am_rw sL xs d P rt pc' (a0 :: .long x :: .null :: l) r M Q) : am_rw sL xs d P rt pc (a0 :: w :: w2 :: l) (.long x :: r) M Q := by
  subst e
  exact am_rw_go h (fun v M' K hk => ⟨by simp, by rw [am_ss_l1 hc]; exact hk⟩) k
theorem am_r_iinc1R {a0 : Value} {x : Int32} {n : Int} (h : am_lk P pc = some (.iinc 1 n, len)) (e : pc + len = pc') (hc : a0.category = 1) (k : am_rw sL xs d P rt pc' (a0 :: .int (x + z_I n) :: l) r M Q) : am_rw sL xs d P rt pc (a0 :: .int x :: l) r M Q := by
  subst e
  exact am_rw_go h (fun v M' K hk => (by have e := am_ss_i1 (a0 := a0) (w := .int x) (x := x + z_I n) (l := l) hc; exact (show K _ (am_st 1 (.int (x + z_I n)) 0 (a0 :: .int x :: l)) r M by rw [e]; exact hk))) k
theorem am_r_iinc1 {a0 : Value} {a n : Int} (h : am_lk P pc = some (.iinc 1 n, len)) (e : pc + len = pc') (hc : a0.category = 1) (k : am_rw sL xs d P rt pc' (a0 :: .int (z_I (a + n)) :: l) r M Q) : am_rw sL xs d P rt pc (a0 :: .int (z_I a) :: l) r M Q := by
  subst e
  exact am_rw_go h (fun v M' K hk => (by have e := am_ss_i1 (a0 := a0) (w := .int (z_I a)) (x := z_I a + z_I n) (l := l) hc; rw [z_add] at e; exact (show K _ (am_st 1 (.int (z_I a + z_I n)) 0 (a0 :: .int (z_I a) :: l)) r M by rw [z_add, e]; exact hk))) k
theorem am_ss_i2 {a0 a1 : Value} {w : Value} {x : Int32} (hc : a1.category = 1) : am_st 2 (.int x) 0 (a0 :: a1 :: w :: l) = a0 :: a1 :: .int x :: l := by
  have e := am_st_ne (i := 2) (v := .int x) rfl l 3 (by omega)
  simp only [am_st]
  simp [hc, e, show (Value.int x).category = 1 from rfl]
theorem am_r_istore2 {a0 a1 : Value} {w : Value} {x : Int32} (h : am_lk P pc = some (.istore 2, len)) (e : pc + len = pc') (hc : a1.category = 1) (k : am_rw sL xs d P rt pc' (a0 :: a1 :: .int x :: l) r M Q) : am_rw sL xs d P rt pc (a0 :: a1 :: w :: l) (.int x :: r) M Q := by
  subst e
  exact am_rw_go h (fun v M' K hk => ⟨by simp, by rw [am_ss_i2 hc]; exact hk⟩) k
theorem am_ss_a2 {a0 a1 : Value} {w : Value} {x : Nat} (hc : a1.category = 1) : am_st 2 (.ref x) 0 (a0 :: a1 :: w :: l) = a0 :: a1 :: .ref x :: l := by
  have e := am_st_ne (i := 2) (v := .ref x) rfl l 3 (by omega)
  simp only [am_st]
  simp [hc, e, show (Value.ref x).category = 1 from rfl]
theorem am_r_astore2 {a0 a1 : Value} {w : Value} {x : Nat} (h : am_lk P pc = some (.astore 2, len)) (e : pc + len = pc') (hc : a1.category = 1) (k : am_rw sL xs d P rt pc' (a0 :: a1 :: .ref x :: l) r M Q) : am_rw sL xs d P rt pc (a0 :: a1 :: w :: l) (.ref x :: r) M Q := by
  subst e
  exact am_rw_go h (fun v M' K hk => ⟨by simp, by rw [am_ss_a2 hc]; exact hk⟩) k
theorem am_ss_l2 {a0 a1 : Value} {w w2 : Value} {x : Int64} (hc : a1.category = 1) : am_st 2 (.long x) 0 (a0 :: a1 :: w :: w2 :: l) = a0 :: a1 :: .long x :: .null :: l := by
  have e := am_st_ne2 (i := 2) (v := .long x) l 4 (by omega)
  simp only [am_st]
  simp [hc, e, show (Value.long x).category = 2 from rfl]
theorem am_r_lstore2 {a0 a1 : Value} {w w2 : Value} {x : Int64} (h : am_lk P pc = some (.lstore 2, len)) (e : pc + len = pc') (hc : a1.category = 1) (k : am_rw sL xs d P rt pc' (a0 :: a1 :: .long x :: .null :: l) r M Q) : am_rw sL xs d P rt pc (a0 :: a1 :: w :: w2 :: l) (.long x :: r) M Q := by
  subst e
  exact am_rw_go h (fun v M' K hk => ⟨by simp, by rw [am_ss_l2 hc]; exact hk⟩) k
theorem am_r_iinc2R {a0 a1 : Value} {x : Int32} {n : Int} (h : am_lk P pc = some (.iinc 2 n, len)) (e : pc + len = pc') (hc : a1.category = 1) (k : am_rw sL xs d P rt pc' (a0 :: a1 :: .int (x + z_I n) :: l) r M Q) : am_rw sL xs d P rt pc (a0 :: a1 :: .int x :: l) r M Q := by
  subst e
  exact am_rw_go h (fun v M' K hk => (by have e := am_ss_i2 (a0 := a0) (a1 := a1) (w := .int x) (x := x + z_I n) (l := l) hc; exact (show K _ (am_st 2 (.int (x + z_I n)) 0 (a0 :: a1 :: .int x :: l)) r M by rw [e]; exact hk))) k
theorem am_r_iinc2 {a0 a1 : Value} {a n : Int} (h : am_lk P pc = some (.iinc 2 n, len)) (e : pc + len = pc') (hc : a1.category = 1) (k : am_rw sL xs d P rt pc' (a0 :: a1 :: .int (z_I (a + n)) :: l) r M Q) : am_rw sL xs d P rt pc (a0 :: a1 :: .int (z_I a) :: l) r M Q := by
  subst e
  exact am_rw_go h (fun v M' K hk => (by have e := am_ss_i2 (a0 := a0) (a1 := a1) (w := .int (z_I a)) (x := z_I a + z_I n) (l := l) hc; rw [z_add] at e; exact (show K _ (am_st 2 (.int (z_I a + z_I n)) 0 (a0 :: a1 :: .int (z_I a) :: l)) r M by rw [z_add, e]; exact hk))) k
theorem am_ss_i3 {a0 a1 a2 : Value} {w : Value} {x : Int32} (hc : a2.category = 1) : am_st 3 (.int x) 0 (a0 :: a1 :: a2 :: w :: l) = a0 :: a1 :: a2 :: .int x :: l := by
  have e := am_st_ne (i := 3) (v := .int x) rfl l 4 (by omega)
  simp only [am_st]
  simp [hc, e, show (Value.int x).category = 1 from rfl]
theorem am_r_istore3 {a0 a1 a2 : Value} {w : Value} {x : Int32} (h : am_lk P pc = some (.istore 3, len)) (e : pc + len = pc') (hc : a2.category = 1) (k : am_rw sL xs d P rt pc' (a0 :: a1 :: a2 :: .int x :: l) r M Q) : am_rw sL xs d P rt pc (a0 :: a1 :: a2 :: w :: l) (.int x :: r) M Q := by
  subst e
  exact am_rw_go h (fun v M' K hk => ⟨by simp, by rw [am_ss_i3 hc]; exact hk⟩) k
theorem am_ss_a3 {a0 a1 a2 : Value} {w : Value} {x : Nat} (hc : a2.category = 1) : am_st 3 (.ref x) 0 (a0 :: a1 :: a2 :: w :: l) = a0 :: a1 :: a2 :: .ref x :: l := by
  have e := am_st_ne (i := 3) (v := .ref x) rfl l 4 (by omega)
  simp only [am_st]
  simp [hc, e, show (Value.ref x).category = 1 from rfl]
theorem am_r_astore3 {a0 a1 a2 : Value} {w : Value} {x : Nat} (h : am_lk P pc = some (.astore 3, len)) (e : pc + len = pc') (hc : a2.category = 1) (k : am_rw sL xs d P rt pc' (a0 :: a1 :: a2 :: .ref x :: l) r M Q) : am_rw sL xs d P rt pc (a0 :: a1 :: a2 :: w :: l) (.ref x :: r) M Q := by
  subst e
  exact am_rw_go h (fun v M' K hk => ⟨by simp, by rw [am_ss_a3 hc]; exact hk⟩) k
theorem am_ss_l3 {a0 a1 a2 : Value} {w w2 : Value} {x : Int64} (hc : a2.category = 1) : am_st 3 (.long x) 0 (a0 :: a1 :: a2 :: w :: w2 :: l) = a0 :: a1 :: a2 :: .long x :: .null :: l := by
  have e := am_st_ne2 (i := 3) (v := .long x) l 5 (by omega)
  simp only [am_st]
  simp [hc, e, show (Value.long x).category = 2 from rfl]
theorem am_r_lstore3 {a0 a1 a2 : Value} {w w2 : Value} {x : Int64} (h : am_lk P pc = some (.lstore 3, len)) (e : pc + len = pc') (hc : a2.category = 1) (k : am_rw sL xs d P rt pc' (a0 :: a1 :: a2 :: .long x :: .null :: l) r M Q) : am_rw sL xs d P rt pc (a0 :: a1 :: a2 :: w :: w2 :: l) (.long x :: r) M Q := by
  subst e
  exact am_rw_go h (fun v M' K hk => ⟨by simp, by rw [am_ss_l3 hc]; exact hk⟩) k
theorem am_r_iinc3R {a0 a1 a2 : Value} {x : Int32} {n : Int} (h : am_lk P pc = some (.iinc 3 n, len)) (e : pc + len = pc') (hc : a2.category = 1) (k : am_rw sL xs d P rt pc' (a0 :: a1 :: a2 :: .int (x + z_I n) :: l) r M Q) : am_rw sL xs d P rt pc (a0 :: a1 :: a2 :: .int x :: l) r M Q := by
  subst e
  exact am_rw_go h (fun v M' K hk => (by have e := am_ss_i3 (a0 := a0) (a1 := a1) (a2 := a2) (w := .int x) (x := x + z_I n) (l := l) hc; exact (show K _ (am_st 3 (.int (x + z_I n)) 0 (a0 :: a1 :: a2 :: .int x :: l)) r M by rw [e]; exact hk))) k
theorem am_r_iinc3 {a0 a1 a2 : Value} {a n : Int} (h : am_lk P pc = some (.iinc 3 n, len)) (e : pc + len = pc') (hc : a2.category = 1) (k : am_rw sL xs d P rt pc' (a0 :: a1 :: a2 :: .int (z_I (a + n)) :: l) r M Q) : am_rw sL xs d P rt pc (a0 :: a1 :: a2 :: .int (z_I a) :: l) r M Q := by
  subst e
  exact am_rw_go h (fun v M' K hk => (by have e := am_ss_i3 (a0 := a0) (a1 := a1) (a2 := a2) (w := .int (z_I a)) (x := z_I a + z_I n) (l := l) hc; rw [z_add] at e; exact (show K _ (am_st 3 (.int (z_I a + z_I n)) 0 (a0 :: a1 :: a2 :: .int (z_I a) :: l)) r M by rw [z_add, e]; exact hk))) k
theorem am_ss_i4 {a0 a1 a2 a3 : Value} {w : Value} {x : Int32} (hc : a3.category = 1) : am_st 4 (.int x) 0 (a0 :: a1 :: a2 :: a3 :: w :: l) = a0 :: a1 :: a2 :: a3 :: .int x :: l := by
  have e := am_st_ne (i := 4) (v := .int x) rfl l 5 (by omega)
  simp only [am_st]
  simp [hc, e, show (Value.int x).category = 1 from rfl]
theorem am_r_istore4 {a0 a1 a2 a3 : Value} {w : Value} {x : Int32} (h : am_lk P pc = some (.istore 4, len)) (e : pc + len = pc') (hc : a3.category = 1) (k : am_rw sL xs d P rt pc' (a0 :: a1 :: a2 :: a3 :: .int x :: l) r M Q) : am_rw sL xs d P rt pc (a0 :: a1 :: a2 :: a3 :: w :: l) (.int x :: r) M Q := by
  subst e
  exact am_rw_go h (fun v M' K hk => ⟨by simp, by rw [am_ss_i4 hc]; exact hk⟩) k
theorem am_ss_a4 {a0 a1 a2 a3 : Value} {w : Value} {x : Nat} (hc : a3.category = 1) : am_st 4 (.ref x) 0 (a0 :: a1 :: a2 :: a3 :: w :: l) = a0 :: a1 :: a2 :: a3 :: .ref x :: l := by
  have e := am_st_ne (i := 4) (v := .ref x) rfl l 5 (by omega)
  simp only [am_st]
  simp [hc, e, show (Value.ref x).category = 1 from rfl]
theorem am_r_astore4 {a0 a1 a2 a3 : Value} {w : Value} {x : Nat} (h : am_lk P pc = some (.astore 4, len)) (e : pc + len = pc') (hc : a3.category = 1) (k : am_rw sL xs d P rt pc' (a0 :: a1 :: a2 :: a3 :: .ref x :: l) r M Q) : am_rw sL xs d P rt pc (a0 :: a1 :: a2 :: a3 :: w :: l) (.ref x :: r) M Q := by
  subst e
  exact am_rw_go h (fun v M' K hk => ⟨by simp, by rw [am_ss_a4 hc]; exact hk⟩) k
theorem am_ss_l4 {a0 a1 a2 a3 : Value} {w w2 : Value} {x : Int64} (hc : a3.category = 1) : am_st 4 (.long x) 0 (a0 :: a1 :: a2 :: a3 :: w :: w2 :: l) = a0 :: a1 :: a2 :: a3 :: .long x :: .null :: l := by
  have e := am_st_ne2 (i := 4) (v := .long x) l 6 (by omega)
  simp only [am_st]
  simp [hc, e, show (Value.long x).category = 2 from rfl]
theorem am_r_lstore4 {a0 a1 a2 a3 : Value} {w w2 : Value} {x : Int64} (h : am_lk P pc = some (.lstore 4, len)) (e : pc + len = pc') (hc : a3.category = 1) (k : am_rw sL xs d P rt pc' (a0 :: a1 :: a2 :: a3 :: .long x :: .null :: l) r M Q) : am_rw sL xs d P rt pc (a0 :: a1 :: a2 :: a3 :: w :: w2 :: l) (.long x :: r) M Q := by
  subst e
  exact am_rw_go h (fun v M' K hk => ⟨by simp, by rw [am_ss_l4 hc]; exact hk⟩) k
theorem am_r_iinc4R {a0 a1 a2 a3 : Value} {x : Int32} {n : Int} (h : am_lk P pc = some (.iinc 4 n, len)) (e : pc + len = pc') (hc : a3.category = 1) (k : am_rw sL xs d P rt pc' (a0 :: a1 :: a2 :: a3 :: .int (x + z_I n) :: l) r M Q) : am_rw sL xs d P rt pc (a0 :: a1 :: a2 :: a3 :: .int x :: l) r M Q := by
  subst e
  exact am_rw_go h (fun v M' K hk => (by have e := am_ss_i4 (a0 := a0) (a1 := a1) (a2 := a2) (a3 := a3) (w := .int x) (x := x + z_I n) (l := l) hc; exact (show K _ (am_st 4 (.int (x + z_I n)) 0 (a0 :: a1 :: a2 :: a3 :: .int x :: l)) r M by rw [e]; exact hk))) k
theorem am_r_iinc4 {a0 a1 a2 a3 : Value} {a n : Int} (h : am_lk P pc = some (.iinc 4 n, len)) (e : pc + len = pc') (hc : a3.category = 1) (k : am_rw sL xs d P rt pc' (a0 :: a1 :: a2 :: a3 :: .int (z_I (a + n)) :: l) r M Q) : am_rw sL xs d P rt pc (a0 :: a1 :: a2 :: a3 :: .int (z_I a) :: l) r M Q := by
  subst e
  exact am_rw_go h (fun v M' K hk => (by have e := am_ss_i4 (a0 := a0) (a1 := a1) (a2 := a2) (a3 := a3) (w := .int (z_I a)) (x := z_I a + z_I n) (l := l) hc; rw [z_add] at e; exact (show K _ (am_st 4 (.int (z_I a + z_I n)) 0 (a0 :: a1 :: a2 :: a3 :: .int (z_I a) :: l)) r M by rw [z_add, e]; exact hk))) k
theorem am_ss_i5 {a0 a1 a2 a3 a4 : Value} {w : Value} {x : Int32} (hc : a4.category = 1) : am_st 5 (.int x) 0 (a0 :: a1 :: a2 :: a3 :: a4 :: w :: l) = a0 :: a1 :: a2 :: a3 :: a4 :: .int x :: l := by
  have e := am_st_ne (i := 5) (v := .int x) rfl l 6 (by omega)
  simp only [am_st]
  simp [hc, e, show (Value.int x).category = 1 from rfl]
theorem am_r_istore5 {a0 a1 a2 a3 a4 : Value} {w : Value} {x : Int32} (h : am_lk P pc = some (.istore 5, len)) (e : pc + len = pc') (hc : a4.category = 1) (k : am_rw sL xs d P rt pc' (a0 :: a1 :: a2 :: a3 :: a4 :: .int x :: l) r M Q) : am_rw sL xs d P rt pc (a0 :: a1 :: a2 :: a3 :: a4 :: w :: l) (.int x :: r) M Q := by
  subst e
  exact am_rw_go h (fun v M' K hk => ⟨by simp, by rw [am_ss_i5 hc]; exact hk⟩) k
theorem am_ss_a5 {a0 a1 a2 a3 a4 : Value} {w : Value} {x : Nat} (hc : a4.category = 1) : am_st 5 (.ref x) 0 (a0 :: a1 :: a2 :: a3 :: a4 :: w :: l) = a0 :: a1 :: a2 :: a3 :: a4 :: .ref x :: l := by
  have e := am_st_ne (i := 5) (v := .ref x) rfl l 6 (by omega)
  simp only [am_st]
  simp [hc, e, show (Value.ref x).category = 1 from rfl]
theorem am_r_astore5 {a0 a1 a2 a3 a4 : Value} {w : Value} {x : Nat} (h : am_lk P pc = some (.astore 5, len)) (e : pc + len = pc') (hc : a4.category = 1) (k : am_rw sL xs d P rt pc' (a0 :: a1 :: a2 :: a3 :: a4 :: .ref x :: l) r M Q) : am_rw sL xs d P rt pc (a0 :: a1 :: a2 :: a3 :: a4 :: w :: l) (.ref x :: r) M Q := by
  subst e
  exact am_rw_go h (fun v M' K hk => ⟨by simp, by rw [am_ss_a5 hc]; exact hk⟩) k
theorem am_ss_l5 {a0 a1 a2 a3 a4 : Value} {w w2 : Value} {x : Int64} (hc : a4.category = 1) : am_st 5 (.long x) 0 (a0 :: a1 :: a2 :: a3 :: a4 :: w :: w2 :: l) = a0 :: a1 :: a2 :: a3 :: a4 :: .long x :: .null :: l := by
  have e := am_st_ne2 (i := 5) (v := .long x) l 7 (by omega)
  simp only [am_st]
  simp [hc, e, show (Value.long x).category = 2 from rfl]
theorem am_r_lstore5 {a0 a1 a2 a3 a4 : Value} {w w2 : Value} {x : Int64} (h : am_lk P pc = some (.lstore 5, len)) (e : pc + len = pc') (hc : a4.category = 1) (k : am_rw sL xs d P rt pc' (a0 :: a1 :: a2 :: a3 :: a4 :: .long x :: .null :: l) r M Q) : am_rw sL xs d P rt pc (a0 :: a1 :: a2 :: a3 :: a4 :: w :: w2 :: l) (.long x :: r) M Q := by
  subst e
  exact am_rw_go h (fun v M' K hk => ⟨by simp, by rw [am_ss_l5 hc]; exact hk⟩) k
theorem am_r_iinc5R {a0 a1 a2 a3 a4 : Value} {x : Int32} {n : Int} (h : am_lk P pc = some (.iinc 5 n, len)) (e : pc + len = pc') (hc : a4.category = 1) (k : am_rw sL xs d P rt pc' (a0 :: a1 :: a2 :: a3 :: a4 :: .int (x + z_I n) :: l) r M Q) : am_rw sL xs d P rt pc (a0 :: a1 :: a2 :: a3 :: a4 :: .int x :: l) r M Q := by
  subst e
  exact am_rw_go h (fun v M' K hk => (by have e := am_ss_i5 (a0 := a0) (a1 := a1) (a2 := a2) (a3 := a3) (a4 := a4) (w := .int x) (x := x + z_I n) (l := l) hc; exact (show K _ (am_st 5 (.int (x + z_I n)) 0 (a0 :: a1 :: a2 :: a3 :: a4 :: .int x :: l)) r M by rw [e]; exact hk))) k
theorem am_r_iinc5 {a0 a1 a2 a3 a4 : Value} {a n : Int} (h : am_lk P pc = some (.iinc 5 n, len)) (e : pc + len = pc') (hc : a4.category = 1) (k : am_rw sL xs d P rt pc' (a0 :: a1 :: a2 :: a3 :: a4 :: .int (z_I (a + n)) :: l) r M Q) : am_rw sL xs d P rt pc (a0 :: a1 :: a2 :: a3 :: a4 :: .int (z_I a) :: l) r M Q := by
  subst e
  exact am_rw_go h (fun v M' K hk => (by have e := am_ss_i5 (a0 := a0) (a1 := a1) (a2 := a2) (a3 := a3) (a4 := a4) (w := .int (z_I a)) (x := z_I a + z_I n) (l := l) hc; rw [z_add] at e; exact (show K _ (am_st 5 (.int (z_I a + z_I n)) 0 (a0 :: a1 :: a2 :: a3 :: a4 :: .int (z_I a) :: l)) r M by rw [z_add, e]; exact hk))) k
theorem am_ss_i6 {a0 a1 a2 a3 a4 a5 : Value} {w : Value} {x : Int32} (hc : a5.category = 1) : am_st 6 (.int x) 0 (a0 :: a1 :: a2 :: a3 :: a4 :: a5 :: w :: l) = a0 :: a1 :: a2 :: a3 :: a4 :: a5 :: .int x :: l := by
  have e := am_st_ne (i := 6) (v := .int x) rfl l 7 (by omega)
  simp only [am_st]
  simp [hc, e, show (Value.int x).category = 1 from rfl]
theorem am_r_istore6 {a0 a1 a2 a3 a4 a5 : Value} {w : Value} {x : Int32} (h : am_lk P pc = some (.istore 6, len)) (e : pc + len = pc') (hc : a5.category = 1) (k : am_rw sL xs d P rt pc' (a0 :: a1 :: a2 :: a3 :: a4 :: a5 :: .int x :: l) r M Q) : am_rw sL xs d P rt pc (a0 :: a1 :: a2 :: a3 :: a4 :: a5 :: w :: l) (.int x :: r) M Q := by
  subst e
  exact am_rw_go h (fun v M' K hk => ⟨by simp, by rw [am_ss_i6 hc]; exact hk⟩) k
theorem am_ss_a6 {a0 a1 a2 a3 a4 a5 : Value} {w : Value} {x : Nat} (hc : a5.category = 1) : am_st 6 (.ref x) 0 (a0 :: a1 :: a2 :: a3 :: a4 :: a5 :: w :: l) = a0 :: a1 :: a2 :: a3 :: a4 :: a5 :: .ref x :: l := by
  have e := am_st_ne (i := 6) (v := .ref x) rfl l 7 (by omega)
  simp only [am_st]
  simp [hc, e, show (Value.ref x).category = 1 from rfl]
theorem am_r_astore6 {a0 a1 a2 a3 a4 a5 : Value} {w : Value} {x : Nat} (h : am_lk P pc = some (.astore 6, len)) (e : pc + len = pc') (hc : a5.category = 1) (k : am_rw sL xs d P rt pc' (a0 :: a1 :: a2 :: a3 :: a4 :: a5 :: .ref x :: l) r M Q) : am_rw sL xs d P rt pc (a0 :: a1 :: a2 :: a3 :: a4 :: a5 :: w :: l) (.ref x :: r) M Q := by
  subst e
  exact am_rw_go h (fun v M' K hk => ⟨by simp, by rw [am_ss_a6 hc]; exact hk⟩) k
theorem am_ss_l6 {a0 a1 a2 a3 a4 a5 : Value} {w w2 : Value} {x : Int64} (hc : a5.category = 1) : am_st 6 (.long x) 0 (a0 :: a1 :: a2 :: a3 :: a4 :: a5 :: w :: w2 :: l) = a0 :: a1 :: a2 :: a3 :: a4 :: a5 :: .long x :: .null :: l := by
  have e := am_st_ne2 (i := 6) (v := .long x) l 8 (by omega)
  simp only [am_st]
  simp [hc, e, show (Value.long x).category = 2 from rfl]
theorem am_r_lstore6 {a0 a1 a2 a3 a4 a5 : Value} {w w2 : Value} {x : Int64} (h : am_lk P pc = some (.lstore 6, len)) (e : pc + len = pc') (hc : a5.category = 1) (k : am_rw sL xs d P rt pc' (a0 :: a1 :: a2 :: a3 :: a4 :: a5 :: .long x :: .null :: l) r M Q) : am_rw sL xs d P rt pc (a0 :: a1 :: a2 :: a3 :: a4 :: a5 :: w :: w2 :: l) (.long x :: r) M Q := by
  subst e
  exact am_rw_go h (fun v M' K hk => ⟨by simp, by rw [am_ss_l6 hc]; exact hk⟩) k
theorem am_r_iinc6R {a0 a1 a2 a3 a4 a5 : Value} {x : Int32} {n : Int} (h : am_lk P pc = some (.iinc 6 n, len)) (e : pc + len = pc') (hc : a5.category = 1) (k : am_rw sL xs d P rt pc' (a0 :: a1 :: a2 :: a3 :: a4 :: a5 :: .int (x + z_I n) :: l) r M Q) : am_rw sL xs d P rt pc (a0 :: a1 :: a2 :: a3 :: a4 :: a5 :: .int x :: l) r M Q := by
  subst e
  exact am_rw_go h (fun v M' K hk => (by have e := am_ss_i6 (a0 := a0) (a1 := a1) (a2 := a2) (a3 := a3) (a4 := a4) (a5 := a5) (w := .int x) (x := x + z_I n) (l := l) hc; exact (show K _ (am_st 6 (.int (x + z_I n)) 0 (a0 :: a1 :: a2 :: a3 :: a4 :: a5 :: .int x :: l)) r M by rw [e]; exact hk))) k
theorem am_r_iinc6 {a0 a1 a2 a3 a4 a5 : Value} {a n : Int} (h : am_lk P pc = some (.iinc 6 n, len)) (e : pc + len = pc') (hc : a5.category = 1) (k : am_rw sL xs d P rt pc' (a0 :: a1 :: a2 :: a3 :: a4 :: a5 :: .int (z_I (a + n)) :: l) r M Q) : am_rw sL xs d P rt pc (a0 :: a1 :: a2 :: a3 :: a4 :: a5 :: .int (z_I a) :: l) r M Q := by
  subst e
  exact am_rw_go h (fun v M' K hk => (by have e := am_ss_i6 (a0 := a0) (a1 := a1) (a2 := a2) (a3 := a3) (a4 := a4) (a5 := a5) (w := .int (z_I a)) (x := z_I a + z_I n) (l := l) hc; rw [z_add] at e; exact (show K _ (am_st 6 (.int (z_I a + z_I n)) 0 (a0 :: a1 :: a2 :: a3 :: a4 :: a5 :: .int (z_I a) :: l)) r M by rw [z_add, e]; exact hk))) k
theorem am_ss_i7 {a0 a1 a2 a3 a4 a5 a6 : Value} {w : Value} {x : Int32} (hc : a6.category = 1) : am_st 7 (.int x) 0 (a0 :: a1 :: a2 :: a3 :: a4 :: a5 :: a6 :: w :: l) = a0 :: a1 :: a2 :: a3 :: a4 :: a5 :: a6 :: .int x :: l := by
  have e := am_st_ne (i := 7) (v := .int x) rfl l 8 (by omega)
  simp only [am_st]
  simp [hc, e, show (Value.int x).category = 1 from rfl]
theorem am_r_istore7 {a0 a1 a2 a3 a4 a5 a6 : Value} {w : Value} {x : Int32} (h : am_lk P pc = some (.istore 7, len)) (e : pc + len = pc') (hc : a6.category = 1) (k : am_rw sL xs d P rt pc' (a0 :: a1 :: a2 :: a3 :: a4 :: a5 :: a6 :: .int x :: l) r M Q) : am_rw sL xs d P rt pc (a0 :: a1 :: a2 :: a3 :: a4 :: a5 :: a6 :: w :: l) (.int x :: r) M Q := by
  subst e
  exact am_rw_go h (fun v M' K hk => ⟨by simp, by rw [am_ss_i7 hc]; exact hk⟩) k
theorem am_ss_a7 {a0 a1 a2 a3 a4 a5 a6 : Value} {w : Value} {x : Nat} (hc : a6.category = 1) : am_st 7 (.ref x) 0 (a0 :: a1 :: a2 :: a3 :: a4 :: a5 :: a6 :: w :: l) = a0 :: a1 :: a2 :: a3 :: a4 :: a5 :: a6 :: .ref x :: l := by
  have e := am_st_ne (i := 7) (v := .ref x) rfl l 8 (by omega)
  simp only [am_st]
  simp [hc, e, show (Value.ref x).category = 1 from rfl]
theorem am_r_astore7 {a0 a1 a2 a3 a4 a5 a6 : Value} {w : Value} {x : Nat} (h : am_lk P pc = some (.astore 7, len)) (e : pc + len = pc') (hc : a6.category = 1) (k : am_rw sL xs d P rt pc' (a0 :: a1 :: a2 :: a3 :: a4 :: a5 :: a6 :: .ref x :: l) r M Q) : am_rw sL xs d P rt pc (a0 :: a1 :: a2 :: a3 :: a4 :: a5 :: a6 :: w :: l) (.ref x :: r) M Q := by
  subst e
  exact am_rw_go h (fun v M' K hk => ⟨by simp, by rw [am_ss_a7 hc]; exact hk⟩) k
theorem am_ss_l7 {a0 a1 a2 a3 a4 a5 a6 : Value} {w w2 : Value} {x : Int64} (hc : a6.category = 1) : am_st 7 (.long x) 0 (a0 :: a1 :: a2 :: a3 :: a4 :: a5 :: a6 :: w :: w2 :: l) = a0 :: a1 :: a2 :: a3 :: a4 :: a5 :: a6 :: .long x :: .null :: l := by
  have e := am_st_ne2 (i := 7) (v := .long x) l 9 (by omega)
  simp only [am_st]
  simp [hc, e, show (Value.long x).category = 2 from rfl]
theorem am_r_lstore7 {a0 a1 a2 a3 a4 a5 a6 : Value} {w w2 : Value} {x : Int64} (h : am_lk P pc = some (.lstore 7, len)) (e : pc + len = pc') (hc : a6.category = 1) (k : am_rw sL xs d P rt pc' (a0 :: a1 :: a2 :: a3 :: a4 :: a5 :: a6 :: .long x :: .null :: l) r M Q) : am_rw sL xs d P rt pc (a0 :: a1 :: a2 :: a3 :: a4 :: a5 :: a6 :: w :: w2 :: l) (.long x :: r) M Q := by
  subst e
  exact am_rw_go h (fun v M' K hk => ⟨by simp, by rw [am_ss_l7 hc]; exact hk⟩) k
theorem am_r_iinc7R {a0 a1 a2 a3 a4 a5 a6 : Value} {x : Int32} {n : Int} (h : am_lk P pc = some (.iinc 7 n, len)) (e : pc + len = pc') (hc : a6.category = 1) (k : am_rw sL xs d P rt pc' (a0 :: a1 :: a2 :: a3 :: a4 :: a5 :: a6 :: .int (x + z_I n) :: l) r M Q) : am_rw sL xs d P rt pc (a0 :: a1 :: a2 :: a3 :: a4 :: a5 :: a6 :: .int x :: l) r M Q := by
  subst e
  exact am_rw_go h (fun v M' K hk => (by have e := am_ss_i7 (a0 := a0) (a1 := a1) (a2 := a2) (a3 := a3) (a4 := a4) (a5 := a5) (a6 := a6) (w := .int x) (x := x + z_I n) (l := l) hc; exact (show K _ (am_st 7 (.int (x + z_I n)) 0 (a0 :: a1 :: a2 :: a3 :: a4 :: a5 :: a6 :: .int x :: l)) r M by rw [e]; exact hk))) k
theorem am_r_iinc7 {a0 a1 a2 a3 a4 a5 a6 : Value} {a n : Int} (h : am_lk P pc = some (.iinc 7 n, len)) (e : pc + len = pc') (hc : a6.category = 1) (k : am_rw sL xs d P rt pc' (a0 :: a1 :: a2 :: a3 :: a4 :: a5 :: a6 :: .int (z_I (a + n)) :: l) r M Q) : am_rw sL xs d P rt pc (a0 :: a1 :: a2 :: a3 :: a4 :: a5 :: a6 :: .int (z_I a) :: l) r M Q := by
  subst e
  exact am_rw_go h (fun v M' K hk => (by have e := am_ss_i7 (a0 := a0) (a1 := a1) (a2 := a2) (a3 := a3) (a4 := a4) (a5 := a5) (a6 := a6) (w := .int (z_I a)) (x := z_I a + z_I n) (l := l) hc; rw [z_add] at e; exact (show K _ (am_st 7 (.int (z_I a + z_I n)) 0 (a0 :: a1 :: a2 :: a3 :: a4 :: a5 :: a6 :: .int (z_I a) :: l)) r M by rw [z_add, e]; exact hk))) k
theorem am_ss_i8 {a0 a1 a2 a3 a4 a5 a6 a7 : Value} {w : Value} {x : Int32} (hc : a7.category = 1) : am_st 8 (.int x) 0 (a0 :: a1 :: a2 :: a3 :: a4 :: a5 :: a6 :: a7 :: w :: l) = a0 :: a1 :: a2 :: a3 :: a4 :: a5 :: a6 :: a7 :: .int x :: l := by
  have e := am_st_ne (i := 8) (v := .int x) rfl l 9 (by omega)
  simp only [am_st]
  simp [hc, e, show (Value.int x).category = 1 from rfl]
theorem am_r_istore8 {a0 a1 a2 a3 a4 a5 a6 a7 : Value} {w : Value} {x : Int32} (h : am_lk P pc = some (.istore 8, len)) (e : pc + len = pc') (hc : a7.category = 1) (k : am_rw sL xs d P rt pc' (a0 :: a1 :: a2 :: a3 :: a4 :: a5 :: a6 :: a7 :: .int x :: l) r M Q) : am_rw sL xs d P rt pc (a0 :: a1 :: a2 :: a3 :: a4 :: a5 :: a6 :: a7 :: w :: l) (.int x :: r) M Q := by
  subst e
  exact am_rw_go h (fun v M' K hk => ⟨by simp, by rw [am_ss_i8 hc]; exact hk⟩) k
theorem am_ss_a8 {a0 a1 a2 a3 a4 a5 a6 a7 : Value} {w : Value} {x : Nat} (hc : a7.category = 1) : am_st 8 (.ref x) 0 (a0 :: a1 :: a2 :: a3 :: a4 :: a5 :: a6 :: a7 :: w :: l) = a0 :: a1 :: a2 :: a3 :: a4 :: a5 :: a6 :: a7 :: .ref x :: l := by
  have e := am_st_ne (i := 8) (v := .ref x) rfl l 9 (by omega)
  simp only [am_st]
  simp [hc, e, show (Value.ref x).category = 1 from rfl]
theorem am_r_astore8 {a0 a1 a2 a3 a4 a5 a6 a7 : Value} {w : Value} {x : Nat} (h : am_lk P pc = some (.astore 8, len)) (e : pc + len = pc') (hc : a7.category = 1) (k : am_rw sL xs d P rt pc' (a0 :: a1 :: a2 :: a3 :: a4 :: a5 :: a6 :: a7 :: .ref x :: l) r M Q) : am_rw sL xs d P rt pc (a0 :: a1 :: a2 :: a3 :: a4 :: a5 :: a6 :: a7 :: w :: l) (.ref x :: r) M Q := by
  subst e
  exact am_rw_go h (fun v M' K hk => ⟨by simp, by rw [am_ss_a8 hc]; exact hk⟩) k
theorem am_ss_l8 {a0 a1 a2 a3 a4 a5 a6 a7 : Value} {w w2 : Value} {x : Int64} (hc : a7.category = 1) : am_st 8 (.long x) 0 (a0 :: a1 :: a2 :: a3 :: a4 :: a5 :: a6 :: a7 :: w :: w2 :: l) = a0 :: a1 :: a2 :: a3 :: a4 :: a5 :: a6 :: a7 :: .long x :: .null :: l := by
  have e := am_st_ne2 (i := 8) (v := .long x) l 10 (by omega)
  simp only [am_st]
  simp [hc, e, show (Value.long x).category = 2 from rfl]
theorem am_r_lstore8 {a0 a1 a2 a3 a4 a5 a6 a7 : Value} {w w2 : Value} {x : Int64} (h : am_lk P pc = some (.lstore 8, len)) (e : pc + len = pc') (hc : a7.category = 1) (k : am_rw sL xs d P rt pc' (a0 :: a1 :: a2 :: a3 :: a4 :: a5 :: a6 :: a7 :: .long x :: .null :: l) r M Q) : am_rw sL xs d P rt pc (a0 :: a1 :: a2 :: a3 :: a4 :: a5 :: a6 :: a7 :: w :: w2 :: l) (.long x :: r) M Q := by
  subst e
  exact am_rw_go h (fun v M' K hk => ⟨by simp, by rw [am_ss_l8 hc]; exact hk⟩) k
theorem am_r_iinc8R {a0 a1 a2 a3 a4 a5 a6 a7 : Value} {x : Int32} {n : Int} (h : am_lk P pc = some (.iinc 8 n, len)) (e : pc + len = pc') (hc : a7.category = 1) (k : am_rw sL xs d P rt pc' (a0 :: a1 :: a2 :: a3 :: a4 :: a5 :: a6 :: a7 :: .int (x + z_I n) :: l) r M Q) : am_rw sL xs d P rt pc (a0 :: a1 :: a2 :: a3 :: a4 :: a5 :: a6 :: a7 :: .int x :: l) r M Q := by
  subst e
  exact am_rw_go h (fun v M' K hk => (by have e := am_ss_i8 (a0 := a0) (a1 := a1) (a2 := a2) (a3 := a3) (a4 := a4) (a5 := a5) (a6 := a6) (a7 := a7) (w := .int x) (x := x + z_I n) (l := l) hc; exact (show K _ (am_st 8 (.int (x + z_I n)) 0 (a0 :: a1 :: a2 :: a3 :: a4 :: a5 :: a6 :: a7 :: .int x :: l)) r M by rw [e]; exact hk))) k
theorem am_r_iinc8 {a0 a1 a2 a3 a4 a5 a6 a7 : Value} {a n : Int} (h : am_lk P pc = some (.iinc 8 n, len)) (e : pc + len = pc') (hc : a7.category = 1) (k : am_rw sL xs d P rt pc' (a0 :: a1 :: a2 :: a3 :: a4 :: a5 :: a6 :: a7 :: .int (z_I (a + n)) :: l) r M Q) : am_rw sL xs d P rt pc (a0 :: a1 :: a2 :: a3 :: a4 :: a5 :: a6 :: a7 :: .int (z_I a) :: l) r M Q := by
  subst e
  exact am_rw_go h (fun v M' K hk => (by have e := am_ss_i8 (a0 := a0) (a1 := a1) (a2 := a2) (a3 := a3) (a4 := a4) (a5 := a5) (a6 := a6) (a7 := a7) (w := .int (z_I a)) (x := z_I a + z_I n) (l := l) hc; rw [z_add] at e; exact (show K _ (am_st 8 (.int (z_I a + z_I n)) 0 (a0 :: a1 :: a2 :: a3 :: a4 :: a5 :: a6 :: a7 :: .int (z_I a) :: l)) r M by rw [z_add, e]; exact hk))) k
theorem am_ss_i9 {a0 a1 a2 a3 a4 a5 a6 a7 a8 : Value} {w : Value} {x : Int32} (hc : a8.category = 1) : am_st 9 (.int x) 0 (a0 :: a1 :: a2 :: a3 :: a4 :: a5 :: a6 :: a7 :: a8 :: w :: l) = a0 :: a1 :: a2 :: a3 :: a4 :: a5 :: a6 :: a7 :: a8 :: .int x :: l := by
  have e := am_st_ne (i := 9) (v := .int x) rfl l 10 (by omega)
  simp only [am_st]
  simp [hc, e, show (Value.int x).category = 1 from rfl]
theorem am_r_istore9 {a0 a1 a2 a3 a4 a5 a6 a7 a8 : Value} {w : Value} {x : Int32} (h : am_lk P pc = some (.istore 9, len)) (e : pc + len = pc') (hc : a8.category = 1) (k : am_rw sL xs d P rt pc' (a0 :: a1 :: a2 :: a3 :: a4 :: a5 :: a6 :: a7 :: a8 :: .int x :: l) r M Q) : am_rw sL xs d P rt pc (a0 :: a1 :: a2 :: a3 :: a4 :: a5 :: a6 :: a7 :: a8 :: w :: l) (.int x :: r) M Q := by
  subst e
  exact am_rw_go h (fun v M' K hk => ⟨by simp, by rw [am_ss_i9 hc]; exact hk⟩) k
theorem am_ss_a9 {a0 a1 a2 a3 a4 a5 a6 a7 a8 : Value} {w : Value} {x : Nat} (hc : a8.category = 1) : am_st 9 (.ref x) 0 (a0 :: a1 :: a2 :: a3 :: a4 :: a5 :: a6 :: a7 :: a8 :: w :: l) = a0 :: a1 :: a2 :: a3 :: a4 :: a5 :: a6 :: a7 :: a8 :: .ref x :: l := by
  have e := am_st_ne (i := 9) (v := .ref x) rfl l 10 (by omega)
  simp only [am_st]
  simp [hc, e, show (Value.ref x).category = 1 from rfl]
theorem am_r_astore9 {a0 a1 a2 a3 a4 a5 a6 a7 a8 : Value} {w : Value} {x : Nat} (h : am_lk P pc = some (.astore 9, len)) (e : pc + len = pc') (hc : a8.category = 1) (k : am_rw sL xs d P rt pc' (a0 :: a1 :: a2 :: a3 :: a4 :: a5 :: a6 :: a7 :: a8 :: .ref x :: l) r M Q) : am_rw sL xs d P rt pc (a0 :: a1 :: a2 :: a3 :: a4 :: a5 :: a6 :: a7 :: a8 :: w :: l) (.ref x :: r) M Q := by
  subst e
  exact am_rw_go h (fun v M' K hk => ⟨by simp, by rw [am_ss_a9 hc]; exact hk⟩) k
theorem am_ss_l9 {a0 a1 a2 a3 a4 a5 a6 a7 a8 : Value} {w w2 : Value} {x : Int64} (hc : a8.category = 1) : am_st 9 (.long x) 0 (a0 :: a1 :: a2 :: a3 :: a4 :: a5 :: a6 :: a7 :: a8 :: w :: w2 :: l) = a0 :: a1 :: a2 :: a3 :: a4 :: a5 :: a6 :: a7 :: a8 :: .long x :: .null :: l := by
  have e := am_st_ne2 (i := 9) (v := .long x) l 11 (by omega)
  simp only [am_st]
  simp [hc, e, show (Value.long x).category = 2 from rfl]
theorem am_r_lstore9 {a0 a1 a2 a3 a4 a5 a6 a7 a8 : Value} {w w2 : Value} {x : Int64} (h : am_lk P pc = some (.lstore 9, len)) (e : pc + len = pc') (hc : a8.category = 1) (k : am_rw sL xs d P rt pc' (a0 :: a1 :: a2 :: a3 :: a4 :: a5 :: a6 :: a7 :: a8 :: .long x :: .null :: l) r M Q) : am_rw sL xs d P rt pc (a0 :: a1 :: a2 :: a3 :: a4 :: a5 :: a6 :: a7 :: a8 :: w :: w2 :: l) (.long x :: r) M Q := by
  subst e
  exact am_rw_go h (fun v M' K hk => ⟨by simp, by rw [am_ss_l9 hc]; exact hk⟩) k
theorem am_r_iinc9R {a0 a1 a2 a3 a4 a5 a6 a7 a8 : Value} {x : Int32} {n : Int} (h : am_lk P pc = some (.iinc 9 n, len)) (e : pc + len = pc') (hc : a8.category = 1) (k : am_rw sL xs d P rt pc' (a0 :: a1 :: a2 :: a3 :: a4 :: a5 :: a6 :: a7 :: a8 :: .int (x + z_I n) :: l) r M Q) : am_rw sL xs d P rt pc (a0 :: a1 :: a2 :: a3 :: a4 :: a5 :: a6 :: a7 :: a8 :: .int x :: l) r M Q := by
  subst e
  exact am_rw_go h (fun v M' K hk => (by have e := am_ss_i9 (a0 := a0) (a1 := a1) (a2 := a2) (a3 := a3) (a4 := a4) (a5 := a5) (a6 := a6) (a7 := a7) (a8 := a8) (w := .int x) (x := x + z_I n) (l := l) hc; exact (show K _ (am_st 9 (.int (x + z_I n)) 0 (a0 :: a1 :: a2 :: a3 :: a4 :: a5 :: a6 :: a7 :: a8 :: .int x :: l)) r M by rw [e]; exact hk))) k
theorem am_r_iinc9 {a0 a1 a2 a3 a4 a5 a6 a7 a8 : Value} {a n : Int} (h : am_lk P pc = some (.iinc 9 n, len)) (e : pc + len = pc') (hc : a8.category = 1) (k : am_rw sL xs d P rt pc' (a0 :: a1 :: a2 :: a3 :: a4 :: a5 :: a6 :: a7 :: a8 :: .int (z_I (a + n)) :: l) r M Q) : am_rw sL xs d P rt pc (a0 :: a1 :: a2 :: a3 :: a4 :: a5 :: a6 :: a7 :: a8 :: .int (z_I a) :: l) r M Q := by
  subst e
  exact am_rw_go h (fun v M' K hk => (by have e := am_ss_i9 (a0 := a0) (a1 := a1) (a2 := a2) (a3 := a3) (a4 := a4) (a5 := a5) (a6 := a6) (a7 := a7) (a8 := a8) (w := .int (z_I a)) (x := z_I a + z_I n) (l := l) hc; rw [z_add] at e; exact (show K _ (am_st 9 (.int (z_I a + z_I n)) 0 (a0 :: a1 :: a2 :: a3 :: a4 :: a5 :: a6 :: a7 :: a8 :: .int (z_I a) :: l)) r M by rw [z_add, e]; exact hk))) k
theorem am_ss_i10 {a0 a1 a2 a3 a4 a5 a6 a7 a8 a9 : Value} {w : Value} {x : Int32} (hc : a9.category = 1) : am_st 10 (.int x) 0 (a0 :: a1 :: a2 :: a3 :: a4 :: a5 :: a6 :: a7 :: a8 :: a9 :: w :: l) = a0 :: a1 :: a2 :: a3 :: a4 :: a5 :: a6 :: a7 :: a8 :: a9 :: .int x :: l := by
  have e := am_st_ne (i := 10) (v := .int x) rfl l 11 (by omega)
  simp only [am_st]
  simp [hc, e, show (Value.int x).category = 1 from rfl]
theorem am_r_istore10 {a0 a1 a2 a3 a4 a5 a6 a7 a8 a9 : Value} {w : Value} {x : Int32} (h : am_lk P pc = some (.istore 10, len)) (e : pc + len = pc') (hc : a9.category = 1) (k : am_rw sL xs d P rt pc' (a0 :: a1 :: a2 :: a3 :: a4 :: a5 :: a6 :: a7 :: a8 :: a9 :: .int x :: l) r M Q) : am_rw sL xs d P rt pc (a0 :: a1 :: a2 :: a3 :: a4 :: a5 :: a6 :: a7 :: a8 :: a9 :: w :: l) (.int x :: r) M Q := by
  subst e
  exact am_rw_go h (fun v M' K hk => ⟨by simp, by rw [am_ss_i10 hc]; exact hk⟩) k
theorem am_ss_a10 {a0 a1 a2 a3 a4 a5 a6 a7 a8 a9 : Value} {w : Value} {x : Nat} (hc : a9.category = 1) : am_st 10 (.ref x) 0 (a0 :: a1 :: a2 :: a3 :: a4 :: a5 :: a6 :: a7 :: a8 :: a9 :: w :: l) = a0 :: a1 :: a2 :: a3 :: a4 :: a5 :: a6 :: a7 :: a8 :: a9 :: .ref x :: l := by
  have e := am_st_ne (i := 10) (v := .ref x) rfl l 11 (by omega)
  simp only [am_st]
  simp [hc, e, show (Value.ref x).category = 1 from rfl]
theorem am_r_astore10 {a0 a1 a2 a3 a4 a5 a6 a7 a8 a9 : Value} {w : Value} {x : Nat} (h : am_lk P pc = some (.astore 10, len)) (e : pc + len = pc') (hc : a9.category = 1) (k : am_rw sL xs d P rt pc' (a0 :: a1 :: a2 :: a3 :: a4 :: a5 :: a6 :: a7 :: a8 :: a9 :: .ref x :: l) r M Q) : am_rw sL xs d P rt pc (a0 :: a1 :: a2 :: a3 :: a4 :: a5 :: a6 :: a7 :: a8 :: a9 :: w :: l) (.ref x :: r) M Q := by
  subst e
  exact am_rw_go h (fun v M' K hk => ⟨by simp, by rw [am_ss_a10 hc]; exact hk⟩) k
theorem am_ss_l10 {a0 a1 a2 a3 a4 a5 a6 a7 a8 a9 : Value} {w w2 : Value} {x : Int64} (hc : a9.category = 1) : am_st 10 (.long x) 0 (a0 :: a1 :: a2 :: a3 :: a4 :: a5 :: a6 :: a7 :: a8 :: a9 :: w :: w2 :: l) = a0 :: a1 :: a2 :: a3 :: a4 :: a5 :: a6 :: a7 :: a8 :: a9 :: .long x :: .null :: l := by
  have e := am_st_ne2 (i := 10) (v := .long x) l 12 (by omega)
  simp only [am_st]
  simp [hc, e, show (Value.long x).category = 2 from rfl]
theorem am_r_lstore10 {a0 a1 a2 a3 a4 a5 a6 a7 a8 a9 : Value} {w w2 : Value} {x : Int64} (h : am_lk P pc = some (.lstore 10, len)) (e : pc + len = pc') (hc : a9.category = 1) (k : am_rw sL xs d P rt pc' (a0 :: a1 :: a2 :: a3 :: a4 :: a5 :: a6 :: a7 :: a8 :: a9 :: .long x :: .null :: l) r M Q) : am_rw sL xs d P rt pc (a0 :: a1 :: a2 :: a3 :: a4 :: a5 :: a6 :: a7 :: a8 :: a9 :: w :: w2 :: l) (.long x :: r) M Q := by
  subst e
  exact am_rw_go h (fun v M' K hk => ⟨by simp, by rw [am_ss_l10 hc]; exact hk⟩) k
theorem am_r_iinc10R {a0 a1 a2 a3 a4 a5 a6 a7 a8 a9 : Value} {x : Int32} {n : Int} (h : am_lk P pc = some (.iinc 10 n, len)) (e : pc + len = pc') (hc : a9.category = 1) (k : am_rw sL xs d P rt pc' (a0 :: a1 :: a2 :: a3 :: a4 :: a5 :: a6 :: a7 :: a8 :: a9 :: .int (x + z_I n) :: l) r M Q) : am_rw sL xs d P rt pc (a0 :: a1 :: a2 :: a3 :: a4 :: a5 :: a6 :: a7 :: a8 :: a9 :: .int x :: l) r M Q := by
  subst e
  exact am_rw_go h (fun v M' K hk => (by have e := am_ss_i10 (a0 := a0) (a1 := a1) (a2 := a2) (a3 := a3) (a4 := a4) (a5 := a5) (a6 := a6) (a7 := a7) (a8 := a8) (a9 := a9) (w := .int x) (x := x + z_I n) (l := l) hc; exact (show K _ (am_st 10 (.int (x + z_I n)) 0 (a0 :: a1 :: a2 :: a3 :: a4 :: a5 :: a6 :: a7 :: a8 :: a9 :: .int x :: l)) r M by rw [e]; exact hk))) k
theorem am_r_iinc10 {a0 a1 a2 a3 a4 a5 a6 a7 a8 a9 : Value} {a n : Int} (h : am_lk P pc = some (.iinc 10 n, len)) (e : pc + len = pc') (hc : a9.category = 1) (k : am_rw sL xs d P rt pc' (a0 :: a1 :: a2 :: a3 :: a4 :: a5 :: a6 :: a7 :: a8 :: a9 :: .int (z_I (a + n)) :: l) r M Q) : am_rw sL xs d P rt pc (a0 :: a1 :: a2 :: a3 :: a4 :: a5 :: a6 :: a7 :: a8 :: a9 :: .int (z_I a) :: l) r M Q := by
  subst e
  exact am_rw_go h (fun v M' K hk => (by have e := am_ss_i10 (a0 := a0) (a1 := a1) (a2 := a2) (a3 := a3) (a4 := a4) (a5 := a5) (a6 := a6) (a7 := a7) (a8 := a8) (a9 := a9) (w := .int (z_I a)) (x := z_I a + z_I n) (l := l) hc; rw [z_add] at e; exact (show K _ (am_st 10 (.int (z_I a + z_I n)) 0 (a0 :: a1 :: a2 :: a3 :: a4 :: a5 :: a6 :: a7 :: a8 :: a9 :: .int (z_I a) :: l)) r M by rw [z_add, e]; exact hk))) k
theorem am_ss_i11 {a0 a1 a2 a3 a4 a5 a6 a7 a8 a9 a10 : Value} {w : Value} {x : Int32} (hc : a10.category = 1) : am_st 11 (.int x) 0 (a0 :: a1 :: a2 :: a3 :: a4 :: a5 :: a6 :: a7 :: a8 :: a9 :: a10 :: w :: l) = a0 :: a1 :: a2 :: a3 :: a4 :: a5 :: a6 :: a7 :: a8 :: a9 :: a10 :: .int x :: l := by
  have e := am_st_ne (i := 11) (v := .int x) rfl l 12 (by omega)
  simp only [am_st]
  simp [hc, e, show (Value.int x).category = 1 from rfl]
theorem am_r_istore11 {a0 a1 a2 a3 a4 a5 a6 a7 a8 a9 a10 : Value} {w : Value} {x : Int32} (h : am_lk P pc = some (.istore 11, len)) (e : pc + len = pc') (hc : a10.category = 1) (k : am_rw sL xs d P rt pc' (a0 :: a1 :: a2 :: a3 :: a4 :: a5 :: a6 :: a7 :: a8 :: a9 :: a10 :: .int x :: l) r M Q) : am_rw sL xs d P rt pc (a0 :: a1 :: a2 :: a3 :: a4 :: a5 :: a6 :: a7 :: a8 :: a9 :: a10 :: w :: l) (.int x :: r) M Q := by
  subst e
  exact am_rw_go h (fun v M' K hk => ⟨by simp, by rw [am_ss_i11 hc]; exact hk⟩) k
theorem am_ss_a11 {a0 a1 a2 a3 a4 a5 a6 a7 a8 a9 a10 : Value} {w : Value} {x : Nat} (hc : a10.category = 1) : am_st 11 (.ref x) 0 (a0 :: a1 :: a2 :: a3 :: a4 :: a5 :: a6 :: a7 :: a8 :: a9 :: a10 :: w :: l) = a0 :: a1 :: a2 :: a3 :: a4 :: a5 :: a6 :: a7 :: a8 :: a9 :: a10 :: .ref x :: l := by
  have e := am_st_ne (i := 11) (v := .ref x) rfl l 12 (by omega)
  simp only [am_st]
  simp [hc, e, show (Value.ref x).category = 1 from rfl]
theorem am_r_astore11 {a0 a1 a2 a3 a4 a5 a6 a7 a8 a9 a10 : Value} {w : Value} {x : Nat} (h : am_lk P pc = some (.astore 11, len)) (e : pc + len = pc') (hc : a10.category = 1) (k : am_rw sL xs d P rt pc' (a0 :: a1 :: a2 :: a3 :: a4 :: a5 :: a6 :: a7 :: a8 :: a9 :: a10 :: .ref x :: l) r M Q) : am_rw sL xs d P rt pc (a0 :: a1 :: a2 :: a3 :: a4 :: a5 :: a6 :: a7 :: a8 :: a9 :: a10 :: w :: l) (.ref x :: r) M Q := by
  subst e
  exact am_rw_go h (fun v M' K hk => ⟨by simp, by rw [am_ss_a11 hc]; exact hk⟩) k
theorem am_ss_l11 {a0 a1 a2 a3 a4 a5 a6 a7 a8 a9 a10 : Value} {w w2 : Value} {x : Int64} (hc : a10.category = 1) : am_st 11 (.long x) 0 (a0 :: a1 :: a2 :: a3 :: a4 :: a5 :: a6 :: a7 :: a8 :: a9 :: a10 :: w :: w2 :: l) = a0 :: a1 :: a2 :: a3 :: a4 :: a5 :: a6 :: a7 :: a8 :: a9 :: a10 :: .long x :: .null :: l := by
  have e := am_st_ne2 (i := 11) (v := .long x) l 13 (by omega)
  simp only [am_st]
  simp [hc, e, show (Value.long x).category = 2 from rfl]
theorem am_r_lstore11 {a0 a1 a2 a3 a4 a5 a6 a7 a8 a9 a10 : Value} {w w2 : Value} {x : Int64} (h : am_lk P pc = some (.lstore 11, len)) (e : pc + len = pc') (hc : a10.category = 1) (k : am_rw sL xs d P rt pc' (a0 :: a1 :: a2 :: a3 :: a4 :: a5 :: a6 :: a7 :: a8 :: a9 :: a10 :: .long x :: .null :: l) r M Q) : am_rw sL xs d P rt pc (a0 :: a1 :: a2 :: a3 :: a4 :: a5 :: a6 :: a7 :: a8 :: a9 :: a10 :: w :: w2 :: l) (.long x :: r) M Q := by
  subst e
  exact am_rw_go h (fun v M' K hk => ⟨by simp, by rw [am_ss_l11 hc]; exact hk⟩) k
theorem am_r_iinc11R {a0 a1 a2 a3 a4 a5 a6 a7 a8 a9 a10 : Value} {x : Int32} {n : Int} (h : am_lk P pc = some (.iinc 11 n, len)) (e : pc + len = pc') (hc : a10.category = 1) (k : am_rw sL xs d P rt pc' (a0 :: a1 :: a2 :: a3 :: a4 :: a5 :: a6 :: a7 :: a8 :: a9 :: a10 :: .int (x + z_I n) :: l) r M Q) : am_rw sL xs d P rt pc (a0 :: a1 :: a2 :: a3 :: a4 :: a5 :: a6 :: a7 :: a8 :: a9 :: a10 :: .int x :: l) r M Q := by
  subst e
  exact am_rw_go h (fun v M' K hk => (by have e := am_ss_i11 (a0 := a0) (a1 := a1) (a2 := a2) (a3 := a3) (a4 := a4) (a5 := a5) (a6 := a6) (a7 := a7) (a8 := a8) (a9 := a9) (a10 := a10) (w := .int x) (x := x + z_I n) (l := l) hc; exact (show K _ (am_st 11 (.int (x + z_I n)) 0 (a0 :: a1 :: a2 :: a3 :: a4 :: a5 :: a6 :: a7 :: a8 :: a9 :: a10 :: .int x :: l)) r M by rw [e]; exact hk))) k
theorem am_r_iinc11 {a0 a1 a2 a3 a4 a5 a6 a7 a8 a9 a10 : Value} {a n : Int} (h : am_lk P pc = some (.iinc 11 n, len)) (e : pc + len = pc') (hc : a10.category = 1) (k : am_rw sL xs d P rt pc' (a0 :: a1 :: a2 :: a3 :: a4 :: a5 :: a6 :: a7 :: a8 :: a9 :: a10 :: .int (z_I (a + n)) :: l) r M Q) : am_rw sL xs d P rt pc (a0 :: a1 :: a2 :: a3 :: a4 :: a5 :: a6 :: a7 :: a8 :: a9 :: a10 :: .int (z_I a) :: l) r M Q := by
  subst e
  exact am_rw_go h (fun v M' K hk => (by have e := am_ss_i11 (a0 := a0) (a1 := a1) (a2 := a2) (a3 := a3) (a4 := a4) (a5 := a5) (a6 := a6) (a7 := a7) (a8 := a8) (a9 := a9) (a10 := a10) (w := .int (z_I a)) (x := z_I a + z_I n) (l := l) hc; rw [z_add] at e; exact (show K _ (am_st 11 (.int (z_I a + z_I n)) 0 (a0 :: a1 :: a2 :: a3 :: a4 :: a5 :: a6 :: a7 :: a8 :: a9 :: a10 :: .int (z_I a) :: l)) r M by rw [z_add, e]; exact hk))) k
theorem am_ss_i12 {a0 a1 a2 a3 a4 a5 a6 a7 a8 a9 a10 a11 : Value} {w : Value} {x : Int32} (hc : a11.category = 1) : am_st 12 (.int x) 0 (a0 :: a1 :: a2 :: a3 :: a4 :: a5 :: a6 :: a7 :: a8 :: a9 :: a10 :: a11 :: w :: l) = a0 :: a1 :: a2 :: a3 :: a4 :: a5 :: a6 :: a7 :: a8 :: a9 :: a10 :: a11 :: .int x :: l := by
  have e := am_st_ne (i := 12) (v := .int x) rfl l 13 (by omega)
  simp only [am_st]
  simp [hc, e, show (Value.int x).category = 1 from rfl]
theorem am_r_istore12 {a0 a1 a2 a3 a4 a5 a6 a7 a8 a9 a10 a11 : Value} {w : Value} {x : Int32} (h : am_lk P pc = some (.istore 12, len)) (e : pc + len = pc') (hc : a11.category = 1) (k : am_rw sL xs d P rt pc' (a0 :: a1 :: a2 :: a3 :: a4 :: a5 :: a6 :: a7 :: a8 :: a9 :: a10 :: a11 :: .int x :: l) r M Q) : am_rw sL xs d P rt pc (a0 :: a1 :: a2 :: a3 :: a4 :: a5 :: a6 :: a7 :: a8 :: a9 :: a10 :: a11 :: w :: l) (.int x :: r) M Q := by
  subst e
  exact am_rw_go h (fun v M' K hk => ⟨by simp, by rw [am_ss_i12 hc]; exact hk⟩) k
theorem am_ss_a12 {a0 a1 a2 a3 a4 a5 a6 a7 a8 a9 a10 a11 : Value} {w : Value} {x : Nat} (hc : a11.category = 1) : am_st 12 (.ref x) 0 (a0 :: a1 :: a2 :: a3 :: a4 :: a5 :: a6 :: a7 :: a8 :: a9 :: a10 :: a11 :: w :: l) = a0 :: a1 :: a2 :: a3 :: a4 :: a5 :: a6 :: a7 :: a8 :: a9 :: a10 :: a11 :: .ref x :: l := by
  have e := am_st_ne (i := 12) (v := .ref x) rfl l 13 (by omega)
  simp only [am_st]
  simp [hc, e, show (Value.ref x).category = 1 from rfl]
theorem am_r_astore12 {a0 a1 a2 a3 a4 a5 a6 a7 a8 a9 a10 a11 : Value} {w : Value} {x : Nat} (h : am_lk P pc = some (.astore 12, len)) (e : pc + len = pc') (hc : a11.category = 1) (k : am_rw sL xs d P rt pc' (a0 :: a1 :: a2 :: a3 :: a4 :: a5 :: a6 :: a7 :: a8 :: a9 :: a10 :: a11 :: .ref x :: l) r M Q) : am_rw sL xs d P rt pc (a0 :: a1 :: a2 :: a3 :: a4 :: a5 :: a6 :: a7 :: a8 :: a9 :: a10 :: a11 :: w :: l) (.ref x :: r) M Q := by
  subst e
  exact am_rw_go h (fun v M' K hk => ⟨by simp, by rw [am_ss_a12 hc]; exact hk⟩) k
theorem am_ss_l12 {a0 a1 a2 a3 a4 a5 a6 a7 a8 a9 a10 a11 : Value} {w w2 : Value} {x : Int64} (hc : a11.category = 1) : am_st 12 (.long x) 0 (a0 :: a1 :: a2 :: a3 :: a4 :: a5 :: a6 :: a7 :: a8 :: a9 :: a10 :: a11 :: w :: w2 :: l) = a0 :: a1 :: a2 :: a3 :: a4 :: a5 :: a6 :: a7 :: a8 :: a9 :: a10 :: a11 :: .long x :: .null :: l := by
  have e := am_st_ne2 (i := 12) (v := .long x) l 14 (by omega)
  simp only [am_st]
  simp [hc, e, show (Value.long x).category = 2 from rfl]
theorem am_r_lstore12 {a0 a1 a2 a3 a4 a5 a6 a7 a8 a9 a10 a11 : Value} {w w2 : Value} {x : Int64} (h : am_lk P pc = some (.lstore 12, len)) (e : pc + len = pc') (hc : a11.category = 1) (k : am_rw sL xs d P rt pc' (a0 :: a1 :: a2 :: a3 :: a4 :: a5 :: a6 :: a7 :: a8 :: a9 :: a10 :: a11 :: .long x :: .null :: l) r M Q) : am_rw sL xs d P rt pc (a0 :: a1 :: a2 :: a3 :: a4 :: a5 :: a6 :: a7 :: a8 :: a9 :: a10 :: a11 :: w :: w2 :: l) (.long x :: r) M Q := by
  subst e
  exact am_rw_go h (fun v M' K hk => ⟨by simp, by rw [am_ss_l12 hc]; exact hk⟩) k
theorem am_r_iinc12R {a0 a1 a2 a3 a4 a5 a6 a7 a8 a9 a10 a11 : Value} {x : Int32} {n : Int} (h : am_lk P pc = some (.iinc 12 n, len)) (e : pc + len = pc') (hc : a11.category = 1) (k : am_rw sL xs d P rt pc' (a0 :: a1 :: a2 :: a3 :: a4 :: a5 :: a6 :: a7 :: a8 :: a9 :: a10 :: a11 :: .int (x + z_I n) :: l) r M Q) : am_rw sL xs d P rt pc (a0 :: a1 :: a2 :: a3 :: a4 :: a5 :: a6 :: a7 :: a8 :: a9 :: a10 :: a11 :: .int x :: l) r M Q := by
  subst e
  exact am_rw_go h (fun v M' K hk => (by have e := am_ss_i12 (a0 := a0) (a1 := a1) (a2 := a2) (a3 := a3) (a4 := a4) (a5 := a5) (a6 := a6) (a7 := a7) (a8 := a8) (a9 := a9) (a10 := a10) (a11 := a11) (w := .int x) (x := x + z_I n) (l := l) hc; exact (show K _ (am_st 12 (.int (x + z_I n)) 0 (a0 :: a1 :: a2 :: a3 :: a4 :: a5 :: a6 :: a7 :: a8 :: a9 :: a10 :: a11 :: .int x :: l)) r M by rw [e]; exact hk))) k
theorem am_r_iinc12 {a0 a1 a2 a3 a4 a5 a6 a7 a8 a9 a10 a11 : Value} {a n : Int} (h : am_lk P pc = some (.iinc 12 n, len)) (e : pc + len = pc') (hc : a11.category = 1) (k : am_rw sL xs d P rt pc' (a0 :: a1 :: a2 :: a3 :: a4 :: a5 :: a6 :: a7 :: a8 :: a9 :: a10 :: a11 :: .int (z_I (a + n)) :: l) r M Q) : am_rw sL xs d P rt pc (a0 :: a1 :: a2 :: a3 :: a4 :: a5 :: a6 :: a7 :: a8 :: a9 :: a10 :: a11 :: .int (z_I a) :: l) r M Q := by
  subst e
  exact am_rw_go h (fun v M' K hk => (by have e := am_ss_i12 (a0 := a0) (a1 := a1) (a2 := a2) (a3 := a3) (a4 := a4) (a5 := a5) (a6 := a6) (a7 := a7) (a8 := a8) (a9 := a9) (a10 := a10) (a11 := a11) (w := .int (z_I a)) (x := z_I a + z_I n) (l := l) hc; rw [z_add] at e; exact (show K _ (am_st 12 (.int (z_I a + z_I n)) 0 (a0 :: a1 :: a2 :: a3 :: a4 :: a5 :: a6 :: a7 :: a8 :: a9 :: a10 :: a11 :: .int (z_I a) :: l)) r M by rw [z_add, e]; exact hk))) k
theorem am_ss_i13 {a0 a1 a2 a3 a4 a5 a6 a7 a8 a9 a10 a11 a12 : Value} {w : Value} {x : Int32} (hc : a12.category = 1) : am_st 13 (.int x) 0 (a0 :: a1 :: a2 :: a3 :: a4 :: a5 :: a6 :: a7 :: a8 :: a9 :: a10 :: a11 :: a12 :: w :: l) = a0 :: a1 :: a2 :: a3 :: a4 :: a5 :: a6 :: a7 :: a8 :: a9 :: a10 :: a11 :: a12 :: .int x :: l := by
  have e := am_st_ne (i := 13) (v := .int x) rfl l 14 (by omega)
  simp only [am_st]
  simp [hc, e, show (Value.int x).category = 1 from rfl]
theorem am_r_istore13 {a0 a1 a2 a3 a4 a5 a6 a7 a8 a9 a10 a11 a12 : Value} {w : Value} {x : Int32} (h : am_lk P pc = some (.istore 13, len)) (e : pc + len = pc') (hc : a12.category = 1) (k : am_rw sL xs d P rt pc' (a0 :: a1 :: a2 :: a3 :: a4 :: a5 :: a6 :: a7 :: a8 :: a9 :: a10 :: a11 :: a12 :: .int x :: l) r M Q) : am_rw sL xs d P rt pc (a0 :: a1 :: a2 :: a3 :: a4 :: a5 :: a6 :: a7 :: a8 :: a9 :: a10 :: a11 :: a12 :: w :: l) (.int x :: r) M Q := by
  subst e
  exact am_rw_go h (fun v M' K hk => ⟨by simp, by rw [am_ss_i13 hc]; exact hk⟩) k
theorem am_ss_a13 {a0 a1 a2 a3 a4 a5 a6 a7 a8 a9 a10 a11 a12 : Value} {w : Value} {x : Nat} (hc : a12.category = 1) : am_st 13 (.ref x) 0 (a0 :: a1 :: a2 :: a3 :: a4 :: a5 :: a6 :: a7 :: a8 :: a9 :: a10 :: a11 :: a12 :: w :: l) = a0 :: a1 :: a2 :: a3 :: a4 :: a5 :: a6 :: a7 :: a8 :: a9 :: a10 :: a11 :: a12 :: .ref x :: l := by
  have e := am_st_ne (i := 13) (v := .ref x) rfl l 14 (by omega)
  simp only [am_st]
  simp [hc, e, show (Value.ref x).category = 1 from rfl]
theorem am_r_astore13 {a0 a1 a2 a3 a4 a5 a6 a7 a8 a9 a10 a11 a12 : Value} {w : Value} {x : Nat} (h : am_lk P pc = some (.astore 13, len)) (e : pc + len = pc') (hc : a12.category = 1) (k : am_rw sL xs d P rt pc' (a0 :: a1 :: a2 :: a3 :: a4 :: a5 :: a6 :: a7 :: a8 :: a9 :: a10 :: a11 :: a12 :: .ref x :: l) r M Q) : am_rw sL xs d P rt pc (a0 :: a1 :: a2 :: a3 :: a4 :: a5 :: a6 :: a7 :: a8 :: a9 :: a10 :: a11 :: a12 :: w :: l) (.ref x :: r) M Q := by
  subst e
  exact am_rw_go h (fun v M' K hk => ⟨by simp, by rw [am_ss_a13 hc]; exact hk⟩) k
theorem am_ss_l13 {a0 a1 a2 a3 a4 a5 a6 a7 a8 a9 a10 a11 a12 : Value} {w w2 : Value} {x : Int64} (hc : a12.category = 1) : am_st 13 (.long x) 0 (a0 :: a1 :: a2 :: a3 :: a4 :: a5 :: a6 :: a7 :: a8 :: a9 :: a10 :: a11 :: a12 :: w :: w2 :: l) = a0 :: a1 :: a2 :: a3 :: a4 :: a5 :: a6 :: a7 :: a8 :: a9 :: a10 :: a11 :: a12 :: .long x :: .null :: l := by
  have e := am_st_ne2 (i := 13) (v := .long x) l 15 (by omega)
  simp only [am_st]
  simp [hc, e, show (Value.long x).category = 2 from rfl]
theorem am_r_lstore13 {a0 a1 a2 a3 a4 a5 a6 a7 a8 a9 a10 a11 a12 : Value} {w w2 : Value} {x : Int64} (h : am_lk P pc = some (.lstore 13, len)) (e : pc + len = pc') (hc : a12.category = 1) (k : am_rw sL xs d P rt pc' (a0 :: a1 :: a2 :: a3 :: a4 :: a5 :: a6 :: a7 :: a8 :: a9 :: a10 :: a11 :: a12 :: .long x :: .null :: l) r M Q) : am_rw sL xs d P rt pc (a0 :: a1 :: a2 :: a3 :: a4 :: a5 :: a6 :: a7 :: a8 :: a9 :: a10 :: a11 :: a12 :: w :: w2 :: l) (.long x :: r) M Q := by
  subst e
  exact am_rw_go h (fun v M' K hk => ⟨by simp, by rw [am_ss_l13 hc]; exact hk⟩) k
theorem am_r_iinc13R {a0 a1 a2 a3 a4 a5 a6 a7 a8 a9 a10 a11 a12 : Value} {x : Int32} {n : Int} (h : am_lk P pc = some (.iinc 13 n, len)) (e : pc + len = pc') (hc : a12.category = 1) (k : am_rw sL xs d P rt pc' (a0 :: a1 :: a2 :: a3 :: a4 :: a5 :: a6 :: a7 :: a8 :: a9 :: a10 :: a11 :: a12 :: .int (x + z_I n) :: l) r M Q) : am_rw sL xs d P rt pc (a0 :: a1 :: a2 :: a3 :: a4 :: a5 :: a6 :: a7 :: a8 :: a9 :: a10 :: a11 :: a12 :: .int x :: l) r M Q := by
  subst e
  exact am_rw_go h (fun v M' K hk => (by have e := am_ss_i13 (a0 := a0) (a1 := a1) (a2 := a2) (a3 := a3) (a4 := a4) (a5 := a5) (a6 := a6) (a7 := a7) (a8 := a8) (a9 := a9) (a10 := a10) (a11 := a11) (a12 := a12) (w := .int x) (x := x + z_I n) (l := l) hc; exact (show K _ (am_st 13 (.int (x + z_I n)) 0 (a0 :: a1 :: a2 :: a3 :: a4 :: a5 :: a6 :: a7 :: a8 :: a9 :: a10 :: a11 :: a12 :: .int x :: l)) r M by rw [e]; exact hk))) k
theorem am_r_iinc13 {a0 a1 a2 a3 a4 a5 a6 a7 a8 a9 a10 a11 a12 : Value} {a n : Int} (h : am_lk P pc = some (.iinc 13 n, len)) (e : pc + len = pc') (hc : a12.category = 1) (k : am_rw sL xs d P rt pc' (a0 :: a1 :: a2 :: a3 :: a4 :: a5 :: a6 :: a7 :: a8 :: a9 :: a10 :: a11 :: a12 :: .int (z_I (a + n)) :: l) r M Q) : am_rw sL xs d P rt pc (a0 :: a1 :: a2 :: a3 :: a4 :: a5 :: a6 :: a7 :: a8 :: a9 :: a10 :: a11 :: a12 :: .int (z_I a) :: l) r M Q := by
  subst e
  exact am_rw_go h (fun v M' K hk => (by have e := am_ss_i13 (a0 := a0) (a1 := a1) (a2 := a2) (a3 := a3) (a4 := a4) (a5 := a5) (a6 := a6) (a7 := a7) (a8 := a8) (a9 := a9) (a10 := a10) (a11 := a11) (a12 := a12) (w := .int (z_I a)) (x := z_I a + z_I n) (l := l) hc; rw [z_add] at e; exact (show K _ (am_st 13 (.int (z_I a + z_I n)) 0 (a0 :: a1 :: a2 :: a3 :: a4 :: a5 :: a6 :: a7 :: a8 :: a9 :: a10 :: a11 :: a12 :: .int (z_I a) :: l)) r M by rw [z_add, e]; exact hk))) k
theorem am_r_iaddR {x y : Int32} (h : am_lk P pc = some (.iadd, len)) (e : pc + len = pc') (k : am_rw sL xs d P rt pc' lv (.int (x + y) :: r) M Q) : am_rw sL xs d P rt pc lv (.int y :: .int x :: r) M Q := by
  subst e
  exact am_rw_go h (fun v M' K hk => hk) k
theorem am_r_isubR {x y : Int32} (h : am_lk P pc = some (.isub, len)) (e : pc + len = pc') (k : am_rw sL xs d P rt pc' lv (.int (x - y) :: r) M Q) : am_rw sL xs d P rt pc lv (.int y :: .int x :: r) M Q := by
  subst e
  exact am_rw_go h (fun v M' K hk => hk) k
theorem am_r_imulR {x y : Int32} (h : am_lk P pc = some (.imul, len)) (e : pc + len = pc') (k : am_rw sL xs d P rt pc' lv (.int (x * y) :: r) M Q) : am_rw sL xs d P rt pc lv (.int y :: .int x :: r) M Q := by
  subst e
  exact am_rw_go h (fun v M' K hk => hk) k
theorem am_r_iandR {x y : Int32} (h : am_lk P pc = some (.iand, len)) (e : pc + len = pc') (k : am_rw sL xs d P rt pc' lv (.int (x &&& y) :: r) M Q) : am_rw sL xs d P rt pc lv (.int y :: .int x :: r) M Q := by
  subst e
  exact am_rw_go h (fun v M' K hk => hk) k
theorem am_r_iorR {x y : Int32} (h : am_lk P pc = some (.ior, len)) (e : pc + len = pc') (k : am_rw sL xs d P rt pc' lv (.int (x ||| y) :: r) M Q) : am_rw sL xs d P rt pc lv (.int y :: .int x :: r) M Q := by
  subst e
  exact am_rw_go h (fun v M' K hk => hk) k
theorem am_r_ixorR {x y : Int32} (h : am_lk P pc = some (.ixor, len)) (e : pc + len = pc') (k : am_rw sL xs d P rt pc' lv (.int (x ^^^ y) :: r) M Q) : am_rw sL xs d P rt pc lv (.int y :: .int x :: r) M Q := by
  subst e
  exact am_rw_go h (fun v M' K hk => hk) k
theorem am_r_iadd {a b : Int} (h : am_lk P pc = some (.iadd, len)) (e : pc + len = pc') (k : am_rw sL xs d P rt pc' lv (.int (z_I (a + b)) :: r) M Q) : am_rw sL xs d P rt pc lv (.int (z_I b) :: .int (z_I a) :: r) M Q := by
  subst e
  exact am_rw_go h (fun v M' K hk => by show K _ _ (.int (z_I a + z_I b) :: r) _; rw [z_add]; exact hk) k
theorem am_r_isub {a b : Int} (h : am_lk P pc = some (.isub, len)) (e : pc + len = pc') (k : am_rw sL xs d P rt pc' lv (.int (z_I (a - b)) :: r) M Q) : am_rw sL xs d P rt pc lv (.int (z_I b) :: .int (z_I a) :: r) M Q := by
  subst e
  exact am_rw_go h (fun v M' K hk => by show K _ _ (.int (z_I a - z_I b) :: r) _; rw [z_sub]; exact hk) k
theorem am_r_imul {a b : Int} (h : am_lk P pc = some (.imul, len)) (e : pc + len = pc') (k : am_rw sL xs d P rt pc' lv (.int (z_I (a * b)) :: r) M Q) : am_rw sL xs d P rt pc lv (.int (z_I b) :: .int (z_I a) :: r) M Q := by
  subst e
  exact am_rw_go h (fun v M' K hk => by show K _ _ (.int (z_I a * z_I b) :: r) _; rw [z_mul]; exact hk) k
theorem am_r_ladd {a b : Int} (h : am_lk P pc = some (.ladd, len)) (e : pc + len = pc') (k : am_rw sL xs d P rt pc' lv (.long (z_L (a + b)) :: r) M Q) : am_rw sL xs d P rt pc lv (.long (z_L b) :: .long (z_L a) :: r) M Q := by
  subst e
  exact am_rw_go h (fun v M' K hk => by show K _ _ (.long (z_L a + z_L b) :: r) _; rw [z_addL]; exact hk) k
theorem am_r_lsub {a b : Int} (h : am_lk P pc = some (.lsub, len)) (e : pc + len = pc') (k : am_rw sL xs d P rt pc' lv (.long (z_L (a - b)) :: r) M Q) : am_rw sL xs d P rt pc lv (.long (z_L b) :: .long (z_L a) :: r) M Q := by
  subst e
  exact am_rw_go h (fun v M' K hk => by show K _ _ (.long (z_L a - z_L b) :: r) _; rw [z_subL]; exact hk) k
theorem am_r_lmul {a b : Int} (h : am_lk P pc = some (.lmul, len)) (e : pc + len = pc') (k : am_rw sL xs d P rt pc' lv (.long (z_L (a * b)) :: r) M Q) : am_rw sL xs d P rt pc lv (.long (z_L b) :: .long (z_L a) :: r) M Q := by
  subst e
  exact am_rw_go h (fun v M' K hk => by show K _ _ (.long (z_L a * z_L b) :: r) _; rw [z_mulL]; exact hk) k
theorem am_r_laddR {x y : Int64} (h : am_lk P pc = some (.ladd, len)) (e : pc + len = pc') (k : am_rw sL xs d P rt pc' lv (.long (x + y) :: r) M Q) : am_rw sL xs d P rt pc lv (.long y :: .long x :: r) M Q := by
  subst e
  exact am_rw_go h (fun v M' K hk => hk) k
theorem am_r_lsubR {x y : Int64} (h : am_lk P pc = some (.lsub, len)) (e : pc + len = pc') (k : am_rw sL xs d P rt pc' lv (.long (x - y) :: r) M Q) : am_rw sL xs d P rt pc lv (.long y :: .long x :: r) M Q := by
  subst e
  exact am_rw_go h (fun v M' K hk => hk) k
theorem am_r_lmulR {x y : Int64} (h : am_lk P pc = some (.lmul, len)) (e : pc + len = pc') (k : am_rw sL xs d P rt pc' lv (.long (x * y) :: r) M Q) : am_rw sL xs d P rt pc lv (.long y :: .long x :: r) M Q := by
  subst e
  exact am_rw_go h (fun v M' K hk => hk) k
theorem am_r_landR {x y : Int64} (h : am_lk P pc = some (.land, len)) (e : pc + len = pc') (k : am_rw sL xs d P rt pc' lv (.long (x &&& y) :: r) M Q) : am_rw sL xs d P rt pc lv (.long y :: .long x :: r) M Q := by
  subst e
  exact am_rw_go h (fun v M' K hk => hk) k
theorem am_r_lorR {x y : Int64} (h : am_lk P pc = some (.lor, len)) (e : pc + len = pc') (k : am_rw sL xs d P rt pc' lv (.long (x ||| y) :: r) M Q) : am_rw sL xs d P rt pc lv (.long y :: .long x :: r) M Q := by
  subst e
  exact am_rw_go h (fun v M' K hk => hk) k
theorem am_r_ineg {a : Int} (h : am_lk P pc = some (.ineg, len)) (e : pc + len = pc') (k : am_rw sL xs d P rt pc' lv (.int (z_I (-a)) :: r) M Q) : am_rw sL xs d P rt pc lv (.int (z_I a) :: r) M Q := by
  subst e
  exact am_rw_go h (fun v M' K hk => by show K _ _ (.int (-z_I a) :: r) _; rw [z_neg]; exact hk) k
theorem am_r_inegR {x : Int32} (h : am_lk P pc = some (.ineg, len)) (e : pc + len = pc') (k : am_rw sL xs d P rt pc' lv (.int (-x) :: r) M Q) : am_rw sL xs d P rt pc lv (.int x :: r) M Q := by
  subst e
  exact am_rw_go h (fun v M' K hk => hk) k
theorem am_r_idivR {x y : Int32} (h : am_lk P pc = some (.idiv, len)) (e : pc + len = pc') (hy : ¬ y = 0) (k : am_rw sL xs d P rt pc' lv (.int (x / y) :: r) M Q) : am_rw sL xs d P rt pc lv (.int y :: .int x :: r) M Q := by
  subst e
  exact am_rw_go h (fun v M' K hk => ⟨hy, hk⟩) k
theorem am_r_iremR {x y : Int32} (h : am_lk P pc = some (.irem, len)) (e : pc + len = pc') (hy : ¬ y = 0) (k : am_rw sL xs d P rt pc' lv (.int (x - x / y * y) :: r) M Q) : am_rw sL xs d P rt pc lv (.int y :: .int x :: r) M Q := by
  subst e
  exact am_rw_go h (fun v M' K hk => ⟨hy, hk⟩) k
theorem am_r_idivT {a b : Int} (h : am_lk P pc = some (.idiv, len)) (e : pc + len = pc') (k : am_rw sL xs d P rt pc' lv (.int (z_I (a.tdiv b)) :: r) M Q) (hy : b ≠ 0 := by omega) (ha : -2147483648 ≤ a ∧ a < 2147483648 := by omega) (hb : -2147483648 ≤ b ∧ b < 2147483648 := by omega) : am_rw sL xs d P rt pc lv (.int (z_I b) :: .int (z_I a) :: r) M Q := by
  subst e
  exact am_rw_go h (fun v M' K hk => ⟨z_ne0 hb hy, by rw [z_div ha hb]; exact hk⟩) k
theorem am_r_iremT {a b : Int} (h : am_lk P pc = some (.irem, len)) (e : pc + len = pc') (k : am_rw sL xs d P rt pc' lv (.int (z_I (a.tmod b)) :: r) M Q) (hy : b ≠ 0 := by omega) (ha : -2147483648 ≤ a ∧ a < 2147483648 := by omega) (hb : -2147483648 ≤ b ∧ b < 2147483648 := by omega) : am_rw sL xs d P rt pc lv (.int (z_I b) :: .int (z_I a) :: r) M Q := by
  subst e
  exact am_rw_go h (fun v M' K hk => ⟨z_ne0 hb hy, by rw [z_rem ha hb]; exact hk⟩) k
theorem am_r_idiv {a b : Int} (h : am_lk P pc = some (.idiv, len)) (e : pc + len = pc') (k : am_rw sL xs d P rt pc' lv (.int (z_I (a / b)) :: r) M Q) (hy : b ≠ 0 := by omega) (h0 : 0 ≤ a := by omega) (ha : -2147483648 ≤ a ∧ a < 2147483648 := by omega) (hb : -2147483648 ≤ b ∧ b < 2147483648 := by omega) : am_rw sL xs d P rt pc lv (.int (z_I b) :: .int (z_I a) :: r) M Q := by
  subst e
  exact am_rw_go h (fun v M' K hk => ⟨z_ne0 hb hy, by rw [z_div ha hb, z_tdiv h0]; exact hk⟩) k
theorem am_r_irem {a b : Int} (h : am_lk P pc = some (.irem, len)) (e : pc + len = pc') (k : am_rw sL xs d P rt pc' lv (.int (z_I (a % b)) :: r) M Q) (hy : b ≠ 0 := by omega) (h0 : 0 ≤ a := by omega) (ha : -2147483648 ≤ a ∧ a < 2147483648 := by omega) (hb : -2147483648 ≤ b ∧ b < 2147483648 := by omega) : am_rw sL xs d P rt pc lv (.int (z_I b) :: .int (z_I a) :: r) M Q := by
  subst e
  exact am_rw_go h (fun v M' K hk => ⟨z_ne0 hb hy, by rw [z_rem ha hb, z_tmod h0]; exact hk⟩) k
theorem am_r_ldiv {a b : Int} (h : am_lk P pc = some (.ldiv, len)) (e : pc + len = pc') (k : am_rw sL xs d P rt pc' lv (.long (z_L (a / b)) :: r) M Q) (hy : b ≠ 0 := by omega) (h0 : 0 ≤ a := by omega) (ha : -9223372036854775808 ≤ a ∧ a < 9223372036854775808 := by omega) (hb : -9223372036854775808 ≤ b ∧ b < 9223372036854775808 := by omega) : am_rw sL xs d P rt pc lv (.long (z_L b) :: .long (z_L a) :: r) M Q := by
  subst e
  exact am_rw_go h (fun v M' K hk => ⟨z_ne0L hb hy, by rw [z_divL ha hb, z_tdiv h0]; exact hk⟩) k
theorem am_r_lrem {a b : Int} (h : am_lk P pc = some (.lrem, len)) (e : pc + len = pc') (k : am_rw sL xs d P rt pc' lv (.long (z_L (a % b)) :: r) M Q) (hy : b ≠ 0 := by omega) (h0 : 0 ≤ a := by omega) (ha : -9223372036854775808 ≤ a ∧ a < 9223372036854775808 := by omega) (hb : -9223372036854775808 ≤ b ∧ b < 9223372036854775808 := by omega) : am_rw sL xs d P rt pc lv (.long (z_L b) :: .long (z_L a) :: r) M Q := by
  subst e
  exact am_rw_go h (fun v M' K hk => ⟨z_ne0L hb hy, by rw [z_remL ha hb, z_tmod h0]; exact hk⟩) k
theorem am_r_lremT {a b : Int} (h : am_lk P pc = some (.lrem, len)) (e : pc + len = pc') (k : am_rw sL xs d P rt pc' lv (.long (z_L (a.tmod b)) :: r) M Q) (hy : b ≠ 0 := by omega) (ha : -9223372036854775808 ≤ a ∧ a < 9223372036854775808 := by omega) (hb : -9223372036854775808 ≤ b ∧ b < 9223372036854775808 := by omega) : am_rw sL xs d P rt pc lv (.long (z_L b) :: .long (z_L a) :: r) M Q := by
  subst e
  exact am_rw_go h (fun v M' K hk => ⟨z_ne0L hb hy, by rw [z_remL ha hb]; exact hk⟩) k
theorem am_r_ishl {x y : Int32} (h : am_lk P pc = some (.ishl, len)) (e : pc + len = pc') (k : am_rw sL xs d P rt pc' lv (.int (x <<< (y &&& 31)) :: r) M Q) : am_rw sL xs d P rt pc lv (.int y :: .int x :: r) M Q := by
  subst e
  exact am_rw_go h (fun v M' K hk => hk) k
theorem am_r_ishr {x y : Int32} (h : am_lk P pc = some (.ishr, len)) (e : pc + len = pc') (k : am_rw sL xs d P rt pc' lv (.int (x >>> (y &&& 31)) :: r) M Q) : am_rw sL xs d P rt pc lv (.int y :: .int x :: r) M Q := by
  subst e
  exact am_rw_go h (fun v M' K hk => hk) k
theorem am_r_iushr {x y : Int32} (h : am_lk P pc = some (.iushr, len)) (e : pc + len = pc') (k : am_rw sL xs d P rt pc' lv (.int (x.toUInt32 >>> (y.toUInt32 &&& Int32.toUInt32 31)).toInt32 :: r) M Q) : am_rw sL xs d P rt pc lv (.int y :: .int x :: r) M Q := by
  subst e
  exact am_rw_go h (fun v M' K hk => hk) k
theorem am_r_lshl {x : Int64} {y : Int32} (h : am_lk P pc = some (.lshl, len)) (e : pc + len = pc') (k : am_rw sL xs d P rt pc' lv (.long (x <<< (y.toInt64 &&& 63)) :: r) M Q) : am_rw sL xs d P rt pc lv (.int y :: .long x :: r) M Q := by
  subst e
  exact am_rw_go h (fun v M' K hk => hk) k
theorem am_r_i2lR {x : Int32} (h : am_lk P pc = some (.i2l, len)) (e : pc + len = pc') (k : am_rw sL xs d P rt pc' lv (.long x.toInt64 :: r) M Q) : am_rw sL xs d P rt pc lv (.int x :: r) M Q := by
  subst e
  exact am_rw_go h (fun v M' K hk => hk) k
theorem am_r_i2l {a : Int} (h : am_lk P pc = some (.i2l, len)) (e : pc + len = pc') (k : am_rw sL xs d P rt pc' lv (.long (z_L a) :: r) M Q) (ha : -2147483648 ≤ a ∧ a < 2147483648 := by omega) : am_rw sL xs d P rt pc lv (.int (z_I a) :: r) M Q := by
  subst e
  exact am_rw_go h (fun v M' K hk => by show K _ _ (.long (z_I a).toInt64 :: r) _; rw [z_il ha]; exact hk) k
theorem am_r_l2iR {x : Int64} (h : am_lk P pc = some (.l2i, len)) (e : pc + len = pc') (k : am_rw sL xs d P rt pc' lv (.int x.toInt32 :: r) M Q) : am_rw sL xs d P rt pc lv (.long x :: r) M Q := by
  subst e
  exact am_rw_go h (fun v M' K hk => hk) k
theorem am_r_l2i {a : Int} (h : am_lk P pc = some (.l2i, len)) (e : pc + len = pc') (k : am_rw sL xs d P rt pc' lv (.int (z_I a) :: r) M Q) : am_rw sL xs d P rt pc lv (.long (z_L a) :: r) M Q := by
  subst e
  exact am_rw_go h (fun v M' K hk => by show K _ _ (.int (z_L a).toInt32 :: r) _; rw [z_li]; exact hk) k
theorem am_r_i2b {x : Int32} (h : am_lk P pc = some (.i2b, len)) (e : pc + len = pc') (k : am_rw sL xs d P rt pc' lv (.int x.toInt8.toInt32 :: r) M Q) : am_rw sL xs d P rt pc lv (.int x :: r) M Q := by
  subst e
  exact am_rw_go h (fun v M' K hk => hk) k
theorem am_r_i2s {x : Int32} (h : am_lk P pc = some (.i2s, len)) (e : pc + len = pc') (k : am_rw sL xs d P rt pc' lv (.int x.toInt16.toInt32 :: r) M Q) : am_rw sL xs d P rt pc lv (.int x :: r) M Q := by
  subst e
  exact am_rw_go h (fun v M' K hk => hk) k
theorem am_r_dup {w : Value} (h : am_lk P pc = some (.dup, len)) (e : pc + len = pc') (hw : w.category = 1) (k : am_rw sL xs d P rt pc' lv (w :: w :: r) M Q) : am_rw sL xs d P rt pc lv (w :: r) M Q := by
  subst e
  exact am_rw_go h (fun v M' K hk => ⟨hw, hk⟩) k
theorem am_r_dup2 {w u : Value} (h : am_lk P pc = some (.dup2, len)) (e : pc + len = pc') (hw : w.category = 1) (hu : u.category = 1) (k : am_rw sL xs d P rt pc' lv (w :: u :: w :: u :: r) M Q) : am_rw sL xs d P rt pc lv (w :: u :: r) M Q := by
  subst e
  exact am_rw_go h (fun v M' K hk => ⟨hw, hu, hk⟩) k
theorem am_r_goto {t : Int} (h : am_lk P pc = some (.goto t, len)) (e : t.toNat = pc') (k : am_rw sL xs d P rt pc' lv r M Q) : am_rw sL xs d P rt pc lv r M Q := by
  subst e
  exact am_rw_go h (fun v M' K hk => hk) k
def am_okI (q e f : Nat) : Bool := decide (am_shp q = (3, e / 64)) && decide (q < am_K) && decide (e % 64 = f) && decide (am_rt q f = 0)
def am_okR (q e t : Nat) : Bool := decide (am_shp q = (3, e / 64)) && decide (q < am_K) && decide (am_rt q (e % 64) = t + 1)
def am_okA (q a n : Nat) : Bool := decide (am_shp q = (a, n)) && decide (q < am_K)
theorem am_r_getI {q n f : Nat} (h : am_lk P pc = some (.getfield n, len)) (e : pc + len = pc') (hf : am_okI q n f = true) (k : am_rw sL xs d P rt pc' lv (.int (M.1 q f) :: r) M Q) : am_rw sL xs d P rt pc lv (.ref q :: r) M Q := by
  subst e
  simp only [am_okI, Bool.and_eq_true, decide_eq_true_eq] at hf
  obtain ⟨⟨⟨h1, h2⟩, rfl⟩, h4⟩ := hf
  exact am_rw_go h (fun v M' K hk => ⟨h1, h2, by unfold am_fv; rw [if_pos h4]; exact hk⟩) k
theorem am_r_getIv {q n f : Nat} {x : Int32} (h : am_lk P pc = some (.getfield n, len)) (e : pc + len = pc') (hf : am_okI q n f = true) (hx : M.1 q f = x) (k : am_rw sL xs d P rt pc' lv (.int x :: r) M Q) : am_rw sL xs d P rt pc lv (.ref q :: r) M Q := by
  subst e
  subst hx
  simp only [am_okI, Bool.and_eq_true, decide_eq_true_eq] at hf
  obtain ⟨⟨⟨h1, h2⟩, rfl⟩, h4⟩ := hf
  exact am_rw_go h (fun v M' K hk => ⟨h1, h2, by unfold am_fv; rw [if_pos h4]; exact hk⟩) k
theorem am_r_getR {q n t : Nat} (h : am_lk P pc = some (.getfield n, len)) (e : pc + len = pc') (hf : am_okR q n t = true) (k : am_rw sL xs d P rt pc' lv (.ref t :: r) M Q) : am_rw sL xs d P rt pc lv (.ref q :: r) M Q := by
  subst e
  simp only [am_okR, Bool.and_eq_true, decide_eq_true_eq] at hf
  obtain ⟨⟨h1, h2⟩, h4⟩ := hf
  exact am_rw_go h (fun v M' K hk => ⟨h1, h2, by unfold am_fv; rw [if_neg (by omega), h4]; exact hk⟩) k
theorem am_r_putI {q n f : Nat} {x : Int32} (h : am_lk P pc = some (.putfield n, len)) (e : pc + len = pc') (hf : am_okI q n f = true) (hz : am_tyq (n / 64) (n % 64) ≠ .boolean) (k : am_rw sL xs d P rt pc' lv r (am_upI M q f x) Q) : am_rw sL xs d P rt pc lv (.int x :: .ref q :: r) M Q := by
  subst e
  simp only [am_okI, Bool.and_eq_true, decide_eq_true_eq] at hf
  obtain ⟨⟨⟨h1, h2⟩, rfl⟩, h4⟩ := hf
  exact am_rw_go h (fun v M' K hk => ⟨h1, h2, h4, fun q => absurd q hz, hk⟩) k
theorem am_r_putZ {q n f : Nat} {x : Int32} (h : am_lk P pc = some (.putfield n, len)) (e : pc + len = pc') (hf : am_okI q n f = true) (hz : x = 0 ∨ x = 1) (k : am_rw sL xs d P rt pc' lv r (am_upI M q f x) Q) : am_rw sL xs d P rt pc lv (.int x :: .ref q :: r) M Q := by
  subst e
  simp only [am_okI, Bool.and_eq_true, decide_eq_true_eq] at hf
  obtain ⟨⟨⟨h1, h2⟩, rfl⟩, h4⟩ := hf
  exact am_rw_go h (fun v M' K hk => ⟨h1, h2, h4, fun _ => hz, hk⟩) k
theorem am_r_gets {n : Nat} (h : am_lk P pc = some (.getstatic n, len)) (e : pc + len = pc') (k : am_rw sL xs d P rt pc' lv (.ref n :: r) M Q) : am_rw sL xs d P rt pc lv r M Q := by
  subst e
  exact am_rw_go h (fun v M' K hk => hk) k
theorem am_okA_ne {q a n : Nat} (h : am_okA q a n = true) : q ≠ 900 ∧ q ≠ 901 ∧ q ≠ 902 := by
  simp only [am_okA, Bool.and_eq_true, decide_eq_true_eq] at h
  have := h.2
  simp only [am_K] at this
  omega
theorem am_i4_of {q n : Nat} {i : Int32} {M : Am_M} {f : Int32 → Prop} (hf : am_okA q 0 n = true) (hi : vp_in i n) (h : f (M.1 q i.toNatClampNeg)) : am_i4 am_K q i sL xs M f := by
  have hn := am_okA_ne hf
  simp only [am_okA, Bool.and_eq_true, decide_eq_true_eq] at hf
  unfold am_i4
  rw [if_neg hn.1, if_neg hn.2.1, if_neg hn.2.2, hf.1]
  exact ⟨rfl, hf.2, hi, h⟩
theorem am_r_iald {q n : Nat} {i x : Int32} (h : am_lk P pc = some (.iaload, len)) (e : pc + len = pc') (hf : am_okA q 0 n = true) (hi : vp_in i n) (hx : M.1 q i.toNatClampNeg = x) (k : am_rw sL xs d P rt pc' lv (.int x :: r) M Q) : am_rw sL xs d P rt pc lv (.int i :: .ref q :: r) M Q := by
  subst e
  subst hx
  exact am_rw_go h (fun v M' K hk => am_i4_of (M := M) (f := fun x => K (pc + len) lv (.int x :: r) M) hf hi hk) k
theorem am_r_iaZ {q n : Nat} {a : Int} (h : am_lk P pc = some (.iaload, len)) (e : pc + len = pc') (hf : am_okA q 0 n = true) (hi : 0 ≤ a ∧ a < n) (hn : n ≤ 1000000000) (k : am_rw sL xs d P rt pc' lv (.int (M.1 q a.toNat) :: r) M Q) : am_rw sL xs d P rt pc lv (.int (z_I a) :: .ref q :: r) M Q := by
  subst e
  exact am_rw_go h (fun v M' K hk => am_i4_of (M := M) (f := fun x => K (pc + len) lv (.int x :: r) M) hf (z_in hi hn) (by rw [z_cl (by omega)]; exact hk)) k
theorem am_r_iaZv {q n : Nat} {a : Int} {x : Int32} (h : am_lk P pc = some (.iaload, len)) (e : pc + len = pc') (hf : am_okA q 0 n = true) (hn : n ≤ 1000000000) (hx : M.1 q a.toNat = x) (k : am_rw sL xs d P rt pc' lv (.int x :: r) M Q) (hi : 0 ≤ a ∧ a < n := by omega) : am_rw sL xs d P rt pc lv (.int (z_I a) :: .ref q :: r) M Q := by
  subst e
  subst hx
  exact am_rw_go h (fun v M' K hk => am_i4_of (M := M) (f := fun x => K (pc + len) lv (.int x :: r) M) hf (z_in hi hn) (by rw [z_cl (by omega)]; exact hk)) k
theorem am_r_iast {q n : Nat} {a : Int} {x : Int32} (h : am_lk P pc = some (.iastore, len)) (e : pc + len = pc') (hf : am_okA q 0 n = true) (hn : n ≤ 1000000000) (k : am_rw sL xs d P rt pc' lv r (am_upI M q a.toNat x) Q) (hi : 0 ≤ a ∧ a < n := by omega) : am_rw sL xs d P rt pc lv (.int x :: .int (z_I a) :: .ref q :: r) M Q := by
  subst e
  simp only [am_okA, Bool.and_eq_true, decide_eq_true_eq] at hf
  exact am_rw_go h (fun v M' K hk => ⟨by rw [hf.1], hf.2, by rw [hf.1]; exact z_in hi hn, by rw [z_cl (by omega)]; exact hk⟩) k
theorem am_r_laZv {q n : Nat} {a : Int} {x : Int64} (h : am_lk P pc = some (.laload, len)) (e : pc + len = pc') (hf : am_okA q 1 n = true) (hn : n ≤ 1000000000) (hx : M.2 q a.toNat = x) (k : am_rw sL xs d P rt pc' lv (.long x :: r) M Q) (hi : 0 ≤ a ∧ a < n := by omega) : am_rw sL xs d P rt pc lv (.int (z_I a) :: .ref q :: r) M Q := by
  subst e
  subst hx
  simp only [am_okA, Bool.and_eq_true, decide_eq_true_eq] at hf
  exact am_rw_go h (fun v M' K hk => ⟨by rw [hf.1], hf.2, by rw [hf.1]; exact z_in hi hn, by rw [z_cl (by omega)]; exact hk⟩) k
theorem am_r_last {q n : Nat} {a : Int} {x : Int64} (h : am_lk P pc = some (.lastore, len)) (e : pc + len = pc') (hf : am_okA q 1 n = true) (hn : n ≤ 1000000000) (k : am_rw sL xs d P rt pc' lv r (am_upL M q a.toNat x) Q) (hi : 0 ≤ a ∧ a < n := by omega) : am_rw sL xs d P rt pc lv (.long x :: .int (z_I a) :: .ref q :: r) M Q := by
  subst e
  simp only [am_okA, Bool.and_eq_true, decide_eq_true_eq] at hf
  exact am_rw_go h (fun v M' K hk => ⟨by rw [hf.1], hf.2, by rw [hf.1]; exact z_in hi hn, by rw [z_cl (by omega)]; exact hk⟩) k
theorem am_r_aaZ {q n t : Nat} {a : Int} (h : am_lk P pc = some (.aaload, len)) (e : pc + len = pc') (hf : (am_okA q 2 n || am_okA q 4 n) = true) (hb : am_rb q = t) (hn : n ≤ 1000000000) (k : am_rw sL xs d P rt pc' lv (.ref (t + a.toNat) :: r) M Q) (hi : 0 ≤ a ∧ a < n := by omega) : am_rw sL xs d P rt pc lv (.int (z_I a) :: .ref q :: r) M Q := by
  subst e
  subst hb
  simp only [am_okA, Bool.or_eq_true, Bool.and_eq_true, decide_eq_true_eq] at hf
  exact am_rw_go h (fun v M' K hk => ⟨by rcases hf with hf | hf <;> rw [hf.1] <;> simp, by rcases hf with hf | hf <;> exact hf.2, by rcases hf with hf | hf <;> rw [hf.1] <;> exact z_in hi hn, by rw [z_cl (by omega)]; exact hk⟩) k
theorem am_r_alen {q n : Nat} {z : Int} (h : am_lk P pc = some (.arraylength, len)) (e : pc + len = pc') (hf : am_okA q 0 n = true) (hz : Int32.ofNat n = z_I z) (k : am_rw sL xs d P rt pc' lv (.int (z_I z) :: r) M Q) : am_rw sL xs d P rt pc lv (.ref q :: r) M Q := by
  subst e
  have hn := am_okA_ne hf
  simp only [am_okA, Bool.and_eq_true, decide_eq_true_eq] at hf
  exact am_rw_go h (fun v M' K hk => (by show (if q = 900 then _ else _); rw [if_neg hn.1, hf.1, hz]; exact ⟨rfl, hf.2, hk⟩)) k
theorem am_r_stA {a : Int} {x : Int32} (h : am_lk P pc = some (.iaload, len)) (e : pc + len = pc') (hx : am_fA a.toNat = x) (k : am_rw sL xs d P rt pc' lv (.int x :: r) M Q) (hi : 0 ≤ a ∧ a < 8 := by omega) : am_rw sL xs d P rt pc lv (.int (z_I a) :: .ref 901 :: r) M Q := by
  subst e
  subst hx
  exact am_rw_go h (fun v M' K hk => (by have z : am_i4 am_K 901 (z_I a) sL xs M (fun x => K (pc + len) lv (.int x :: r) M) := (by unfold am_i4; rw [if_neg (by decide), if_pos rfl]; exact ⟨z_in hi (by decide), by rw [z_cl (by omega)]; exact hk⟩); exact z)) k
theorem am_r_stO {a : Int} {x : Int32} (h : am_lk P pc = some (.iaload, len)) (e : pc + len = pc') (hx : am_fO a.toNat = x) (k : am_rw sL xs d P rt pc' lv (.int x :: r) M Q) (hi : 0 ≤ a ∧ a < 32 := by omega) : am_rw sL xs d P rt pc lv (.int (z_I a) :: .ref 902 :: r) M Q := by
  subst e
  subst hx
  exact am_rw_go h (fun v M' K hk => (by have z : am_i4 am_K 902 (z_I a) sL xs M (fun x => K (pc + len) lv (.int x :: r) M) := (by unfold am_i4; rw [if_neg (by decide), if_neg (by decide), if_pos rfl]; exact ⟨z_in hi (by decide), by rw [z_cl (by omega)]; exact hk⟩); exact z)) k
theorem am_r_absZ {a : Int} (h : am_lk P pc = some (.invokespecial 0, len)) (e : pc + len = pc') (hc : am_cat r ≤ 8) (k : am_rw sL xs d P rt pc' lv (.int (z_I (if 0 ≤ a then a else -a)) :: r) M Q) (ha : -2147483648 ≤ a ∧ a < 2147483648 := by omega) : am_rw sL xs d P rt pc lv (.int (z_I a) :: r) M Q := by
  subst e
  exact am_rw_go h (fun v M' K hk => (by refine ⟨hc, ?_⟩; have e : (if 0 ≤ z_I a then z_I a else 0 - z_I a) = z_I (if 0 ≤ a then a else -a) := (by have e2 : (0 ≤ z_I a) = (0 ≤ a) := propext (z_le (a := 0) (by omega) ha); have e3 : (0 : Int32) - z_I a = z_I (-a) := (by have := z_sub 0 a; rw [show (0 : Int) - a = -a by omega] at this; exact this); simp only [e2, e3]; split <;> rfl); rw [e]; exact hk)) k
theorem am_r_minZ {a b : Int} (h : am_lk P pc = some (.invokespecial 1, len)) (e : pc + len = pc') (hc : am_cat r ≤ 8) (k : am_rw sL xs d P rt pc' lv (.int (z_I (min a b)) :: r) M Q) (ha : -2147483648 ≤ a ∧ a < 2147483648 := by omega) (hb : -2147483648 ≤ b ∧ b < 2147483648 := by omega) : am_rw sL xs d P rt pc lv (.int (z_I b) :: .int (z_I a) :: r) M Q := by
  subst e
  exact am_rw_go h (fun v M' K hk => (by refine ⟨hc, ?_⟩; have e : (if z_I b < z_I a then z_I b else z_I a) = z_I (min a b) := (by simp only [propext (z_lt hb ha)]; split <;> congr 1 <;> omega); rw [e]; exact hk)) k
theorem am_r_maxZ {a b : Int} (h : am_lk P pc = some (.invokespecial 2, len)) (e : pc + len = pc') (hc : am_cat r ≤ 8) (k : am_rw sL xs d P rt pc' lv (.int (z_I (max a b)) :: r) M Q) (ha : -2147483648 ≤ a ∧ a < 2147483648 := by omega) (hb : -2147483648 ≤ b ∧ b < 2147483648 := by omega) : am_rw sL xs d P rt pc lv (.int (z_I b) :: .int (z_I a) :: r) M Q := by
  subst e
  exact am_rw_go h (fun v M' K hk => (by refine ⟨hc, ?_⟩; have e : (if z_I a < z_I b then z_I b else z_I a) = z_I (max a b) := (by simp only [propext (z_lt ha hb)]; split <;> congr 1 <;> omega); rw [e]; exact hk)) k
theorem am_r_minL {a b : Int} (h : am_lk P pc = some (.invokespecial 3, len)) (e : pc + len = pc') (hc : am_cat r ≤ 8) (k : am_rw sL xs d P rt pc' lv (.long (z_L (min a b)) :: r) M Q) (ha : -9223372036854775808 ≤ a ∧ a < 9223372036854775808 := by omega) (hb : -9223372036854775808 ≤ b ∧ b < 9223372036854775808 := by omega) : am_rw sL xs d P rt pc lv (.long (z_L b) :: .long (z_L a) :: r) M Q := by
  subst e
  exact am_rw_go h (fun v M' K hk => (by refine ⟨hc, ?_⟩; have e : (if z_L b < z_L a then z_L b else z_L a) = z_L (min a b) := (by simp only [propext (z_ltL hb ha)]; split <;> congr 1 <;> omega); rw [e]; exact hk)) k
theorem am_r_minR {x y : Int32} (h : am_lk P pc = some (.invokespecial 1, len)) (e : pc + len = pc') (hc : am_cat r ≤ 8) (k : am_rw sL xs d P rt pc' lv (.int (if y < x then y else x) :: r) M Q) : am_rw sL xs d P rt pc lv (.int y :: .int x :: r) M Q := by
  subst e
  exact am_rw_go h (fun v M' K hk => ⟨hc, hk⟩) k
theorem am_r_maxR {x y : Int32} (h : am_lk P pc = some (.invokespecial 2, len)) (e : pc + len = pc') (hc : am_cat r ≤ 8) (k : am_rw sL xs d P rt pc' lv (.int (if x < y then y else x) :: r) M Q) : am_rw sL xs d P rt pc lv (.int y :: .int x :: r) M Q := by
  subst e
  exact am_rw_go h (fun v M' K hk => ⟨hc, hk⟩) k
theorem am_rw_br {st st2 : List Value} {i : Instr} {pt pf : Nat} {c : Prop} (h : am_lk P pc = some (i, len)) (hs : ∀ (v : Option Value) (M' : Am_M) (K : Nat → List Value → List Value → Am_M → Prop), (c → K pt lv st2 M) → (¬ c → K pf lv st2 M) → am_stp am_mt (am_bg sL xs d) sL xs rt v M' i (pc + len) lv st M K) (kt : c → am_rw sL xs d P rt pt lv st2 M Q) (kf : ¬ c → am_rw sL xs d P rt pf lv st2 M Q) : am_rw sL xs d P rt pc lv st M Q := by
  by_cases hc : c
  · obtain ⟨n, v, M', hr, hq⟩ := kt hc
    refine ⟨n + 1, v, M', ?_, hq⟩
    unfold am_run
    rw [h]
    exact hs v M' _ (fun _ => hr) (fun q => absurd hc q)
  · obtain ⟨n, v, M', hr, hq⟩ := kf hc
    refine ⟨n + 1, v, M', ?_, hq⟩
    unfold am_run
    rw [h]
    exact hs v M' _ (fun q => absurd q hc) (fun _ => hr)
theorem am_r_icmp_eqR {t : Int} {pt pf : Nat} {x y : Int32} (h : am_lk P pc = some (.if_icmp .eq t, len)) (e : pc + len = pf) (e2 : t.toNat = pt) (kt : x = y → am_rw sL xs d P rt pt lv r M Q) (kf : ¬ (x = y) → am_rw sL xs d P rt pf lv r M Q) : am_rw sL xs d P rt pc lv (.int y :: .int x :: r) M Q := by
  subst e e2
  exact am_rw_br h (fun v M' K k1 k2 => ⟨k1, k2⟩) kt kf
theorem am_r_if_eqR {t : Int} {pt pf : Nat} {x : Int32} (h : am_lk P pc = some (.ifCond .eq t, len)) (e : pc + len = pf) (e2 : t.toNat = pt) (kt : x = 0 → am_rw sL xs d P rt pt lv r M Q) (kf : ¬ (x = 0) → am_rw sL xs d P rt pf lv r M Q) : am_rw sL xs d P rt pc lv (.int x :: r) M Q := by
  subst e e2
  exact am_rw_br h (fun v M' K k1 k2 => ⟨k1, k2⟩) kt kf
theorem am_r_icmp_eq {t : Int} {pt pf : Nat} {a b : Int} (h : am_lk P pc = some (.if_icmp .eq t, len)) (e : pc + len = pf) (e2 : t.toNat = pt) (kt : a = b → am_rw sL xs d P rt pt lv r M Q) (kf : ¬ a = b → am_rw sL xs d P rt pf lv r M Q) (ha : -2147483648 ≤ a ∧ a < 2147483648 := by omega) (hb : -2147483648 ≤ b ∧ b < 2147483648 := by omega) : am_rw sL xs d P rt pc lv (.int (z_I b) :: .int (z_I a) :: r) M Q := am_r_icmp_eqR h e e2 (fun q => kt ((z_eq ha hb).mp q)) (fun q => kf (fun z => q ((z_eq ha hb).mpr z)))
theorem am_r_if_eq {t : Int} {pt pf : Nat} {a : Int} (h : am_lk P pc = some (.ifCond .eq t, len)) (e : pc + len = pf) (e2 : t.toNat = pt) (kt : a = 0 → am_rw sL xs d P rt pt lv r M Q) (kf : ¬ a = 0 → am_rw sL xs d P rt pf lv r M Q) (ha : -2147483648 ≤ a ∧ a < 2147483648 := by omega) : am_rw sL xs d P rt pc lv (.int (z_I a) :: r) M Q := am_r_if_eqR h e e2 (fun q => kt ((z_eq ha (show (-2147483648 : Int) ≤ 0 ∧ (0 : Int) < 2147483648 by omega)).mp q)) (fun q => kf (fun z => q ((z_eq ha (show (-2147483648 : Int) ≤ 0 ∧ (0 : Int) < 2147483648 by omega)).mpr z)))
theorem am_r_icmp_neR {t : Int} {pt pf : Nat} {x y : Int32} (h : am_lk P pc = some (.if_icmp .ne t, len)) (e : pc + len = pf) (e2 : t.toNat = pt) (kt : ¬ x = y → am_rw sL xs d P rt pt lv r M Q) (kf : ¬ (¬ x = y) → am_rw sL xs d P rt pf lv r M Q) : am_rw sL xs d P rt pc lv (.int y :: .int x :: r) M Q := by
  subst e e2
  exact am_rw_br h (fun v M' K k1 k2 => ⟨k1, k2⟩) kt kf
theorem am_r_if_neR {t : Int} {pt pf : Nat} {x : Int32} (h : am_lk P pc = some (.ifCond .ne t, len)) (e : pc + len = pf) (e2 : t.toNat = pt) (kt : ¬ x = 0 → am_rw sL xs d P rt pt lv r M Q) (kf : ¬ (¬ x = 0) → am_rw sL xs d P rt pf lv r M Q) : am_rw sL xs d P rt pc lv (.int x :: r) M Q := by
  subst e e2
  exact am_rw_br h (fun v M' K k1 k2 => ⟨k1, k2⟩) kt kf
theorem am_r_icmp_ne {t : Int} {pt pf : Nat} {a b : Int} (h : am_lk P pc = some (.if_icmp .ne t, len)) (e : pc + len = pf) (e2 : t.toNat = pt) (kt : ¬ a = b → am_rw sL xs d P rt pt lv r M Q) (kf : a = b → am_rw sL xs d P rt pf lv r M Q) (ha : -2147483648 ≤ a ∧ a < 2147483648 := by omega) (hb : -2147483648 ≤ b ∧ b < 2147483648 := by omega) : am_rw sL xs d P rt pc lv (.int (z_I b) :: .int (z_I a) :: r) M Q := am_r_icmp_neR h e e2 (fun q => kt (fun z => q ((z_eq ha hb).mpr z))) (fun q => kf ((z_eq ha hb).mp (Classical.not_not.mp q)))
theorem am_r_if_ne {t : Int} {pt pf : Nat} {a : Int} (h : am_lk P pc = some (.ifCond .ne t, len)) (e : pc + len = pf) (e2 : t.toNat = pt) (kt : ¬ a = 0 → am_rw sL xs d P rt pt lv r M Q) (kf : a = 0 → am_rw sL xs d P rt pf lv r M Q) (ha : -2147483648 ≤ a ∧ a < 2147483648 := by omega) : am_rw sL xs d P rt pc lv (.int (z_I a) :: r) M Q := am_r_if_neR h e e2 (fun q => kt (fun z => q ((z_eq ha (show (-2147483648 : Int) ≤ 0 ∧ (0 : Int) < 2147483648 by omega)).mpr z))) (fun q => kf ((z_eq ha (show (-2147483648 : Int) ≤ 0 ∧ (0 : Int) < 2147483648 by omega)).mp (Classical.not_not.mp q)))
theorem am_r_icmp_ltR {t : Int} {pt pf : Nat} {x y : Int32} (h : am_lk P pc = some (.if_icmp .lt t, len)) (e : pc + len = pf) (e2 : t.toNat = pt) (kt : x < y → am_rw sL xs d P rt pt lv r M Q) (kf : ¬ (x < y) → am_rw sL xs d P rt pf lv r M Q) : am_rw sL xs d P rt pc lv (.int y :: .int x :: r) M Q := by
  subst e e2
  exact am_rw_br h (fun v M' K k1 k2 => ⟨k1, k2⟩) kt kf
theorem am_r_if_ltR {t : Int} {pt pf : Nat} {x : Int32} (h : am_lk P pc = some (.ifCond .lt t, len)) (e : pc + len = pf) (e2 : t.toNat = pt) (kt : x < 0 → am_rw sL xs d P rt pt lv r M Q) (kf : ¬ (x < 0) → am_rw sL xs d P rt pf lv r M Q) : am_rw sL xs d P rt pc lv (.int x :: r) M Q := by
  subst e e2
  exact am_rw_br h (fun v M' K k1 k2 => ⟨k1, k2⟩) kt kf
theorem am_r_icmp_lt {t : Int} {pt pf : Nat} {a b : Int} (h : am_lk P pc = some (.if_icmp .lt t, len)) (e : pc + len = pf) (e2 : t.toNat = pt) (kt : a < b → am_rw sL xs d P rt pt lv r M Q) (kf : b ≤ a → am_rw sL xs d P rt pf lv r M Q) (ha : -2147483648 ≤ a ∧ a < 2147483648 := by omega) (hb : -2147483648 ≤ b ∧ b < 2147483648 := by omega) : am_rw sL xs d P rt pc lv (.int (z_I b) :: .int (z_I a) :: r) M Q := am_r_icmp_ltR h e e2 (fun q => kt ((z_lt ha hb).mp q)) (fun q => kf (by have := mt (z_lt ha hb).mpr q; omega))
theorem am_r_if_lt {t : Int} {pt pf : Nat} {a : Int} (h : am_lk P pc = some (.ifCond .lt t, len)) (e : pc + len = pf) (e2 : t.toNat = pt) (kt : a < 0 → am_rw sL xs d P rt pt lv r M Q) (kf : 0 ≤ a → am_rw sL xs d P rt pf lv r M Q) (ha : -2147483648 ≤ a ∧ a < 2147483648 := by omega) : am_rw sL xs d P rt pc lv (.int (z_I a) :: r) M Q := am_r_if_ltR h e e2 (fun q => kt ((z_lt ha (show (-2147483648 : Int) ≤ 0 ∧ (0 : Int) < 2147483648 by omega)).mp q)) (fun q => kf (by have := mt (z_lt ha (show (-2147483648 : Int) ≤ 0 ∧ (0 : Int) < 2147483648 by omega)).mpr q; omega))
theorem am_r_icmp_geR {t : Int} {pt pf : Nat} {x y : Int32} (h : am_lk P pc = some (.if_icmp .ge t, len)) (e : pc + len = pf) (e2 : t.toNat = pt) (kt : y ≤ x → am_rw sL xs d P rt pt lv r M Q) (kf : ¬ (y ≤ x) → am_rw sL xs d P rt pf lv r M Q) : am_rw sL xs d P rt pc lv (.int y :: .int x :: r) M Q := by
  subst e e2
  exact am_rw_br h (fun v M' K k1 k2 => ⟨k1, k2⟩) kt kf
theorem am_r_if_geR {t : Int} {pt pf : Nat} {x : Int32} (h : am_lk P pc = some (.ifCond .ge t, len)) (e : pc + len = pf) (e2 : t.toNat = pt) (kt : 0 ≤ x → am_rw sL xs d P rt pt lv r M Q) (kf : ¬ (0 ≤ x) → am_rw sL xs d P rt pf lv r M Q) : am_rw sL xs d P rt pc lv (.int x :: r) M Q := by
  subst e e2
  exact am_rw_br h (fun v M' K k1 k2 => ⟨k1, k2⟩) kt kf
theorem am_r_icmp_ge {t : Int} {pt pf : Nat} {a b : Int} (h : am_lk P pc = some (.if_icmp .ge t, len)) (e : pc + len = pf) (e2 : t.toNat = pt) (kt : b ≤ a → am_rw sL xs d P rt pt lv r M Q) (kf : a < b → am_rw sL xs d P rt pf lv r M Q) (ha : -2147483648 ≤ a ∧ a < 2147483648 := by omega) (hb : -2147483648 ≤ b ∧ b < 2147483648 := by omega) : am_rw sL xs d P rt pc lv (.int (z_I b) :: .int (z_I a) :: r) M Q := am_r_icmp_geR h e e2 (fun q => kt ((z_le hb ha).mp q)) (fun q => kf (by have := mt (z_le hb ha).mpr q; omega))
theorem am_r_if_ge {t : Int} {pt pf : Nat} {a : Int} (h : am_lk P pc = some (.ifCond .ge t, len)) (e : pc + len = pf) (e2 : t.toNat = pt) (kt : 0 ≤ a → am_rw sL xs d P rt pt lv r M Q) (kf : a < 0 → am_rw sL xs d P rt pf lv r M Q) (ha : -2147483648 ≤ a ∧ a < 2147483648 := by omega) : am_rw sL xs d P rt pc lv (.int (z_I a) :: r) M Q := am_r_if_geR h e e2 (fun q => kt ((z_le (show (-2147483648 : Int) ≤ 0 ∧ (0 : Int) < 2147483648 by omega) ha).mp q)) (fun q => kf (by have := mt (z_le (show (-2147483648 : Int) ≤ 0 ∧ (0 : Int) < 2147483648 by omega) ha).mpr q; omega))
theorem am_r_icmp_gtR {t : Int} {pt pf : Nat} {x y : Int32} (h : am_lk P pc = some (.if_icmp .gt t, len)) (e : pc + len = pf) (e2 : t.toNat = pt) (kt : y < x → am_rw sL xs d P rt pt lv r M Q) (kf : ¬ (y < x) → am_rw sL xs d P rt pf lv r M Q) : am_rw sL xs d P rt pc lv (.int y :: .int x :: r) M Q := by
  subst e e2
  exact am_rw_br h (fun v M' K k1 k2 => ⟨k1, k2⟩) kt kf
theorem am_r_if_gtR {t : Int} {pt pf : Nat} {x : Int32} (h : am_lk P pc = some (.ifCond .gt t, len)) (e : pc + len = pf) (e2 : t.toNat = pt) (kt : 0 < x → am_rw sL xs d P rt pt lv r M Q) (kf : ¬ (0 < x) → am_rw sL xs d P rt pf lv r M Q) : am_rw sL xs d P rt pc lv (.int x :: r) M Q := by
  subst e e2
  exact am_rw_br h (fun v M' K k1 k2 => ⟨k1, k2⟩) kt kf
theorem am_r_icmp_gt {t : Int} {pt pf : Nat} {a b : Int} (h : am_lk P pc = some (.if_icmp .gt t, len)) (e : pc + len = pf) (e2 : t.toNat = pt) (kt : b < a → am_rw sL xs d P rt pt lv r M Q) (kf : a ≤ b → am_rw sL xs d P rt pf lv r M Q) (ha : -2147483648 ≤ a ∧ a < 2147483648 := by omega) (hb : -2147483648 ≤ b ∧ b < 2147483648 := by omega) : am_rw sL xs d P rt pc lv (.int (z_I b) :: .int (z_I a) :: r) M Q := am_r_icmp_gtR h e e2 (fun q => kt ((z_lt hb ha).mp q)) (fun q => kf (by have := mt (z_lt hb ha).mpr q; omega))
theorem am_r_if_gt {t : Int} {pt pf : Nat} {a : Int} (h : am_lk P pc = some (.ifCond .gt t, len)) (e : pc + len = pf) (e2 : t.toNat = pt) (kt : 0 < a → am_rw sL xs d P rt pt lv r M Q) (kf : a ≤ 0 → am_rw sL xs d P rt pf lv r M Q) (ha : -2147483648 ≤ a ∧ a < 2147483648 := by omega) : am_rw sL xs d P rt pc lv (.int (z_I a) :: r) M Q := am_r_if_gtR h e e2 (fun q => kt ((z_lt (show (-2147483648 : Int) ≤ 0 ∧ (0 : Int) < 2147483648 by omega) ha).mp q)) (fun q => kf (by have := mt (z_lt (show (-2147483648 : Int) ≤ 0 ∧ (0 : Int) < 2147483648 by omega) ha).mpr q; omega))
theorem am_r_icmp_leR {t : Int} {pt pf : Nat} {x y : Int32} (h : am_lk P pc = some (.if_icmp .le t, len)) (e : pc + len = pf) (e2 : t.toNat = pt) (kt : x ≤ y → am_rw sL xs d P rt pt lv r M Q) (kf : ¬ (x ≤ y) → am_rw sL xs d P rt pf lv r M Q) : am_rw sL xs d P rt pc lv (.int y :: .int x :: r) M Q := by
  subst e e2
  exact am_rw_br h (fun v M' K k1 k2 => ⟨k1, k2⟩) kt kf
theorem am_r_if_leR {t : Int} {pt pf : Nat} {x : Int32} (h : am_lk P pc = some (.ifCond .le t, len)) (e : pc + len = pf) (e2 : t.toNat = pt) (kt : x ≤ 0 → am_rw sL xs d P rt pt lv r M Q) (kf : ¬ (x ≤ 0) → am_rw sL xs d P rt pf lv r M Q) : am_rw sL xs d P rt pc lv (.int x :: r) M Q := by
  subst e e2
  exact am_rw_br h (fun v M' K k1 k2 => ⟨k1, k2⟩) kt kf
theorem am_r_icmp_le {t : Int} {pt pf : Nat} {a b : Int} (h : am_lk P pc = some (.if_icmp .le t, len)) (e : pc + len = pf) (e2 : t.toNat = pt) (kt : a ≤ b → am_rw sL xs d P rt pt lv r M Q) (kf : b < a → am_rw sL xs d P rt pf lv r M Q) (ha : -2147483648 ≤ a ∧ a < 2147483648 := by omega) (hb : -2147483648 ≤ b ∧ b < 2147483648 := by omega) : am_rw sL xs d P rt pc lv (.int (z_I b) :: .int (z_I a) :: r) M Q := am_r_icmp_leR h e e2 (fun q => kt ((z_le ha hb).mp q)) (fun q => kf (by have := mt (z_le ha hb).mpr q; omega))
theorem am_r_if_le {t : Int} {pt pf : Nat} {a : Int} (h : am_lk P pc = some (.ifCond .le t, len)) (e : pc + len = pf) (e2 : t.toNat = pt) (kt : a ≤ 0 → am_rw sL xs d P rt pt lv r M Q) (kf : 0 < a → am_rw sL xs d P rt pf lv r M Q) (ha : -2147483648 ≤ a ∧ a < 2147483648 := by omega) : am_rw sL xs d P rt pc lv (.int (z_I a) :: r) M Q := am_r_if_leR h e e2 (fun q => kt ((z_le ha (show (-2147483648 : Int) ≤ 0 ∧ (0 : Int) < 2147483648 by omega)).mp q)) (fun q => kf (by have := mt (z_le ha (show (-2147483648 : Int) ≤ 0 ∧ (0 : Int) < 2147483648 by omega)).mpr q; omega))
theorem am_r_if_eqB {t : Int} {pt pf : Nat} {c : Prop} [Decidable c] (h : am_lk P pc = some (.ifCond .eq t, len)) (e : pc + len = pf) (e2 : t.toNat = pt) (kt : ¬ c → am_rw sL xs d P rt pt lv r M Q) (kf : c → am_rw sL xs d P rt pf lv r M Q) : am_rw sL xs d P rt pc lv (.int (z_b c) :: r) M Q := am_r_if_eqR h e e2 (fun q => kt (z_b_0.mp q)) (fun q => kf (Classical.not_not.mp (fun z => q (z_b_0.mpr z))))
theorem am_r_if_neB {t : Int} {pt pf : Nat} {c : Prop} [Decidable c] (h : am_lk P pc = some (.ifCond .ne t, len)) (e : pc + len = pf) (e2 : t.toNat = pt) (kt : c → am_rw sL xs d P rt pt lv r M Q) (kf : ¬ c → am_rw sL xs d P rt pf lv r M Q) : am_rw sL xs d P rt pc lv (.int (z_b c) :: r) M Q := am_r_if_neR h e e2 (fun q => kt (Classical.not_not.mp (fun z => q (z_b_0.mpr z)))) (fun q => kf (fun z => q (fun w => (z_b_0.mp w) z)))
def am_cmp (a b : Int) : Int := if a < b then -1 else if a = b then 0 else 1
theorem am_cmp_of {a b : Int} (ha : -9223372036854775808 ≤ a ∧ a < 9223372036854775808) (hb : -9223372036854775808 ≤ b ∧ b < 9223372036854775808) : lg_cmp (z_L a) (z_L b) = z_I (am_cmp a b) := by
  unfold lg_cmp am_cmp
  simp only [propext (z_ltL hb ha), propext (z_ltL ha hb), propext (z_eqL ha hb)]
  repeat' split
  all_goals first | rfl | (exfalso; omega)
theorem am_r_lcmp {a b : Int} (h : am_lk P pc = some (.lcmp, len)) (e : pc + len = pc') (k : am_rw sL xs d P rt pc' lv (.int (z_I (am_cmp a b)) :: r) M Q) (ha : -9223372036854775808 ≤ a ∧ a < 9223372036854775808 := by omega) (hb : -9223372036854775808 ≤ b ∧ b < 9223372036854775808 := by omega) : am_rw sL xs d P rt pc lv (.long (z_L b) :: .long (z_L a) :: r) M Q := by
  subst e
  exact am_rw_go h (fun v M' K hk => by show K _ _ (.int (lg_cmp (z_L a) (z_L b)) :: r) _; rw [am_cmp_of ha hb]; exact hk) k
theorem am_r_lcmpR {x y : Int64} (h : am_lk P pc = some (.lcmp, len)) (e : pc + len = pc') (k : am_rw sL xs d P rt pc' lv (.int (lg_cmp x y) :: r) M Q) : am_rw sL xs d P rt pc lv (.long y :: .long x :: r) M Q := by
  subst e
  exact am_rw_go h (fun v M' K hk => hk) k
theorem am_cmp_b (a b : Int) : -2147483648 ≤ am_cmp a b ∧ am_cmp a b < 2147483648 := by
  unfold am_cmp
  repeat' split
  all_goals omega
theorem am_cmp_lt (a b : Int) : am_cmp a b < 0 ↔ a < b := by
  unfold am_cmp
  repeat' split
  all_goals omega
theorem am_cmp_eq (a b : Int) : am_cmp a b = 0 ↔ a = b := by
  unfold am_cmp
  repeat' split
  all_goals omega
theorem am_cmp_gt (a b : Int) : 0 < am_cmp a b ↔ b < a := by
  unfold am_cmp
  repeat' split
  all_goals omega
theorem am_r_lif_eq {t : Int} {pt pf : Nat} {a b : Int} (h : am_lk P pc = some (.ifCond .eq t, len)) (e : pc + len = pf) (e2 : t.toNat = pt) (kt : a = b → am_rw sL xs d P rt pt lv r M Q) (kf : ¬ a = b → am_rw sL xs d P rt pf lv r M Q) : am_rw sL xs d P rt pc lv (.int (z_I (am_cmp a b)) :: r) M Q := am_r_if_eq h e e2 (fun q => kt (by have h1 := am_cmp_lt a b; have h2 := am_cmp_eq a b; have h3 := am_cmp_gt a b; omega)) (fun q => kf (by have h1 := am_cmp_lt a b; have h2 := am_cmp_eq a b; have h3 := am_cmp_gt a b; omega)) (am_cmp_b a b)
theorem am_r_lif_ne {t : Int} {pt pf : Nat} {a b : Int} (h : am_lk P pc = some (.ifCond .ne t, len)) (e : pc + len = pf) (e2 : t.toNat = pt) (kt : ¬ a = b → am_rw sL xs d P rt pt lv r M Q) (kf : a = b → am_rw sL xs d P rt pf lv r M Q) : am_rw sL xs d P rt pc lv (.int (z_I (am_cmp a b)) :: r) M Q := am_r_if_ne h e e2 (fun q => kt (by have h1 := am_cmp_lt a b; have h2 := am_cmp_eq a b; have h3 := am_cmp_gt a b; omega)) (fun q => kf (by have h1 := am_cmp_lt a b; have h2 := am_cmp_eq a b; have h3 := am_cmp_gt a b; omega)) (am_cmp_b a b)
theorem am_r_lif_lt {t : Int} {pt pf : Nat} {a b : Int} (h : am_lk P pc = some (.ifCond .lt t, len)) (e : pc + len = pf) (e2 : t.toNat = pt) (kt : a < b → am_rw sL xs d P rt pt lv r M Q) (kf : b ≤ a → am_rw sL xs d P rt pf lv r M Q) : am_rw sL xs d P rt pc lv (.int (z_I (am_cmp a b)) :: r) M Q := am_r_if_lt h e e2 (fun q => kt (by have h1 := am_cmp_lt a b; have h2 := am_cmp_eq a b; have h3 := am_cmp_gt a b; omega)) (fun q => kf (by have h1 := am_cmp_lt a b; have h2 := am_cmp_eq a b; have h3 := am_cmp_gt a b; omega)) (am_cmp_b a b)
theorem am_r_lif_ge {t : Int} {pt pf : Nat} {a b : Int} (h : am_lk P pc = some (.ifCond .ge t, len)) (e : pc + len = pf) (e2 : t.toNat = pt) (kt : b ≤ a → am_rw sL xs d P rt pt lv r M Q) (kf : a < b → am_rw sL xs d P rt pf lv r M Q) : am_rw sL xs d P rt pc lv (.int (z_I (am_cmp a b)) :: r) M Q := am_r_if_ge h e e2 (fun q => kt (by have h1 := am_cmp_lt a b; have h2 := am_cmp_eq a b; have h3 := am_cmp_gt a b; omega)) (fun q => kf (by have h1 := am_cmp_lt a b; have h2 := am_cmp_eq a b; have h3 := am_cmp_gt a b; omega)) (am_cmp_b a b)
theorem am_r_lif_gt {t : Int} {pt pf : Nat} {a b : Int} (h : am_lk P pc = some (.ifCond .gt t, len)) (e : pc + len = pf) (e2 : t.toNat = pt) (kt : b < a → am_rw sL xs d P rt pt lv r M Q) (kf : a ≤ b → am_rw sL xs d P rt pf lv r M Q) : am_rw sL xs d P rt pc lv (.int (z_I (am_cmp a b)) :: r) M Q := am_r_if_gt h e e2 (fun q => kt (by have h1 := am_cmp_lt a b; have h2 := am_cmp_eq a b; have h3 := am_cmp_gt a b; omega)) (fun q => kf (by have h1 := am_cmp_lt a b; have h2 := am_cmp_eq a b; have h3 := am_cmp_gt a b; omega)) (am_cmp_b a b)
theorem am_r_lif_le {t : Int} {pt pf : Nat} {a b : Int} (h : am_lk P pc = some (.ifCond .le t, len)) (e : pc + len = pf) (e2 : t.toNat = pt) (kt : a ≤ b → am_rw sL xs d P rt pt lv r M Q) (kf : b < a → am_rw sL xs d P rt pf lv r M Q) : am_rw sL xs d P rt pc lv (.int (z_I (am_cmp a b)) :: r) M Q := am_r_if_le h e e2 (fun q => kt (by have h1 := am_cmp_lt a b; have h2 := am_cmp_eq a b; have h3 := am_cmp_gt a b; omega)) (fun q => kf (by have h1 := am_cmp_lt a b; have h2 := am_cmp_eq a b; have h3 := am_cmp_gt a b; omega)) (am_cmp_b a b)
theorem am_r_tsw {dd lo hi : Int} {offs : Array Int} {a : Int} {t : Nat} (h : am_lk P pc = some (.tableswitch dd lo hi offs, len)) (ht : (if a < lo ∨ hi < a then dd else offs.toList.getD (a - lo).toNat 0).toNat = t) (k : am_rw sL xs d P rt t lv r M Q) (ha : -2147483648 ≤ a ∧ a < 2147483648 := by omega) : am_rw sL xs d P rt pc lv (.int (z_I a) :: r) M Q := by
  subst ht
  exact am_rw_go h (fun v M' K hk => by show K (if (z_I a).toInt < lo ∨ hi < (z_I a).toInt then dd else offs.toList.getD ((z_I a).toInt - lo).toNat 0).toNat lv r M; rw [z_toInt ha]; exact hk) k
theorem am_r_lsw {dd : Int} {ps : Array (Int × Int)} {a : Int} {t : Nat} (h : am_lk P pc = some (.lookupswitch dd ps, len)) (ht : (am_sw ps.toList dd a).toNat = t) (k : am_rw sL xs d P rt t lv r M Q) (ha : -2147483648 ≤ a ∧ a < 2147483648 := by omega) : am_rw sL xs d P rt pc lv (.int (z_I a) :: r) M Q := by
  subst ht
  exact am_rw_go h (fun v M' K hk => by show K (am_sw ps.toList dd (z_I a).toInt).toNat lv r M; rw [z_toInt ha]; exact hk) k
theorem am_r_iret {x : Int32} {q : Int32 → Am_M → Prop} (h : am_lk P pc = some (.ireturn, len)) (hr : rt = 1) (k : q x M) : am_rw sL xs d P rt pc lv [.int x] M (am_pi q) := am_rw_end (v := some (.int x)) h (fun K => ⟨Or.inl hr, rfl, rfl⟩) ⟨x, rfl, k⟩
theorem am_r_zret {x : Int32} {q : Int32 → Am_M → Prop} (h : am_lk P pc = some (.ireturn, len)) (hr : rt = 2) (hx : x = 0 ∨ x = 1) (k : q x M) : am_rw sL xs d P rt pc lv [.int x] M (am_pi q) := am_rw_end (v := some (.int x)) h (fun K => ⟨Or.inr ⟨hr, hx⟩, rfl, rfl⟩) ⟨x, rfl, k⟩
theorem am_r_lret {x : Int64} {q : Int64 → Am_M → Prop} (h : am_lk P pc = some (.lreturn, len)) (hr : rt = 3) (k : q x M) : am_rw sL xs d P rt pc lv [.long x] M (am_pl q) := am_rw_end (v := some (.long x)) h (fun K => ⟨hr, rfl, rfl⟩) ⟨x, rfl, k⟩
theorem am_r_vret {q : Am_M → Prop} (h : am_lk P pc = some (.return_, len)) (hr : rt = 0) (k : q M) : am_rw sL xs d P rt pc lv [] M (am_pv q) := am_rw_end (v := none) h (fun K => ⟨hr, rfl, rfl⟩) ⟨rfl, k⟩
def am_vj (j q n : Nat) : Bool := decide ((am_mt j).2.2.2.2.2.2.1 = n) && decide (am_shp q = (3, (am_mt j).1)) && decide (q < am_K)
def am_sj (j n : Nat) : Bool := decide ((am_mt j).2.2.2.2.2.2.1 = n)
theorem am_r_invI0 {j q : Nat} (h : am_lk P pc = some (.invokevirtual j, len)) (e : pc + len = pc') (hj : am_vj j q 0 = true) (hc : am_cat r ≤ 8) (k : am_bi sL xs d j [.ref q] M (fun x M' => am_rw sL xs d P rt pc' lv (.int x :: r) M' Q)) : am_rw sL xs d P rt pc lv (.ref q :: r) M Q := by
  subst e
  simp only [am_vj, Bool.and_eq_true, decide_eq_true_eq] at hj
  obtain ⟨⟨h1, h2⟩, h3⟩ := hj
  obtain ⟨x, M2, hb, n, v, M', hr, hq⟩ := k
  refine ⟨n + 1, v, M', ?_, hq⟩
  unfold am_run
  rw [h]
  unfold am_stp
  dsimp only
  rw [h1]
  exact ⟨h2, h3, by simp, hc, some (.int x), M2, hb, hr⟩
theorem am_r_ivsI0 {j : Nat} (h : am_lk P pc = some (.invokestatic j, len)) (e : pc + len = pc') (hj : am_sj j 0 = true) (hc : am_cat r ≤ 8) (k : am_bi sL xs d j [] M (fun x M' => am_rw sL xs d P rt pc' lv (.int x :: r) M' Q)) : am_rw sL xs d P rt pc lv r M Q := by
  subst e
  simp only [am_sj, decide_eq_true_eq] at hj
  obtain ⟨x, M2, hb, n, v, M', hr, hq⟩ := k
  refine ⟨n + 1, v, M', ?_, hq⟩
  unfold am_run
  rw [h]
  unfold am_stp
  dsimp only
  rw [hj]
  exact ⟨by simp, hc, some (.int x), M2, hb, hr⟩
theorem am_r_invL0 {j q : Nat} (h : am_lk P pc = some (.invokevirtual j, len)) (e : pc + len = pc') (hj : am_vj j q 0 = true) (hc : am_cat r ≤ 8) (k : am_bl sL xs d j [.ref q] M (fun x M' => am_rw sL xs d P rt pc' lv (.long x :: r) M' Q)) : am_rw sL xs d P rt pc lv (.ref q :: r) M Q := by
  subst e
  simp only [am_vj, Bool.and_eq_true, decide_eq_true_eq] at hj
  obtain ⟨⟨h1, h2⟩, h3⟩ := hj
  obtain ⟨x, M2, hb, n, v, M', hr, hq⟩ := k
  refine ⟨n + 1, v, M', ?_, hq⟩
  unfold am_run
  rw [h]
  unfold am_stp
  dsimp only
  rw [h1]
  exact ⟨h2, h3, by simp, hc, some (.long x), M2, hb, hr⟩
theorem am_r_ivsL0 {j : Nat} (h : am_lk P pc = some (.invokestatic j, len)) (e : pc + len = pc') (hj : am_sj j 0 = true) (hc : am_cat r ≤ 8) (k : am_bl sL xs d j [] M (fun x M' => am_rw sL xs d P rt pc' lv (.long x :: r) M' Q)) : am_rw sL xs d P rt pc lv r M Q := by
  subst e
  simp only [am_sj, decide_eq_true_eq] at hj
  obtain ⟨x, M2, hb, n, v, M', hr, hq⟩ := k
  refine ⟨n + 1, v, M', ?_, hq⟩
  unfold am_run
  rw [h]
  unfold am_stp
  dsimp only
  rw [hj]
  exact ⟨by simp, hc, some (.long x), M2, hb, hr⟩
theorem am_r_invV0 {j q : Nat} (h : am_lk P pc = some (.invokevirtual j, len)) (e : pc + len = pc') (hj : am_vj j q 0 = true) (hc : am_cat r ≤ 8) (k : am_bv sL xs d j [.ref q] M (fun M' => am_rw sL xs d P rt pc' lv r M' Q)) : am_rw sL xs d P rt pc lv (.ref q :: r) M Q := by
  subst e
  simp only [am_vj, Bool.and_eq_true, decide_eq_true_eq] at hj
  obtain ⟨⟨h1, h2⟩, h3⟩ := hj
  obtain ⟨M2, hb, n, v, M', hr, hq⟩ := k
  refine ⟨n + 1, v, M', ?_, hq⟩
  unfold am_run
  rw [h]
  unfold am_stp
  dsimp only
  rw [h1]
  exact ⟨h2, h3, by simp, hc, none, M2, hb, hr⟩
theorem am_r_ivsV0 {j : Nat} (h : am_lk P pc = some (.invokestatic j, len)) (e : pc + len = pc') (hj : am_sj j 0 = true) (hc : am_cat r ≤ 8) (k : am_bv sL xs d j [] M (fun M' => am_rw sL xs d P rt pc' lv r M' Q)) : am_rw sL xs d P rt pc lv r M Q := by
  subst e
  simp only [am_sj, decide_eq_true_eq] at hj
  obtain ⟨M2, hb, n, v, M', hr, hq⟩ := k
  refine ⟨n + 1, v, M', ?_, hq⟩
  unfold am_run
  rw [h]
  unfold am_stp
  dsimp only
  rw [hj]
  exact ⟨by simp, hc, none, M2, hb, hr⟩
theorem am_r_invI1 {w0 : Value} {j q : Nat} (h : am_lk P pc = some (.invokevirtual j, len)) (e : pc + len = pc') (hj : am_vj j q 1 = true) (hc : am_cat r ≤ 8) (k : am_bi sL xs d j [.ref q, w0] M (fun x M' => am_rw sL xs d P rt pc' lv (.int x :: r) M' Q)) : am_rw sL xs d P rt pc lv (w0 :: .ref q :: r) M Q := by
  subst e
  simp only [am_vj, Bool.and_eq_true, decide_eq_true_eq] at hj
  obtain ⟨⟨h1, h2⟩, h3⟩ := hj
  obtain ⟨x, M2, hb, n, v, M', hr, hq⟩ := k
  refine ⟨n + 1, v, M', ?_, hq⟩
  unfold am_run
  rw [h]
  unfold am_stp
  dsimp only
  rw [h1]
  exact ⟨h2, h3, by simp, hc, some (.int x), M2, hb, hr⟩
theorem am_r_ivsI1 {w0 : Value} {j : Nat} (h : am_lk P pc = some (.invokestatic j, len)) (e : pc + len = pc') (hj : am_sj j 1 = true) (hc : am_cat r ≤ 8) (k : am_bi sL xs d j [w0] M (fun x M' => am_rw sL xs d P rt pc' lv (.int x :: r) M' Q)) : am_rw sL xs d P rt pc lv (w0 :: r) M Q := by
  subst e
  simp only [am_sj, decide_eq_true_eq] at hj
  obtain ⟨x, M2, hb, n, v, M', hr, hq⟩ := k
  refine ⟨n + 1, v, M', ?_, hq⟩
  unfold am_run
  rw [h]
  unfold am_stp
  dsimp only
  rw [hj]
  exact ⟨by simp, hc, some (.int x), M2, hb, hr⟩
theorem am_r_invL1 {w0 : Value} {j q : Nat} (h : am_lk P pc = some (.invokevirtual j, len)) (e : pc + len = pc') (hj : am_vj j q 1 = true) (hc : am_cat r ≤ 8) (k : am_bl sL xs d j [.ref q, w0] M (fun x M' => am_rw sL xs d P rt pc' lv (.long x :: r) M' Q)) : am_rw sL xs d P rt pc lv (w0 :: .ref q :: r) M Q := by
  subst e
  simp only [am_vj, Bool.and_eq_true, decide_eq_true_eq] at hj
  obtain ⟨⟨h1, h2⟩, h3⟩ := hj
  obtain ⟨x, M2, hb, n, v, M', hr, hq⟩ := k
  refine ⟨n + 1, v, M', ?_, hq⟩
  unfold am_run
  rw [h]
  unfold am_stp
  dsimp only
  rw [h1]
  exact ⟨h2, h3, by simp, hc, some (.long x), M2, hb, hr⟩
theorem am_r_ivsL1 {w0 : Value} {j : Nat} (h : am_lk P pc = some (.invokestatic j, len)) (e : pc + len = pc') (hj : am_sj j 1 = true) (hc : am_cat r ≤ 8) (k : am_bl sL xs d j [w0] M (fun x M' => am_rw sL xs d P rt pc' lv (.long x :: r) M' Q)) : am_rw sL xs d P rt pc lv (w0 :: r) M Q := by
  subst e
  simp only [am_sj, decide_eq_true_eq] at hj
  obtain ⟨x, M2, hb, n, v, M', hr, hq⟩ := k
  refine ⟨n + 1, v, M', ?_, hq⟩
  unfold am_run
  rw [h]
  unfold am_stp
  dsimp only
  rw [hj]
  exact ⟨by simp, hc, some (.long x), M2, hb, hr⟩
theorem am_r_invV1 {w0 : Value} {j q : Nat} (h : am_lk P pc = some (.invokevirtual j, len)) (e : pc + len = pc') (hj : am_vj j q 1 = true) (hc : am_cat r ≤ 8) (k : am_bv sL xs d j [.ref q, w0] M (fun M' => am_rw sL xs d P rt pc' lv r M' Q)) : am_rw sL xs d P rt pc lv (w0 :: .ref q :: r) M Q := by
  subst e
  simp only [am_vj, Bool.and_eq_true, decide_eq_true_eq] at hj
  obtain ⟨⟨h1, h2⟩, h3⟩ := hj
  obtain ⟨M2, hb, n, v, M', hr, hq⟩ := k
  refine ⟨n + 1, v, M', ?_, hq⟩
  unfold am_run
  rw [h]
  unfold am_stp
  dsimp only
  rw [h1]
  exact ⟨h2, h3, by simp, hc, none, M2, hb, hr⟩
theorem am_r_ivsV1 {w0 : Value} {j : Nat} (h : am_lk P pc = some (.invokestatic j, len)) (e : pc + len = pc') (hj : am_sj j 1 = true) (hc : am_cat r ≤ 8) (k : am_bv sL xs d j [w0] M (fun M' => am_rw sL xs d P rt pc' lv r M' Q)) : am_rw sL xs d P rt pc lv (w0 :: r) M Q := by
  subst e
  simp only [am_sj, decide_eq_true_eq] at hj
  obtain ⟨M2, hb, n, v, M', hr, hq⟩ := k
  refine ⟨n + 1, v, M', ?_, hq⟩
  unfold am_run
  rw [h]
  unfold am_stp
  dsimp only
  rw [hj]
  exact ⟨by simp, hc, none, M2, hb, hr⟩
theorem am_r_invI2 {w0 w1 : Value} {j q : Nat} (h : am_lk P pc = some (.invokevirtual j, len)) (e : pc + len = pc') (hj : am_vj j q 2 = true) (hc : am_cat r ≤ 8) (k : am_bi sL xs d j [.ref q, w0, w1] M (fun x M' => am_rw sL xs d P rt pc' lv (.int x :: r) M' Q)) : am_rw sL xs d P rt pc lv (w1 :: w0 :: .ref q :: r) M Q := by
  subst e
  simp only [am_vj, Bool.and_eq_true, decide_eq_true_eq] at hj
  obtain ⟨⟨h1, h2⟩, h3⟩ := hj
  obtain ⟨x, M2, hb, n, v, M', hr, hq⟩ := k
  refine ⟨n + 1, v, M', ?_, hq⟩
  unfold am_run
  rw [h]
  unfold am_stp
  dsimp only
  rw [h1]
  exact ⟨h2, h3, by simp, hc, some (.int x), M2, hb, hr⟩
theorem am_r_ivsI2 {w0 w1 : Value} {j : Nat} (h : am_lk P pc = some (.invokestatic j, len)) (e : pc + len = pc') (hj : am_sj j 2 = true) (hc : am_cat r ≤ 8) (k : am_bi sL xs d j [w0, w1] M (fun x M' => am_rw sL xs d P rt pc' lv (.int x :: r) M' Q)) : am_rw sL xs d P rt pc lv (w1 :: w0 :: r) M Q := by
  subst e
  simp only [am_sj, decide_eq_true_eq] at hj
  obtain ⟨x, M2, hb, n, v, M', hr, hq⟩ := k
  refine ⟨n + 1, v, M', ?_, hq⟩
  unfold am_run
  rw [h]
  unfold am_stp
  dsimp only
  rw [hj]
  exact ⟨by simp, hc, some (.int x), M2, hb, hr⟩
theorem am_r_invL2 {w0 w1 : Value} {j q : Nat} (h : am_lk P pc = some (.invokevirtual j, len)) (e : pc + len = pc') (hj : am_vj j q 2 = true) (hc : am_cat r ≤ 8) (k : am_bl sL xs d j [.ref q, w0, w1] M (fun x M' => am_rw sL xs d P rt pc' lv (.long x :: r) M' Q)) : am_rw sL xs d P rt pc lv (w1 :: w0 :: .ref q :: r) M Q := by
  subst e
  simp only [am_vj, Bool.and_eq_true, decide_eq_true_eq] at hj
  obtain ⟨⟨h1, h2⟩, h3⟩ := hj
  obtain ⟨x, M2, hb, n, v, M', hr, hq⟩ := k
  refine ⟨n + 1, v, M', ?_, hq⟩
  unfold am_run
  rw [h]
  unfold am_stp
  dsimp only
  rw [h1]
  exact ⟨h2, h3, by simp, hc, some (.long x), M2, hb, hr⟩
theorem am_r_ivsL2 {w0 w1 : Value} {j : Nat} (h : am_lk P pc = some (.invokestatic j, len)) (e : pc + len = pc') (hj : am_sj j 2 = true) (hc : am_cat r ≤ 8) (k : am_bl sL xs d j [w0, w1] M (fun x M' => am_rw sL xs d P rt pc' lv (.long x :: r) M' Q)) : am_rw sL xs d P rt pc lv (w1 :: w0 :: r) M Q := by
  subst e
  simp only [am_sj, decide_eq_true_eq] at hj
  obtain ⟨x, M2, hb, n, v, M', hr, hq⟩ := k
  refine ⟨n + 1, v, M', ?_, hq⟩
  unfold am_run
  rw [h]
  unfold am_stp
  dsimp only
  rw [hj]
  exact ⟨by simp, hc, some (.long x), M2, hb, hr⟩
theorem am_r_invV2 {w0 w1 : Value} {j q : Nat} (h : am_lk P pc = some (.invokevirtual j, len)) (e : pc + len = pc') (hj : am_vj j q 2 = true) (hc : am_cat r ≤ 8) (k : am_bv sL xs d j [.ref q, w0, w1] M (fun M' => am_rw sL xs d P rt pc' lv r M' Q)) : am_rw sL xs d P rt pc lv (w1 :: w0 :: .ref q :: r) M Q := by
  subst e
  simp only [am_vj, Bool.and_eq_true, decide_eq_true_eq] at hj
  obtain ⟨⟨h1, h2⟩, h3⟩ := hj
  obtain ⟨M2, hb, n, v, M', hr, hq⟩ := k
  refine ⟨n + 1, v, M', ?_, hq⟩
  unfold am_run
  rw [h]
  unfold am_stp
  dsimp only
  rw [h1]
  exact ⟨h2, h3, by simp, hc, none, M2, hb, hr⟩
theorem am_r_ivsV2 {w0 w1 : Value} {j : Nat} (h : am_lk P pc = some (.invokestatic j, len)) (e : pc + len = pc') (hj : am_sj j 2 = true) (hc : am_cat r ≤ 8) (k : am_bv sL xs d j [w0, w1] M (fun M' => am_rw sL xs d P rt pc' lv r M' Q)) : am_rw sL xs d P rt pc lv (w1 :: w0 :: r) M Q := by
  subst e
  simp only [am_sj, decide_eq_true_eq] at hj
  obtain ⟨M2, hb, n, v, M', hr, hq⟩ := k
  refine ⟨n + 1, v, M', ?_, hq⟩
  unfold am_run
  rw [h]
  unfold am_stp
  dsimp only
  rw [hj]
  exact ⟨by simp, hc, none, M2, hb, hr⟩
theorem am_r_invI3 {w0 w1 w2 : Value} {j q : Nat} (h : am_lk P pc = some (.invokevirtual j, len)) (e : pc + len = pc') (hj : am_vj j q 3 = true) (hc : am_cat r ≤ 8) (k : am_bi sL xs d j [.ref q, w0, w1, w2] M (fun x M' => am_rw sL xs d P rt pc' lv (.int x :: r) M' Q)) : am_rw sL xs d P rt pc lv (w2 :: w1 :: w0 :: .ref q :: r) M Q := by
  subst e
  simp only [am_vj, Bool.and_eq_true, decide_eq_true_eq] at hj
  obtain ⟨⟨h1, h2⟩, h3⟩ := hj
  obtain ⟨x, M2, hb, n, v, M', hr, hq⟩ := k
  refine ⟨n + 1, v, M', ?_, hq⟩
  unfold am_run
  rw [h]
  unfold am_stp
  dsimp only
  rw [h1]
  exact ⟨h2, h3, by simp, hc, some (.int x), M2, hb, hr⟩
theorem am_r_ivsI3 {w0 w1 w2 : Value} {j : Nat} (h : am_lk P pc = some (.invokestatic j, len)) (e : pc + len = pc') (hj : am_sj j 3 = true) (hc : am_cat r ≤ 8) (k : am_bi sL xs d j [w0, w1, w2] M (fun x M' => am_rw sL xs d P rt pc' lv (.int x :: r) M' Q)) : am_rw sL xs d P rt pc lv (w2 :: w1 :: w0 :: r) M Q := by
  subst e
  simp only [am_sj, decide_eq_true_eq] at hj
  obtain ⟨x, M2, hb, n, v, M', hr, hq⟩ := k
  refine ⟨n + 1, v, M', ?_, hq⟩
  unfold am_run
  rw [h]
  unfold am_stp
  dsimp only
  rw [hj]
  exact ⟨by simp, hc, some (.int x), M2, hb, hr⟩
theorem am_r_invL3 {w0 w1 w2 : Value} {j q : Nat} (h : am_lk P pc = some (.invokevirtual j, len)) (e : pc + len = pc') (hj : am_vj j q 3 = true) (hc : am_cat r ≤ 8) (k : am_bl sL xs d j [.ref q, w0, w1, w2] M (fun x M' => am_rw sL xs d P rt pc' lv (.long x :: r) M' Q)) : am_rw sL xs d P rt pc lv (w2 :: w1 :: w0 :: .ref q :: r) M Q := by
  subst e
  simp only [am_vj, Bool.and_eq_true, decide_eq_true_eq] at hj
  obtain ⟨⟨h1, h2⟩, h3⟩ := hj
  obtain ⟨x, M2, hb, n, v, M', hr, hq⟩ := k
  refine ⟨n + 1, v, M', ?_, hq⟩
  unfold am_run
  rw [h]
  unfold am_stp
  dsimp only
  rw [h1]
  exact ⟨h2, h3, by simp, hc, some (.long x), M2, hb, hr⟩
theorem am_r_ivsL3 {w0 w1 w2 : Value} {j : Nat} (h : am_lk P pc = some (.invokestatic j, len)) (e : pc + len = pc') (hj : am_sj j 3 = true) (hc : am_cat r ≤ 8) (k : am_bl sL xs d j [w0, w1, w2] M (fun x M' => am_rw sL xs d P rt pc' lv (.long x :: r) M' Q)) : am_rw sL xs d P rt pc lv (w2 :: w1 :: w0 :: r) M Q := by
  subst e
  simp only [am_sj, decide_eq_true_eq] at hj
  obtain ⟨x, M2, hb, n, v, M', hr, hq⟩ := k
  refine ⟨n + 1, v, M', ?_, hq⟩
  unfold am_run
  rw [h]
  unfold am_stp
  dsimp only
  rw [hj]
  exact ⟨by simp, hc, some (.long x), M2, hb, hr⟩
theorem am_r_invV3 {w0 w1 w2 : Value} {j q : Nat} (h : am_lk P pc = some (.invokevirtual j, len)) (e : pc + len = pc') (hj : am_vj j q 3 = true) (hc : am_cat r ≤ 8) (k : am_bv sL xs d j [.ref q, w0, w1, w2] M (fun M' => am_rw sL xs d P rt pc' lv r M' Q)) : am_rw sL xs d P rt pc lv (w2 :: w1 :: w0 :: .ref q :: r) M Q := by
  subst e
  simp only [am_vj, Bool.and_eq_true, decide_eq_true_eq] at hj
  obtain ⟨⟨h1, h2⟩, h3⟩ := hj
  obtain ⟨M2, hb, n, v, M', hr, hq⟩ := k
  refine ⟨n + 1, v, M', ?_, hq⟩
  unfold am_run
  rw [h]
  unfold am_stp
  dsimp only
  rw [h1]
  exact ⟨h2, h3, by simp, hc, none, M2, hb, hr⟩
theorem am_r_ivsV3 {w0 w1 w2 : Value} {j : Nat} (h : am_lk P pc = some (.invokestatic j, len)) (e : pc + len = pc') (hj : am_sj j 3 = true) (hc : am_cat r ≤ 8) (k : am_bv sL xs d j [w0, w1, w2] M (fun M' => am_rw sL xs d P rt pc' lv r M' Q)) : am_rw sL xs d P rt pc lv (w2 :: w1 :: w0 :: r) M Q := by
  subst e
  simp only [am_sj, decide_eq_true_eq] at hj
  obtain ⟨M2, hb, n, v, M', hr, hq⟩ := k
  refine ⟨n + 1, v, M', ?_, hq⟩
  unfold am_run
  rw [h]
  unfold am_stp
  dsimp only
  rw [hj]
  exact ⟨by simp, hc, none, M2, hb, hr⟩
theorem am_r_invI4 {w0 w1 w2 w3 : Value} {j q : Nat} (h : am_lk P pc = some (.invokevirtual j, len)) (e : pc + len = pc') (hj : am_vj j q 4 = true) (hc : am_cat r ≤ 8) (k : am_bi sL xs d j [.ref q, w0, w1, w2, w3] M (fun x M' => am_rw sL xs d P rt pc' lv (.int x :: r) M' Q)) : am_rw sL xs d P rt pc lv (w3 :: w2 :: w1 :: w0 :: .ref q :: r) M Q := by
  subst e
  simp only [am_vj, Bool.and_eq_true, decide_eq_true_eq] at hj
  obtain ⟨⟨h1, h2⟩, h3⟩ := hj
  obtain ⟨x, M2, hb, n, v, M', hr, hq⟩ := k
  refine ⟨n + 1, v, M', ?_, hq⟩
  unfold am_run
  rw [h]
  unfold am_stp
  dsimp only
  rw [h1]
  exact ⟨h2, h3, by simp, hc, some (.int x), M2, hb, hr⟩
theorem am_r_ivsI4 {w0 w1 w2 w3 : Value} {j : Nat} (h : am_lk P pc = some (.invokestatic j, len)) (e : pc + len = pc') (hj : am_sj j 4 = true) (hc : am_cat r ≤ 8) (k : am_bi sL xs d j [w0, w1, w2, w3] M (fun x M' => am_rw sL xs d P rt pc' lv (.int x :: r) M' Q)) : am_rw sL xs d P rt pc lv (w3 :: w2 :: w1 :: w0 :: r) M Q := by
  subst e
  simp only [am_sj, decide_eq_true_eq] at hj
  obtain ⟨x, M2, hb, n, v, M', hr, hq⟩ := k
  refine ⟨n + 1, v, M', ?_, hq⟩
  unfold am_run
  rw [h]
  unfold am_stp
  dsimp only
  rw [hj]
  exact ⟨by simp, hc, some (.int x), M2, hb, hr⟩
theorem am_r_invL4 {w0 w1 w2 w3 : Value} {j q : Nat} (h : am_lk P pc = some (.invokevirtual j, len)) (e : pc + len = pc') (hj : am_vj j q 4 = true) (hc : am_cat r ≤ 8) (k : am_bl sL xs d j [.ref q, w0, w1, w2, w3] M (fun x M' => am_rw sL xs d P rt pc' lv (.long x :: r) M' Q)) : am_rw sL xs d P rt pc lv (w3 :: w2 :: w1 :: w0 :: .ref q :: r) M Q := by
  subst e
  simp only [am_vj, Bool.and_eq_true, decide_eq_true_eq] at hj
  obtain ⟨⟨h1, h2⟩, h3⟩ := hj
  obtain ⟨x, M2, hb, n, v, M', hr, hq⟩ := k
  refine ⟨n + 1, v, M', ?_, hq⟩
  unfold am_run
  rw [h]
  unfold am_stp
  dsimp only
  rw [h1]
  exact ⟨h2, h3, by simp, hc, some (.long x), M2, hb, hr⟩
theorem am_r_ivsL4 {w0 w1 w2 w3 : Value} {j : Nat} (h : am_lk P pc = some (.invokestatic j, len)) (e : pc + len = pc') (hj : am_sj j 4 = true) (hc : am_cat r ≤ 8) (k : am_bl sL xs d j [w0, w1, w2, w3] M (fun x M' => am_rw sL xs d P rt pc' lv (.long x :: r) M' Q)) : am_rw sL xs d P rt pc lv (w3 :: w2 :: w1 :: w0 :: r) M Q := by
  subst e
  simp only [am_sj, decide_eq_true_eq] at hj
  obtain ⟨x, M2, hb, n, v, M', hr, hq⟩ := k
  refine ⟨n + 1, v, M', ?_, hq⟩
  unfold am_run
  rw [h]
  unfold am_stp
  dsimp only
  rw [hj]
  exact ⟨by simp, hc, some (.long x), M2, hb, hr⟩
theorem am_r_invV4 {w0 w1 w2 w3 : Value} {j q : Nat} (h : am_lk P pc = some (.invokevirtual j, len)) (e : pc + len = pc') (hj : am_vj j q 4 = true) (hc : am_cat r ≤ 8) (k : am_bv sL xs d j [.ref q, w0, w1, w2, w3] M (fun M' => am_rw sL xs d P rt pc' lv r M' Q)) : am_rw sL xs d P rt pc lv (w3 :: w2 :: w1 :: w0 :: .ref q :: r) M Q := by
  subst e
  simp only [am_vj, Bool.and_eq_true, decide_eq_true_eq] at hj
  obtain ⟨⟨h1, h2⟩, h3⟩ := hj
  obtain ⟨M2, hb, n, v, M', hr, hq⟩ := k
  refine ⟨n + 1, v, M', ?_, hq⟩
  unfold am_run
  rw [h]
  unfold am_stp
  dsimp only
  rw [h1]
  exact ⟨h2, h3, by simp, hc, none, M2, hb, hr⟩
theorem am_r_ivsV4 {w0 w1 w2 w3 : Value} {j : Nat} (h : am_lk P pc = some (.invokestatic j, len)) (e : pc + len = pc') (hj : am_sj j 4 = true) (hc : am_cat r ≤ 8) (k : am_bv sL xs d j [w0, w1, w2, w3] M (fun M' => am_rw sL xs d P rt pc' lv r M' Q)) : am_rw sL xs d P rt pc lv (w3 :: w2 :: w1 :: w0 :: r) M Q := by
  subst e
  simp only [am_sj, decide_eq_true_eq] at hj
  obtain ⟨M2, hb, n, v, M', hr, hq⟩ := k
  refine ⟨n + 1, v, M', ?_, hq⟩
  unfold am_run
  rw [h]
  unfold am_stp
  dsimp only
  rw [hj]
  exact ⟨by simp, hc, none, M2, hb, hr⟩
theorem am_r_invI5 {w0 w1 w2 w3 w4 : Value} {j q : Nat} (h : am_lk P pc = some (.invokevirtual j, len)) (e : pc + len = pc') (hj : am_vj j q 5 = true) (hc : am_cat r ≤ 8) (k : am_bi sL xs d j [.ref q, w0, w1, w2, w3, w4] M (fun x M' => am_rw sL xs d P rt pc' lv (.int x :: r) M' Q)) : am_rw sL xs d P rt pc lv (w4 :: w3 :: w2 :: w1 :: w0 :: .ref q :: r) M Q := by
  subst e
  simp only [am_vj, Bool.and_eq_true, decide_eq_true_eq] at hj
  obtain ⟨⟨h1, h2⟩, h3⟩ := hj
  obtain ⟨x, M2, hb, n, v, M', hr, hq⟩ := k
  refine ⟨n + 1, v, M', ?_, hq⟩
  unfold am_run
  rw [h]
  unfold am_stp
  dsimp only
  rw [h1]
  exact ⟨h2, h3, by simp, hc, some (.int x), M2, hb, hr⟩
theorem am_r_ivsI5 {w0 w1 w2 w3 w4 : Value} {j : Nat} (h : am_lk P pc = some (.invokestatic j, len)) (e : pc + len = pc') (hj : am_sj j 5 = true) (hc : am_cat r ≤ 8) (k : am_bi sL xs d j [w0, w1, w2, w3, w4] M (fun x M' => am_rw sL xs d P rt pc' lv (.int x :: r) M' Q)) : am_rw sL xs d P rt pc lv (w4 :: w3 :: w2 :: w1 :: w0 :: r) M Q := by
  subst e
  simp only [am_sj, decide_eq_true_eq] at hj
  obtain ⟨x, M2, hb, n, v, M', hr, hq⟩ := k
  refine ⟨n + 1, v, M', ?_, hq⟩
  unfold am_run
  rw [h]
  unfold am_stp
  dsimp only
  rw [hj]
  exact ⟨by simp, hc, some (.int x), M2, hb, hr⟩
theorem am_r_invL5 {w0 w1 w2 w3 w4 : Value} {j q : Nat} (h : am_lk P pc = some (.invokevirtual j, len)) (e : pc + len = pc') (hj : am_vj j q 5 = true) (hc : am_cat r ≤ 8) (k : am_bl sL xs d j [.ref q, w0, w1, w2, w3, w4] M (fun x M' => am_rw sL xs d P rt pc' lv (.long x :: r) M' Q)) : am_rw sL xs d P rt pc lv (w4 :: w3 :: w2 :: w1 :: w0 :: .ref q :: r) M Q := by
  subst e
  simp only [am_vj, Bool.and_eq_true, decide_eq_true_eq] at hj
  obtain ⟨⟨h1, h2⟩, h3⟩ := hj
  obtain ⟨x, M2, hb, n, v, M', hr, hq⟩ := k
  refine ⟨n + 1, v, M', ?_, hq⟩
  unfold am_run
  rw [h]
  unfold am_stp
  dsimp only
  rw [h1]
  exact ⟨h2, h3, by simp, hc, some (.long x), M2, hb, hr⟩
theorem am_r_ivsL5 {w0 w1 w2 w3 w4 : Value} {j : Nat} (h : am_lk P pc = some (.invokestatic j, len)) (e : pc + len = pc') (hj : am_sj j 5 = true) (hc : am_cat r ≤ 8) (k : am_bl sL xs d j [w0, w1, w2, w3, w4] M (fun x M' => am_rw sL xs d P rt pc' lv (.long x :: r) M' Q)) : am_rw sL xs d P rt pc lv (w4 :: w3 :: w2 :: w1 :: w0 :: r) M Q := by
  subst e
  simp only [am_sj, decide_eq_true_eq] at hj
  obtain ⟨x, M2, hb, n, v, M', hr, hq⟩ := k
  refine ⟨n + 1, v, M', ?_, hq⟩
  unfold am_run
  rw [h]
  unfold am_stp
  dsimp only
  rw [hj]
  exact ⟨by simp, hc, some (.long x), M2, hb, hr⟩
theorem am_r_invV5 {w0 w1 w2 w3 w4 : Value} {j q : Nat} (h : am_lk P pc = some (.invokevirtual j, len)) (e : pc + len = pc') (hj : am_vj j q 5 = true) (hc : am_cat r ≤ 8) (k : am_bv sL xs d j [.ref q, w0, w1, w2, w3, w4] M (fun M' => am_rw sL xs d P rt pc' lv r M' Q)) : am_rw sL xs d P rt pc lv (w4 :: w3 :: w2 :: w1 :: w0 :: .ref q :: r) M Q := by
  subst e
  simp only [am_vj, Bool.and_eq_true, decide_eq_true_eq] at hj
  obtain ⟨⟨h1, h2⟩, h3⟩ := hj
  obtain ⟨M2, hb, n, v, M', hr, hq⟩ := k
  refine ⟨n + 1, v, M', ?_, hq⟩
  unfold am_run
  rw [h]
  unfold am_stp
  dsimp only
  rw [h1]
  exact ⟨h2, h3, by simp, hc, none, M2, hb, hr⟩
theorem am_r_ivsV5 {w0 w1 w2 w3 w4 : Value} {j : Nat} (h : am_lk P pc = some (.invokestatic j, len)) (e : pc + len = pc') (hj : am_sj j 5 = true) (hc : am_cat r ≤ 8) (k : am_bv sL xs d j [w0, w1, w2, w3, w4] M (fun M' => am_rw sL xs d P rt pc' lv r M' Q)) : am_rw sL xs d P rt pc lv (w4 :: w3 :: w2 :: w1 :: w0 :: r) M Q := by
  subst e
  simp only [am_sj, decide_eq_true_eq] at hj
  obtain ⟨M2, hb, n, v, M', hr, hq⟩ := k
  refine ⟨n + 1, v, M', ?_, hq⟩
  unfold am_run
  rw [h]
  unfold am_stp
  dsimp only
  rw [hj]
  exact ⟨by simp, hc, none, M2, hb, hr⟩
theorem am_r_invI6 {w0 w1 w2 w3 w4 w5 : Value} {j q : Nat} (h : am_lk P pc = some (.invokevirtual j, len)) (e : pc + len = pc') (hj : am_vj j q 6 = true) (hc : am_cat r ≤ 8) (k : am_bi sL xs d j [.ref q, w0, w1, w2, w3, w4, w5] M (fun x M' => am_rw sL xs d P rt pc' lv (.int x :: r) M' Q)) : am_rw sL xs d P rt pc lv (w5 :: w4 :: w3 :: w2 :: w1 :: w0 :: .ref q :: r) M Q := by
  subst e
  simp only [am_vj, Bool.and_eq_true, decide_eq_true_eq] at hj
  obtain ⟨⟨h1, h2⟩, h3⟩ := hj
  obtain ⟨x, M2, hb, n, v, M', hr, hq⟩ := k
  refine ⟨n + 1, v, M', ?_, hq⟩
  unfold am_run
  rw [h]
  unfold am_stp
  dsimp only
  rw [h1]
  exact ⟨h2, h3, by simp, hc, some (.int x), M2, hb, hr⟩
theorem am_r_ivsI6 {w0 w1 w2 w3 w4 w5 : Value} {j : Nat} (h : am_lk P pc = some (.invokestatic j, len)) (e : pc + len = pc') (hj : am_sj j 6 = true) (hc : am_cat r ≤ 8) (k : am_bi sL xs d j [w0, w1, w2, w3, w4, w5] M (fun x M' => am_rw sL xs d P rt pc' lv (.int x :: r) M' Q)) : am_rw sL xs d P rt pc lv (w5 :: w4 :: w3 :: w2 :: w1 :: w0 :: r) M Q := by
  subst e
  simp only [am_sj, decide_eq_true_eq] at hj
  obtain ⟨x, M2, hb, n, v, M', hr, hq⟩ := k
  refine ⟨n + 1, v, M', ?_, hq⟩
  unfold am_run
  rw [h]
  unfold am_stp
  dsimp only
  rw [hj]
  exact ⟨by simp, hc, some (.int x), M2, hb, hr⟩
theorem am_r_invL6 {w0 w1 w2 w3 w4 w5 : Value} {j q : Nat} (h : am_lk P pc = some (.invokevirtual j, len)) (e : pc + len = pc') (hj : am_vj j q 6 = true) (hc : am_cat r ≤ 8) (k : am_bl sL xs d j [.ref q, w0, w1, w2, w3, w4, w5] M (fun x M' => am_rw sL xs d P rt pc' lv (.long x :: r) M' Q)) : am_rw sL xs d P rt pc lv (w5 :: w4 :: w3 :: w2 :: w1 :: w0 :: .ref q :: r) M Q := by
  subst e
  simp only [am_vj, Bool.and_eq_true, decide_eq_true_eq] at hj
  obtain ⟨⟨h1, h2⟩, h3⟩ := hj
  obtain ⟨x, M2, hb, n, v, M', hr, hq⟩ := k
  refine ⟨n + 1, v, M', ?_, hq⟩
  unfold am_run
  rw [h]
  unfold am_stp
  dsimp only
  rw [h1]
  exact ⟨h2, h3, by simp, hc, some (.long x), M2, hb, hr⟩
theorem am_r_ivsL6 {w0 w1 w2 w3 w4 w5 : Value} {j : Nat} (h : am_lk P pc = some (.invokestatic j, len)) (e : pc + len = pc') (hj : am_sj j 6 = true) (hc : am_cat r ≤ 8) (k : am_bl sL xs d j [w0, w1, w2, w3, w4, w5] M (fun x M' => am_rw sL xs d P rt pc' lv (.long x :: r) M' Q)) : am_rw sL xs d P rt pc lv (w5 :: w4 :: w3 :: w2 :: w1 :: w0 :: r) M Q := by
  subst e
  simp only [am_sj, decide_eq_true_eq] at hj
  obtain ⟨x, M2, hb, n, v, M', hr, hq⟩ := k
  refine ⟨n + 1, v, M', ?_, hq⟩
  unfold am_run
  rw [h]
  unfold am_stp
  dsimp only
  rw [hj]
  exact ⟨by simp, hc, some (.long x), M2, hb, hr⟩
theorem am_r_invV6 {w0 w1 w2 w3 w4 w5 : Value} {j q : Nat} (h : am_lk P pc = some (.invokevirtual j, len)) (e : pc + len = pc') (hj : am_vj j q 6 = true) (hc : am_cat r ≤ 8) (k : am_bv sL xs d j [.ref q, w0, w1, w2, w3, w4, w5] M (fun M' => am_rw sL xs d P rt pc' lv r M' Q)) : am_rw sL xs d P rt pc lv (w5 :: w4 :: w3 :: w2 :: w1 :: w0 :: .ref q :: r) M Q := by
  subst e
  simp only [am_vj, Bool.and_eq_true, decide_eq_true_eq] at hj
  obtain ⟨⟨h1, h2⟩, h3⟩ := hj
  obtain ⟨M2, hb, n, v, M', hr, hq⟩ := k
  refine ⟨n + 1, v, M', ?_, hq⟩
  unfold am_run
  rw [h]
  unfold am_stp
  dsimp only
  rw [h1]
  exact ⟨h2, h3, by simp, hc, none, M2, hb, hr⟩
theorem am_r_ivsV6 {w0 w1 w2 w3 w4 w5 : Value} {j : Nat} (h : am_lk P pc = some (.invokestatic j, len)) (e : pc + len = pc') (hj : am_sj j 6 = true) (hc : am_cat r ≤ 8) (k : am_bv sL xs d j [w0, w1, w2, w3, w4, w5] M (fun M' => am_rw sL xs d P rt pc' lv r M' Q)) : am_rw sL xs d P rt pc lv (w5 :: w4 :: w3 :: w2 :: w1 :: w0 :: r) M Q := by
  subst e
  simp only [am_sj, decide_eq_true_eq] at hj
  obtain ⟨M2, hb, n, v, M', hr, hq⟩ := k
  refine ⟨n + 1, v, M', ?_, hq⟩
  unfold am_run
  rw [h]
  unfold am_stp
  dsimp only
  rw [hj]
  exact ⟨by simp, hc, none, M2, hb, hr⟩
end RW
end
section
/-! THE SKY: what the class's cells hold; its methods -/
/-- bodies, rounds, places, weights, likes, near -/
abbrev Sg : Type := Int × (Int → Int) × (Int → Int) × (Int → Int) × (Int → Int → Int) × Int
def s_n (σ : Sg) : Int := σ.1
def s_rd (σ : Sg) : Int → Int := σ.2.1
def s_pl (σ : Sg) : Int → Int := σ.2.2.1
def s_wt (σ : Sg) : Int → Int := σ.2.2.2.1
def s_lk (σ : Sg) : Int → Int → Int := σ.2.2.2.2.1
def s_nr (σ : Sg) : Int := σ.2.2.2.2.2
/-- the numbers are as the document has them -/
def SB (σ : Sg) : Prop := (0 ≤ s_n σ ∧ s_n σ ≤ 8) ∧ (0 ≤ s_nr σ ∧ s_nr σ ≤ 90) ∧ (∀ a, 0 ≤ a ∧ a < s_n σ → 1 ≤ s_rd σ a ∧ s_rd σ a ≤ 60 ∧ 0 ≤ s_pl σ a ∧ s_pl σ a < s_rd σ a ∧ 0 ≤ s_wt σ a ∧ s_wt σ a ≤ 9) ∧ (∀ a b, 0 ≤ a ∧ a < 8 → 0 ≤ b ∧ b < 8 → -9 ≤ s_lk σ a b ∧ s_lk σ a b ≤ 9)
def SX (M : Am_M) (σ : Sg) : Prop := SB σ ∧ M.1 1 5 = z_I (s_n σ) ∧ M.1 1 4 = z_I (s_nr σ) ∧ (∀ a, 0 ≤ a ∧ a < s_n σ → M.1 2 a.toNat = z_I (s_rd σ a)) ∧ (∀ a, 0 ≤ a ∧ a < s_n σ → M.1 3 a.toNat = z_I (s_pl σ a)) ∧ (∀ a, 0 ≤ a ∧ a < s_n σ → M.1 4 a.toNat = z_I (s_wt σ a)) ∧ (∀ a b, 0 ≤ a ∧ a < 8 → 0 ≤ b ∧ b < 8 → M.1 (6 + a.toNat) b.toNat = z_I (s_lk σ a b))
theorem sb_nb {σ : Sg} (h : SB σ) : 0 ≤ s_n σ ∧ s_n σ ≤ 8 := h.1
theorem sb_nrb {σ : Sg} (h : SB σ) : 0 ≤ s_nr σ ∧ s_nr σ ≤ 90 := h.2.1
theorem sg_b {σ : Sg} (h : SB σ) {a : Int} (ha : 0 ≤ a ∧ a < s_n σ) : 1 ≤ s_rd σ a ∧ s_rd σ a ≤ 60 ∧ 0 ≤ s_pl σ a ∧ s_pl σ a < s_rd σ a ∧ 0 ≤ s_wt σ a ∧ s_wt σ a ≤ 9 := h.2.2.1 a ha
theorem sb_lk {σ : Sg} (h : SB σ) {a b : Int} (ha : 0 ≤ a ∧ a < 8) (hb : 0 ≤ b ∧ b < 8) : -9 ≤ s_lk σ a b ∧ s_lk σ a b ≤ 9 := h.2.2.2 a b ha hb
theorem sx_n {M : Am_M} {σ : Sg} (h : SX M σ) : M.1 1 5 = z_I (s_n σ) := h.2.1
theorem sx_nr {M : Am_M} {σ : Sg} (h : SX M σ) : M.1 1 4 = z_I (s_nr σ) := h.2.2.1
theorem sx_rd {M : Am_M} {σ : Sg} (h : SX M σ) {a : Int} (ha : 0 ≤ a ∧ a < s_n σ) : M.1 2 a.toNat = z_I (s_rd σ a) := h.2.2.2.1 a ha
theorem sx_pl {M : Am_M} {σ : Sg} (h : SX M σ) {a : Int} (ha : 0 ≤ a ∧ a < s_n σ) : M.1 3 a.toNat = z_I (s_pl σ a) := h.2.2.2.2.1 a ha
theorem sx_wt {M : Am_M} {σ : Sg} (h : SX M σ) {a : Int} (ha : 0 ≤ a ∧ a < s_n σ) : M.1 4 a.toNat = z_I (s_wt σ a) := h.2.2.2.2.2.1 a ha
theorem sx_lk {M : Am_M} {σ : Sg} (h : SX M σ) {a b : Int} (ha : 0 ≤ a ∧ a < 8) (hb : 0 ≤ b ∧ b < 8) : M.1 (6 + a.toNat) b.toNat = z_I (s_lk σ a b) := h.2.2.2.2.2.2 a b ha hb
/-- degrees of a at a place; its place on a day; how far apart -/
def g_deg (σ : Sg) (a p : Int) : Int := 360 * p / s_rd σ a
def g_pl (σ : Sg) (a d : Int) : Int := (s_pl σ a + d) % s_rd σ a
def g_gap (x y : Int) : Int := min (if 0 ≤ x - y then x - y else -(x - y)) (360 - (if 0 ≤ x - y then x - y else -(x - y)))
def g_dg (σ : Sg) (a d : Int) : Int := g_deg σ a (g_pl σ a d)
/-- they would meet on day d, were a moved on by m now -/
def g_mt (σ : Sg) (a m b d : Int) : Bool := decide (g_gap (g_dg σ a (m + d)) (g_dg σ b d) ≤ s_nr σ)
theorem g_pl_b {σ : Sg} (h : SB σ) {a : Int} (ha : 0 ≤ a ∧ a < s_n σ) (d : Int) : 0 ≤ g_pl σ a d ∧ g_pl σ a d < s_rd σ a := by
  have := sg_b h ha
  exact ⟨Int.emod_nonneg _ (by omega), Int.emod_lt_of_pos _ (by omega)⟩
theorem g_deg_b {σ : Sg} (h : SB σ) {a p : Int} (ha : 0 ≤ a ∧ a < s_n σ) (hp : 0 ≤ p ∧ p < s_rd σ a) : 0 ≤ g_deg σ a p ∧ g_deg σ a p < 360 := by
  have := sg_b h ha
  exact ⟨Int.ediv_nonneg (by omega) (by omega), Int.ediv_lt_of_lt_mul (by omega) (by omega)⟩
theorem g_dg_b {σ : Sg} (h : SB σ) {a : Int} (ha : 0 ≤ a ∧ a < s_n σ) (d : Int) : 0 ≤ g_dg σ a d ∧ g_dg σ a d < 360 := g_deg_b h ha (g_pl_b h ha d)
theorem g_gap_b {x y : Int} (hx : 0 ≤ x ∧ x < 360) (hy : 0 ≤ y ∧ y < 360) : 0 ≤ g_gap x y ∧ g_gap x y ≤ 180 := by
  unfold g_gap
  split <;> omega
theorem z_xor0 {a b : Int} (ha : -2147483648 ≤ a ∧ a < 2147483648) (hb : -2147483648 ≤ b ∧ b < 2147483648) : 0 ≤ z_I a ^^^ z_I b ↔ (a < 0 ↔ b < 0) := by
  have key : ∀ x : Int32, 0 ≤ x ↔ x.toBitVec.msb = false := by
    intro x
    rw [Int32.le_iff_toInt_le]
    have h := BitVec.msb_eq_toInt (x := x.toBitVec)
    have h2 : x.toBitVec.toInt = x.toInt := rfl
    rw [h2] at h
    rw [h]
    simp
  have k2 : ∀ z : Int, (-2147483648 ≤ z ∧ z < 2147483648) → ((z_I z).toBitVec.msb = true ↔ z < 0) := by
    intro z hz
    have h := key (z_I z)
    rw [Int32.le_iff_toInt_le, z_toInt hz] at h
    have h0 : (0 : Int32).toInt = 0 := rfl
    rw [h0] at h
    cases hm : (z_I z).toBitVec.msb <;> simp [hm] at h ⊢ <;> omega
  rw [key, Int32.toBitVec_xor, BitVec.msb_xor]
  have e1 := k2 a ha
  have e2 := k2 b hb
  cases h1 : (z_I a).toBitVec.msb <;> cases h2 : (z_I b).toBitVec.msb <;> simp [h1, h2] at e1 e2 ⊢ <;> omega
theorem c_floorMod {sL : Nat} {xs : Nat → Int32} {d : Nat} {M : Am_M} {Q : Int32 → Am_M → Prop} (hd : 1 ≤ d) {a b : Int} (ha : -2147483648 ≤ a ∧ a < 2147483648) (hb : 0 < b ∧ b < 2147483648) (hq : Q (z_I (a % b)) M) : am_bi sL xs d 261 [.int (z_I a), .int (z_I b)] M Q := by
  obtain ⟨d, rfl⟩ : ∃ e, d = e + 1 := ⟨d - 1, by omega⟩
  have hm := Int.emod_nonneg a (show b ≠ 0 by omega)
  have hm2 := Int.emod_lt_of_pos a (show 0 < b by omega)
  have hte := Int.tmod_eq_emod (a := a) (b := b)
  have hnb : (b.natAbs : Int) = b := by omega
  have htb : -b < a.tmod b ∧ a.tmod b < b := by split at hte <;> omega
  refine am_bi_of (P := am_pJ9_floorMod_7cf53) (rt := 1) (nL := 3) (Nat.le_of_ble_eq_true rfl) rfl (Nat.le_of_ble_eq_true rfl) rfl rfl rfl ?_
  refine am_r_iload0 (pc' := 1) rfl rfl ?_
  refine am_r_iload1 (pc' := 2) rfl rfl ?_
  refine am_r_iremT (pc' := 3) rfl rfl ?_
  refine am_r_istore2 (pc' := 4) rfl rfl rfl ?_
  refine am_r_iload0 (pc' := 5) rfl rfl ?_
  refine am_r_iload1 (pc' := 6) rfl rfl ?_
  refine am_r_ixorR (pc' := 7) rfl rfl ?_
  have hx7 : (0 : Int32) ≤ z_I a ^^^ z_I b ↔ (a < 0 ↔ b < 0) := z_xor0 ha (by omega)
  refine am_r_if_geR (pt := 18) (pf := 10) rfl rfl rfl (fun h7 => ?_) (fun h7 => ?_)
  · refine am_r_iload2 (pc' := 19) rfl rfl ?_
    refine am_r_iret rfl rfl ?_
    (have e : a.tmod b = a % b := (by rw [hx7] at h7; split at hte <;> omega)); rw [e]; exact hq
  · refine am_r_iload2 (pc' := 11) rfl rfl ?_
    refine am_r_if_eq (pt := 18) (pf := 14) rfl rfl rfl (fun h11 => ?_) (fun h11 => ?_)
    · refine am_r_iload2 (pc' := 19) rfl rfl ?_
      refine am_r_iret rfl rfl ?_
      (have e : a.tmod b = a % b := (by rw [hx7] at h7; split at hte <;> omega)); rw [e]; exact hq
    · refine am_r_iload2 (pc' := 15) rfl rfl ?_
      refine am_r_iload1 (pc' := 16) rfl rfl ?_
      refine am_r_iadd (pc' := 17) rfl rfl ?_
      refine am_r_iret rfl rfl ?_
      (have e : a.tmod b + b = a % b := (by rw [hx7] at h7; split at hte <;> omega)); rw [e]; exact hq
theorem c_has {sL : Nat} {xs : Nat → Int32} {d : Nat} {M : Am_M} {Q : Int32 → Am_M → Prop} (hd : 1 ≤ d) {σ : Sg} (hX : SX M σ) {a : Int} (ha : -2147483648 ≤ a ∧ a < 2147483648)  (hq : Q (z_b (0 ≤ a ∧ a < s_n σ)) M) : am_bi sL xs d 71 [.ref 1, .int (z_I a)] M Q := by
  obtain ⟨d, rfl⟩ : ∃ e, d = e + 1 := ⟨d - 1, by omega⟩
  have hn := sb_nb hX.1
  have hnr := sb_nrb hX.1
  refine am_bi_of (P := am_pX7_has) (rt := 2) (nL := 2) (Nat.le_of_ble_eq_true rfl) rfl (Nat.le_of_ble_eq_true rfl) rfl rfl rfl ?_
  refine am_r_iload1 (pc' := 1) rfl rfl ?_
  refine am_r_if_lt (pt := 16) (pf := 4) rfl rfl rfl (fun h1 => ?_) (fun h1 => ?_)
  · refine am_r_iconst (pc' := 17) rfl rfl ?_
    refine am_r_zret rfl rfl (by first | exact Or.inr rfl | exact Or.inl rfl | exact z_b_01 _ | assumption) ?_
    first | (rw [z_bT (by omega)] at hq; exact hq) | (rw [z_bF (by omega)] at hq; exact hq)
  · refine am_r_iload1 (pc' := 5) rfl rfl ?_
    refine am_r_aload0 (pc' := 6) rfl rfl ?_
    refine am_r_getIv (f := 5) (pc' := 9) rfl rfl rfl (sx_n hX) ?_
    refine am_r_icmp_ge (pt := 16) (pf := 12) rfl rfl rfl (fun h9 => ?_) (fun h9 => ?_)
    · refine am_r_iconst (pc' := 17) rfl rfl ?_
      refine am_r_zret rfl rfl (by first | exact Or.inr rfl | exact Or.inl rfl | exact z_b_01 _ | assumption) ?_
      first | (rw [z_bT (by omega)] at hq; exact hq) | (rw [z_bF (by omega)] at hq; exact hq)
    · refine am_r_iconst (pc' := 13) rfl rfl ?_
      refine am_r_goto (pc' := 17) rfl rfl ?_
      refine am_r_zret rfl rfl (by first | exact Or.inr rfl | exact Or.inl rfl | exact z_b_01 _ | assumption) ?_
      first | (rw [z_bT (by omega)] at hq; exact hq) | (rw [z_bF (by omega)] at hq; exact hq)
theorem c_hasPair {sL : Nat} {xs : Nat → Int32} {d : Nat} {M : Am_M} {Q : Int32 → Am_M → Prop} (hd : 2 ≤ d) {σ : Sg} (hX : SX M σ) {a : Int} (ha : -2147483648 ≤ a ∧ a < 2147483648)  (hq : Q (z_b (0 ≤ a ∧ a / 10 < s_n σ ∧ a % 10 < s_n σ ∧ a / 10 ≠ a % 10)) M) : am_bi sL xs d 72 [.ref 1, .int (z_I a)] M Q := by
  obtain ⟨d, rfl⟩ : ∃ e, d = e + 1 := ⟨d - 1, by omega⟩
  have hn := sb_nb hX.1
  have hnr := sb_nrb hX.1
  refine am_bi_of (P := am_pX7_hasPair) (rt := 2) (nL := 2) (Nat.le_of_ble_eq_true rfl) rfl (Nat.le_of_ble_eq_true rfl) rfl rfl rfl ?_
  refine am_r_iload1 (pc' := 1) rfl rfl ?_
  refine am_r_if_lt (pt := 41) (pf := 4) rfl rfl rfl (fun h1 => ?_) (fun h1 => ?_)
  · refine am_r_iconst (pc' := 42) rfl rfl ?_
    refine am_r_zret rfl rfl (by first | exact Or.inr rfl | exact Or.inl rfl | exact z_b_01 _ | assumption) ?_
    first | (rw [z_bT (by omega)] at hq; exact hq) | (rw [z_bF (by omega)] at hq; exact hq)
  · refine am_r_aload0 (pc' := 5) rfl rfl ?_
    refine am_r_iload1 (pc' := 6) rfl rfl ?_
    refine am_r_iconst (pc' := 8) rfl rfl ?_
    refine am_r_idiv (pc' := 9) rfl rfl ?_
    refine am_r_invI1 (pc' := 12) rfl rfl rfl (Nat.le_of_ble_eq_true rfl) (c_has (by omega) hX (by omega) ?_)
    refine am_r_if_eqB (pt := 41) (pf := 15) rfl rfl rfl (fun h12 => ?_) (fun h12 => ?_)
    · refine am_r_iconst (pc' := 42) rfl rfl ?_
      refine am_r_zret rfl rfl (by first | exact Or.inr rfl | exact Or.inl rfl | exact z_b_01 _ | assumption) ?_
      first | (rw [z_bT (by omega)] at hq; exact hq) | (rw [z_bF (by omega)] at hq; exact hq)
    · refine am_r_aload0 (pc' := 16) rfl rfl ?_
      refine am_r_iload1 (pc' := 17) rfl rfl ?_
      refine am_r_iconst (pc' := 19) rfl rfl ?_
      refine am_r_irem (pc' := 20) rfl rfl ?_
      refine am_r_invI1 (pc' := 23) rfl rfl rfl (Nat.le_of_ble_eq_true rfl) (c_has (by omega) hX (by omega) ?_)
      refine am_r_if_eqB (pt := 41) (pf := 26) rfl rfl rfl (fun h23 => ?_) (fun h23 => ?_)
      · refine am_r_iconst (pc' := 42) rfl rfl ?_
        refine am_r_zret rfl rfl (by first | exact Or.inr rfl | exact Or.inl rfl | exact z_b_01 _ | assumption) ?_
        first | (rw [z_bT (by omega)] at hq; exact hq) | (rw [z_bF (by omega)] at hq; exact hq)
      · refine am_r_iload1 (pc' := 27) rfl rfl ?_
        refine am_r_iconst (pc' := 29) rfl rfl ?_
        refine am_r_idiv (pc' := 30) rfl rfl ?_
        refine am_r_iload1 (pc' := 31) rfl rfl ?_
        refine am_r_iconst (pc' := 33) rfl rfl ?_
        refine am_r_irem (pc' := 34) rfl rfl ?_
        refine am_r_icmp_eq (pt := 41) (pf := 37) rfl rfl rfl (fun h34 => ?_) (fun h34 => ?_)
        · refine am_r_iconst (pc' := 42) rfl rfl ?_
          refine am_r_zret rfl rfl (by first | exact Or.inr rfl | exact Or.inl rfl | exact z_b_01 _ | assumption) ?_
          first | (rw [z_bT (by omega)] at hq; exact hq) | (rw [z_bF (by omega)] at hq; exact hq)
        · refine am_r_iconst (pc' := 38) rfl rfl ?_
          refine am_r_goto (pc' := 42) rfl rfl ?_
          refine am_r_zret rfl rfl (by first | exact Or.inr rfl | exact Or.inl rfl | exact z_b_01 _ | assumption) ?_
          first | (rw [z_bT (by omega)] at hq; exact hq) | (rw [z_bF (by omega)] at hq; exact hq)
theorem z_shl1 {n : Int} (h : 0 ≤ n ∧ n < 31) : z_I 1 <<< (z_I n &&& 31) = z_I (2 ^ n.toNat) := by
  obtain ⟨k, rfl⟩ : ∃ k : Nat, n = k := ⟨n.toNat, by omega⟩
  have hk : k < 31 := by omega
  have : ∀ k : Nat, k < 31 → z_I 1 <<< (z_I (k : Int) &&& 31) = z_I (2 ^ k) := by decide +kernel
  exact this k hk
theorem z_pow8 {n : Int} (h : 0 ≤ n ∧ n ≤ 8) : 1 ≤ (2 : Int) ^ n.toNat ∧ (2 : Int) ^ n.toNat ≤ 256 := by
  obtain ⟨k, rfl⟩ : ∃ k : Nat, n = k := ⟨n.toNat, by omega⟩
  have : ∀ k : Nat, k ≤ 8 → 1 ≤ (2 : Int) ^ k ∧ (2 : Int) ^ k ≤ 256 := by decide +kernel
  exact this k (by omega)
theorem c_hasAll {sL : Nat} {xs : Nat → Int32} {d : Nat} {M : Am_M} {Q : Int32 → Am_M → Prop} (hd : 1 ≤ d) {σ : Sg} (hX : SX M σ) {a : Int} (ha : -2147483648 ≤ a ∧ a < 2147483648)  (hq : Q (z_b (0 ≤ a ∧ a < 2 ^ (s_n σ).toNat)) M) : am_bi sL xs d 73 [.ref 1, .int (z_I a)] M Q := by
  obtain ⟨d, rfl⟩ : ∃ e, d = e + 1 := ⟨d - 1, by omega⟩
  have hn := sb_nb hX.1
  have hnr := sb_nrb hX.1
  have hp := z_pow8 hn
  refine am_bi_of (P := am_pX7_hasAll) (rt := 2) (nL := 2) (Nat.le_of_ble_eq_true rfl) rfl (Nat.le_of_ble_eq_true rfl) rfl rfl rfl ?_
  refine am_r_iload1 (pc' := 1) rfl rfl ?_
  refine am_r_if_lt (pt := 18) (pf := 4) rfl rfl rfl (fun h1 => ?_) (fun h1 => ?_)
  · refine am_r_iconst (pc' := 19) rfl rfl ?_
    refine am_r_zret rfl rfl (by first | exact Or.inr rfl | exact Or.inl rfl | exact z_b_01 _ | assumption) ?_
    first | (rw [z_bT (by omega)] at hq; exact hq) | (rw [z_bF (by omega)] at hq; exact hq)
  · refine am_r_iload1 (pc' := 5) rfl rfl ?_
    refine am_r_iconst (pc' := 6) rfl rfl ?_
    refine am_r_aload0 (pc' := 7) rfl rfl ?_
    refine am_r_getIv (f := 5) (pc' := 10) rfl rfl rfl (sx_n hX) ?_
    refine am_r_ishl (pc' := 11) rfl rfl ?_
    rw [z_shl1 (by omega)]
    refine am_r_icmp_ge (pt := 18) (pf := 14) rfl rfl rfl (fun h11 => ?_) (fun h11 => ?_)
    · refine am_r_iconst (pc' := 19) rfl rfl ?_
      refine am_r_zret rfl rfl (by first | exact Or.inr rfl | exact Or.inl rfl | exact z_b_01 _ | assumption) ?_
      first | (rw [z_bT (by omega)] at hq; exact hq) | (rw [z_bF (by omega)] at hq; exact hq)
    · refine am_r_iconst (pc' := 15) rfl rfl ?_
      refine am_r_goto (pc' := 19) rfl rfl ?_
      refine am_r_zret rfl rfl (by first | exact Or.inr rfl | exact Or.inl rfl | exact z_b_01 _ | assumption) ?_
      first | (rw [z_bT (by omega)] at hq; exact hq) | (rw [z_bF (by omega)] at hq; exact hq)
theorem c_degrees {sL : Nat} {xs : Nat → Int32} {d : Nat} {M : Am_M} {Q : Int32 → Am_M → Prop} (hd : 1 ≤ d) {σ : Sg} (hX : SX M σ) {a p : Int} (ha : 0 ≤ a ∧ a < s_n σ) (hp : 0 ≤ p ∧ p < s_rd σ a) (hq : Q (z_I (g_deg σ a p)) M) : am_bi sL xs d 78 [.ref 1, .int (z_I a), .int (z_I p)] M Q := by
  obtain ⟨d, rfl⟩ : ∃ e, d = e + 1 := ⟨d - 1, by omega⟩
  have hn := sb_nb hX.1
  have hnr := sb_nrb hX.1
  have hb := sg_b hX.1 ha
  refine am_bi_of (P := am_pX7_degrees) (rt := 1) (nL := 3) (Nat.le_of_ble_eq_true rfl) rfl (Nat.le_of_ble_eq_true rfl) rfl rfl rfl ?_
  refine am_r_iconst (pc' := 3) rfl rfl ?_
  refine am_r_iload2 (pc' := 4) rfl rfl ?_
  refine am_r_imul (pc' := 5) rfl rfl ?_
  refine am_r_aload0 (pc' := 6) rfl rfl ?_
  refine am_r_getR (t := 2) (pc' := 9) rfl rfl rfl ?_
  refine am_r_iload1 (pc' := 10) rfl rfl ?_
  refine am_r_iaZv (n := 8) (pc' := 11) rfl rfl rfl (by decide) (sx_rd hX (by omega)) ?_
  refine am_r_idiv (pc' := 12) rfl rfl ?_
  refine am_r_iret rfl rfl ?_
  exact hq
theorem c_gap {sL : Nat} {xs : Nat → Int32} {d : Nat} {M : Am_M} {Q : Int32 → Am_M → Prop} (hd : 1 ≤ d) {x y : Int} (hx : 0 ≤ x ∧ x < 360) (hy : 0 ≤ y ∧ y < 360) (hq : Q (z_I (g_gap x y)) M) : am_bi sL xs d 79 [.int (z_I x), .int (z_I y)] M Q := by
  obtain ⟨d, rfl⟩ : ∃ e, d = e + 1 := ⟨d - 1, by omega⟩
  refine am_bi_of (P := am_pX7_gap) (rt := 1) (nL := 3) (Nat.le_of_ble_eq_true rfl) rfl (Nat.le_of_ble_eq_true rfl) rfl rfl rfl ?_
  refine am_r_iload0 (pc' := 1) rfl rfl ?_
  refine am_r_iload1 (pc' := 2) rfl rfl ?_
  refine am_r_isub (pc' := 3) rfl rfl ?_
  have hab : 0 ≤ (if 0 ≤ x - y then x - y else -(x - y)) ∧ (if 0 ≤ x - y then x - y else -(x - y)) < 360 := by split <;> omega
  refine am_r_absZ (pc' := 6) rfl rfl (Nat.le_of_ble_eq_true rfl) ?_
  refine am_r_istore2 (pc' := 7) rfl rfl rfl ?_
  refine am_r_iload2 (pc' := 8) rfl rfl ?_
  refine am_r_iconst (pc' := 11) rfl rfl ?_
  refine am_r_iload2 (pc' := 12) rfl rfl ?_
  refine am_r_isub (pc' := 13) rfl rfl ?_
  refine am_r_minZ (pc' := 16) rfl rfl (Nat.le_of_ble_eq_true rfl) ?_
  refine am_r_iret rfl rfl ?_
  exact hq
theorem c_placeOn {sL : Nat} {xs : Nat → Int32} {d : Nat} {M : Am_M} {Q : Int32 → Am_M → Prop} (hd : 2 ≤ d) {σ : Sg} (hX : SX M σ) {a d0 : Int} (ha : 0 ≤ a ∧ a < s_n σ) (hdd : -1000000 ≤ d0 ∧ d0 ≤ 1000000) (hq : Q (z_I (g_pl σ a d0)) M) : am_bi sL xs d 80 [.ref 1, .int (z_I a), .int (z_I d0)] M Q := by
  obtain ⟨d, rfl⟩ : ∃ e, d = e + 1 := ⟨d - 1, by omega⟩
  have hn := sb_nb hX.1
  have hnr := sb_nrb hX.1
  have hb := sg_b hX.1 ha
  refine am_bi_of (P := am_pX7_placeOn) (rt := 1) (nL := 3) (Nat.le_of_ble_eq_true rfl) rfl (Nat.le_of_ble_eq_true rfl) rfl rfl rfl ?_
  refine am_r_aload0 (pc' := 1) rfl rfl ?_
  refine am_r_getR (t := 3) (pc' := 4) rfl rfl rfl ?_
  refine am_r_iload1 (pc' := 5) rfl rfl ?_
  refine am_r_iaZv (n := 8) (pc' := 6) rfl rfl rfl (by decide) (sx_pl hX (by omega)) ?_
  refine am_r_iload2 (pc' := 7) rfl rfl ?_
  refine am_r_iadd (pc' := 8) rfl rfl ?_
  refine am_r_aload0 (pc' := 9) rfl rfl ?_
  refine am_r_getR (t := 2) (pc' := 12) rfl rfl rfl ?_
  refine am_r_iload1 (pc' := 13) rfl rfl ?_
  refine am_r_iaZv (n := 8) (pc' := 14) rfl rfl rfl (by decide) (sx_rd hX (by omega)) ?_
  refine am_r_ivsI2 (pc' := 17) rfl rfl rfl (Nat.le_of_ble_eq_true rfl) (c_floorMod (by omega) (by omega) (by omega) ?_)
  refine am_r_iret rfl rfl ?_
  exact hq
theorem c_degreesOn {sL : Nat} {xs : Nat → Int32} {d : Nat} {M : Am_M} {Q : Int32 → Am_M → Prop} (hd : 3 ≤ d) {σ : Sg} (hX : SX M σ) {a d0 : Int} (ha : 0 ≤ a ∧ a < s_n σ) (hdd : -1000000 ≤ d0 ∧ d0 ≤ 1000000) (hq : Q (z_I (g_dg σ a d0)) M) : am_bi sL xs d 81 [.ref 1, .int (z_I a), .int (z_I d0)] M Q := by
  obtain ⟨d, rfl⟩ : ∃ e, d = e + 1 := ⟨d - 1, by omega⟩
  have hn := sb_nb hX.1
  have hnr := sb_nrb hX.1
  have hb := sg_b hX.1 ha
  refine am_bi_of (P := am_pX7_degreesOn) (rt := 1) (nL := 3) (Nat.le_of_ble_eq_true rfl) rfl (Nat.le_of_ble_eq_true rfl) rfl rfl rfl ?_
  refine am_r_aload0 (pc' := 1) rfl rfl ?_
  refine am_r_iload1 (pc' := 2) rfl rfl ?_
  refine am_r_aload0 (pc' := 3) rfl rfl ?_
  refine am_r_iload1 (pc' := 4) rfl rfl ?_
  refine am_r_iload2 (pc' := 5) rfl rfl ?_
  refine am_r_invI2 (pc' := 8) rfl rfl rfl (Nat.le_of_ble_eq_true rfl) (c_placeOn (by omega) hX (by omega) (by omega) ?_)
  refine am_r_invI2 (pc' := 11) rfl rfl rfl (Nat.le_of_ble_eq_true rfl) (c_degrees (by omega) hX (by omega) (g_pl_b hX.1 (by omega) _) ?_)
  refine am_r_iret rfl rfl ?_
  exact hq
theorem c_gapOn {sL : Nat} {xs : Nat → Int32} {d : Nat} {M : Am_M} {Q : Int32 → Am_M → Prop} (hd : 4 ≤ d) {σ : Sg} (hX : SX M σ) {a b d0 : Int} (ha : 0 ≤ a ∧ a < s_n σ) (hb : 0 ≤ b ∧ b < s_n σ) (hdd : -1000000 ≤ d0 ∧ d0 ≤ 1000000) (hq : Q (z_I (g_gap (g_dg σ a d0) (g_dg σ b d0))) M) : am_bi sL xs d 82 [.ref 1, .int (z_I a), .int (z_I b), .int (z_I d0)] M Q := by
  obtain ⟨d, rfl⟩ : ∃ e, d = e + 1 := ⟨d - 1, by omega⟩
  have hn := sb_nb hX.1
  have hnr := sb_nrb hX.1
  refine am_bi_of (P := am_pX7_gapOn) (rt := 1) (nL := 4) (Nat.le_of_ble_eq_true rfl) rfl (Nat.le_of_ble_eq_true rfl) rfl rfl rfl ?_
  refine am_r_aload0 (pc' := 1) rfl rfl ?_
  refine am_r_iload1 (pc' := 2) rfl rfl ?_
  refine am_r_iload3 (pc' := 3) rfl rfl ?_
  refine am_r_invI2 (pc' := 6) rfl rfl rfl (Nat.le_of_ble_eq_true rfl) (c_degreesOn (by omega) hX (by omega) (by omega) ?_)
  refine am_r_aload0 (pc' := 7) rfl rfl ?_
  refine am_r_iload2 (pc' := 8) rfl rfl ?_
  refine am_r_iload3 (pc' := 9) rfl rfl ?_
  refine am_r_invI2 (pc' := 12) rfl rfl rfl (Nat.le_of_ble_eq_true rfl) (c_degreesOn (by omega) hX (by omega) (by omega) ?_)
  refine am_r_ivsI2 (pc' := 15) rfl rfl rfl (Nat.le_of_ble_eq_true rfl) (c_gap (by omega) (g_dg_b hX.1 (by omega) _) (g_dg_b hX.1 (by omega) _) ?_)
  refine am_r_iret rfl rfl ?_
  exact hq
theorem c_meetOn {sL : Nat} {xs : Nat → Int32} {d : Nat} {M : Am_M} {Q : Int32 → Am_M → Prop} (hd : 4 ≤ d) {σ : Sg} (hX : SX M σ) {a b d0 : Int} (ha : 0 ≤ a ∧ a < s_n σ) (hb : 0 ≤ b ∧ b < s_n σ) (hdd : -1000000 ≤ d0 ∧ d0 ≤ 1000000) (hq : Q (z_b (g_mt σ a 0 b d0 = true)) M) : am_bi sL xs d 83 [.ref 1, .int (z_I a), .int (z_I b), .int (z_I d0)] M Q := by
  obtain ⟨d, rfl⟩ : ∃ e, d = e + 1 := ⟨d - 1, by omega⟩
  have hn := sb_nb hX.1
  have hnr := sb_nrb hX.1
  have hgap := g_gap_b (g_dg_b hX.1 ha d0) (g_dg_b hX.1 hb d0)
  refine am_bi_of (P := am_pX7_meetOn) (rt := 2) (nL := 4) (Nat.le_of_ble_eq_true rfl) rfl (Nat.le_of_ble_eq_true rfl) rfl rfl rfl ?_
  refine am_r_aload0 (pc' := 1) rfl rfl ?_
  refine am_r_iload1 (pc' := 2) rfl rfl ?_
  refine am_r_iload3 (pc' := 3) rfl rfl ?_
  refine am_r_invI2 (pc' := 6) rfl rfl rfl (Nat.le_of_ble_eq_true rfl) (c_degreesOn (by omega) hX (by omega) (by omega) ?_)
  refine am_r_aload0 (pc' := 7) rfl rfl ?_
  refine am_r_iload2 (pc' := 8) rfl rfl ?_
  refine am_r_iload3 (pc' := 9) rfl rfl ?_
  refine am_r_invI2 (pc' := 12) rfl rfl rfl (Nat.le_of_ble_eq_true rfl) (c_degreesOn (by omega) hX (by omega) (by omega) ?_)
  refine am_r_ivsI2 (pc' := 15) rfl rfl rfl (Nat.le_of_ble_eq_true rfl) (c_gap (by omega) (g_dg_b hX.1 (by omega) _) (g_dg_b hX.1 (by omega) _) ?_)
  refine am_r_aload0 (pc' := 16) rfl rfl ?_
  refine am_r_getIv (f := 4) (pc' := 19) rfl rfl rfl (sx_nr hX) ?_
  refine am_r_icmp_gt (pt := 26) (pf := 22) rfl rfl rfl (fun h19 => ?_) (fun h19 => ?_)
  · refine am_r_iconst (pc' := 27) rfl rfl ?_
    refine am_r_zret rfl rfl (by first | exact Or.inr rfl | exact Or.inl rfl | exact z_b_01 _ | assumption) ?_
    first | (rw [show g_mt σ a 0 b d0 = true from by unfold g_mt; simp only [Int.zero_add, decide_eq_true_eq]; omega] at hq; exact hq) | (rw [show g_mt σ a 0 b d0 = false from by unfold g_mt; simp only [Int.zero_add, decide_eq_false_iff_not]; omega] at hq; exact hq)
  · refine am_r_iconst (pc' := 23) rfl rfl ?_
    refine am_r_goto (pc' := 27) rfl rfl ?_
    refine am_r_zret rfl rfl (by first | exact Or.inr rfl | exact Or.inl rfl | exact z_b_01 _ | assumption) ?_
    first | (rw [show g_mt σ a 0 b d0 = true from by unfold g_mt; simp only [Int.zero_add, decide_eq_true_eq]; omega] at hq; exact hq) | (rw [show g_mt σ a 0 b d0 = false from by unfold g_mt; simp only [Int.zero_add, decide_eq_false_iff_not]; omega] at hq; exact hq)
theorem c_meetMoved {sL : Nat} {xs : Nat → Int32} {d : Nat} {M : Am_M} {Q : Int32 → Am_M → Prop} (hd : 4 ≤ d) {σ : Sg} (hX : SX M σ) {a m b d0 : Int} (ha : 0 ≤ a ∧ a < s_n σ) (hm : -1000 ≤ m ∧ m ≤ 1000) (hb : 0 ≤ b ∧ b < s_n σ) (hdd : -200000 ≤ d0 ∧ d0 ≤ 200000) (hq : Q (z_b (g_mt σ a m b d0 = true)) M) : am_bi sL xs d 84 [.ref 1, .int (z_I a), .int (z_I m), .int (z_I b), .int (z_I d0)] M Q := by
  obtain ⟨d, rfl⟩ : ∃ e, d = e + 1 := ⟨d - 1, by omega⟩
  have hn := sb_nb hX.1
  have hnr := sb_nrb hX.1
  have hgap := g_gap_b (g_dg_b hX.1 ha (m + d0)) (g_dg_b hX.1 hb d0)
  refine am_bi_of (P := am_pX7_meetMoved) (rt := 2) (nL := 5) (Nat.le_of_ble_eq_true rfl) rfl (Nat.le_of_ble_eq_true rfl) rfl rfl rfl ?_
  refine am_r_aload0 (pc' := 1) rfl rfl ?_
  refine am_r_iload1 (pc' := 2) rfl rfl ?_
  refine am_r_iload2 (pc' := 3) rfl rfl ?_
  refine am_r_iload4 (pc' := 5) rfl rfl ?_
  refine am_r_iadd (pc' := 6) rfl rfl ?_
  refine am_r_invI2 (pc' := 9) rfl rfl rfl (Nat.le_of_ble_eq_true rfl) (c_degreesOn (by omega) hX (by omega) (by omega) ?_)
  refine am_r_aload0 (pc' := 10) rfl rfl ?_
  refine am_r_iload3 (pc' := 11) rfl rfl ?_
  refine am_r_iload4 (pc' := 13) rfl rfl ?_
  refine am_r_invI2 (pc' := 16) rfl rfl rfl (Nat.le_of_ble_eq_true rfl) (c_degreesOn (by omega) hX (by omega) (by omega) ?_)
  refine am_r_ivsI2 (pc' := 19) rfl rfl rfl (Nat.le_of_ble_eq_true rfl) (c_gap (by omega) (g_dg_b hX.1 (by omega) _) (g_dg_b hX.1 (by omega) _) ?_)
  refine am_r_aload0 (pc' := 20) rfl rfl ?_
  refine am_r_getIv (f := 4) (pc' := 23) rfl rfl rfl (sx_nr hX) ?_
  refine am_r_icmp_gt (pt := 30) (pf := 26) rfl rfl rfl (fun h23 => ?_) (fun h23 => ?_)
  · refine am_r_iconst (pc' := 31) rfl rfl ?_
    refine am_r_zret rfl rfl (by first | exact Or.inr rfl | exact Or.inl rfl | exact z_b_01 _ | assumption) ?_
    first | (rw [show g_mt σ a m b d0 = true from by unfold g_mt; simp only [Int.zero_add, decide_eq_true_eq]; omega] at hq; exact hq) | (rw [show g_mt σ a m b d0 = false from by unfold g_mt; simp only [Int.zero_add, decide_eq_false_iff_not]; omega] at hq; exact hq)
  · refine am_r_iconst (pc' := 27) rfl rfl ?_
    refine am_r_goto (pc' := 31) rfl rfl ?_
    refine am_r_zret rfl rfl (by first | exact Or.inr rfl | exact Or.inl rfl | exact z_b_01 _ | assumption) ?_
    first | (rw [show g_mt σ a m b d0 = true from by unfold g_mt; simp only [Int.zero_add, decide_eq_true_eq]; omega] at hq; exact hq) | (rw [show g_mt σ a m b d0 = false from by unfold g_mt; simp only [Int.zero_add, decide_eq_false_iff_not]; omega] at hq; exact hq)
theorem z_b_cg {c c' : Prop} [Decidable c] [Decidable c'] {Q : Int32 → Am_M → Prop} {M : Am_M} (h : c ↔ c') (hq : Q (z_b c) M) : Q (z_b c') M := by
  have e : z_b c = z_b c' := by
    unfold z_b
    by_cases hc : c
    · rw [if_pos hc, if_pos (h.mp hc)]
    · rw [if_neg hc, if_neg (fun z => hc (h.mpr z))]
  rw [← e]
  exact hq
theorem c_hasNumber {sL : Nat} {xs : Nat → Int32} {d : Nat} {M : Am_M} {Q : Int32 → Am_M → Prop} (hd : 3 ≤ d) {σ : Sg} (hX : SX M σ) {a : Int} (ha : -2147483648 ≤ a ∧ a < 2147483648) {w : Int} (hw : -2147483648 ≤ w ∧ w < 2147483648)  (hq : Q (z_b ((w = 0 ∧ 0 ≤ a ∧ a < s_n σ) ∨ (w = 1 ∧ 0 ≤ a ∧ a < s_n σ) ∨ (w = 2 ∧ 0 ≤ a ∧ a / 10 < s_n σ ∧ a % 10 < s_n σ ∧ a / 10 ≠ a % 10) ∨ (w = 3 ∧ a = 0))) M) : am_bi sL xs d 74 [.ref 1, .int (z_I a), .int (z_I w)] M Q := by
  obtain ⟨d, rfl⟩ : ∃ e, d = e + 1 := ⟨d - 1, by omega⟩
  have hn := sb_nb hX.1
  have hnr := sb_nrb hX.1
  refine am_bi_of (P := am_pX7_hasNumber) (rt := 2) (nL := 3) (Nat.le_of_ble_eq_true rfl) rfl (Nat.le_of_ble_eq_true rfl) rfl rfl rfl ?_
  refine am_r_iload2 (pc' := 1) rfl rfl ?_
  rcases (show w = 0 ∨ w = 1 ∨ w = 2 ∨ w = 3 ∨ (¬ w = 0 ∧ ¬ w = 1 ∧ ¬ w = 2 ∧ ¬ w = 3) by omega) with rfl | rfl | rfl | rfl | hsw1
  · refine am_r_tsw (t := 32) rfl rfl ?_
    refine am_r_aload0 (pc' := 33) rfl rfl ?_
    refine am_r_iload1 (pc' := 34) rfl rfl ?_
    refine am_r_invI1 (pc' := 37) rfl rfl rfl (Nat.le_of_ble_eq_true rfl) (c_has (by omega) hX (by omega) ?_)
    refine am_r_zret rfl rfl (by first | exact Or.inr rfl | exact Or.inl rfl | exact z_b_01 _ | assumption) ?_
    first | (rw [z_bT (by omega)] at hq; exact hq) | (rw [z_bF (by omega)] at hq; exact hq) | (exact z_b_cg (by omega) hq)
  · refine am_r_tsw (t := 38) rfl rfl ?_
    refine am_r_aload0 (pc' := 39) rfl rfl ?_
    refine am_r_iload1 (pc' := 40) rfl rfl ?_
    refine am_r_invI1 (pc' := 43) rfl rfl rfl (Nat.le_of_ble_eq_true rfl) (c_has (by omega) hX (by omega) ?_)
    refine am_r_zret rfl rfl (by first | exact Or.inr rfl | exact Or.inl rfl | exact z_b_01 _ | assumption) ?_
    first | (rw [z_bT (by omega)] at hq; exact hq) | (rw [z_bF (by omega)] at hq; exact hq) | (exact z_b_cg (by omega) hq)
  · refine am_r_tsw (t := 44) rfl rfl ?_
    refine am_r_aload0 (pc' := 45) rfl rfl ?_
    refine am_r_iload1 (pc' := 46) rfl rfl ?_
    refine am_r_invI1 (pc' := 49) rfl rfl rfl (Nat.le_of_ble_eq_true rfl) (c_hasPair (by omega) hX (by omega) ?_)
    refine am_r_zret rfl rfl (by first | exact Or.inr rfl | exact Or.inl rfl | exact z_b_01 _ | assumption) ?_
    first | (rw [z_bT (by omega)] at hq; exact hq) | (rw [z_bF (by omega)] at hq; exact hq) | (exact z_b_cg (by omega) hq)
  · refine am_r_tsw (t := 50) rfl rfl ?_
    refine am_r_iload1 (pc' := 51) rfl rfl ?_
    refine am_r_if_ne (pt := 58) (pf := 54) rfl rfl rfl (fun h51 => ?_) (fun h51 => ?_)
    · refine am_r_iconst (pc' := 59) rfl rfl ?_
      refine am_r_zret rfl rfl (by first | exact Or.inr rfl | exact Or.inl rfl | exact z_b_01 _ | assumption) ?_
      first | (rw [z_bT (by omega)] at hq; exact hq) | (rw [z_bF (by omega)] at hq; exact hq) | (exact z_b_cg (by omega) hq)
    · refine am_r_iconst (pc' := 55) rfl rfl ?_
      refine am_r_goto (pc' := 59) rfl rfl ?_
      refine am_r_zret rfl rfl (by first | exact Or.inr rfl | exact Or.inl rfl | exact z_b_01 _ | assumption) ?_
      first | (rw [z_bT (by omega)] at hq; exact hq) | (rw [z_bF (by omega)] at hq; exact hq) | (exact z_b_cg (by omega) hq)
  · refine am_r_tsw (t := 60) rfl (by rw [if_pos (by omega)]; rfl) ?_
    refine am_r_iconst (pc' := 61) rfl rfl ?_
    refine am_r_zret rfl rfl (by first | exact Or.inr rfl | exact Or.inl rfl | exact z_b_01 _ | assumption) ?_
    first | (rw [z_bT (by omega)] at hq; exact hq) | (rw [z_bF (by omega)] at hq; exact hq) | (exact z_b_cg (by omega) hq)
theorem c_fitsNumber {sL : Nat} {xs : Nat → Int32} {d : Nat} {M : Am_M} {Q : Int32 → Am_M → Prop} (hd : 1 ≤ d) {σ : Sg} (hX : SX M σ) {a w v : Int} (hh : ((w = 0 ∧ 0 ≤ a ∧ a < s_n σ) ∨ (w = 1 ∧ 0 ≤ a ∧ a < s_n σ) ∨ (w = 2 ∧ 0 ≤ a ∧ a / 10 < s_n σ ∧ a % 10 < s_n σ ∧ a / 10 ≠ a % 10) ∨ (w = 3 ∧ a = 0))) (hv : -2147483648 ≤ v ∧ v < 2147483648)  (hq : Q (z_b ((w = 0 ∧ 0 ≤ v ∧ v < s_rd σ a) ∨ (w = 1 ∧ 0 ≤ v ∧ v ≤ 9) ∨ (w = 2 ∧ -9 ≤ v ∧ v ≤ 9) ∨ (w = 3 ∧ 0 ≤ v ∧ v ≤ 90))) M) : am_bi sL xs d 75 [.ref 1, .int (z_I a), .int (z_I w), .int (z_I v)] M Q := by
  obtain ⟨d, rfl⟩ : ∃ e, d = e + 1 := ⟨d - 1, by omega⟩
  have hn := sb_nb hX.1
  have hnr := sb_nrb hX.1
  have hb := fun q => sg_b hX.1 (a := a) q
  refine am_bi_of (P := am_pX7_fitsNumber) (rt := 2) (nL := 4) (Nat.le_of_ble_eq_true rfl) rfl (Nat.le_of_ble_eq_true rfl) rfl rfl rfl ?_
  refine am_r_iload2 (pc' := 1) rfl rfl ?_
  rcases (show w = 0 ∨ w = 1 ∨ w = 2 ∨ w = 3 ∨ (¬ w = 0 ∧ ¬ w = 1 ∧ ¬ w = 2 ∧ ¬ w = 3) by omega) with rfl | rfl | rfl | rfl | hsw1
  · refine am_r_tsw (t := 32) rfl rfl ?_
    refine am_r_iload3 (pc' := 33) rfl rfl ?_
    refine am_r_if_lt (pt := 50) (pf := 36) rfl rfl rfl (fun h33 => ?_) (fun h33 => ?_)
    · refine am_r_iconst (pc' := 51) rfl rfl ?_
      refine am_r_zret rfl rfl (by first | exact Or.inr rfl | exact Or.inl rfl | exact z_b_01 _ | assumption) ?_
      first | (rw [z_bT (by omega)] at hq; exact hq) | (rw [z_bF (by omega)] at hq; exact hq)
    · refine am_r_iload3 (pc' := 37) rfl rfl ?_
      refine am_r_aload0 (pc' := 38) rfl rfl ?_
      refine am_r_getR (t := 2) (pc' := 41) rfl rfl rfl ?_
      refine am_r_iload1 (pc' := 42) rfl rfl ?_
      have hb := hb (by omega)
      refine am_r_iaZv (n := 8) (pc' := 43) rfl rfl rfl (by decide) (sx_rd hX (by omega)) ?_
      refine am_r_icmp_ge (pt := 50) (pf := 46) rfl rfl rfl (fun h43 => ?_) (fun h43 => ?_)
      · refine am_r_iconst (pc' := 51) rfl rfl ?_
        refine am_r_zret rfl rfl (by first | exact Or.inr rfl | exact Or.inl rfl | exact z_b_01 _ | assumption) ?_
        first | (rw [z_bT (by omega)] at hq; exact hq) | (rw [z_bF (by omega)] at hq; exact hq)
      · refine am_r_iconst (pc' := 47) rfl rfl ?_
        refine am_r_goto (pc' := 51) rfl rfl ?_
        refine am_r_zret rfl rfl (by first | exact Or.inr rfl | exact Or.inl rfl | exact z_b_01 _ | assumption) ?_
        first | (rw [z_bT (by omega)] at hq; exact hq) | (rw [z_bF (by omega)] at hq; exact hq)
  · refine am_r_tsw (t := 52) rfl rfl ?_
    refine am_r_iload3 (pc' := 53) rfl rfl ?_
    refine am_r_if_lt (pt := 66) (pf := 56) rfl rfl rfl (fun h53 => ?_) (fun h53 => ?_)
    · refine am_r_iconst (pc' := 67) rfl rfl ?_
      refine am_r_zret rfl rfl (by first | exact Or.inr rfl | exact Or.inl rfl | exact z_b_01 _ | assumption) ?_
      first | (rw [z_bT (by omega)] at hq; exact hq) | (rw [z_bF (by omega)] at hq; exact hq)
    · refine am_r_iload3 (pc' := 57) rfl rfl ?_
      refine am_r_iconst (pc' := 59) rfl rfl ?_
      refine am_r_icmp_gt (pt := 66) (pf := 62) rfl rfl rfl (fun h59 => ?_) (fun h59 => ?_)
      · refine am_r_iconst (pc' := 67) rfl rfl ?_
        refine am_r_zret rfl rfl (by first | exact Or.inr rfl | exact Or.inl rfl | exact z_b_01 _ | assumption) ?_
        first | (rw [z_bT (by omega)] at hq; exact hq) | (rw [z_bF (by omega)] at hq; exact hq)
      · refine am_r_iconst (pc' := 63) rfl rfl ?_
        refine am_r_goto (pc' := 67) rfl rfl ?_
        refine am_r_zret rfl rfl (by first | exact Or.inr rfl | exact Or.inl rfl | exact z_b_01 _ | assumption) ?_
        first | (rw [z_bT (by omega)] at hq; exact hq) | (rw [z_bF (by omega)] at hq; exact hq)
  · refine am_r_tsw (t := 68) rfl rfl ?_
    refine am_r_iload3 (pc' := 69) rfl rfl ?_
    refine am_r_iconst (pc' := 71) rfl rfl ?_
    refine am_r_icmp_lt (pt := 84) (pf := 74) rfl rfl rfl (fun h71 => ?_) (fun h71 => ?_)
    · refine am_r_iconst (pc' := 85) rfl rfl ?_
      refine am_r_zret rfl rfl (by first | exact Or.inr rfl | exact Or.inl rfl | exact z_b_01 _ | assumption) ?_
      first | (rw [z_bT (by omega)] at hq; exact hq) | (rw [z_bF (by omega)] at hq; exact hq)
    · refine am_r_iload3 (pc' := 75) rfl rfl ?_
      refine am_r_iconst (pc' := 77) rfl rfl ?_
      refine am_r_icmp_gt (pt := 84) (pf := 80) rfl rfl rfl (fun h77 => ?_) (fun h77 => ?_)
      · refine am_r_iconst (pc' := 85) rfl rfl ?_
        refine am_r_zret rfl rfl (by first | exact Or.inr rfl | exact Or.inl rfl | exact z_b_01 _ | assumption) ?_
        first | (rw [z_bT (by omega)] at hq; exact hq) | (rw [z_bF (by omega)] at hq; exact hq)
      · refine am_r_iconst (pc' := 81) rfl rfl ?_
        refine am_r_goto (pc' := 85) rfl rfl ?_
        refine am_r_zret rfl rfl (by first | exact Or.inr rfl | exact Or.inl rfl | exact z_b_01 _ | assumption) ?_
        first | (rw [z_bT (by omega)] at hq; exact hq) | (rw [z_bF (by omega)] at hq; exact hq)
  · refine am_r_tsw (t := 86) rfl rfl ?_
    refine am_r_iload3 (pc' := 87) rfl rfl ?_
    refine am_r_if_lt (pt := 100) (pf := 90) rfl rfl rfl (fun h87 => ?_) (fun h87 => ?_)
    · refine am_r_iconst (pc' := 101) rfl rfl ?_
      refine am_r_zret rfl rfl (by first | exact Or.inr rfl | exact Or.inl rfl | exact z_b_01 _ | assumption) ?_
      first | (rw [z_bT (by omega)] at hq; exact hq) | (rw [z_bF (by omega)] at hq; exact hq)
    · refine am_r_iload3 (pc' := 91) rfl rfl ?_
      refine am_r_iconst (pc' := 93) rfl rfl ?_
      refine am_r_icmp_gt (pt := 100) (pf := 96) rfl rfl rfl (fun h93 => ?_) (fun h93 => ?_)
      · refine am_r_iconst (pc' := 101) rfl rfl ?_
        refine am_r_zret rfl rfl (by first | exact Or.inr rfl | exact Or.inl rfl | exact z_b_01 _ | assumption) ?_
        first | (rw [z_bT (by omega)] at hq; exact hq) | (rw [z_bF (by omega)] at hq; exact hq)
      · refine am_r_iconst (pc' := 97) rfl rfl ?_
        refine am_r_goto (pc' := 101) rfl rfl ?_
        refine am_r_zret rfl rfl (by first | exact Or.inr rfl | exact Or.inl rfl | exact z_b_01 _ | assumption) ?_
        first | (rw [z_bT (by omega)] at hq; exact hq) | (rw [z_bF (by omega)] at hq; exact hq)
  · refine am_r_tsw (t := 102) rfl (by rw [if_pos (by omega)]; rfl) ?_
    refine am_r_iconst (pc' := 103) rfl rfl ?_
    refine am_r_zret rfl rfl (by first | exact Or.inr rfl | exact Or.inl rfl | exact z_b_01 _ | assumption) ?_
    first | (rw [z_bT (by omega)] at hq; exact hq) | (rw [z_bF (by omega)] at hq; exact hq)
def t_old (σ : Sg) (a w : Int) : Int := if w = 0 then s_pl σ a else if w = 1 then s_wt σ a else if w = 2 then s_lk σ (a / 10) (a % 10) else s_nr σ
def s_setPl (σ : Sg) (a v : Int) : Sg := (σ.1, σ.2.1, fun x => if x = a then v else σ.2.2.1 x, σ.2.2.2)
def s_setWt (σ : Sg) (a v : Int) : Sg := (σ.1, σ.2.1, σ.2.2.1, fun x => if x = a then v else σ.2.2.2.1 x, σ.2.2.2.2)
def s_setLk (σ : Sg) (a b v : Int) : Sg := (σ.1, σ.2.1, σ.2.2.1, σ.2.2.2.1, fun x y => if x = a ∧ y = b then v else σ.2.2.2.2.1 x y, σ.2.2.2.2.2)
def s_setNr (σ : Sg) (v : Int) : Sg := (σ.1, σ.2.1, σ.2.2.1, σ.2.2.2.1, σ.2.2.2.2.1, v)
def t_new (σ : Sg) (a w v : Int) : Sg := if w = 0 then s_setPl σ a v else if w = 1 then s_setWt σ a v else if w = 2 then s_setLk σ (a / 10) (a % 10) v else s_setNr σ v
def s_add (σ : Sg) (r p w : Int) : Sg := (σ.1 + 1, fun x => if x = σ.1 then r else σ.2.1 x, fun x => if x = σ.1 then p else σ.2.2.1 x, fun x => if x = σ.1 then w else σ.2.2.2.1 x, σ.2.2.2.2)
/-- only cells lo .. hi changed -/
def am_fr (lo hi : Nat) (M M' : Am_M) : Prop := ∀ k, k < lo ∨ hi < k → M'.1 k = M.1 k ∧ M'.2 k = M.2 k
theorem am_fr_rf (lo hi : Nat) (M : Am_M) : am_fr lo hi M M := fun _ _ => ⟨rfl, rfl⟩
theorem am_fr_upI {lo hi k i : Nat} {x : Int32} {M M' : Am_M} (h : am_fr lo hi M M') (hk : lo ≤ k ∧ k ≤ hi) : am_fr lo hi M (am_upI M' k i x) := fun j hj => ⟨by funext q; simp only [am_upI]; rw [if_neg (by omega)]; rw [(h j hj).1], (h j hj).2⟩
theorem am_fr_upL {lo hi k i : Nat} {x : Int64} {M M' : Am_M} (h : am_fr lo hi M M') (hk : lo ≤ k ∧ k ≤ hi) : am_fr lo hi M (am_upL M' k i x) := fun j hj => ⟨(h j hj).1, by funext q; simp only [am_upL]; rw [if_neg (by omega)]; rw [(h j hj).2]⟩
theorem am_fr_tr {lo hi lo1 hi1 lo2 hi2 : Nat} {M M' M'' : Am_M} (h : am_fr lo1 hi1 M M') (h2 : am_fr lo2 hi2 M' M'') (e1 : lo ≤ lo1 ∧ hi1 ≤ hi) (e2 : lo ≤ lo2 ∧ hi2 ≤ hi) : am_fr lo hi M M'' := fun k hk => ⟨(h2 k (by omega)).1.trans (h k (by omega)).1, (h2 k (by omega)).2.trans (h k (by omega)).2⟩
theorem am_fr_w {lo hi lo1 hi1 : Nat} {M M' : Am_M} (h : am_fr lo1 hi1 M M') (e1 : lo ≤ lo1 ∧ hi1 ≤ hi) : am_fr lo hi M M' := fun k hk => h k (by omega)
theorem sx_fr {M M' : Am_M} {σ : Sg} {lo hi : Nat} (h : SX M σ) (hf : am_fr lo hi M M') (hh : 13 < lo ∨ hi < 1) : SX M' σ := by
  obtain ⟨h0, h1, h2, h3, h4, h5, h6⟩ := h
  have e : ∀ k, 1 ≤ k → k ≤ 13 → M'.1 k = M.1 k := fun k a b => (hf k (by omega)).1
  refine ⟨h0, by rw [e 1 (by omega) (by omega)]; exact h1, by rw [e 1 (by omega) (by omega)]; exact h2, ?_, ?_, ?_, ?_⟩
  · intro a ha
    rw [e 2 (by omega) (by omega)]
    exact h3 a ha
  · intro a ha
    rw [e 3 (by omega) (by omega)]
    exact h4 a ha
  · intro a ha
    rw [e 4 (by omega) (by omega)]
    exact h5 a ha
  · intro a b ha hb
    rw [e (6 + a.toNat) (by omega) (by omega)]
    exact h6 a b ha hb
theorem sx_setPl {M : Am_M} {σ : Sg} (h : SX M σ) {a v : Int} (ha : 0 ≤ a ∧ a < s_n σ) (hv : 0 ≤ v ∧ v < s_rd σ a) : SX (am_upI M 3 a.toNat (z_I v)) (s_setPl σ a v) := by
  obtain ⟨h0, h1, h2, h3, h4, h5, h6⟩ := h
  refine ⟨⟨h0.1, h0.2.1, fun x hx => ?_, h0.2.2.2⟩, h1, h2, fun x hx => h3 x hx, fun x hx => ?_, fun x hx => h5 x hx, fun x y hx hy => ?_⟩
  · have hb := h0.2.2.1 x hx
    refine ⟨hb.1, hb.2.1, ?_, ?_, hb.2.2.2.2.1, hb.2.2.2.2.2⟩
    · show 0 ≤ (if x = a then v else σ.2.2.1 x)
      split
      · exact hv.1
      · exact hb.2.2.1
    · show (if x = a then v else σ.2.2.1 x) < s_rd σ x
      split
      · rename_i e; subst e; exact hv.2
      · exact hb.2.2.2.1
  · show (if 3 = 3 ∧ x.toNat = a.toNat then z_I v else M.1 3 x.toNat) = z_I (if x = a then v else σ.2.2.1 x)
    have hx1 : 0 ≤ x := hx.1
    by_cases e : x = a
    · rw [if_pos ⟨rfl, by rw [e]⟩, if_pos e]
    · rw [if_neg (by omega), if_neg e]
      exact h4 x hx
  · show (if 6 + x.toNat = 3 ∧ _ then z_I v else M.1 (6 + x.toNat) y.toNat) = _
    rw [if_neg (by omega)]
    exact h6 x y hx hy
theorem sx_setWt {M : Am_M} {σ : Sg} (h : SX M σ) {a v : Int} (ha : 0 ≤ a ∧ a < s_n σ) (hv : 0 ≤ v ∧ v ≤ 9) : SX (am_upI M 4 a.toNat (z_I v)) (s_setWt σ a v) := by
  obtain ⟨h0, h1, h2, h3, h4, h5, h6⟩ := h
  refine ⟨⟨h0.1, h0.2.1, fun x hx => ?_, h0.2.2.2⟩, h1, h2, fun x hx => h3 x hx, fun x hx => h4 x hx, fun x hx => ?_, fun x y hx hy => ?_⟩
  · have hb := h0.2.2.1 x hx
    refine ⟨hb.1, hb.2.1, hb.2.2.1, hb.2.2.2.1, ?_, ?_⟩
    · show 0 ≤ (if x = a then v else σ.2.2.2.1 x)
      split
      · exact hv.1
      · exact hb.2.2.2.2.1
    · show (if x = a then v else σ.2.2.2.1 x) ≤ 9
      split
      · exact hv.2
      · exact hb.2.2.2.2.2
  · show (if 4 = 4 ∧ x.toNat = a.toNat then z_I v else M.1 4 x.toNat) = z_I (if x = a then v else σ.2.2.2.1 x)
    have hx1 : 0 ≤ x := hx.1
    by_cases e : x = a
    · rw [if_pos ⟨rfl, by rw [e]⟩, if_pos e]
    · rw [if_neg (by omega), if_neg e]
      exact h5 x hx
  · show (if 6 + x.toNat = 4 ∧ _ then z_I v else M.1 (6 + x.toNat) y.toNat) = _
    rw [if_neg (by omega)]
    exact h6 x y hx hy
theorem sx_setLk {M : Am_M} {σ : Sg} (h : SX M σ) {a b v : Int} (ha : 0 ≤ a ∧ a < 8) (hb : 0 ≤ b ∧ b < 8) (hv : -9 ≤ v ∧ v ≤ 9) : SX (am_upI M (6 + a.toNat) b.toNat (z_I v)) (s_setLk σ a b v) := by
  obtain ⟨h0, h1, h2, h3, h4, h5, h6⟩ := h
  have hne : ∀ k j : Nat, k < 6 → (am_upI M (6 + a.toNat) b.toNat (z_I v)).1 k j = M.1 k j := fun k j hk => by
    show (if k = 6 + a.toNat ∧ _ then _ else _) = _
    rw [if_neg (by omega)]
  refine ⟨⟨h0.1, h0.2.1, fun x hx => h0.2.2.1 x hx, fun x y hx hy => ?_⟩, by rw [hne 1 5 (by omega)]; exact h1, by rw [hne 1 4 (by omega)]; exact h2, fun x hx => by rw [hne 2 _ (by omega)]; exact h3 x hx, fun x hx => by rw [hne 3 _ (by omega)]; exact h4 x hx, fun x hx => by rw [hne 4 _ (by omega)]; exact h5 x hx, fun x y hx hy => ?_⟩
  · have hbb := h0.2.2.2 x y hx hy
    show -9 ≤ (if x = a ∧ y = b then v else σ.2.2.2.2.1 x y) ∧ (if x = a ∧ y = b then v else σ.2.2.2.2.1 x y) ≤ 9
    split
    · exact hv
    · exact hbb
  · show (if 6 + x.toNat = 6 + a.toNat ∧ y.toNat = b.toNat then z_I v else M.1 (6 + x.toNat) y.toNat) = z_I (if x = a ∧ y = b then v else σ.2.2.2.2.1 x y)
    by_cases e : x = a ∧ y = b
    · rw [if_pos ⟨by rw [e.1], by rw [e.2]⟩, if_pos e]
    · rw [if_neg (by omega), if_neg e]
      exact h6 x y hx hy
theorem sx_setNr {M : Am_M} {σ : Sg} (h : SX M σ) {v : Int} (hv : 0 ≤ v ∧ v ≤ 90) : SX (am_upI M 1 4 (z_I v)) (s_setNr σ v) := by
  obtain ⟨h0, h1, h2, h3, h4, h5, h6⟩ := h
  refine ⟨⟨h0.1, hv, fun x hx => h0.2.2.1 x hx, h0.2.2.2⟩, h1, rfl, fun x hx => h3 x hx, fun x hx => h4 x hx, fun x hx => h5 x hx, fun x y hx hy => ?_⟩
  show (if 6 + x.toNat = 1 ∧ _ then _ else M.1 (6 + x.toNat) y.toNat) = _
  rw [if_neg (by omega)]
  exact h6 x y hx hy
theorem sx_add {M : Am_M} {σ : Sg} (h : SX M σ) {r p w : Int} (hn : s_n σ < 8) (hr : 1 ≤ r ∧ r ≤ 60) (hp : 0 ≤ p ∧ p < r) (hw : 0 ≤ w ∧ w ≤ 9) : SX (am_upI (am_upI (am_upI (am_upI M 2 (s_n σ).toNat (z_I r)) 3 (s_n σ).toNat (z_I p)) 4 (s_n σ).toNat (z_I w)) 1 5 (z_I (s_n σ + 1))) (s_add σ r p w) := by
  obtain ⟨h0, h1, h2, h3, h4, h5, h6⟩ := h
  have hn0 := h0.1
  have en : s_n (s_add σ r p w) = s_n σ + 1 := rfl
  refine ⟨⟨by rw [en]; omega, h0.2.1, fun x hx => ?_, h0.2.2.2⟩, rfl, h2, fun x hx => ?_, fun x hx => ?_, fun x hx => ?_, fun x y hx hy => ?_⟩
  · show 1 ≤ (if x = s_n σ then r else s_rd σ x) ∧ (if x = s_n σ then r else s_rd σ x) ≤ 60 ∧ 0 ≤ (if x = s_n σ then p else s_pl σ x) ∧ (if x = s_n σ then p else s_pl σ x) < (if x = s_n σ then r else s_rd σ x) ∧ 0 ≤ (if x = s_n σ then w else s_wt σ x) ∧ (if x = s_n σ then w else s_wt σ x) ≤ 9
    by_cases e : x = s_n σ
    · simp only [if_pos e]
      omega
    · simp only [if_neg e]
      exact h0.2.2.1 x (by rw [en] at hx; omega)
  · show (if 2 = 2 ∧ x.toNat = (s_n σ).toNat then z_I r else M.1 2 x.toNat) = z_I (if x = s_n σ then r else s_rd σ x)
    rw [en] at hx
    by_cases e : x = s_n σ
    · rw [if_pos ⟨rfl, by rw [e]⟩, if_pos e]
    · rw [if_neg (by omega), if_neg e]
      exact h3 x (by omega)
  · show (if 3 = 3 ∧ x.toNat = (s_n σ).toNat then z_I p else M.1 3 x.toNat) = z_I (if x = s_n σ then p else s_pl σ x)
    rw [en] at hx
    by_cases e : x = s_n σ
    · rw [if_pos ⟨rfl, by rw [e]⟩, if_pos e]
    · rw [if_neg (by omega), if_neg e]
      exact h4 x (by omega)
  · show (if 4 = 4 ∧ x.toNat = (s_n σ).toNat then z_I w else M.1 4 x.toNat) = z_I (if x = s_n σ then w else s_wt σ x)
    rw [en] at hx
    by_cases e : x = s_n σ
    · rw [if_pos ⟨rfl, by rw [e]⟩, if_pos e]
    · rw [if_neg (by omega), if_neg e]
      exact h5 x (by omega)
  · show (if 6 + x.toNat = 1 ∧ _ then _ else (if 6 + x.toNat = 4 ∧ _ then _ else (if 6 + x.toNat = 3 ∧ _ then _ else (if 6 + x.toNat = 2 ∧ _ then _ else M.1 (6 + x.toNat) y.toNat)))) = _
    rw [if_neg (by omega), if_neg (by omega), if_neg (by omega), if_neg (by omega)]
    exact h6 x y hx hy
theorem am_row8 : ∀ i : Nat, i < 8 → am_okA (6 + i) 0 8 = true := by decide +kernel
theorem am_row8z {a : Int} (h : 0 ≤ a ∧ a < 8) : am_okA (6 + a.toNat) 0 8 = true := am_row8 a.toNat (by omega)
theorem c_told {sL : Nat} {xs : Nat → Int32} {d : Nat} {M : Am_M} {Q : Int32 → Am_M → Prop} (hd : 1 ≤ d) {σ : Sg} (hX : SX M σ) {a w : Int} (hh : ((w = 0 ∧ 0 ≤ a ∧ a < s_n σ) ∨ (w = 1 ∧ 0 ≤ a ∧ a < s_n σ) ∨ (w = 2 ∧ 0 ≤ a ∧ a / 10 < s_n σ ∧ a % 10 < s_n σ ∧ a / 10 ≠ a % 10) ∨ (w = 3 ∧ a = 0)))  (hq : Q (z_I (t_old σ a w)) M) : am_bi sL xs d 76 [.ref 1, .int (z_I a), .int (z_I w)] M Q := by
  obtain ⟨d, rfl⟩ : ∃ e, d = e + 1 := ⟨d - 1, by omega⟩
  have hn := sb_nb hX.1
  have hnr := sb_nrb hX.1
  refine am_bi_of (P := am_pX7_told) (rt := 1) (nL := 3) (Nat.le_of_ble_eq_true rfl) rfl (Nat.le_of_ble_eq_true rfl) rfl rfl rfl ?_
  refine am_r_iload2 (pc' := 1) rfl rfl ?_
  rcases (show w = 0 ∨ w = 1 ∨ w = 2 ∨ (¬ w = 0 ∧ ¬ w = 1 ∧ ¬ w = 2) by omega) with rfl | rfl | rfl | hsw1
  · refine am_r_tsw (t := 28) rfl rfl ?_
    refine am_r_aload0 (pc' := 29) rfl rfl ?_
    refine am_r_getR (t := 3) (pc' := 32) rfl rfl rfl ?_
    refine am_r_iload1 (pc' := 33) rfl rfl ?_
    refine am_r_iaZv (n := 8) (pc' := 34) rfl rfl rfl (by decide) (sx_pl hX (by omega)) ?_
    refine am_r_iret rfl rfl ?_
    exact hq
  · refine am_r_tsw (t := 35) rfl rfl ?_
    refine am_r_aload0 (pc' := 36) rfl rfl ?_
    refine am_r_getR (t := 4) (pc' := 39) rfl rfl rfl ?_
    refine am_r_iload1 (pc' := 40) rfl rfl ?_
    refine am_r_iaZv (n := 8) (pc' := 41) rfl rfl rfl (by decide) (sx_wt hX (by omega)) ?_
    refine am_r_iret rfl rfl ?_
    exact hq
  · refine am_r_tsw (t := 42) rfl rfl ?_
    refine am_r_aload0 (pc' := 43) rfl rfl ?_
    refine am_r_getR (t := 5) (pc' := 46) rfl rfl rfl ?_
    refine am_r_iload1 (pc' := 47) rfl rfl ?_
    refine am_r_iconst (pc' := 49) rfl rfl ?_
    refine am_r_idiv (pc' := 50) rfl rfl ?_
    refine am_r_aaZ (n := 8) (t := 6) (pc' := 51) rfl rfl rfl rfl (by decide) ?_
    refine am_r_iload1 (pc' := 52) rfl rfl ?_
    refine am_r_iconst (pc' := 54) rfl rfl ?_
    refine am_r_irem (pc' := 55) rfl rfl ?_
    refine am_r_iaZv (n := 8) (pc' := 56) rfl rfl (am_row8z (by omega)) (by decide) (sx_lk hX (by omega) (by omega)) ?_
    refine am_r_iret rfl rfl ?_
    exact hq
  · refine am_r_tsw (t := 57) rfl (by rw [if_pos (by omega)]; rfl) ?_
    refine am_r_aload0 (pc' := 58) rfl rfl ?_
    refine am_r_getIv (f := 4) (pc' := 61) rfl rfl rfl (sx_nr hX) ?_
    refine am_r_iret rfl rfl ?_
    (have e : t_old σ a w = s_nr σ := (by unfold t_old; rw [if_neg (by omega), if_neg (by omega), if_neg (by omega)])); rw [e] at hq; exact hq
theorem c_tell {sL : Nat} {xs : Nat → Int32} {d : Nat} {M : Am_M} {Q : Am_M → Prop} (hd : 1 ≤ d) {σ : Sg} (hX : SX M σ) {a w v : Int} (hh : ((w = 0 ∧ 0 ≤ a ∧ a < s_n σ) ∨ (w = 1 ∧ 0 ≤ a ∧ a < s_n σ) ∨ (w = 2 ∧ 0 ≤ a ∧ a / 10 < s_n σ ∧ a % 10 < s_n σ ∧ a / 10 ≠ a % 10) ∨ (w = 3 ∧ a = 0))) (hf : ((w = 0 ∧ 0 ≤ v ∧ v < s_rd σ a) ∨ (w = 1 ∧ 0 ≤ v ∧ v ≤ 9) ∨ (w = 2 ∧ -9 ≤ v ∧ v ≤ 9) ∨ (w = 3 ∧ 0 ≤ v ∧ v ≤ 90))) (hq : ∀ M' : Am_M, am_fr 1 13 M M' → SX M' (t_new σ a w v) → Q M') : am_bv sL xs d 77 [.ref 1, .int (z_I a), .int (z_I w), .int (z_I v)] M Q := by
  obtain ⟨d, rfl⟩ : ∃ e, d = e + 1 := ⟨d - 1, by omega⟩
  have hn := sb_nb hX.1
  have hnr := sb_nrb hX.1
  refine am_bv_of (P := am_pX7_tell) (rt := 0) (nL := 4) (Nat.le_of_ble_eq_true rfl) rfl (Nat.le_of_ble_eq_true rfl) rfl rfl rfl ?_
  refine am_r_iload2 (pc' := 1) rfl rfl ?_
  rcases (show w = 0 ∨ w = 1 ∨ w = 2 ∨ (¬ w = 0 ∧ ¬ w = 1 ∧ ¬ w = 2) by omega) with rfl | rfl | rfl | hsw1
  · refine am_r_tsw (t := 28) rfl rfl ?_
    refine am_r_aload0 (pc' := 29) rfl rfl ?_
    refine am_r_getR (t := 3) (pc' := 32) rfl rfl rfl ?_
    refine am_r_iload1 (pc' := 33) rfl rfl ?_
    refine am_r_iload3 (pc' := 34) rfl rfl ?_
    refine am_r_iast (n := 8) (pc' := 35) rfl rfl (rfl) (by decide) ?_
    refine am_r_goto (pc' := 71) rfl rfl ?_
    refine am_r_vret rfl rfl ?_
    first | exact hq _ (am_fr_upI (am_fr_rf _ _ _) (by omega)) (sx_setPl hX (by omega) (by omega)) | exact hq _ (am_fr_upI (am_fr_rf _ _ _) (by omega)) (sx_setWt hX (by omega) (by omega)) | exact hq _ (am_fr_upI (am_fr_rf _ _ _) (by omega)) (sx_setLk hX (by omega) (by omega) (by omega)) | exact hq _ (am_fr_upI (am_fr_rf _ _ _) (by omega)) (by have e : t_new σ a w v = s_setNr σ v := (by unfold t_new; rw [if_neg (by omega), if_neg (by omega), if_neg (by omega)]); rw [e]; exact sx_setNr hX (by omega))
  · refine am_r_tsw (t := 38) rfl rfl ?_
    refine am_r_aload0 (pc' := 39) rfl rfl ?_
    refine am_r_getR (t := 4) (pc' := 42) rfl rfl rfl ?_
    refine am_r_iload1 (pc' := 43) rfl rfl ?_
    refine am_r_iload3 (pc' := 44) rfl rfl ?_
    refine am_r_iast (n := 8) (pc' := 45) rfl rfl (rfl) (by decide) ?_
    refine am_r_goto (pc' := 71) rfl rfl ?_
    refine am_r_vret rfl rfl ?_
    first | exact hq _ (am_fr_upI (am_fr_rf _ _ _) (by omega)) (sx_setPl hX (by omega) (by omega)) | exact hq _ (am_fr_upI (am_fr_rf _ _ _) (by omega)) (sx_setWt hX (by omega) (by omega)) | exact hq _ (am_fr_upI (am_fr_rf _ _ _) (by omega)) (sx_setLk hX (by omega) (by omega) (by omega)) | exact hq _ (am_fr_upI (am_fr_rf _ _ _) (by omega)) (by have e : t_new σ a w v = s_setNr σ v := (by unfold t_new; rw [if_neg (by omega), if_neg (by omega), if_neg (by omega)]); rw [e]; exact sx_setNr hX (by omega))
  · refine am_r_tsw (t := 48) rfl rfl ?_
    refine am_r_aload0 (pc' := 49) rfl rfl ?_
    refine am_r_getR (t := 5) (pc' := 52) rfl rfl rfl ?_
    refine am_r_iload1 (pc' := 53) rfl rfl ?_
    refine am_r_iconst (pc' := 55) rfl rfl ?_
    refine am_r_idiv (pc' := 56) rfl rfl ?_
    refine am_r_aaZ (n := 8) (t := 6) (pc' := 57) rfl rfl rfl rfl (by decide) ?_
    refine am_r_iload1 (pc' := 58) rfl rfl ?_
    refine am_r_iconst (pc' := 60) rfl rfl ?_
    refine am_r_irem (pc' := 61) rfl rfl ?_
    refine am_r_iload3 (pc' := 62) rfl rfl ?_
    refine am_r_iast (n := 8) (pc' := 63) rfl rfl (am_row8z (by omega)) (by decide) ?_
    refine am_r_goto (pc' := 71) rfl rfl ?_
    refine am_r_vret rfl rfl ?_
    first | exact hq _ (am_fr_upI (am_fr_rf _ _ _) (by omega)) (sx_setPl hX (by omega) (by omega)) | exact hq _ (am_fr_upI (am_fr_rf _ _ _) (by omega)) (sx_setWt hX (by omega) (by omega)) | exact hq _ (am_fr_upI (am_fr_rf _ _ _) (by omega)) (sx_setLk hX (by omega) (by omega) (by omega)) | exact hq _ (am_fr_upI (am_fr_rf _ _ _) (by omega)) (by have e : t_new σ a w v = s_setNr σ v := (by unfold t_new; rw [if_neg (by omega), if_neg (by omega), if_neg (by omega)]); rw [e]; exact sx_setNr hX (by omega))
  · refine am_r_tsw (t := 66) rfl (by rw [if_pos (by omega)]; rfl) ?_
    refine am_r_aload0 (pc' := 67) rfl rfl ?_
    refine am_r_iload3 (pc' := 68) rfl rfl ?_
    refine am_r_putI (f := 4) (pc' := 71) rfl rfl rfl (by decide) ?_
    refine am_r_vret rfl rfl ?_
    first | exact hq _ (am_fr_upI (am_fr_rf _ _ _) (by omega)) (sx_setPl hX (by omega) (by omega)) | exact hq _ (am_fr_upI (am_fr_rf _ _ _) (by omega)) (sx_setWt hX (by omega) (by omega)) | exact hq _ (am_fr_upI (am_fr_rf _ _ _) (by omega)) (sx_setLk hX (by omega) (by omega) (by omega)) | exact hq _ (am_fr_upI (am_fr_rf _ _ _) (by omega)) (by have e : t_new σ a w v = s_setNr σ v := (by unfold t_new; rw [if_neg (by omega), if_neg (by omega), if_neg (by omega)]); rw [e]; exact sx_setNr hX (by omega))
theorem c_fitsBody {sL : Nat} {xs : Nat → Int32} {d : Nat} {M : Am_M} {Q : Int32 → Am_M → Prop} (hd : 1 ≤ d) {r : Int} (hr : -2147483648 ≤ r ∧ r < 2147483648) {p : Int} (hp : -2147483648 ≤ p ∧ p < 2147483648) {w : Int} (hw : -2147483648 ≤ w ∧ w < 2147483648)  (hq : Q (z_b (1 ≤ r ∧ r ≤ 60 ∧ 0 ≤ p ∧ p < r ∧ 0 ≤ w ∧ w ≤ 9)) M) : am_bi sL xs d 69 [.int (z_I r), .int (z_I p), .int (z_I w)] M Q := by
  obtain ⟨d, rfl⟩ : ∃ e, d = e + 1 := ⟨d - 1, by omega⟩
  refine am_bi_of (P := am_pX7_fitsBody) (rt := 2) (nL := 3) (Nat.le_of_ble_eq_true rfl) rfl (Nat.le_of_ble_eq_true rfl) rfl rfl rfl ?_
  refine am_r_iload0 (pc' := 1) rfl rfl ?_
  refine am_r_iconst (pc' := 2) rfl rfl ?_
  refine am_r_icmp_lt (pt := 34) (pf := 5) rfl rfl rfl (fun h2 => ?_) (fun h2 => ?_)
  · refine am_r_iconst (pc' := 35) rfl rfl ?_
    refine am_r_zret rfl rfl (by first | exact Or.inr rfl | exact Or.inl rfl | exact z_b_01 _ | assumption) ?_
    first | (rw [z_bT (by omega)] at hq; exact hq) | (rw [z_bF (by omega)] at hq; exact hq)
  · refine am_r_iload0 (pc' := 6) rfl rfl ?_
    refine am_r_iconst (pc' := 8) rfl rfl ?_
    refine am_r_icmp_gt (pt := 34) (pf := 11) rfl rfl rfl (fun h8 => ?_) (fun h8 => ?_)
    · refine am_r_iconst (pc' := 35) rfl rfl ?_
      refine am_r_zret rfl rfl (by first | exact Or.inr rfl | exact Or.inl rfl | exact z_b_01 _ | assumption) ?_
      first | (rw [z_bT (by omega)] at hq; exact hq) | (rw [z_bF (by omega)] at hq; exact hq)
    · refine am_r_iload1 (pc' := 12) rfl rfl ?_
      refine am_r_if_lt (pt := 34) (pf := 15) rfl rfl rfl (fun h12 => ?_) (fun h12 => ?_)
      · refine am_r_iconst (pc' := 35) rfl rfl ?_
        refine am_r_zret rfl rfl (by first | exact Or.inr rfl | exact Or.inl rfl | exact z_b_01 _ | assumption) ?_
        first | (rw [z_bT (by omega)] at hq; exact hq) | (rw [z_bF (by omega)] at hq; exact hq)
      · refine am_r_iload1 (pc' := 16) rfl rfl ?_
        refine am_r_iload0 (pc' := 17) rfl rfl ?_
        refine am_r_icmp_ge (pt := 34) (pf := 20) rfl rfl rfl (fun h17 => ?_) (fun h17 => ?_)
        · refine am_r_iconst (pc' := 35) rfl rfl ?_
          refine am_r_zret rfl rfl (by first | exact Or.inr rfl | exact Or.inl rfl | exact z_b_01 _ | assumption) ?_
          first | (rw [z_bT (by omega)] at hq; exact hq) | (rw [z_bF (by omega)] at hq; exact hq)
        · refine am_r_iload2 (pc' := 21) rfl rfl ?_
          refine am_r_if_lt (pt := 34) (pf := 24) rfl rfl rfl (fun h21 => ?_) (fun h21 => ?_)
          · refine am_r_iconst (pc' := 35) rfl rfl ?_
            refine am_r_zret rfl rfl (by first | exact Or.inr rfl | exact Or.inl rfl | exact z_b_01 _ | assumption) ?_
            first | (rw [z_bT (by omega)] at hq; exact hq) | (rw [z_bF (by omega)] at hq; exact hq)
          · refine am_r_iload2 (pc' := 25) rfl rfl ?_
            refine am_r_iconst (pc' := 27) rfl rfl ?_
            refine am_r_icmp_gt (pt := 34) (pf := 30) rfl rfl rfl (fun h27 => ?_) (fun h27 => ?_)
            · refine am_r_iconst (pc' := 35) rfl rfl ?_
              refine am_r_zret rfl rfl (by first | exact Or.inr rfl | exact Or.inl rfl | exact z_b_01 _ | assumption) ?_
              first | (rw [z_bT (by omega)] at hq; exact hq) | (rw [z_bF (by omega)] at hq; exact hq)
            · refine am_r_iconst (pc' := 31) rfl rfl ?_
              refine am_r_goto (pc' := 35) rfl rfl ?_
              refine am_r_zret rfl rfl (by first | exact Or.inr rfl | exact Or.inl rfl | exact z_b_01 _ | assumption) ?_
              first | (rw [z_bT (by omega)] at hq; exact hq) | (rw [z_bF (by omega)] at hq; exact hq)
theorem c_added {sL : Nat} {xs : Nat → Int32} {d : Nat} {M : Am_M} {Q : Int32 → Am_M → Prop} (hd : 1 ≤ d) {σ : Sg} (hX : SX M σ) {r p w : Int} (hr : 1 ≤ r ∧ r ≤ 60) (hp : 0 ≤ p ∧ p < r) (hw : 0 ≤ w ∧ w ≤ 9) (hq1 : 8 ≤ s_n σ → Q (z_I (-3)) M) (hq : ∀ M' : Am_M, s_n σ < 8 → am_fr 1 13 M M' → SX M' (s_add σ r p w) → Q (z_I (s_n σ)) M') : am_bi sL xs d 70 [.ref 1, .int (z_I r), .int (z_I p), .int (z_I w)] M Q := by
  obtain ⟨d, rfl⟩ : ∃ e, d = e + 1 := ⟨d - 1, by omega⟩
  have hn := sb_nb hX.1
  have hnr := sb_nrb hX.1
  refine am_bi_of (P := am_pX7_added) (rt := 1) (nL := 4) (Nat.le_of_ble_eq_true rfl) rfl (Nat.le_of_ble_eq_true rfl) rfl rfl rfl ?_
  refine am_r_aload0 (pc' := 1) rfl rfl ?_
  refine am_r_getIv (f := 5) (pc' := 4) rfl rfl rfl (sx_n hX) ?_
  refine am_r_iconst (pc' := 6) rfl rfl ?_
  refine am_r_icmp_lt (pt := 12) (pf := 9) rfl rfl rfl (fun h6 => ?_) (fun h6 => ?_)
  · refine am_r_aload0 (pc' := 13) rfl rfl ?_
    refine am_r_getR (t := 2) (pc' := 16) rfl rfl rfl ?_
    refine am_r_aload0 (pc' := 17) rfl rfl ?_
    refine am_r_getIv (f := 5) (pc' := 20) rfl rfl rfl (sx_n hX) ?_
    refine am_r_iload1 (pc' := 21) rfl rfl ?_
    refine am_r_iast (n := 8) (pc' := 22) rfl rfl (rfl) (by decide) ?_
    refine am_r_aload0 (pc' := 23) rfl rfl ?_
    refine am_r_getR (t := 3) (pc' := 26) rfl rfl rfl ?_
    refine am_r_aload0 (pc' := 27) rfl rfl ?_
    refine am_r_getIv (f := 5) (pc' := 30) rfl rfl rfl ((sx_n hX : M.1 1 5 = z_I (s_n σ))) ?_
    refine am_r_iload2 (pc' := 31) rfl rfl ?_
    refine am_r_iast (n := 8) (pc' := 32) rfl rfl (rfl) (by decide) ?_
    refine am_r_aload0 (pc' := 33) rfl rfl ?_
    refine am_r_getR (t := 4) (pc' := 36) rfl rfl rfl ?_
    refine am_r_aload0 (pc' := 37) rfl rfl ?_
    refine am_r_getIv (f := 5) (pc' := 40) rfl rfl rfl ((sx_n hX : M.1 1 5 = z_I (s_n σ))) ?_
    refine am_r_iload3 (pc' := 41) rfl rfl ?_
    refine am_r_iast (n := 8) (pc' := 42) rfl rfl (rfl) (by decide) ?_
    refine am_r_aload0 (pc' := 43) rfl rfl ?_
    refine am_r_dup (pc' := 44) rfl rfl rfl ?_
    refine am_r_getIv (f := 5) (pc' := 47) rfl rfl rfl ((sx_n hX : M.1 1 5 = z_I (s_n σ))) ?_
    refine am_r_iconst (pc' := 48) rfl rfl ?_
    refine am_r_iadd (pc' := 49) rfl rfl ?_
    refine am_r_putI (f := 5) (pc' := 52) rfl rfl rfl (by decide) ?_
    refine am_r_aload0 (pc' := 53) rfl rfl ?_
    refine am_r_getIv (f := 5) (pc' := 56) rfl rfl rfl (rfl) ?_
    refine am_r_iconst (pc' := 57) rfl rfl ?_
    refine am_r_isub (pc' := 58) rfl rfl ?_
    (have e : s_n σ + 1 - 1 = s_n σ := by omega); rw [e]
    refine am_r_iret rfl rfl ?_
    exact hq _ (by omega) (am_fr_upI (am_fr_upI (am_fr_upI (am_fr_upI (am_fr_rf _ _ _) (by omega)) (by omega)) (by omega)) (by omega)) (sx_add hX (by omega) hr hp hw)
  · refine am_r_iconst (pc' := 11) rfl rfl ?_
    refine am_r_iret rfl rfl ?_
    exact hq1 (by omega)
end
section
/-! THE SKY of the reference: what its cells hold; its methods -/
def SM (M : Am_M) (σ : Sg) : Prop := SB σ ∧ M.1 53 6 = z_I (s_n σ) ∧ M.1 54 80 = z_I (s_nr σ) ∧ (∀ a, 0 ≤ a ∧ a < s_n σ → M.1 58 a.toNat = z_I (s_rd σ a)) ∧ (∀ a, 0 ≤ a ∧ a < s_n σ → M.1 54 a.toNat = z_I (s_pl σ a)) ∧ (∀ a, 0 ≤ a ∧ a < s_n σ → M.1 54 (8 + a).toNat = z_I (s_wt σ a)) ∧ (∀ a b, 0 ≤ a ∧ a < 8 → 0 ≤ b ∧ b < 8 → M.1 54 (16 + 8 * a + b).toNat = z_I (s_lk σ a b))
theorem sm_n {M : Am_M} {σ : Sg} (h : SM M σ) : M.1 53 6 = z_I (s_n σ) := h.2.1
theorem sm_nr {M : Am_M} {σ : Sg} (h : SM M σ) : M.1 54 80 = z_I (s_nr σ) := h.2.2.1
theorem sm_rd {M : Am_M} {σ : Sg} (h : SM M σ) {a : Int} (ha : 0 ≤ a ∧ a < s_n σ) : M.1 58 a.toNat = z_I (s_rd σ a) := h.2.2.2.1 a ha
theorem sm_pl {M : Am_M} {σ : Sg} (h : SM M σ) {a : Int} (ha : 0 ≤ a ∧ a < s_n σ) : M.1 54 a.toNat = z_I (s_pl σ a) := h.2.2.2.2.1 a ha
theorem sm_wt {M : Am_M} {σ : Sg} (h : SM M σ) {a : Int} (ha : 0 ≤ a ∧ a < s_n σ) : M.1 54 (8 + a).toNat = z_I (s_wt σ a) := h.2.2.2.2.2.1 a ha
theorem sm_lk {M : Am_M} {σ : Sg} (h : SM M σ) {a b : Int} (ha : 0 ≤ a ∧ a < 8) (hb : 0 ≤ b ∧ b < 8) : M.1 54 (16 + 8 * a + b).toNat = z_I (s_lk σ a b) := h.2.2.2.2.2.2 a b ha hb
def s_bit (s k : Int) : Int := s / 2 ^ k.toNat % 2
theorem s_bit01 (s k : Int) : s_bit s k = 0 ∨ s_bit s k = 1 := by unfold s_bit; omega
theorem z_bit {s k : Int} (hs : 0 ≤ s ∧ s < 256) (hk : 0 ≤ k ∧ k < 8) : z_I s >>> (z_I k &&& 31) &&& z_I 1 = z_I (s_bit s k) := by
  obtain ⟨i, rfl⟩ : ∃ i : Nat, s = i := ⟨s.toNat, by omega⟩
  obtain ⟨j, rfl⟩ : ∃ j : Nat, k = j := ⟨k.toNat, by omega⟩
  have h : ∀ i : Nat, i < 256 → ∀ j : Nat, j < 8 → z_I (i : Int) >>> (z_I (j : Int) &&& 31) &&& z_I 1 = z_I (s_bit i j) := by decide +kernel
  exact h i (by omega) j (by omega)
theorem m_within {sL : Nat} {xs : Nat → Int32} {d : Nat} {M : Am_M} {Q : Int32 → Am_M → Prop} (hd : 1 ≤ d) {v lo hi : Int} (hv : -9223372036854775808 ≤ v ∧ v < 9223372036854775808) (hlo : -9223372036854775808 ≤ lo ∧ lo < 9223372036854775808) (hhi : -9223372036854775808 ≤ hi ∧ hi < 9223372036854775808) (hq : Q (z_b (lo ≤ v ∧ v ≤ hi)) M) : am_bi sL xs d 159 [.long (z_L v), .long (z_L lo), .long (z_L hi)] M Q := by
  obtain ⟨d, rfl⟩ : ∃ e, d = e + 1 := ⟨d - 1, by omega⟩
  refine am_bi_of (P := am_pX11_within) (rt := 2) (nL := 6) (Nat.le_of_ble_eq_true rfl) rfl (Nat.le_of_ble_eq_true rfl) rfl rfl rfl ?_
  refine am_r_lload0 (pc' := 1) rfl rfl ?_
  refine am_r_lload2 (pc' := 2) rfl rfl ?_
  refine am_r_lcmp (pc' := 3) rfl rfl ?_
  refine am_r_lif_lt (pt := 17) (pf := 6) rfl rfl rfl (fun h3 => ?_) (fun h3 => ?_)
  · refine am_r_iconst (pc' := 18) rfl rfl ?_
    refine am_r_zret rfl rfl (by first | exact Or.inr rfl | exact Or.inl rfl | exact z_b_01 _ | assumption) ?_
    first | (rw [z_bT (by omega)] at hq; exact hq) | (rw [z_bF (by omega)] at hq; exact hq)
  · refine am_r_lload0 (pc' := 7) rfl rfl ?_
    refine am_r_lload4 (pc' := 9) rfl rfl ?_
    refine am_r_lcmp (pc' := 10) rfl rfl ?_
    refine am_r_lif_gt (pt := 17) (pf := 13) rfl rfl rfl (fun h10 => ?_) (fun h10 => ?_)
    · refine am_r_iconst (pc' := 18) rfl rfl ?_
      refine am_r_zret rfl rfl (by first | exact Or.inr rfl | exact Or.inl rfl | exact z_b_01 _ | assumption) ?_
      first | (rw [z_bT (by omega)] at hq; exact hq) | (rw [z_bF (by omega)] at hq; exact hq)
    · refine am_r_iconst (pc' := 14) rfl rfl ?_
      refine am_r_goto (pc' := 18) rfl rfl ?_
      refine am_r_zret rfl rfl (by first | exact Or.inr rfl | exact Or.inl rfl | exact z_b_01 _ | assumption) ?_
      first | (rw [z_bT (by omega)] at hq; exact hq) | (rw [z_bF (by omega)] at hq; exact hq)
theorem m_isIn {sL : Nat} {xs : Nat → Int32} {d : Nat} {M : Am_M} {Q : Int32 → Am_M → Prop} (hd : 1 ≤ d) {s k : Int} (hs : 0 ≤ s ∧ s < 256) (hk : 0 ≤ k ∧ k < 8) (hq : Q (z_b (s_bit s k = 1)) M) : am_bi sL xs d 160 [.int (z_I s), .int (z_I k)] M Q := by
  obtain ⟨d, rfl⟩ : ∃ e, d = e + 1 := ⟨d - 1, by omega⟩
  have hbt := s_bit01 s k
  refine am_bi_of (P := am_pX11_isIn) (rt := 2) (nL := 2) (Nat.le_of_ble_eq_true rfl) rfl (Nat.le_of_ble_eq_true rfl) rfl rfl rfl ?_
  refine am_r_iload0 (pc' := 1) rfl rfl ?_
  refine am_r_iload1 (pc' := 2) rfl rfl ?_
  refine am_r_ishr (pc' := 3) rfl rfl ?_
  refine am_r_iconst (pc' := 4) rfl rfl ?_
  refine am_r_iandR (pc' := 5) rfl rfl ?_
  rw [z_bit hs hk]
  refine am_r_iconst (pc' := 6) rfl rfl ?_
  refine am_r_icmp_ne (pt := 13) (pf := 9) rfl rfl rfl (fun h6 => ?_) (fun h6 => ?_)
  · refine am_r_iconst (pc' := 14) rfl rfl ?_
    refine am_r_zret rfl rfl (by first | exact Or.inr rfl | exact Or.inl rfl | exact z_b_01 _ | assumption) ?_
    first | (rw [z_bT (by omega)] at hq; exact hq) | (rw [z_bF (by omega)] at hq; exact hq)
  · refine am_r_iconst (pc' := 10) rfl rfl ?_
    refine am_r_goto (pc' := 14) rfl rfl ?_
    refine am_r_zret rfl rfl (by first | exact Or.inr rfl | exact Or.inl rfl | exact z_b_01 _ | assumption) ?_
    first | (rw [z_bT (by omega)] at hq; exact hq) | (rw [z_bF (by omega)] at hq; exact hq)
theorem m_isOrb {sL : Nat} {xs : Nat → Int32} {d : Nat} {M : Am_M} {Q : Int32 → Am_M → Prop} (hd : 2 ≤ d) {σ : Sg} (hM : SM M σ) {a : Int} (ha : -9223372036854775808 ≤ a ∧ a < 9223372036854775808) (hq : Q (z_b (0 ≤ a ∧ a < s_n σ)) M) : am_bi sL xs d 164 [.ref 53, .long (z_L a)] M Q := by
  obtain ⟨d, rfl⟩ : ∃ e, d = e + 1 := ⟨d - 1, by omega⟩
  have hn := sb_nb hM.1
  have hnr := sb_nrb hM.1
  refine am_bi_of (P := am_pX11_isOrb) (rt := 2) (nL := 3) (Nat.le_of_ble_eq_true rfl) rfl (Nat.le_of_ble_eq_true rfl) rfl rfl rfl ?_
  refine am_r_lload1 (pc' := 1) rfl rfl ?_
  refine am_r_lconst (z := 0) (pc' := 2) rfl rfl rfl ?_
  refine am_r_aload0 (pc' := 3) rfl rfl ?_
  refine am_r_getIv (f := 6) (pc' := 6) rfl rfl rfl (sm_n hM) ?_
  refine am_r_iconst (pc' := 7) rfl rfl ?_
  refine am_r_isub (pc' := 8) rfl rfl ?_
  refine am_r_i2l (pc' := 9) rfl rfl ?_
  refine am_r_ivsI3 (pc' := 12) rfl rfl rfl (Nat.le_of_ble_eq_true rfl) (m_within (by omega) (by omega) (by omega) (by omega) ?_)
  refine am_r_zret rfl rfl (by first | exact Or.inr rfl | exact Or.inl rfl | exact z_b_01 _ | assumption) ?_
  first | (rw [z_bT (by omega)] at hq; exact hq) | (rw [z_bF (by omega)] at hq; exact hq) | (exact z_b_cg (by omega) hq)
theorem m_isAb {sL : Nat} {xs : Nat → Int32} {d : Nat} {M : Am_M} {Q : Int32 → Am_M → Prop} (hd : 3 ≤ d) {σ : Sg} (hM : SM M σ) {a : Int} (ha : -2147483648 ≤ a ∧ a < 2147483648)  (hq : Q (z_b (0 ≤ a ∧ a / 10 < s_n σ ∧ a % 10 < s_n σ ∧ a / 10 ≠ a % 10)) M) : am_bi sL xs d 165 [.ref 53, .int (z_I a)] M Q := by
  obtain ⟨d, rfl⟩ : ∃ e, d = e + 1 := ⟨d - 1, by omega⟩
  have hn := sb_nb hM.1
  have hnr := sb_nrb hM.1
  refine am_bi_of (P := am_pX11_isAb) (rt := 2) (nL := 2) (Nat.le_of_ble_eq_true rfl) rfl (Nat.le_of_ble_eq_true rfl) rfl rfl rfl ?_
  refine am_r_iload1 (pc' := 1) rfl rfl ?_
  refine am_r_if_lt (pt := 43) (pf := 4) rfl rfl rfl (fun h1 => ?_) (fun h1 => ?_)
  · refine am_r_iconst (pc' := 44) rfl rfl ?_
    refine am_r_zret rfl rfl (by first | exact Or.inr rfl | exact Or.inl rfl | exact z_b_01 _ | assumption) ?_
    first | (rw [z_bT (by omega)] at hq; exact hq) | (rw [z_bF (by omega)] at hq; exact hq) | (exact z_b_cg (by omega) hq)
  · refine am_r_aload0 (pc' := 5) rfl rfl ?_
    refine am_r_iload1 (pc' := 6) rfl rfl ?_
    refine am_r_iconst (pc' := 8) rfl rfl ?_
    refine am_r_idiv (pc' := 9) rfl rfl ?_
    refine am_r_i2l (pc' := 10) rfl rfl ?_
    refine am_r_invI1 (pc' := 13) rfl rfl rfl (Nat.le_of_ble_eq_true rfl) (m_isOrb (by omega) hM (by omega) ?_)
    refine am_r_if_eqB (pt := 43) (pf := 16) rfl rfl rfl (fun h13 => ?_) (fun h13 => ?_)
    · refine am_r_iconst (pc' := 44) rfl rfl ?_
      refine am_r_zret rfl rfl (by first | exact Or.inr rfl | exact Or.inl rfl | exact z_b_01 _ | assumption) ?_
      first | (rw [z_bT (by omega)] at hq; exact hq) | (rw [z_bF (by omega)] at hq; exact hq) | (exact z_b_cg (by omega) hq)
    · refine am_r_aload0 (pc' := 17) rfl rfl ?_
      refine am_r_iload1 (pc' := 18) rfl rfl ?_
      refine am_r_iconst (pc' := 20) rfl rfl ?_
      refine am_r_irem (pc' := 21) rfl rfl ?_
      refine am_r_i2l (pc' := 22) rfl rfl ?_
      refine am_r_invI1 (pc' := 25) rfl rfl rfl (Nat.le_of_ble_eq_true rfl) (m_isOrb (by omega) hM (by omega) ?_)
      refine am_r_if_eqB (pt := 43) (pf := 28) rfl rfl rfl (fun h25 => ?_) (fun h25 => ?_)
      · refine am_r_iconst (pc' := 44) rfl rfl ?_
        refine am_r_zret rfl rfl (by first | exact Or.inr rfl | exact Or.inl rfl | exact z_b_01 _ | assumption) ?_
        first | (rw [z_bT (by omega)] at hq; exact hq) | (rw [z_bF (by omega)] at hq; exact hq) | (exact z_b_cg (by omega) hq)
      · refine am_r_iload1 (pc' := 29) rfl rfl ?_
        refine am_r_iconst (pc' := 31) rfl rfl ?_
        refine am_r_idiv (pc' := 32) rfl rfl ?_
        refine am_r_iload1 (pc' := 33) rfl rfl ?_
        refine am_r_iconst (pc' := 35) rfl rfl ?_
        refine am_r_irem (pc' := 36) rfl rfl ?_
        refine am_r_icmp_eq (pt := 43) (pf := 39) rfl rfl rfl (fun h36 => ?_) (fun h36 => ?_)
        · refine am_r_iconst (pc' := 44) rfl rfl ?_
          refine am_r_zret rfl rfl (by first | exact Or.inr rfl | exact Or.inl rfl | exact z_b_01 _ | assumption) ?_
          first | (rw [z_bT (by omega)] at hq; exact hq) | (rw [z_bF (by omega)] at hq; exact hq) | (exact z_b_cg (by omega) hq)
        · refine am_r_iconst (pc' := 40) rfl rfl ?_
          refine am_r_goto (pc' := 44) rfl rfl ?_
          refine am_r_zret rfl rfl (by first | exact Or.inr rfl | exact Or.inl rfl | exact z_b_01 _ | assumption) ?_
          first | (rw [z_bT (by omega)] at hq; exact hq) | (rw [z_bF (by omega)] at hq; exact hq) | (exact z_b_cg (by omega) hq)
theorem m_isDay {sL : Nat} {xs : Nat → Int32} {d : Nat} {M : Am_M} {Q : Int32 → Am_M → Prop} (hd : 2 ≤ d) {a : Int} (ha : -2147483648 ≤ a ∧ a < 2147483648)  (hq : Q (z_b (0 ≤ a ∧ a ≤ 99999)) M) : am_bi sL xs d 187 [.int (z_I a)] M Q := by
  obtain ⟨d, rfl⟩ : ∃ e, d = e + 1 := ⟨d - 1, by omega⟩
  refine am_bi_of (P := am_pX11_isDay) (rt := 2) (nL := 1) (Nat.le_of_ble_eq_true rfl) rfl (Nat.le_of_ble_eq_true rfl) rfl rfl rfl ?_
  refine am_r_iload0 (pc' := 1) rfl rfl ?_
  refine am_r_i2l (pc' := 2) rfl rfl ?_
  refine am_r_lconst (z := 0) (pc' := 3) rfl rfl rfl ?_
  refine am_r_lconst (z := 99999) (pc' := 6) rfl rfl rfl ?_
  refine am_r_ivsI3 (pc' := 9) rfl rfl rfl (Nat.le_of_ble_eq_true rfl) (m_within (by omega) (by omega) (by omega) (by omega) ?_)
  refine am_r_zret rfl rfl (by first | exact Or.inr rfl | exact Or.inl rfl | exact z_b_01 _ | assumption) ?_
  first | (rw [z_bT (by omega)] at hq; exact hq) | (rw [z_bF (by omega)] at hq; exact hq) | (exact z_b_cg (by omega) hq)
theorem m_isPushed {sL : Nat} {xs : Nat → Int32} {d : Nat} {M : Am_M} {Q : Int32 → Am_M → Prop} (hd : 2 ≤ d) {a : Int} (ha : -2147483648 ≤ a ∧ a < 2147483648)  (hq : Q (z_b (0 ≤ a ∧ a ≤ 200)) M) : am_bi sL xs d 218 [.int (z_I a)] M Q := by
  obtain ⟨d, rfl⟩ : ∃ e, d = e + 1 := ⟨d - 1, by omega⟩
  refine am_bi_of (P := am_pX11_isPushed) (rt := 2) (nL := 1) (Nat.le_of_ble_eq_true rfl) rfl (Nat.le_of_ble_eq_true rfl) rfl rfl rfl ?_
  refine am_r_iload0 (pc' := 1) rfl rfl ?_
  refine am_r_i2l (pc' := 2) rfl rfl ?_
  refine am_r_lconst (z := 0) (pc' := 3) rfl rfl rfl ?_
  refine am_r_lconst (z := 200) (pc' := 6) rfl rfl rfl ?_
  refine am_r_ivsI3 (pc' := 9) rfl rfl rfl (Nat.le_of_ble_eq_true rfl) (m_within (by omega) (by omega) (by omega) (by omega) ?_)
  refine am_r_zret rfl rfl (by first | exact Or.inr rfl | exact Or.inl rfl | exact z_b_01 _ | assumption) ?_
  first | (rw [z_bT (by omega)] at hq; exact hq) | (rw [z_bF (by omega)] at hq; exact hq) | (exact z_b_cg (by omega) hq)
theorem m_isShelf {sL : Nat} {xs : Nat → Int32} {d : Nat} {M : Am_M} {Q : Int32 → Am_M → Prop} (hd : 2 ≤ d) {a : Int} (ha : -2147483648 ≤ a ∧ a < 2147483648)  (hq : Q (z_b (0 ≤ a ∧ a ≤ 5)) M) : am_bi sL xs d 250 [.int (z_I a)] M Q := by
  obtain ⟨d, rfl⟩ : ∃ e, d = e + 1 := ⟨d - 1, by omega⟩
  refine am_bi_of (P := am_pX11_isShelf) (rt := 2) (nL := 1) (Nat.le_of_ble_eq_true rfl) rfl (Nat.le_of_ble_eq_true rfl) rfl rfl rfl ?_
  refine am_r_iload0 (pc' := 1) rfl rfl ?_
  refine am_r_i2l (pc' := 2) rfl rfl ?_
  refine am_r_lconst (z := 0) (pc' := 3) rfl rfl rfl ?_
  refine am_r_lconst (z := 5) (pc' := 6) rfl rfl rfl ?_
  refine am_r_ivsI3 (pc' := 9) rfl rfl rfl (Nat.le_of_ble_eq_true rfl) (m_within (by omega) (by omega) (by omega) (by omega) ?_)
  refine am_r_zret rfl rfl (by first | exact Or.inr rfl | exact Or.inl rfl | exact z_b_01 _ | assumption) ?_
  first | (rw [z_bT (by omega)] at hq; exact hq) | (rw [z_bF (by omega)] at hq; exact hq) | (exact z_b_cg (by omega) hq)
theorem m_mayCome {sL : Nat} {xs : Nat → Int32} {d : Nat} {M : Am_M} {Q : Int32 → Am_M → Prop} (hd : 2 ≤ d) {r p w : Int} (hr : -9223372036854775807 ≤ r ∧ r < 9223372036854775808) (hp : -9223372036854775808 ≤ p ∧ p < 9223372036854775808) (hw : -9223372036854775808 ≤ w ∧ w < 9223372036854775808) (hq : Q (z_b (1 ≤ r ∧ r ≤ 60 ∧ 0 ≤ p ∧ p < r ∧ 0 ≤ w ∧ w ≤ 9)) M) : am_bi sL xs d 166 [.long (z_L r), .long (z_L p), .long (z_L w)] M Q := by
  obtain ⟨d, rfl⟩ : ∃ e, d = e + 1 := ⟨d - 1, by omega⟩
  refine am_bi_of (P := am_pX11_mayCome) (rt := 2) (nL := 6) (Nat.le_of_ble_eq_true rfl) rfl (Nat.le_of_ble_eq_true rfl) rfl rfl rfl ?_
  refine am_r_lload0 (pc' := 1) rfl rfl ?_
  refine am_r_lconst (z := 1) (pc' := 2) rfl rfl rfl ?_
  refine am_r_lconst (z := 60) (pc' := 5) rfl rfl rfl ?_
  refine am_r_ivsI3 (pc' := 8) rfl rfl rfl (Nat.le_of_ble_eq_true rfl) (m_within (by omega) (by omega) (by omega) (by omega) ?_)
  refine am_r_if_eqB (pt := 38) (pf := 11) rfl rfl rfl (fun h8 => ?_) (fun h8 => ?_)
  · refine am_r_iconst (pc' := 39) rfl rfl ?_
    refine am_r_zret rfl rfl (by first | exact Or.inr rfl | exact Or.inl rfl | exact z_b_01 _ | assumption) ?_
    first | (rw [z_bT (by omega)] at hq; exact hq) | (rw [z_bF (by omega)] at hq; exact hq) | (exact z_b_cg (by omega) hq)
  · refine am_r_lload2 (pc' := 12) rfl rfl ?_
    refine am_r_lconst (z := 0) (pc' := 13) rfl rfl rfl ?_
    refine am_r_lload0 (pc' := 14) rfl rfl ?_
    refine am_r_lconst (z := 1) (pc' := 15) rfl rfl rfl ?_
    refine am_r_lsub (pc' := 16) rfl rfl ?_
    refine am_r_ivsI3 (pc' := 19) rfl rfl rfl (Nat.le_of_ble_eq_true rfl) (m_within (by omega) (by omega) (by omega) (by omega) ?_)
    refine am_r_if_eqB (pt := 38) (pf := 22) rfl rfl rfl (fun h19 => ?_) (fun h19 => ?_)
    · refine am_r_iconst (pc' := 39) rfl rfl ?_
      refine am_r_zret rfl rfl (by first | exact Or.inr rfl | exact Or.inl rfl | exact z_b_01 _ | assumption) ?_
      first | (rw [z_bT (by omega)] at hq; exact hq) | (rw [z_bF (by omega)] at hq; exact hq) | (exact z_b_cg (by omega) hq)
    · refine am_r_lload4 (pc' := 24) rfl rfl ?_
      refine am_r_lconst (z := 0) (pc' := 25) rfl rfl rfl ?_
      refine am_r_lconst (z := 9) (pc' := 28) rfl rfl rfl ?_
      refine am_r_ivsI3 (pc' := 31) rfl rfl rfl (Nat.le_of_ble_eq_true rfl) (m_within (by omega) (by omega) (by omega) (by omega) ?_)
      refine am_r_if_eqB (pt := 38) (pf := 34) rfl rfl rfl (fun h31 => ?_) (fun h31 => ?_)
      · refine am_r_iconst (pc' := 39) rfl rfl ?_
        refine am_r_zret rfl rfl (by first | exact Or.inr rfl | exact Or.inl rfl | exact z_b_01 _ | assumption) ?_
        first | (rw [z_bT (by omega)] at hq; exact hq) | (rw [z_bF (by omega)] at hq; exact hq) | (exact z_b_cg (by omega) hq)
      · refine am_r_iconst (pc' := 35) rfl rfl ?_
        refine am_r_goto (pc' := 39) rfl rfl ?_
        refine am_r_zret rfl rfl (by first | exact Or.inr rfl | exact Or.inl rfl | exact z_b_01 _ | assumption) ?_
        first | (rw [z_bT (by omega)] at hq; exact hq) | (rw [z_bF (by omega)] at hq; exact hq) | (exact z_b_cg (by omega) hq)
theorem m_isSet {sL : Nat} {xs : Nat → Int32} {d : Nat} {M : Am_M} {Q : Int32 → Am_M → Prop} (hd : 2 ≤ d) {σ : Sg} (hM : SM M σ) {a : Int} (ha : -2147483648 ≤ a ∧ a < 2147483648)  (hq : Q (z_b (0 ≤ a ∧ a < 2 ^ (s_n σ).toNat)) M) : am_bi sL xs d 198 [.ref 53, .int (z_I a)] M Q := by
  obtain ⟨d, rfl⟩ : ∃ e, d = e + 1 := ⟨d - 1, by omega⟩
  have hn := sb_nb hM.1
  have hnr := sb_nrb hM.1
  have hp := z_pow8 hn
  refine am_bi_of (P := am_pX11_isSet) (rt := 2) (nL := 2) (Nat.le_of_ble_eq_true rfl) rfl (Nat.le_of_ble_eq_true rfl) rfl rfl rfl ?_
  refine am_r_iload1 (pc' := 1) rfl rfl ?_
  refine am_r_i2l (pc' := 2) rfl rfl ?_
  refine am_r_lconst (z := 0) (pc' := 3) rfl rfl rfl ?_
  refine am_r_iconst (pc' := 4) rfl rfl ?_
  refine am_r_aload0 (pc' := 5) rfl rfl ?_
  refine am_r_getIv (f := 6) (pc' := 8) rfl rfl rfl (sm_n hM) ?_
  refine am_r_ishl (pc' := 9) rfl rfl ?_
  rw [z_shl1 (by omega)]
  refine am_r_iconst (pc' := 10) rfl rfl ?_
  refine am_r_isub (pc' := 11) rfl rfl ?_
  refine am_r_i2l (pc' := 12) rfl rfl ?_
  refine am_r_ivsI3 (pc' := 15) rfl rfl rfl (Nat.le_of_ble_eq_true rfl) (m_within (by omega) (by omega) (by omega) (by omega) ?_)
  refine am_r_zret rfl rfl (by first | exact Or.inr rfl | exact Or.inl rfl | exact z_b_01 _ | assumption) ?_
  first | (rw [z_bT (by omega)] at hq; exact hq) | (rw [z_bF (by omega)] at hq; exact hq) | (exact z_b_cg (by omega) hq)
theorem m_degreesOf {sL : Nat} {xs : Nat → Int32} {d : Nat} {M : Am_M} {Q : Int32 → Am_M → Prop} (hd : 1 ≤ d) {σ : Sg} (hM : SM M σ) {a p : Int} (ha : 0 ≤ a ∧ a < s_n σ) (hp : 0 ≤ p ∧ p < s_rd σ a) (hq : Q (z_I (g_deg σ a p)) M) : am_bi sL xs d 189 [.ref 53, .int (z_I a), .int (z_I p)] M Q := by
  obtain ⟨d, rfl⟩ : ∃ e, d = e + 1 := ⟨d - 1, by omega⟩
  have hn := sb_nb hM.1
  have hnr := sb_nrb hM.1
  have hb := sg_b hM.1 ha
  refine am_bi_of (P := am_pX11_degreesOf) (rt := 1) (nL := 3) (Nat.le_of_ble_eq_true rfl) rfl (Nat.le_of_ble_eq_true rfl) rfl rfl rfl ?_
  refine am_r_iconst (pc' := 3) rfl rfl ?_
  refine am_r_iload2 (pc' := 4) rfl rfl ?_
  refine am_r_imul (pc' := 5) rfl rfl ?_
  refine am_r_aload0 (pc' := 6) rfl rfl ?_
  refine am_r_getR (t := 58) (pc' := 9) rfl rfl rfl ?_
  refine am_r_iload1 (pc' := 10) rfl rfl ?_
  refine am_r_iaZv (n := 8) (pc' := 11) rfl rfl rfl (by decide) (sm_rd hM (by omega)) ?_
  refine am_r_idiv (pc' := 12) rfl rfl ?_
  refine am_r_iret rfl rfl ?_
  exact hq
theorem m_clock {sL : Nat} {xs : Nat → Int32} {d : Nat} {M : Am_M} {Q : Int32 → Am_M → Prop} (hd : 1 ≤ d) {σ : Sg} (hM : SM M σ) {a d0 : Int} (ha : 0 ≤ a ∧ a < s_n σ) (hdd : 0 ≤ d0 ∧ d0 ≤ 1000000) (hq : Q (z_I (g_pl σ a d0)) M) : am_bi sL xs d 188 [.ref 53, .int (z_I a), .long (z_L d0)] M Q := by
  obtain ⟨d, rfl⟩ : ∃ e, d = e + 1 := ⟨d - 1, by omega⟩
  have hn := sb_nb hM.1
  have hnr := sb_nrb hM.1
  have hb := sg_b hM.1 ha
  refine am_bi_of (P := am_pX11_clock) (rt := 1) (nL := 4) (Nat.le_of_ble_eq_true rfl) rfl (Nat.le_of_ble_eq_true rfl) rfl rfl rfl ?_
  refine am_r_aload0 (pc' := 1) rfl rfl ?_
  refine am_r_getR (t := 54) (pc' := 4) rfl rfl rfl ?_
  refine am_r_iload1 (pc' := 5) rfl rfl ?_
  refine am_r_iaZv (n := 81) (pc' := 6) rfl rfl rfl (by decide) (sm_pl hM (by omega)) ?_
  refine am_r_i2l (pc' := 7) rfl rfl ?_
  refine am_r_lload2 (pc' := 8) rfl rfl ?_
  refine am_r_ladd (pc' := 9) rfl rfl ?_
  refine am_r_aload0 (pc' := 10) rfl rfl ?_
  refine am_r_getR (t := 58) (pc' := 13) rfl rfl rfl ?_
  refine am_r_iload1 (pc' := 14) rfl rfl ?_
  refine am_r_iaZv (n := 8) (pc' := 15) rfl rfl rfl (by decide) (sm_rd hM (by omega)) ?_
  refine am_r_i2l (pc' := 16) rfl rfl ?_
  refine am_r_lrem (pc' := 17) rfl rfl ?_
  refine am_r_l2i (pc' := 18) rfl rfl ?_
  refine am_r_iret rfl rfl ?_
  exact hq
theorem m_arcOf {sL : Nat} {xs : Nat → Int32} {d : Nat} {M : Am_M} {Q : Int32 → Am_M → Prop} (hd : 1 ≤ d) {x y : Int} (hx : 0 ≤ x ∧ x < 360) (hy : 0 ≤ y ∧ y < 360) (hq : Q (z_I (g_gap x y)) M) : am_bi sL xs d 190 [.int (z_I x), .int (z_I y)] M Q := by
  obtain ⟨d, rfl⟩ : ∃ e, d = e + 1 := ⟨d - 1, by omega⟩
  refine am_bi_of (P := am_pX11_arcOf) (rt := 1) (nL := 3) (Nat.le_of_ble_eq_true rfl) rfl (Nat.le_of_ble_eq_true rfl) rfl rfl rfl ?_
  refine am_r_iload0 (pc' := 1) rfl rfl ?_
  refine am_r_iload1 (pc' := 2) rfl rfl ?_
  refine am_r_icmp_le (pt := 11) (pf := 5) rfl rfl rfl (fun h2 => ?_) (fun h2 => ?_)
  · refine am_r_iload1 (pc' := 12) rfl rfl ?_
    refine am_r_iload0 (pc' := 13) rfl rfl ?_
    refine am_r_isub (pc' := 14) rfl rfl ?_
    refine am_r_istore2 (pc' := 15) rfl rfl rfl ?_
    refine am_r_iload2 (pc' := 16) rfl rfl ?_
    refine am_r_iconst (pc' := 19) rfl rfl ?_
    refine am_r_icmp_le (pt := 30) (pf := 22) rfl rfl rfl (fun h19 => ?_) (fun h19 => ?_)
    · refine am_r_iload2 (pc' := 31) rfl rfl ?_
      refine am_r_iret rfl rfl ?_
      (first | (rw [show g_gap x y = 360 - (x - y) by unfold g_gap; split <;> omega] at hq; exact hq) | (rw [show g_gap x y = 360 - (y - x) by unfold g_gap; split <;> omega] at hq; exact hq) | (rw [show g_gap x y = x - y by unfold g_gap; split <;> omega] at hq; exact hq) | (rw [show g_gap x y = y - x by unfold g_gap; split <;> omega] at hq; exact hq))
    · refine am_r_iconst (pc' := 25) rfl rfl ?_
      refine am_r_iload2 (pc' := 26) rfl rfl ?_
      refine am_r_isub (pc' := 27) rfl rfl ?_
      refine am_r_goto (pc' := 31) rfl rfl ?_
      refine am_r_iret rfl rfl ?_
      (first | (rw [show g_gap x y = 360 - (x - y) by unfold g_gap; split <;> omega] at hq; exact hq) | (rw [show g_gap x y = 360 - (y - x) by unfold g_gap; split <;> omega] at hq; exact hq) | (rw [show g_gap x y = x - y by unfold g_gap; split <;> omega] at hq; exact hq) | (rw [show g_gap x y = y - x by unfold g_gap; split <;> omega] at hq; exact hq))
  · refine am_r_iload0 (pc' := 6) rfl rfl ?_
    refine am_r_iload1 (pc' := 7) rfl rfl ?_
    refine am_r_isub (pc' := 8) rfl rfl ?_
    refine am_r_goto (pc' := 14) rfl rfl ?_
    refine am_r_istore2 (pc' := 15) rfl rfl rfl ?_
    refine am_r_iload2 (pc' := 16) rfl rfl ?_
    refine am_r_iconst (pc' := 19) rfl rfl ?_
    refine am_r_icmp_le (pt := 30) (pf := 22) rfl rfl rfl (fun h19 => ?_) (fun h19 => ?_)
    · refine am_r_iload2 (pc' := 31) rfl rfl ?_
      refine am_r_iret rfl rfl ?_
      (first | (rw [show g_gap x y = 360 - (x - y) by unfold g_gap; split <;> omega] at hq; exact hq) | (rw [show g_gap x y = 360 - (y - x) by unfold g_gap; split <;> omega] at hq; exact hq) | (rw [show g_gap x y = x - y by unfold g_gap; split <;> omega] at hq; exact hq) | (rw [show g_gap x y = y - x by unfold g_gap; split <;> omega] at hq; exact hq))
    · refine am_r_iconst (pc' := 25) rfl rfl ?_
      refine am_r_iload2 (pc' := 26) rfl rfl ?_
      refine am_r_isub (pc' := 27) rfl rfl ?_
      refine am_r_goto (pc' := 31) rfl rfl ?_
      refine am_r_iret rfl rfl ?_
      (first | (rw [show g_gap x y = 360 - (x - y) by unfold g_gap; split <;> omega] at hq; exact hq) | (rw [show g_gap x y = 360 - (y - x) by unfold g_gap; split <;> omega] at hq; exact hq) | (rw [show g_gap x y = x - y by unfold g_gap; split <;> omega] at hq; exact hq) | (rw [show g_gap x y = y - x by unfold g_gap; split <;> omega] at hq; exact hq))
theorem m_apartOn {sL : Nat} {xs : Nat → Int32} {d : Nat} {M : Am_M} {Q : Int32 → Am_M → Prop} (hd : 2 ≤ d) {σ : Sg} (hM : SM M σ) {a b d0 : Int} (ha : 0 ≤ a ∧ a < s_n σ) (hb : 0 ≤ b ∧ b < s_n σ) (hdd : 0 ≤ d0 ∧ d0 ≤ 1000000) (hq : Q (z_I (g_gap (g_dg σ a d0) (g_dg σ b d0))) M) : am_bi sL xs d 191 [.ref 53, .int (z_I a), .int (z_I b), .long (z_L d0)] M Q := by
  obtain ⟨d, rfl⟩ : ∃ e, d = e + 1 := ⟨d - 1, by omega⟩
  have hn := sb_nb hM.1
  have hnr := sb_nrb hM.1
  refine am_bi_of (P := am_pX11_apartOn) (rt := 1) (nL := 5) (Nat.le_of_ble_eq_true rfl) rfl (Nat.le_of_ble_eq_true rfl) rfl rfl rfl ?_
  refine am_r_aload0 (pc' := 1) rfl rfl ?_
  refine am_r_iload1 (pc' := 2) rfl rfl ?_
  refine am_r_aload0 (pc' := 3) rfl rfl ?_
  refine am_r_iload1 (pc' := 4) rfl rfl ?_
  refine am_r_lload3 (pc' := 5) rfl rfl ?_
  refine am_r_invI2 (pc' := 8) rfl rfl rfl (Nat.le_of_ble_eq_true rfl) (m_clock (by omega) hM (by omega) (by omega) ?_)
  refine am_r_invI2 (pc' := 11) rfl rfl rfl (Nat.le_of_ble_eq_true rfl) (m_degreesOf (by omega) hM (by omega) (g_pl_b hM.1 (by omega) _) ?_)
  refine am_r_aload0 (pc' := 12) rfl rfl ?_
  refine am_r_iload2 (pc' := 13) rfl rfl ?_
  refine am_r_aload0 (pc' := 14) rfl rfl ?_
  refine am_r_iload2 (pc' := 15) rfl rfl ?_
  refine am_r_lload3 (pc' := 16) rfl rfl ?_
  refine am_r_invI2 (pc' := 19) rfl rfl rfl (Nat.le_of_ble_eq_true rfl) (m_clock (by omega) hM (by omega) (by omega) ?_)
  refine am_r_invI2 (pc' := 22) rfl rfl rfl (Nat.le_of_ble_eq_true rfl) (m_degreesOf (by omega) hM (by omega) (g_pl_b hM.1 (by omega) _) ?_)
  refine am_r_ivsI2 (pc' := 25) rfl rfl rfl (Nat.le_of_ble_eq_true rfl) (m_arcOf (by omega) (g_dg_b hM.1 (by omega) _) (g_dg_b hM.1 (by omega) _) ?_)
  refine am_r_iret rfl rfl ?_
  exact hq
theorem m_meetOn {sL : Nat} {xs : Nat → Int32} {d : Nat} {M : Am_M} {Q : Int32 → Am_M → Prop} (hd : 3 ≤ d) {σ : Sg} (hM : SM M σ) {a b d0 : Int} (ha : 0 ≤ a ∧ a < s_n σ) (hb : 0 ≤ b ∧ b < s_n σ) (hdd : 0 ≤ d0 ∧ d0 ≤ 1000000) (hq : Q (z_b (g_mt σ a 0 b d0 = true)) M) : am_bi sL xs d 192 [.ref 53, .int (z_I a), .int (z_I b), .long (z_L d0)] M Q := by
  obtain ⟨d, rfl⟩ : ∃ e, d = e + 1 := ⟨d - 1, by omega⟩
  have hn := sb_nb hM.1
  have hnr := sb_nrb hM.1
  have hgap := g_gap_b (g_dg_b hM.1 ha d0) (g_dg_b hM.1 hb d0)
  refine am_bi_of (P := am_pX11_meetOn) (rt := 2) (nL := 5) (Nat.le_of_ble_eq_true rfl) rfl (Nat.le_of_ble_eq_true rfl) rfl rfl rfl ?_
  refine am_r_aload0 (pc' := 1) rfl rfl ?_
  refine am_r_iload1 (pc' := 2) rfl rfl ?_
  refine am_r_iload2 (pc' := 3) rfl rfl ?_
  refine am_r_lload3 (pc' := 4) rfl rfl ?_
  refine am_r_invI3 (pc' := 7) rfl rfl rfl (Nat.le_of_ble_eq_true rfl) (m_apartOn (by omega) hM (by omega) (by omega) (by omega) ?_)
  refine am_r_aload0 (pc' := 8) rfl rfl ?_
  refine am_r_getR (t := 54) (pc' := 11) rfl rfl rfl ?_
  refine am_r_iconst (pc' := 13) rfl rfl ?_
  refine am_r_iaZv (n := 81) (pc' := 14) rfl rfl rfl (by decide) (sm_nr hM) ?_
  refine am_r_icmp_gt (pt := 21) (pf := 17) rfl rfl rfl (fun h14 => ?_) (fun h14 => ?_)
  · refine am_r_iconst (pc' := 22) rfl rfl ?_
    refine am_r_zret rfl rfl (by first | exact Or.inr rfl | exact Or.inl rfl | exact z_b_01 _ | assumption) ?_
    first | (rw [show g_mt σ a 0 b d0 = true from by unfold g_mt; simp only [Int.zero_add, decide_eq_true_eq]; omega] at hq; exact hq) | (rw [show g_mt σ a 0 b d0 = false from by unfold g_mt; simp only [Int.zero_add, decide_eq_false_iff_not]; omega] at hq; exact hq)
  · refine am_r_iconst (pc' := 18) rfl rfl ?_
    refine am_r_goto (pc' := 22) rfl rfl ?_
    refine am_r_zret rfl rfl (by first | exact Or.inr rfl | exact Or.inl rfl | exact z_b_01 _ | assumption) ?_
    first | (rw [show g_mt σ a 0 b d0 = true from by unfold g_mt; simp only [Int.zero_add, decide_eq_true_eq]; omega] at hq; exact hq) | (rw [show g_mt σ a 0 b d0 = false from by unfold g_mt; simp only [Int.zero_add, decide_eq_false_iff_not]; omega] at hq; exact hq)
theorem z_tmodmod (x r : Int) (hr : 0 < r) : (x.tmod r + r) % r = x % r := by
  have h := Int.tmod_eq_emod (a := x) (b := r)
  rw [h]
  split
  · simp
  · have : (r.natAbs : Int) = r := by omega
    rw [this]
    simp
theorem z_tmodb (x r : Int) (hr : 0 < r) : -r < x.tmod r ∧ x.tmod r < r := by
  have h := Int.tmod_eq_emod (a := x) (b := r)
  have h1 := Int.emod_nonneg x (show r ≠ 0 by omega)
  have h2 := Int.emod_lt_of_pos x hr
  have : (r.natAbs : Int) = r := by omega
  split at h <;> omega
theorem m_meetsMoved {sL : Nat} {xs : Nat → Int32} {d : Nat} {M : Am_M} {Q : Int32 → Am_M → Prop} (hd : 2 ≤ d) {σ : Sg} (hM : SM M σ) {a m b d0 : Int} (ha : 0 ≤ a ∧ a < s_n σ) (hm : -1000 ≤ m ∧ m ≤ 1000) (hb : 0 ≤ b ∧ b < s_n σ) (hdd : 0 ≤ d0 ∧ d0 ≤ 200000) (hq : Q (z_b (g_mt σ a m b d0 = true)) M) : am_bi sL xs d 206 [.ref 53, .int (z_I a), .int (z_I b), .int (z_I m), .long (z_L d0)] M Q := by
  obtain ⟨d, rfl⟩ : ∃ e, d = e + 1 := ⟨d - 1, by omega⟩
  have hn := sb_nb hM.1
  have hnr := sb_nrb hM.1
  have hgap := g_gap_b (g_dg_b hM.1 ha (m + d0)) (g_dg_b hM.1 hb d0)
  have hb9 := sg_b hM.1 ha
  have htm := z_tmodb (s_pl σ a + m + d0) (s_rd σ a) (by omega)
  refine am_bi_of (P := am_pX11_meetsMoved) (rt := 2) (nL := 7) (Nat.le_of_ble_eq_true rfl) rfl (Nat.le_of_ble_eq_true rfl) rfl rfl rfl ?_
  refine am_r_aload0 (pc' := 1) rfl rfl ?_
  refine am_r_getR (t := 54) (pc' := 4) rfl rfl rfl ?_
  refine am_r_iload1 (pc' := 5) rfl rfl ?_
  refine am_r_iaZv (n := 81) (pc' := 6) rfl rfl rfl (by decide) (sm_pl hM (by omega)) ?_
  refine am_r_iload3 (pc' := 7) rfl rfl ?_
  refine am_r_iadd (pc' := 8) rfl rfl ?_
  refine am_r_i2l (pc' := 9) rfl rfl ?_
  refine am_r_lload4 (pc' := 11) rfl rfl ?_
  refine am_r_ladd (pc' := 12) rfl rfl ?_
  refine am_r_aload0 (pc' := 13) rfl rfl ?_
  refine am_r_getR (t := 58) (pc' := 16) rfl rfl rfl ?_
  refine am_r_iload1 (pc' := 17) rfl rfl ?_
  refine am_r_iaZv (n := 8) (pc' := 18) rfl rfl rfl (by decide) (sm_rd hM (by omega)) ?_
  refine am_r_i2l (pc' := 19) rfl rfl ?_
  refine am_r_lremT (pc' := 20) rfl rfl ?_
  refine am_r_aload0 (pc' := 21) rfl rfl ?_
  refine am_r_getR (t := 58) (pc' := 24) rfl rfl rfl ?_
  refine am_r_iload1 (pc' := 25) rfl rfl ?_
  refine am_r_iaZv (n := 8) (pc' := 26) rfl rfl rfl (by decide) (sm_rd hM (by omega)) ?_
  refine am_r_i2l (pc' := 27) rfl rfl ?_
  refine am_r_ladd (pc' := 28) rfl rfl ?_
  refine am_r_aload0 (pc' := 29) rfl rfl ?_
  refine am_r_getR (t := 58) (pc' := 32) rfl rfl rfl ?_
  refine am_r_iload1 (pc' := 33) rfl rfl ?_
  refine am_r_iaZv (n := 8) (pc' := 34) rfl rfl rfl (by decide) (sm_rd hM (by omega)) ?_
  refine am_r_i2l (pc' := 35) rfl rfl ?_
  refine am_r_lrem (pc' := 36) rfl rfl ?_
  refine am_r_l2i (pc' := 37) rfl rfl ?_
  rw [z_tmodmod _ _ (by omega), show s_pl σ a + m + d0 = s_pl σ a + (m + d0) by omega, show (s_pl σ a + (m + d0)) % s_rd σ a = g_pl σ a (m + d0) from rfl]
  refine am_r_istore6 (pc' := 39) rfl rfl rfl ?_
  have hgp := g_pl_b hM.1 ha (m + d0)
  refine am_r_aload0 (pc' := 40) rfl rfl ?_
  refine am_r_iload1 (pc' := 41) rfl rfl ?_
  refine am_r_iload6 (pc' := 43) rfl rfl ?_
  refine am_r_invI2 (pc' := 46) rfl rfl rfl (Nat.le_of_ble_eq_true rfl) (m_degreesOf (by omega) hM (by omega) (g_pl_b hM.1 (by omega) (m + d0)) ?_)
  refine am_r_aload0 (pc' := 47) rfl rfl ?_
  refine am_r_iload2 (pc' := 48) rfl rfl ?_
  refine am_r_aload0 (pc' := 49) rfl rfl ?_
  refine am_r_iload2 (pc' := 50) rfl rfl ?_
  refine am_r_lload4 (pc' := 52) rfl rfl ?_
  refine am_r_invI2 (pc' := 55) rfl rfl rfl (Nat.le_of_ble_eq_true rfl) (m_clock (by omega) hM (by omega) (by omega) ?_)
  refine am_r_invI2 (pc' := 58) rfl rfl rfl (Nat.le_of_ble_eq_true rfl) (m_degreesOf (by omega) hM (by omega) (g_pl_b hM.1 (by omega) _) ?_)
  refine am_r_ivsI2 (pc' := 61) rfl rfl rfl (Nat.le_of_ble_eq_true rfl) (m_arcOf (by omega) (g_dg_b hM.1 (by omega) _) (g_dg_b hM.1 (by omega) _) ?_)
  rw [show g_deg σ a (g_pl σ a (m + d0)) = g_dg σ a (m + d0) from rfl, show g_deg σ b (g_pl σ b d0) = g_dg σ b d0 from rfl]
  refine am_r_aload0 (pc' := 62) rfl rfl ?_
  refine am_r_getR (t := 54) (pc' := 65) rfl rfl rfl ?_
  refine am_r_iconst (pc' := 67) rfl rfl ?_
  refine am_r_iaZv (n := 81) (pc' := 68) rfl rfl rfl (by decide) (sm_nr hM) ?_
  refine am_r_icmp_gt (pt := 75) (pf := 71) rfl rfl rfl (fun h68 => ?_) (fun h68 => ?_)
  · refine am_r_iconst (pc' := 76) rfl rfl ?_
    refine am_r_zret rfl rfl (by first | exact Or.inr rfl | exact Or.inl rfl | exact z_b_01 _ | assumption) ?_
    first | (rw [show g_mt σ a m b d0 = true from by unfold g_mt; simp only [Int.zero_add, decide_eq_true_eq]; omega] at hq; exact hq) | (rw [show g_mt σ a m b d0 = false from by unfold g_mt; simp only [Int.zero_add, decide_eq_false_iff_not]; omega] at hq; exact hq)
  · refine am_r_iconst (pc' := 72) rfl rfl ?_
    refine am_r_goto (pc' := 76) rfl rfl ?_
    refine am_r_zret rfl rfl (by first | exact Or.inr rfl | exact Or.inl rfl | exact z_b_01 _ | assumption) ?_
    first | (rw [show g_mt σ a m b d0 = true from by unfold g_mt; simp only [Int.zero_add, decide_eq_true_eq]; omega] at hq; exact hq) | (rw [show g_mt σ a m b d0 = false from by unfold g_mt; simp only [Int.zero_add, decide_eq_false_iff_not]; omega] at hq; exact hq)
def t_at (a w : Int) : Int := if w = 2 then 16 + 8 * (a / 10) + a % 10 else if w = 3 then 80 else 8 * w + a
theorem sm_may {M : Am_M} {σ : Sg} (h : SM M σ) {a w : Int} (hh : ((w = 0 ∧ 0 ≤ a ∧ a < s_n σ) ∨ (w = 1 ∧ 0 ≤ a ∧ a < s_n σ) ∨ (w = 2 ∧ 0 ≤ a ∧ a / 10 < s_n σ ∧ a % 10 < s_n σ ∧ a / 10 ≠ a % 10) ∨ (w = 3 ∧ a = 0))) : M.1 54 (t_at a w).toNat = z_I (t_old σ a w) ∧ 0 ≤ t_at a w ∧ t_at a w < 81 := by
  have hn := sb_nb h.1
  rcases hh with ⟨rfl, h1⟩ | ⟨rfl, h1⟩ | ⟨rfl, h1⟩ | ⟨rfl, rfl⟩
  · refine ⟨?_, ?_⟩
    · rw [show t_at a 0 = a by unfold t_at; simp]
      exact sm_pl h h1
    · unfold t_at; simp; omega
  · refine ⟨?_, ?_⟩
    · rw [show t_at a 1 = 8 + a by unfold t_at; simp]
      exact sm_wt h h1
    · unfold t_at; simp; omega
  · refine ⟨?_, ?_⟩
    · rw [show t_at a 2 = 16 + 8 * (a / 10) + a % 10 by unfold t_at; simp]
      exact sm_lk h (by omega) (by omega)
    · unfold t_at; simp; omega
  · exact ⟨sm_nr h, by unfold t_at; simp, by unfold t_at; simp⟩
theorem sm_tell {M : Am_M} {σ : Sg} (h : SM M σ) {a w v : Int} (hh : ((w = 0 ∧ 0 ≤ a ∧ a < s_n σ) ∨ (w = 1 ∧ 0 ≤ a ∧ a < s_n σ) ∨ (w = 2 ∧ 0 ≤ a ∧ a / 10 < s_n σ ∧ a % 10 < s_n σ ∧ a / 10 ≠ a % 10) ∨ (w = 3 ∧ a = 0))) (hf : ((w = 0 ∧ 0 ≤ v ∧ v < s_rd σ a) ∨ (w = 1 ∧ 0 ≤ v ∧ v ≤ 9) ∨ (w = 2 ∧ -9 ≤ v ∧ v ≤ 9) ∨ (w = 3 ∧ 0 ≤ v ∧ v ≤ 90))) : SM (am_upI M 54 (t_at a w).toNat (z_I v)) (t_new σ a w v) := by
  have hn := sb_nb h.1
  obtain ⟨h0, h1, h2, h3, h4, h5, h6⟩ := h
  have e54 : ∀ j : Nat, (am_upI M 54 (t_at a w).toNat (z_I v)).1 54 j = if j = (t_at a w).toNat then z_I v else M.1 54 j := fun j => by
    show (if 54 = 54 ∧ j = (t_at a w).toNat then z_I v else M.1 54 j) = _
    simp
  rcases hh with ⟨rfl, hh⟩ | ⟨rfl, hh⟩ | ⟨rfl, hh⟩ | ⟨rfl, rfl⟩
  · have ea : t_at a 0 = a := by unfold t_at; simp
    have hv : 0 ≤ v ∧ v < s_rd σ a := by omega
    rw [ea] at e54 ⊢
    refine ⟨⟨h0.1, h0.2.1, fun x hx => ?_, h0.2.2.2⟩, h1, ?_, fun x hx => h3 x hx, fun x hx => ?_, fun x hx => ?_, fun x y hx hy => ?_⟩
    · have hb := h0.2.2.1 x hx
      refine ⟨hb.1, hb.2.1, ?_, ?_, hb.2.2.2.2.1, hb.2.2.2.2.2⟩
      · show 0 ≤ (if x = a then v else σ.2.2.1 x)
        split
        · exact hv.1
        · exact hb.2.2.1
      · show (if x = a then v else σ.2.2.1 x) < s_rd σ x
        split
        · rename_i e; subst e; exact hv.2
        · exact hb.2.2.2.1
    · rw [e54, if_neg (by omega)]; exact h2
    · rw [e54]
      show _ = z_I (if x = a then v else σ.2.2.1 x)
      by_cases e : x = a
      · rw [if_pos (by rw [e]), if_pos e]
      · rw [if_neg (by omega), if_neg e]; exact h4 x hx
    · rw [e54, if_neg (by omega)]; exact h5 x hx
    · rw [e54, if_neg (by omega)]; exact h6 x y hx hy
  · have ea : t_at a 1 = 8 + a := by unfold t_at; simp
    have hv : 0 ≤ v ∧ v ≤ 9 := by omega
    rw [ea] at e54 ⊢
    refine ⟨⟨h0.1, h0.2.1, fun x hx => ?_, h0.2.2.2⟩, h1, ?_, fun x hx => h3 x hx, fun x hx => ?_, fun x hx => ?_, fun x y hx hy => ?_⟩
    · have hb := h0.2.2.1 x hx
      refine ⟨hb.1, hb.2.1, hb.2.2.1, hb.2.2.2.1, ?_, ?_⟩
      · show 0 ≤ (if x = a then v else σ.2.2.2.1 x)
        split
        · exact hv.1
        · exact hb.2.2.2.2.1
      · show (if x = a then v else σ.2.2.2.1 x) ≤ 9
        split
        · exact hv.2
        · exact hb.2.2.2.2.2
    · rw [e54, if_neg (by omega)]; exact h2
    · rw [e54, if_neg (by have : s_n (t_new σ a 1 v) = s_n σ := rfl; omega)]; exact h4 x hx
    · rw [e54]
      show _ = z_I (if x = a then v else σ.2.2.2.1 x)
      by_cases e : x = a
      · rw [if_pos (by rw [e]), if_pos e]
      · rw [if_neg (by omega), if_neg e]; exact h5 x hx
    · rw [e54, if_neg (by omega)]; exact h6 x y hx hy
  · have ea : t_at a 2 = 16 + 8 * (a / 10) + a % 10 := by unfold t_at; simp
    have hv : -9 ≤ v ∧ v ≤ 9 := by omega
    rw [ea] at e54 ⊢
    have en : s_n (t_new σ a 2 v) = s_n σ := rfl
    refine ⟨⟨h0.1, h0.2.1, fun x hx => h0.2.2.1 x hx, fun x y hx hy => ?_⟩, h1, ?_, fun x hx => h3 x hx, fun x hx => ?_, fun x hx => ?_, fun x y hx hy => ?_⟩
    · have hbb := h0.2.2.2 x y hx hy
      show -9 ≤ (if x = a / 10 ∧ y = a % 10 then v else σ.2.2.2.2.1 x y) ∧ (if x = a / 10 ∧ y = a % 10 then v else σ.2.2.2.2.1 x y) ≤ 9
      split
      · exact hv
      · exact hbb
    · rw [e54, if_neg (by omega)]; exact h2
    · rw [e54, if_neg (by omega)]; exact h4 x hx
    · rw [e54, if_neg (by omega)]; exact h5 x hx
    · rw [e54]
      show _ = z_I (if x = a / 10 ∧ y = a % 10 then v else σ.2.2.2.2.1 x y)
      by_cases e : x = a / 10 ∧ y = a % 10
      · rw [if_pos (by rw [e.1, e.2]), if_pos e]
      · rw [if_neg (by omega), if_neg e]; exact h6 x y hx hy
  · have ea : t_at 0 3 = 80 := rfl
    have hv : 0 ≤ v ∧ v ≤ 90 := by omega
    rw [ea] at e54 ⊢
    have en : s_n (t_new σ 0 3 v) = s_n σ := rfl
    refine ⟨⟨h0.1, hv, fun x hx => h0.2.2.1 x hx, h0.2.2.2⟩, h1, rfl, fun x hx => h3 x hx, fun x hx => ?_, fun x hx => ?_, fun x y hx hy => ?_⟩
    · rw [e54, if_neg (by omega)]; exact h4 x hx
    · rw [e54, if_neg (by omega)]; exact h5 x hx
    · rw [e54, if_neg (by omega)]; exact h6 x y hx hy
theorem sm_add {M : Am_M} {σ : Sg} (h : SM M σ) {r p w : Int} (hn : s_n σ < 8) (hr : 1 ≤ r ∧ r ≤ 60) (hp : 0 ≤ p ∧ p < r) (hw : 0 ≤ w ∧ w ≤ 9) : SM (am_upI (am_upI (am_upI (am_upI M 58 (s_n σ).toNat (z_I r)) 54 (s_n σ).toNat (z_I p)) 54 (8 + s_n σ).toNat (z_I w)) 53 6 (z_I (s_n σ + 1))) (s_add σ r p w) := by
  obtain ⟨h0, h1, h2, h3, h4, h5, h6⟩ := h
  have hn0 := h0.1
  have en : s_n (s_add σ r p w) = s_n σ + 1 := rfl
  have e54 : ∀ j : Nat, (am_upI (am_upI (am_upI (am_upI M 58 (s_n σ).toNat (z_I r)) 54 (s_n σ).toNat (z_I p)) 54 (8 + s_n σ).toNat (z_I w)) 53 6 (z_I (s_n σ + 1))).1 54 j = if j = (8 + s_n σ).toNat then z_I w else if j = (s_n σ).toNat then z_I p else M.1 54 j := fun j => by
    simp [am_upI]
  refine ⟨⟨by rw [en]; omega, h0.2.1, fun x hx => ?_, h0.2.2.2⟩, rfl, ?_, fun x hx => ?_, fun x hx => ?_, fun x hx => ?_, fun x y hx hy => ?_⟩
  · show 1 ≤ (if x = s_n σ then r else s_rd σ x) ∧ (if x = s_n σ then r else s_rd σ x) ≤ 60 ∧ 0 ≤ (if x = s_n σ then p else s_pl σ x) ∧ (if x = s_n σ then p else s_pl σ x) < (if x = s_n σ then r else s_rd σ x) ∧ 0 ≤ (if x = s_n σ then w else s_wt σ x) ∧ (if x = s_n σ then w else s_wt σ x) ≤ 9
    by_cases e : x = s_n σ
    · simp only [if_pos e]
      omega
    · simp only [if_neg e]
      exact h0.2.2.1 x (by rw [en] at hx; omega)
  · rw [e54, if_neg (by omega), if_neg (by omega)]; exact h2
  · show (if 58 = 58 ∧ x.toNat = (s_n σ).toNat then z_I r else M.1 58 x.toNat) = z_I (if x = s_n σ then r else s_rd σ x)
    rw [en] at hx
    by_cases e : x = s_n σ
    · rw [if_pos ⟨rfl, by rw [e]⟩, if_pos e]
    · rw [if_neg (by omega), if_neg e]
      exact h3 x (by omega)
  · rw [en] at hx
    rw [e54, if_neg (by omega)]
    show _ = z_I (if x = s_n σ then p else s_pl σ x)
    by_cases e : x = s_n σ
    · rw [if_pos (by rw [e]), if_pos e]
    · rw [if_neg (by omega), if_neg e]; exact h4 x (by omega)
  · rw [en] at hx
    rw [e54]
    show _ = z_I (if x = s_n σ then w else s_wt σ x)
    by_cases e : x = s_n σ
    · rw [if_pos (by rw [e]), if_pos e]
    · rw [if_neg (by omega), if_neg (by omega), if_neg e]; exact h5 x (by omega)
  · rw [e54, if_neg (by omega), if_neg (by omega)]; exact h6 x y hx hy
theorem sm_fr {M M' : Am_M} {σ : Sg} (h : SM M σ) (h1 : ∀ j, M'.1 54 j = M.1 54 j) (h2 : M'.1 58 = M.1 58) (h3 : M'.1 53 6 = M.1 53 6) : SM M' σ := by
  obtain ⟨a0, a1, a2, a3, a4, a5, a6⟩ := h
  exact ⟨a0, by rw [h3]; exact a1, by rw [h1]; exact a2, fun x hx => by rw [h2]; exact a3 x hx, fun x hx => by rw [h1]; exact a4 x hx, fun x hx => by rw [h1]; exact a5 x hx, fun x y hx hy => by rw [h1]; exact a6 x y hx hy⟩
theorem m_placeOf {sL : Nat} {xs : Nat → Int32} {d : Nat} {M : Am_M} {Q : Int32 → Am_M → Prop} (hd : 4 ≤ d) {σ : Sg} (hM : SM M σ) {a : Int} (ha : -2147483648 ≤ a ∧ a < 2147483648) {w : Int} (hw : -2147483648 ≤ w ∧ w < 2147483648)  (hq1 : ((w = 0 ∧ 0 ≤ a ∧ a < s_n σ) ∨ (w = 1 ∧ 0 ≤ a ∧ a < s_n σ) ∨ (w = 2 ∧ 0 ≤ a ∧ a / 10 < s_n σ ∧ a % 10 < s_n σ ∧ a / 10 ≠ a % 10) ∨ (w = 3 ∧ a = 0)) → Q (z_I (t_at a w)) M) (hq2 : ¬ ((w = 0 ∧ 0 ≤ a ∧ a < s_n σ) ∨ (w = 1 ∧ 0 ≤ a ∧ a < s_n σ) ∨ (w = 2 ∧ 0 ≤ a ∧ a / 10 < s_n σ ∧ a % 10 < s_n σ ∧ a / 10 ≠ a % 10) ∨ (w = 3 ∧ a = 0)) → Q (z_I (-1)) M) : am_bi sL xs d 170 [.ref 53, .int (z_I a), .int (z_I w)] M Q := by
  obtain ⟨d, rfl⟩ : ∃ e, d = e + 1 := ⟨d - 1, by omega⟩
  have hn := sb_nb hM.1
  have hnr := sb_nrb hM.1
  refine am_bi_of (P := am_pX11_placeOf) (rt := 1) (nL := 3) (Nat.le_of_ble_eq_true rfl) rfl (Nat.le_of_ble_eq_true rfl) rfl rfl rfl ?_
  refine am_r_iload2 (pc' := 1) rfl rfl ?_
  rcases (show w = 0 ∨ w = 1 ∨ w = 2 ∨ (¬ w = 0 ∧ ¬ w = 1 ∧ ¬ w = 2) by omega) with rfl | rfl | rfl | hsw1
  · refine am_r_tsw (t := 28) rfl rfl ?_
    refine am_r_aload0 (pc' := 29) rfl rfl ?_
    refine am_r_iload1 (pc' := 30) rfl rfl ?_
    refine am_r_i2l (pc' := 31) rfl rfl ?_
    refine am_r_invI1 (pc' := 34) rfl rfl rfl (Nat.le_of_ble_eq_true rfl) (m_isOrb (by omega) hM (by omega) ?_)
    refine am_r_if_eqB (pt := 46) (pf := 37) rfl rfl rfl (fun h34 => ?_) (fun h34 => ?_)
    · refine am_r_iconst (pc' := 47) rfl rfl ?_
      refine am_r_iret rfl rfl ?_
      first | exact hq2 (by omega) | (have h3 : w = 3 := (by omega); have h0 : a = 0 := (by omega); subst h3 h0; exact hq1 (by omega)) | (have e := hq1 (by omega); simp only [t_at] at e; exact e)
    · refine am_r_iconst (pc' := 39) rfl rfl ?_
      refine am_r_iload2 (pc' := 40) rfl rfl ?_
      refine am_r_imul (pc' := 41) rfl rfl ?_
      refine am_r_iload1 (pc' := 42) rfl rfl ?_
      refine am_r_iadd (pc' := 43) rfl rfl ?_
      refine am_r_goto (pc' := 47) rfl rfl ?_
      refine am_r_iret rfl rfl ?_
      first | exact hq2 (by omega) | (have h3 : w = 3 := (by omega); have h0 : a = 0 := (by omega); subst h3 h0; exact hq1 (by omega)) | (have e := hq1 (by omega); simp only [t_at] at e; exact e)
  · refine am_r_tsw (t := 28) rfl rfl ?_
    refine am_r_aload0 (pc' := 29) rfl rfl ?_
    refine am_r_iload1 (pc' := 30) rfl rfl ?_
    refine am_r_i2l (pc' := 31) rfl rfl ?_
    refine am_r_invI1 (pc' := 34) rfl rfl rfl (Nat.le_of_ble_eq_true rfl) (m_isOrb (by omega) hM (by omega) ?_)
    refine am_r_if_eqB (pt := 46) (pf := 37) rfl rfl rfl (fun h34 => ?_) (fun h34 => ?_)
    · refine am_r_iconst (pc' := 47) rfl rfl ?_
      refine am_r_iret rfl rfl ?_
      first | exact hq2 (by omega) | (have h3 : w = 3 := (by omega); have h0 : a = 0 := (by omega); subst h3 h0; exact hq1 (by omega)) | (have e := hq1 (by omega); simp only [t_at] at e; exact e)
    · refine am_r_iconst (pc' := 39) rfl rfl ?_
      refine am_r_iload2 (pc' := 40) rfl rfl ?_
      refine am_r_imul (pc' := 41) rfl rfl ?_
      refine am_r_iload1 (pc' := 42) rfl rfl ?_
      refine am_r_iadd (pc' := 43) rfl rfl ?_
      refine am_r_goto (pc' := 47) rfl rfl ?_
      refine am_r_iret rfl rfl ?_
      first | exact hq2 (by omega) | (have h3 : w = 3 := (by omega); have h0 : a = 0 := (by omega); subst h3 h0; exact hq1 (by omega)) | (have e := hq1 (by omega); simp only [t_at] at e; exact e)
  · refine am_r_tsw (t := 48) rfl rfl ?_
    refine am_r_aload0 (pc' := 49) rfl rfl ?_
    refine am_r_iload1 (pc' := 50) rfl rfl ?_
    refine am_r_invI1 (pc' := 53) rfl rfl rfl (Nat.le_of_ble_eq_true rfl) (m_isAb (by omega) hM (by omega) ?_)
    refine am_r_if_eqB (pt := 74) (pf := 56) rfl rfl rfl (fun h53 => ?_) (fun h53 => ?_)
    · refine am_r_iconst (pc' := 75) rfl rfl ?_
      refine am_r_iret rfl rfl ?_
      first | exact hq2 (by omega) | (have h3 : w = 3 := (by omega); have h0 : a = 0 := (by omega); subst h3 h0; exact hq1 (by omega)) | (have e := hq1 (by omega); simp only [t_at] at e; exact e)
    · refine am_r_iconst (pc' := 58) rfl rfl ?_
      refine am_r_iconst (pc' := 60) rfl rfl ?_
      refine am_r_iload1 (pc' := 61) rfl rfl ?_
      refine am_r_iconst (pc' := 63) rfl rfl ?_
      refine am_r_idiv (pc' := 64) rfl rfl ?_
      refine am_r_imul (pc' := 65) rfl rfl ?_
      refine am_r_iadd (pc' := 66) rfl rfl ?_
      refine am_r_iload1 (pc' := 67) rfl rfl ?_
      refine am_r_iconst (pc' := 69) rfl rfl ?_
      refine am_r_irem (pc' := 70) rfl rfl ?_
      refine am_r_iadd (pc' := 71) rfl rfl ?_
      refine am_r_goto (pc' := 75) rfl rfl ?_
      refine am_r_iret rfl rfl ?_
      first | exact hq2 (by omega) | (have h3 : w = 3 := (by omega); have h0 : a = 0 := (by omega); subst h3 h0; exact hq1 (by omega)) | (have e := hq1 (by omega); simp only [t_at] at e; exact e)
  · refine am_r_tsw (t := 76) rfl (by rw [if_pos (by omega)]; rfl) ?_
    refine am_r_iload2 (pc' := 77) rfl rfl ?_
    refine am_r_iconst (pc' := 78) rfl rfl ?_
    refine am_r_icmp_ne (pt := 90) (pf := 81) rfl rfl rfl (fun h78 => ?_) (fun h78 => ?_)
    · refine am_r_iconst (pc' := 91) rfl rfl ?_
      refine am_r_iret rfl rfl ?_
      first | exact hq2 (by omega) | (have h3 : w = 3 := (by omega); have h0 : a = 0 := (by omega); subst h3 h0; exact hq1 (by omega)) | (have e := hq1 (by omega); simp only [t_at] at e; exact e)
    · refine am_r_iload1 (pc' := 82) rfl rfl ?_
      refine am_r_if_ne (pt := 90) (pf := 85) rfl rfl rfl (fun h82 => ?_) (fun h82 => ?_)
      · refine am_r_iconst (pc' := 91) rfl rfl ?_
        refine am_r_iret rfl rfl ?_
        first | exact hq2 (by omega) | (have h3 : w = 3 := (by omega); have h0 : a = 0 := (by omega); subst h3 h0; exact hq1 (by omega)) | (have e := hq1 (by omega); simp only [t_at] at e; exact e)
      · refine am_r_iconst (pc' := 87) rfl rfl ?_
        refine am_r_goto (pc' := 91) rfl rfl ?_
        refine am_r_iret rfl rfl ?_
        first | exact hq2 (by omega) | (have h3 : w = 3 := (by omega); have h0 : a = 0 := (by omega); subst h3 h0; exact hq1 (by omega)) | (have e := hq1 (by omega); simp only [t_at] at e; exact e)
theorem m_mayBecome {sL : Nat} {xs : Nat → Int32} {d : Nat} {M : Am_M} {Q : Int32 → Am_M → Prop} (hd : 2 ≤ d) {σ : Sg} (hM : SM M σ) {a w v : Int} (hh : ((w = 0 ∧ 0 ≤ a ∧ a < s_n σ) ∨ (w = 1 ∧ 0 ≤ a ∧ a < s_n σ) ∨ (w = 2 ∧ 0 ≤ a ∧ a / 10 < s_n σ ∧ a % 10 < s_n σ ∧ a / 10 ≠ a % 10) ∨ (w = 3 ∧ a = 0))) (hv : -2147483648 ≤ v ∧ v < 2147483648)  (hq : Q (z_b ((w = 0 ∧ 0 ≤ v ∧ v < s_rd σ a) ∨ (w = 1 ∧ 0 ≤ v ∧ v ≤ 9) ∨ (w = 2 ∧ -9 ≤ v ∧ v ≤ 9) ∨ (w = 3 ∧ 0 ≤ v ∧ v ≤ 90))) M) : am_bi sL xs d 171 [.ref 53, .int (z_I a), .int (z_I w), .int (z_I v)] M Q := by
  obtain ⟨d, rfl⟩ : ∃ e, d = e + 1 := ⟨d - 1, by omega⟩
  have hn := sb_nb hM.1
  have hnr := sb_nrb hM.1
  have hb := fun q => sg_b hM.1 (a := a) q
  refine am_bi_of (P := am_pX11_mayBecome) (rt := 2) (nL := 4) (Nat.le_of_ble_eq_true rfl) rfl (Nat.le_of_ble_eq_true rfl) rfl rfl rfl ?_
  refine am_r_iload2 (pc' := 1) rfl rfl ?_
  rcases (show w = 0 ∨ w = 1 ∨ w = 2 ∨ (¬ w = 0 ∧ ¬ w = 1 ∧ ¬ w = 2) by omega) with rfl | rfl | rfl | hsw1
  · refine am_r_tsw (t := 28) rfl rfl ?_
    refine am_r_iload3 (pc' := 29) rfl rfl ?_
    refine am_r_i2l (pc' := 30) rfl rfl ?_
    refine am_r_lconst (z := 0) (pc' := 31) rfl rfl rfl ?_
    refine am_r_aload0 (pc' := 32) rfl rfl ?_
    refine am_r_getR (t := 58) (pc' := 35) rfl rfl rfl ?_
    refine am_r_iload1 (pc' := 36) rfl rfl ?_
    have hb := hb (by omega)
    refine am_r_iaZv (n := 8) (pc' := 37) rfl rfl rfl (by decide) (sm_rd hM (by omega)) ?_
    refine am_r_iconst (pc' := 38) rfl rfl ?_
    refine am_r_isub (pc' := 39) rfl rfl ?_
    refine am_r_i2l (pc' := 40) rfl rfl ?_
    refine am_r_ivsI3 (pc' := 43) rfl rfl rfl (Nat.le_of_ble_eq_true rfl) (m_within (by omega) (by omega) (by omega) (by omega) ?_)
    refine am_r_zret rfl rfl (by first | exact Or.inr rfl | exact Or.inl rfl | exact z_b_01 _ | assumption) ?_
    first | (rw [z_bT (by omega)] at hq; exact hq) | (rw [z_bF (by omega)] at hq; exact hq) | (exact z_b_cg (by omega) hq)
  · refine am_r_tsw (t := 44) rfl rfl ?_
    refine am_r_iload3 (pc' := 45) rfl rfl ?_
    refine am_r_i2l (pc' := 46) rfl rfl ?_
    refine am_r_lconst (z := 0) (pc' := 47) rfl rfl rfl ?_
    refine am_r_lconst (z := 9) (pc' := 50) rfl rfl rfl ?_
    refine am_r_ivsI3 (pc' := 53) rfl rfl rfl (Nat.le_of_ble_eq_true rfl) (m_within (by omega) (by omega) (by omega) (by omega) ?_)
    refine am_r_zret rfl rfl (by first | exact Or.inr rfl | exact Or.inl rfl | exact z_b_01 _ | assumption) ?_
    first | (rw [z_bT (by omega)] at hq; exact hq) | (rw [z_bF (by omega)] at hq; exact hq) | (exact z_b_cg (by omega) hq)
  · refine am_r_tsw (t := 54) rfl rfl ?_
    refine am_r_iload3 (pc' := 55) rfl rfl ?_
    refine am_r_i2l (pc' := 56) rfl rfl ?_
    refine am_r_lconst (z := (-9)) (pc' := 59) rfl rfl rfl ?_
    refine am_r_lconst (z := 9) (pc' := 62) rfl rfl rfl ?_
    refine am_r_ivsI3 (pc' := 65) rfl rfl rfl (Nat.le_of_ble_eq_true rfl) (m_within (by omega) (by omega) (by omega) (by omega) ?_)
    refine am_r_zret rfl rfl (by first | exact Or.inr rfl | exact Or.inl rfl | exact z_b_01 _ | assumption) ?_
    first | (rw [z_bT (by omega)] at hq; exact hq) | (rw [z_bF (by omega)] at hq; exact hq) | (exact z_b_cg (by omega) hq)
  · refine am_r_tsw (t := 66) rfl (by rw [if_pos (by omega)]; rfl) ?_
    refine am_r_iload3 (pc' := 67) rfl rfl ?_
    refine am_r_i2l (pc' := 68) rfl rfl ?_
    refine am_r_lconst (z := 0) (pc' := 69) rfl rfl rfl ?_
    refine am_r_lconst (z := 90) (pc' := 72) rfl rfl rfl ?_
    refine am_r_ivsI3 (pc' := 75) rfl rfl rfl (Nat.le_of_ble_eq_true rfl) (m_within (by omega) (by omega) (by omega) (by omega) ?_)
    refine am_r_zret rfl rfl (by first | exact Or.inr rfl | exact Or.inl rfl | exact z_b_01 _ | assumption) ?_
    first | (rw [z_bT (by omega)] at hq; exact hq) | (rw [z_bF (by omega)] at hq; exact hq) | (exact z_b_cg (by omega) hq)
theorem m_adds {sL : Nat} {xs : Nat → Int32} {d : Nat} {M : Am_M} {Q : Am_M → Prop} (hd : 1 ≤ d) {σ : Sg} (hM : SM M σ) {r p w : Int} (hr : 1 ≤ r ∧ r ≤ 60) (hp : 0 ≤ p ∧ p < r) (hw : 0 ≤ w ∧ w ≤ 9) (hn8 : s_n σ < 8) (hq : ∀ M' : Am_M, am_fr 53 58 M M' → (∀ j, j ≠ 6 → M'.1 53 j = M.1 53 j) → (∀ k, 55 ≤ k → k ≤ 57 → M'.1 k = M.1 k) → SM M' (s_add σ r p w) → Q M') : am_bv sL xs d 167 [.ref 53, .int (z_I r), .int (z_I p), .int (z_I w)] M Q := by
  obtain ⟨d, rfl⟩ : ∃ e, d = e + 1 := ⟨d - 1, by omega⟩
  have hn := sb_nb hM.1
  have hnr := sb_nrb hM.1
  refine am_bv_of (P := am_pX11_adds) (rt := 0) (nL := 4) (Nat.le_of_ble_eq_true rfl) rfl (Nat.le_of_ble_eq_true rfl) rfl rfl rfl ?_
  refine am_r_aload0 (pc' := 1) rfl rfl ?_
  refine am_r_getR (t := 58) (pc' := 4) rfl rfl rfl ?_
  refine am_r_aload0 (pc' := 5) rfl rfl ?_
  refine am_r_getIv (f := 6) (pc' := 8) rfl rfl rfl (sm_n hM) ?_
  refine am_r_iload1 (pc' := 9) rfl rfl ?_
  refine am_r_iast (n := 8) (pc' := 10) rfl rfl (rfl) (by decide) ?_
  refine am_r_aload0 (pc' := 11) rfl rfl ?_
  refine am_r_getR (t := 54) (pc' := 14) rfl rfl rfl ?_
  refine am_r_aload0 (pc' := 15) rfl rfl ?_
  refine am_r_getIv (f := 6) (pc' := 18) rfl rfl rfl ((sm_n hM : M.1 53 6 = z_I (s_n σ))) ?_
  refine am_r_iload2 (pc' := 19) rfl rfl ?_
  refine am_r_iast (n := 81) (pc' := 20) rfl rfl (rfl) (by decide) ?_
  refine am_r_aload0 (pc' := 21) rfl rfl ?_
  refine am_r_getR (t := 54) (pc' := 24) rfl rfl rfl ?_
  refine am_r_iconst (pc' := 26) rfl rfl ?_
  refine am_r_aload0 (pc' := 27) rfl rfl ?_
  refine am_r_getIv (f := 6) (pc' := 30) rfl rfl rfl ((sm_n hM : M.1 53 6 = z_I (s_n σ))) ?_
  refine am_r_iadd (pc' := 31) rfl rfl ?_
  refine am_r_iload3 (pc' := 32) rfl rfl ?_
  refine am_r_iast (n := 81) (pc' := 33) rfl rfl (rfl) (by decide) ?_
  refine am_r_aload0 (pc' := 34) rfl rfl ?_
  refine am_r_dup (pc' := 35) rfl rfl rfl ?_
  refine am_r_getIv (f := 6) (pc' := 38) rfl rfl rfl ((sm_n hM : M.1 53 6 = z_I (s_n σ))) ?_
  refine am_r_iconst (pc' := 39) rfl rfl ?_
  refine am_r_iadd (pc' := 40) rfl rfl ?_
  refine am_r_putI (f := 6) (pc' := 43) rfl rfl rfl (by decide) ?_
  refine am_r_vret rfl rfl ?_
  exact hq _ (am_fr_upI (am_fr_upI (am_fr_upI (am_fr_upI (am_fr_rf _ _ _) (by omega)) (by omega)) (by omega)) (by omega)) (fun j hj => by simp [am_upI, hj]) (fun k h1 h2 => by funext j; show (if k = 53 ∧ _ then _ else (if k = 54 ∧ _ then _ else (if k = 54 ∧ _ then _ else (if k = 58 ∧ _ then _ else M.1 k j)))) = _; rw [if_neg (by omega), if_neg (by omega), if_neg (by omega), if_neg (by omega)]) (sm_add hM hn8 hr hp hw)
end
section
/-! BY THE CLOCK, the class: loops over days and bodies -/
def f_first (p : Int → Bool) : Int → Nat → Int
  | _, 0 => -2
  | i, k + 1 => if p i = true then i else f_first p (i + 1) k
def f_cnt (p : Int → Bool) : Int → Nat → Int
  | _, 0 => 0
  | i, k + 1 => (if p i = true then 1 else 0) + f_cnt p (i + 1) k
def f_sum (f : Int → Int) : Int → Nat → Int
  | _, 0 => 0
  | i, k + 1 => f i + f_sum f (i + 1) k
def f_all (p : Int → Bool) : Int → Nat → Bool
  | _, 0 => true
  | i, k + 1 => p i && f_all p (i + 1) k
theorem f_first_t {p : Int → Bool} {i : Int} {k : Nat} (h : p i = true) : f_first p i (k + 1) = i := if_pos h
theorem f_first_f {p : Int → Bool} {i : Int} {k : Nat} (h : ¬ p i = true) : f_first p i (k + 1) = f_first p (i + 1) k := if_neg h
theorem f_cnt_t {p : Int → Bool} {i acc : Int} {k : Nat} (h : p i = true) : acc + f_cnt p i (k + 1) = (acc + 1) + f_cnt p (i + 1) k := by
  simp only [f_cnt, h, if_true]; omega
theorem f_cnt_f {p : Int → Bool} {i acc : Int} {k : Nat} (h : ¬ p i = true) : acc + f_cnt p i (k + 1) = acc + f_cnt p (i + 1) k := by
  simp only [f_cnt, if_neg h]; omega
theorem f_cnt_0 {p : Int → Bool} {i acc : Int} : acc + f_cnt p i 0 = acc := by simp [f_cnt]
theorem f_sum_s {f : Int → Int} {i acc : Int} {k : Nat} : acc + f_sum f i (k + 1) = (acc + f i) + f_sum f (i + 1) k := by
  simp only [f_sum]; omega
theorem f_sum_0 {f : Int → Int} {i acc : Int} : acc + f_sum f i 0 = acc := by simp [f_sum]
theorem f_all_f {p : Int → Bool} {i : Int} {k : Nat} (h : ¬ p i = true) : f_all p i (k + 1) = false := by simp [f_all, h]
theorem f_all_t {p : Int → Bool} {i : Int} {k : Nat} (h : p i = true) : f_all p i (k + 1) = f_all p (i + 1) k := by simp [f_all, h]
/-- the mood of a on a day; whom a meets, by bits; a set is free of meetings -/
def g_ms (σ : Sg) (a d o : Int) : Int := if o ≠ a ∧ g_mt σ a 0 o d = true then s_lk σ a o else 0
def g_mood (σ : Sg) (a d : Int) : Int := f_sum (g_ms σ a d) 0 (s_n σ).toNat
def g_mb (σ : Sg) (a d o : Int) : Int := if o ≠ a ∧ g_mt σ a 0 o d = true then 2 ^ o.toNat else 0
def g_met (σ : Sg) (a d : Int) : Int := f_sum (g_mb σ a d) 0 (s_n σ).toNat
theorem c_firstMeeting {sL : Nat} {xs : Nat → Int32} {d : Nat} {M : Am_M} {Q : Int32 → Am_M → Prop} (hd : 5 ≤ d) {σ : Sg} (hX : SX M σ) {a b f0 : Int} (ha : 0 ≤ a ∧ a < s_n σ) (hb : 0 ≤ b ∧ b < s_n σ) (hf : 0 ≤ f0 ∧ f0 ≤ 100000) (hq : Q (z_I (f_first (g_mt σ a 0 b) f0 (min 99999 (f0 + s_rd σ a * s_rd σ b) - f0 + 1).toNat)) M) : am_bi sL xs d 2 [.ref 14, .int (z_I a), .int (z_I b), .int (z_I f0)] M Q := by
  obtain ⟨d, rfl⟩ : ∃ e, d = e + 1 := ⟨d - 1, by omega⟩
  have hn := sb_nb hX.1
  have hnr := sb_nrb hX.1
  have hba := sg_b hX.1 ha
  have hbb := sg_b hX.1 hb
  have hrr : 1 ≤ s_rd σ a * s_rd σ b ∧ s_rd σ a * s_rd σ b ≤ 3600 := ⟨Int.mul_pos (by omega) (by omega), by have := Int.mul_le_mul (show s_rd σ a ≤ 60 by omega) (show s_rd σ b ≤ 60 by omega) (by omega) (by omega); omega⟩
  have hl : ∀ (k : Nat) (i l : Int), (0 ≤ i ∧ i + k = l + 1 ∧ l ≤ 99999) → (Q (z_I (f_first (g_mt σ a 0 b) i k)) M) → am_rw sL xs d am_pX1_firstMeeting 1 31 [.ref 14, .int (z_I a), .int (z_I b), .int (z_I f0), .int (z_I l), .int (z_I i)] [] M (am_pi Q) := by
    intro k
    induction k with
    | zero =>
      intro i l hk hq
      refine am_r_iload5 (pc' := 33) rfl rfl ?_
      refine am_r_iload4 (pc' := 35) rfl rfl ?_
      refine am_r_icmp_gt (pt := 61) (pf := 38) rfl rfl rfl (fun h35 => ?_) (fun h35 => ?_)
      · refine am_r_iconst (pc' := 63) rfl rfl ?_
        refine am_r_iret rfl rfl ?_
        exact hq
      · exfalso; omega
    | succ k ih =>
      intro i l hk hq
      refine am_r_iload5 (pc' := 33) rfl rfl ?_
      refine am_r_iload4 (pc' := 35) rfl rfl ?_
      refine am_r_icmp_gt (pt := 61) (pf := 38) rfl rfl rfl (fun h35 => ?_) (fun h35 => ?_)
      · exfalso; omega
      · refine am_r_aload0 (pc' := 39) rfl rfl ?_
        refine am_r_getR (t := 1) (pc' := 42) rfl rfl rfl ?_
        refine am_r_iload1 (pc' := 43) rfl rfl ?_
        refine am_r_iload2 (pc' := 44) rfl rfl ?_
        refine am_r_iload5 (pc' := 46) rfl rfl ?_
        refine am_r_invI3 (pc' := 49) rfl rfl rfl (Nat.le_of_ble_eq_true rfl) (c_meetOn (by omega) hX (by omega) (by omega) (by omega) ?_)
        refine am_r_if_eqB (pt := 55) (pf := 52) rfl rfl rfl (fun h49 => ?_) (fun h49 => ?_)
        · refine am_r_iinc5 (pc' := 58) rfl rfl rfl ?_
          refine am_r_goto (pc' := 31) rfl rfl ?_
          rw [f_first_f (p := g_mt σ a 0 b) h49] at hq; exact ih _ _ (by omega) hq
        · refine am_r_iload5 (pc' := 54) rfl rfl ?_
          refine am_r_iret rfl rfl ?_
          rw [f_first_t (p := g_mt σ a 0 b) h49] at hq; exact hq
  refine am_bi_of (P := am_pX1_firstMeeting) (rt := 1) (nL := 6) (Nat.le_of_ble_eq_true rfl) rfl (Nat.le_of_ble_eq_true rfl) rfl rfl rfl ?_
  refine am_r_iconst (pc' := 2) rfl rfl ?_
  refine am_r_iload3 (pc' := 3) rfl rfl ?_
  refine am_r_aload0 (pc' := 4) rfl rfl ?_
  refine am_r_getR (t := 1) (pc' := 7) rfl rfl rfl ?_
  refine am_r_getR (t := 2) (pc' := 10) rfl rfl rfl ?_
  refine am_r_iload1 (pc' := 11) rfl rfl ?_
  refine am_r_iaZv (n := 8) (pc' := 12) rfl rfl rfl (by decide) (sx_rd hX (by omega)) ?_
  refine am_r_aload0 (pc' := 13) rfl rfl ?_
  refine am_r_getR (t := 1) (pc' := 16) rfl rfl rfl ?_
  refine am_r_getR (t := 2) (pc' := 19) rfl rfl rfl ?_
  refine am_r_iload2 (pc' := 20) rfl rfl ?_
  refine am_r_iaZv (n := 8) (pc' := 21) rfl rfl rfl (by decide) (sx_rd hX (by omega)) ?_
  refine am_r_imul (pc' := 22) rfl rfl ?_
  refine am_r_iadd (pc' := 23) rfl rfl ?_
  refine am_r_minZ (pc' := 26) rfl rfl (Nat.le_of_ble_eq_true rfl) ?_
  refine am_r_istore4 (pc' := 28) rfl rfl rfl ?_
  refine am_r_iload3 (pc' := 29) rfl rfl ?_
  refine am_r_istore5 (pc' := 31) rfl rfl rfl ?_
  exact hl _ _ _ (by omega) hq
theorem c_meetingsIn {sL : Nat} {xs : Nat → Int32} {d : Nat} {M : Am_M} {Q : Int32 → Am_M → Prop} (hd : 5 ≤ d) {σ : Sg} (hX : SX M σ) {a b f0 : Int} (ha : 0 ≤ a ∧ a < s_n σ) (hb : 0 ≤ b ∧ b < s_n σ) (hf : 0 ≤ f0 ∧ f0 ≤ 100000) {n : Int} (hnn : 0 ≤ n ∧ n ≤ 999) (hq : Q (z_I (f_cnt (g_mt σ a 0 b) f0 n.toNat)) M) : am_bi sL xs d 3 [.ref 14, .int (z_I a), .int (z_I b), .int (z_I f0), .int (z_I n)] M Q := by
  obtain ⟨d, rfl⟩ : ∃ e, d = e + 1 := ⟨d - 1, by omega⟩
  have hn := sb_nb hX.1
  have hnr := sb_nrb hX.1
  have hl : ∀ (k : Nat) (i c : Int), (f0 ≤ i ∧ i + k = f0 + n) → (Q (z_I (c + f_cnt (g_mt σ a 0 b) i k)) M) → am_rw sL xs d am_pX1_meetingsIn 1 6 [.ref 14, .int (z_I a), .int (z_I b), .int (z_I f0), .int (z_I n), .int (z_I c), .int (z_I i)] [] M (am_pi Q) := by
    intro k
    induction k with
    | zero =>
      intro i c hk hq
      refine am_r_iload6 (pc' := 8) rfl rfl ?_
      refine am_r_iload3 (pc' := 9) rfl rfl ?_
      refine am_r_iload4 (pc' := 11) rfl rfl ?_
      refine am_r_iadd (pc' := 12) rfl rfl ?_
      refine am_r_icmp_ge (pt := 38) (pf := 15) rfl rfl rfl (fun h12 => ?_) (fun h12 => ?_)
      · refine am_r_iload5 (pc' := 40) rfl rfl ?_
        refine am_r_iret rfl rfl ?_
        rw [f_cnt_0] at hq; exact hq
      · exfalso; omega
    | succ k ih =>
      intro i c hk hq
      refine am_r_iload6 (pc' := 8) rfl rfl ?_
      refine am_r_iload3 (pc' := 9) rfl rfl ?_
      refine am_r_iload4 (pc' := 11) rfl rfl ?_
      refine am_r_iadd (pc' := 12) rfl rfl ?_
      refine am_r_icmp_ge (pt := 38) (pf := 15) rfl rfl rfl (fun h12 => ?_) (fun h12 => ?_)
      · exfalso; omega
      · refine am_r_aload0 (pc' := 16) rfl rfl ?_
        refine am_r_getR (t := 1) (pc' := 19) rfl rfl rfl ?_
        refine am_r_iload1 (pc' := 20) rfl rfl ?_
        refine am_r_iload2 (pc' := 21) rfl rfl ?_
        refine am_r_iload6 (pc' := 23) rfl rfl ?_
        refine am_r_invI3 (pc' := 26) rfl rfl rfl (Nat.le_of_ble_eq_true rfl) (c_meetOn (by omega) hX (by omega) (by omega) (by omega) ?_)
        refine am_r_if_eqB (pt := 32) (pf := 29) rfl rfl rfl (fun h26 => ?_) (fun h26 => ?_)
        · refine am_r_iinc6 (pc' := 35) rfl rfl rfl ?_
          refine am_r_goto (pc' := 6) rfl rfl ?_
          first | (rw [f_cnt_t (p := g_mt σ a 0 b) h26] at hq; exact ih _ _ (by omega) hq) | (rw [f_cnt_f (p := g_mt σ a 0 b) h26] at hq; exact ih _ _ (by omega) hq)
        · refine am_r_iinc5 (pc' := 32) rfl rfl rfl ?_
          refine am_r_iinc6 (pc' := 35) rfl rfl rfl ?_
          refine am_r_goto (pc' := 6) rfl rfl ?_
          first | (rw [f_cnt_t (p := g_mt σ a 0 b) h26] at hq; exact ih _ _ (by omega) hq) | (rw [f_cnt_f (p := g_mt σ a 0 b) h26] at hq; exact ih _ _ (by omega) hq)
  refine am_bi_of (P := am_pX1_meetingsIn) (rt := 1) (nL := 7) (Nat.le_of_ble_eq_true rfl) rfl (Nat.le_of_ble_eq_true rfl) rfl rfl rfl ?_
  refine am_r_iconst (pc' := 1) rfl rfl ?_
  refine am_r_istore5 (pc' := 3) rfl rfl rfl ?_
  refine am_r_iload3 (pc' := 4) rfl rfl ?_
  refine am_r_istore6 (pc' := 6) rfl rfl rfl ?_
  exact hl n.toNat f0 0 (by omega) (by rw [Int.zero_add]; exact hq)
theorem c_moodOn {sL : Nat} {xs : Nat → Int32} {d : Nat} {M : Am_M} {Q : Int32 → Am_M → Prop} (hd : 5 ≤ d) {σ : Sg} (hX : SX M σ) {a f0 : Int} (ha : 0 ≤ a ∧ a < s_n σ) (hf : 0 ≤ f0 ∧ f0 ≤ 101000) (hq : Q (z_I (g_mood σ a f0)) M) : am_bi sL xs d 8 [.ref 14, .int (z_I a), .int (z_I f0)] M Q := by
  obtain ⟨d, rfl⟩ : ∃ e, d = e + 1 := ⟨d - 1, by omega⟩
  have hn := sb_nb hX.1
  have hnr := sb_nrb hX.1
  have hl : ∀ (k : Nat) (i c : Int), (0 ≤ i ∧ i + k = s_n σ) → (Q (z_I (c + f_sum (g_ms σ a f0) i k)) M) → am_rw sL xs d am_pX1_moodOn 1 5 [.ref 14, .int (z_I a), .int (z_I f0), .int (z_I c), .int (z_I i)] [] M (am_pi Q) := by
    intro k
    induction k with
    | zero =>
      intro i c hk hq
      refine am_r_iload4 (pc' := 7) rfl rfl ?_
      refine am_r_aload0 (pc' := 8) rfl rfl ?_
      refine am_r_getR (t := 1) (pc' := 11) rfl rfl rfl ?_
      refine am_r_getIv (f := 5) (pc' := 14) rfl rfl rfl (sx_n hX) ?_
      refine am_r_icmp_ge (pt := 58) (pf := 17) rfl rfl rfl (fun h14 => ?_) (fun h14 => ?_)
      · refine am_r_iload3 (pc' := 59) rfl rfl ?_
        refine am_r_iret rfl rfl ?_
        rw [f_sum_0] at hq; exact hq
      · exfalso; omega
    | succ k ih =>
      intro i c hk hq
      refine am_r_iload4 (pc' := 7) rfl rfl ?_
      refine am_r_aload0 (pc' := 8) rfl rfl ?_
      refine am_r_getR (t := 1) (pc' := 11) rfl rfl rfl ?_
      refine am_r_getIv (f := 5) (pc' := 14) rfl rfl rfl (sx_n hX) ?_
      refine am_r_icmp_ge (pt := 58) (pf := 17) rfl rfl rfl (fun h14 => ?_) (fun h14 => ?_)
      · exfalso; omega
      · refine am_r_iload4 (pc' := 19) rfl rfl ?_
        refine am_r_iload1 (pc' := 20) rfl rfl ?_
        refine am_r_icmp_eq (pt := 52) (pf := 23) rfl rfl rfl (fun h20 => ?_) (fun h20 => ?_)
        · refine am_r_iinc4 (pc' := 55) rfl rfl rfl ?_
          refine am_r_goto (pc' := 5) rfl rfl ?_
          first | exact ih _ _ (by omega) (by rw [f_sum_s, show g_ms σ a f0 i = s_lk σ a i from if_pos ⟨h20, h34⟩] at hq; exact hq) | exact ih _ _ (by omega) (by rw [f_sum_s, show g_ms σ a f0 i = 0 from if_neg (fun z => h34 z.2), Int.add_zero] at hq; exact hq) | exact ih _ _ (by omega) (by rw [f_sum_s, show g_ms σ a f0 i = 0 from if_neg (fun z => z.1 h20), Int.add_zero] at hq; exact hq)
        · refine am_r_aload0 (pc' := 24) rfl rfl ?_
          refine am_r_getR (t := 1) (pc' := 27) rfl rfl rfl ?_
          refine am_r_iload1 (pc' := 28) rfl rfl ?_
          refine am_r_iload4 (pc' := 30) rfl rfl ?_
          refine am_r_iload2 (pc' := 31) rfl rfl ?_
          refine am_r_invI3 (pc' := 34) rfl rfl rfl (Nat.le_of_ble_eq_true rfl) (c_meetOn (by omega) hX (by omega) (by omega) (by omega) ?_)
          refine am_r_if_eqB (pt := 52) (pf := 37) rfl rfl rfl (fun h34 => ?_) (fun h34 => ?_)
          · refine am_r_iinc4 (pc' := 55) rfl rfl rfl ?_
            refine am_r_goto (pc' := 5) rfl rfl ?_
            first | exact ih _ _ (by omega) (by rw [f_sum_s, show g_ms σ a f0 i = s_lk σ a i from if_pos ⟨h20, h34⟩] at hq; exact hq) | exact ih _ _ (by omega) (by rw [f_sum_s, show g_ms σ a f0 i = 0 from if_neg (fun z => h34 z.2), Int.add_zero] at hq; exact hq) | exact ih _ _ (by omega) (by rw [f_sum_s, show g_ms σ a f0 i = 0 from if_neg (fun z => z.1 h20), Int.add_zero] at hq; exact hq)
          · refine am_r_iload3 (pc' := 38) rfl rfl ?_
            refine am_r_aload0 (pc' := 39) rfl rfl ?_
            refine am_r_getR (t := 1) (pc' := 42) rfl rfl rfl ?_
            refine am_r_getR (t := 5) (pc' := 45) rfl rfl rfl ?_
            refine am_r_iload1 (pc' := 46) rfl rfl ?_
            refine am_r_aaZ (n := 8) (t := 6) (pc' := 47) rfl rfl rfl rfl (by decide) ?_
            refine am_r_iload4 (pc' := 49) rfl rfl ?_
            refine am_r_iaZv (n := 8) (pc' := 50) rfl rfl (am_row8z (by omega)) (by decide) (sx_lk hX (by omega) (by omega)) ?_
            refine am_r_iadd (pc' := 51) rfl rfl ?_
            refine am_r_istore3 (pc' := 52) rfl rfl rfl ?_
            refine am_r_iinc4 (pc' := 55) rfl rfl rfl ?_
            refine am_r_goto (pc' := 5) rfl rfl ?_
            first | exact ih _ _ (by omega) (by rw [f_sum_s, show g_ms σ a f0 i = s_lk σ a i from if_pos ⟨h20, h34⟩] at hq; exact hq) | exact ih _ _ (by omega) (by rw [f_sum_s, show g_ms σ a f0 i = 0 from if_neg (fun z => h34 z.2), Int.add_zero] at hq; exact hq) | exact ih _ _ (by omega) (by rw [f_sum_s, show g_ms σ a f0 i = 0 from if_neg (fun z => z.1 h20), Int.add_zero] at hq; exact hq)
  refine am_bi_of (P := am_pX1_moodOn) (rt := 1) (nL := 5) (Nat.le_of_ble_eq_true rfl) rfl (Nat.le_of_ble_eq_true rfl) rfl rfl rfl ?_
  refine am_r_iconst (pc' := 1) rfl rfl ?_
  refine am_r_istore3 (pc' := 2) rfl rfl rfl ?_
  refine am_r_iconst (pc' := 3) rfl rfl ?_
  refine am_r_istore4 (pc' := 5) rfl rfl rfl ?_
  exact hl (s_n σ).toNat 0 0 (by omega) (by rw [Int.zero_add]; exact hq)
theorem g_ms_b {σ : Sg} (h : SB σ) {a d i : Int} (ha : 0 ≤ a ∧ a < s_n σ) (hi : 0 ≤ i ∧ i < 8) : -9 ≤ g_ms σ a d i ∧ g_ms σ a d i ≤ 9 := by
  have hn := sb_nb h
  have := sb_lk h (a := a) (b := i) (by omega) hi
  unfold g_ms
  split <;> omega
theorem f_sum_b {f : Int → Int} {m : Int} (hm : 0 ≤ m) : ∀ (k : Nat) (i : Int), (∀ j, i ≤ j → j < i + k → -m ≤ f j ∧ f j ≤ m) → -(m * k) ≤ f_sum f i k ∧ f_sum f i k ≤ m * k
  | 0, i, _ => by simp [f_sum]
  | k + 1, i, h => by
    have h1 := h i (by omega) (by omega)
    have h2 := f_sum_b hm k (i + 1) (fun j a b => h j (by omega) (by omega))
    simp only [f_sum]
    have e : m * ((k + 1 : Nat) : Int) = m * (k : Int) + m := by
      rw [show ((k + 1 : Nat) : Int) = (k : Int) + 1 by omega, Int.mul_add, Int.mul_one]
    rw [e]
    omega
theorem g_mood_b {σ : Sg} (h : SB σ) {a d : Int} (ha : 0 ≤ a ∧ a < s_n σ) : -72 ≤ g_mood σ a d ∧ g_mood σ a d ≤ 72 := by
  have hn := sb_nb h
  have := f_sum_b (f := g_ms σ a d) (m := 9) (by omega) (s_n σ).toNat 0 (fun j h1 h2 => g_ms_b h ha (by omega))
  unfold g_mood
  omega
/-- the day of the greatest mood: day and mood so far -/
def g_bst (σ : Sg) (a : Int) : Int → Int → Int → Nat → Int
  | b, _, _, 0 => b
  | b, v, i, k + 1 => if v < g_mood σ a i then g_bst σ a i (g_mood σ a i) (i + 1) k else g_bst σ a b v (i + 1) k
def g_best (σ : Sg) (a f0 n : Int) : Int := g_bst σ a f0 (g_mood σ a f0) (f0 + 1) (n - 1).toNat
theorem c_bestDay {sL : Nat} {xs : Nat → Int32} {d : Nat} {M : Am_M} {Q : Int32 → Am_M → Prop} (hd : 6 ≤ d) {σ : Sg} (hX : SX M σ) {a f0 : Int} (ha : 0 ≤ a ∧ a < s_n σ) (hf : 0 ≤ f0 ∧ f0 ≤ 10000) {n : Int} (hnn : 1 ≤ n ∧ n ≤ 999) (hq : Q (z_I (g_best σ a f0 n)) M) : am_bi sL xs d 9 [.ref 14, .int (z_I a), .int (z_I f0), .int (z_I n)] M Q := by
  obtain ⟨d, rfl⟩ : ∃ e, d = e + 1 := ⟨d - 1, by omega⟩
  have hn := sb_nb hX.1
  have hnr := sb_nrb hX.1
  have hmb0 := g_mood_b hX.1 (a := a) (d := f0) ha
  have hl : ∀ (k : Nat) (i c v : Int) (w8 : Value), (f0 + 1 ≤ i ∧ i + k = f0 + n ∧ -72 ≤ v ∧ v ≤ 72) → (Q (z_I (g_bst σ a c v i k)) M) → am_rw sL xs d am_pX1_bestDay 1 16 [.ref 14, .int (z_I a), .int (z_I f0), .int (z_I n), .int (z_I c), .int (z_I v), .int (z_I i), w8] [] M (am_pi Q) := by
    intro k
    induction k with
    | zero =>
      intro i c v w8 hk hq
      refine am_r_iload6 (pc' := 18) rfl rfl ?_
      refine am_r_iload2 (pc' := 19) rfl rfl ?_
      refine am_r_iload3 (pc' := 20) rfl rfl ?_
      refine am_r_iadd (pc' := 21) rfl rfl ?_
      refine am_r_icmp_ge (pt := 54) (pf := 24) rfl rfl rfl (fun h21 => ?_) (fun h21 => ?_)
      · refine am_r_iload4 (pc' := 56) rfl rfl ?_
        refine am_r_iret rfl rfl ?_
        exact hq
      · exfalso; omega
    | succ k ih =>
      intro i c v w8 hk hq
      refine am_r_iload6 (pc' := 18) rfl rfl ?_
      refine am_r_iload2 (pc' := 19) rfl rfl ?_
      refine am_r_iload3 (pc' := 20) rfl rfl ?_
      refine am_r_iadd (pc' := 21) rfl rfl ?_
      refine am_r_icmp_ge (pt := 54) (pf := 24) rfl rfl rfl (fun h21 => ?_) (fun h21 => ?_)
      · exfalso; omega
      · refine am_r_aload0 (pc' := 25) rfl rfl ?_
        refine am_r_iload1 (pc' := 26) rfl rfl ?_
        refine am_r_iload6 (pc' := 28) rfl rfl ?_
        refine am_r_invI2 (pc' := 31) rfl rfl rfl (Nat.le_of_ble_eq_true rfl) (c_moodOn (by omega) hX (by omega) (by omega) ?_)
        have hmb := g_mood_b hX.1 (a := a) (d := i) ha
        refine am_r_istore7 (pc' := 33) rfl rfl rfl ?_
        refine am_r_iload7 (pc' := 35) rfl rfl ?_
        refine am_r_iload5 (pc' := 37) rfl rfl ?_
        refine am_r_icmp_le (pt := 48) (pf := 40) rfl rfl rfl (fun h37 => ?_) (fun h37 => ?_)
        · refine am_r_iinc6 (pc' := 51) rfl rfl rfl ?_
          refine am_r_goto (pc' := 16) rfl rfl ?_
          first | exact ih _ _ _ _ (by omega) (by rw [show g_bst σ a c v i (k + 1) = g_bst σ a i (g_mood σ a i) (i + 1) k from if_pos (by omega)] at hq; exact hq) | exact ih _ _ _ _ (by omega) (by rw [show g_bst σ a c v i (k + 1) = g_bst σ a c v (i + 1) k from if_neg (by omega)] at hq; exact hq)
        · refine am_r_iload6 (pc' := 42) rfl rfl ?_
          refine am_r_istore4 (pc' := 44) rfl rfl rfl ?_
          refine am_r_iload7 (pc' := 46) rfl rfl ?_
          refine am_r_istore5 (pc' := 48) rfl rfl rfl ?_
          refine am_r_iinc6 (pc' := 51) rfl rfl rfl ?_
          refine am_r_goto (pc' := 16) rfl rfl ?_
          first | exact ih _ _ _ _ (by omega) (by rw [show g_bst σ a c v i (k + 1) = g_bst σ a i (g_mood σ a i) (i + 1) k from if_pos (by omega)] at hq; exact hq) | exact ih _ _ _ _ (by omega) (by rw [show g_bst σ a c v i (k + 1) = g_bst σ a c v (i + 1) k from if_neg (by omega)] at hq; exact hq)
  refine am_bi_of (P := am_pX1_bestDay) (rt := 1) (nL := 8) (Nat.le_of_ble_eq_true rfl) rfl (Nat.le_of_ble_eq_true rfl) rfl rfl rfl ?_
  refine am_r_iload2 (pc' := 1) rfl rfl ?_
  refine am_r_istore4 (pc' := 3) rfl rfl rfl ?_
  refine am_r_aload0 (pc' := 4) rfl rfl ?_
  refine am_r_iload1 (pc' := 5) rfl rfl ?_
  refine am_r_iload2 (pc' := 6) rfl rfl ?_
  refine am_r_invI2 (pc' := 9) rfl rfl rfl (Nat.le_of_ble_eq_true rfl) (c_moodOn (by omega) hX (by omega) (by omega) ?_)
  refine am_r_istore5 (pc' := 11) rfl rfl rfl ?_
  refine am_r_iload2 (pc' := 12) rfl rfl ?_
  refine am_r_iconst (pc' := 13) rfl rfl ?_
  refine am_r_iadd (pc' := 14) rfl rfl ?_
  refine am_r_istore6 (pc' := 16) rfl rfl rfl ?_
  exact hl (n - 1).toNat _ _ _ _ (by omega) hq
end
section
/-! BY THE CLOCK, the class: sets, nudges, turns -/
theorem z_or {c i : Int} (hi : 0 ≤ i ∧ i < 8) (hc : 0 ≤ c ∧ c < 2 ^ i.toNat) : z_I c ||| z_I (2 ^ i.toNat) = z_I (c + 2 ^ i.toNat) := by
  obtain ⟨j, rfl⟩ : ∃ j : Nat, i = j := ⟨i.toNat, by omega⟩
  obtain ⟨e, rfl⟩ : ∃ e : Nat, c = e := ⟨c.toNat, by omega⟩
  have h : ∀ j : Nat, j < 8 → ∀ e : Nat, e < 2 ^ j → z_I (e : Int) ||| z_I (2 ^ j) = z_I (e + 2 ^ j) := by decide +kernel
  exact h j (by omega) e (by have := hc.2; simp only [Int.toNat_natCast] at this; exact_mod_cast this)
theorem z_pow_s {i : Int} (hi : 0 ≤ i) : (2 : Int) ^ (i + 1).toNat = 2 * 2 ^ i.toNat := by
  rw [show (i + 1).toNat = i.toNat + 1 by omega, Int.pow_succ]
  omega
theorem z_pow_p (i : Nat) : 1 ≤ (2 : Int) ^ i := by
  have := Int.pow_pos (n := 2) (m := i) (by omega)
  omega
theorem g_mb_b (σ : Sg) (a d i : Int) : 0 ≤ g_mb σ a d i ∧ g_mb σ a d i ≤ 2 ^ i.toNat := by
  have := z_pow_p i.toNat
  unfold g_mb
  split <;> omega
theorem f_sum_mb (σ : Sg) (a d : Int) : ∀ (k : Nat) (i : Int), 0 ≤ i → 0 ≤ f_sum (g_mb σ a d) i k ∧ f_sum (g_mb σ a d) i k + 2 ^ i.toNat ≤ 2 ^ (i + k).toNat
  | 0, i, h => by simp [f_sum]
  | k + 1, i, h => by
    have h1 := g_mb_b σ a d i
    have h2 := f_sum_mb σ a d k (i + 1) (by omega)
    have h3 := z_pow_s h
    simp only [f_sum]
    rw [show (i + ((k + 1 : Nat) : Int)) = i + 1 + k by omega]
    omega
theorem g_met_b {σ : Sg} (h : SB σ) (a d : Int) : 0 ≤ g_met σ a d ∧ g_met σ a d < 2 ^ (s_n σ).toNat := by
  have hn := sb_nb h
  have := f_sum_mb σ a d (s_n σ).toNat 0 (by omega)
  unfold g_met
  rw [show (0 : Int) + ((s_n σ).toNat : Int) = s_n σ by omega] at this
  have e : (2 : Int) ^ (0 : Int).toNat = 1 := rfl
  omega
/-- none of a set meets anybody -/
def g_fr (σ : Sg) (s d o : Int) : Bool := decide (¬ (s_bit s o = 1 ∧ ¬ g_met σ o d = 0))
def g_free (σ : Sg) (s d : Int) : Bool := f_all (g_fr σ s d) 0 (s_n σ).toNat
/-- Euclid's steps, as many as given -/
def f_eu : Nat → Int → Int → Int
  | 0, x, _ => x
  | k + 1, x, y => if y = 0 then x else f_eu k y (x % y)
theorem f_eu_dvd : ∀ (k : Nat) (x y : Int), 0 ≤ y → y < k → f_eu k x y ∣ x ∧ f_eu k x y ∣ y
  | 0, x, y, h, h2 => by omega
  | k + 1, x, y, h, h2 => by
    unfold f_eu
    by_cases e : y = 0
    · rw [if_pos e, e]
      exact ⟨Int.dvd_refl x, Int.dvd_zero x⟩
    · rw [if_neg e]
      have m1 := Int.emod_nonneg x e
      have m2 := Int.emod_lt_of_pos x (show 0 < y by omega)
      have ih := f_eu_dvd k y (x % y) m1 (by omega)
      refine ⟨?_, ih.1⟩
      have e2 := Int.mul_ediv_add_emod x y
      have h3 := Int.dvd_add (Int.dvd_mul_of_dvd_left (c := x / y) ih.1) ih.2
      rw [e2] at h3
      exact h3
theorem f_eu_more : ∀ (k j : Nat) (x y : Int), 0 ≤ y → y < k → k ≤ j → f_eu j x y = f_eu k x y
  | 0, _, x, y, h, h2, _ => by omega
  | k + 1, j, x, y, h, h2, hj => by
    obtain ⟨i, rfl⟩ : ∃ i, j = i + 1 := ⟨j - 1, by omega⟩
    unfold f_eu
    by_cases e : y = 0
    · rw [if_pos e, if_pos e]
    · rw [if_neg e, if_neg e]
      have m1 := Int.emod_nonneg x e
      have m2 := Int.emod_lt_of_pos x (show 0 < y by omega)
      exact f_eu_more k i y (x % y) m1 (by omega) (by omega)
theorem f_eu_pos : ∀ (k : Nat) (x y : Int), 1 ≤ x → 0 ≤ y → 1 ≤ f_eu k x y
  | 0, x, y, h, _ => h
  | k + 1, x, y, h, h2 => by
    unfold f_eu
    by_cases e : y = 0
    · rw [if_pos e]; exact h
    · rw [if_neg e]
      exact f_eu_pos k y (x % y) (by omega) (Int.emod_nonneg x e)
def g_lcm (a b : Int) : Int := a / f_eu 100 a b * b
theorem g_lcm_b {a b : Int} (ha : 1 ≤ a) (hb : 1 ≤ b ∧ b ≤ 60) : 1 ≤ f_eu 100 a b ∧ f_eu 100 a b ≤ a ∧ 1 ≤ a / f_eu 100 a b ∧ a / f_eu 100 a b ≤ a ∧ 1 ≤ g_lcm a b ∧ g_lcm a b ≤ a * 60 := by
  have h1 := f_eu_pos 100 a b ha (by omega)
  have h2 := (f_eu_dvd 100 a b (by omega) (by omega)).1
  have h3 := Int.le_of_dvd (by omega) h2
  have h4 : 1 ≤ a / f_eu 100 a b := (Int.le_ediv_iff_mul_le (by omega)).mpr (by omega)
  have h5 : a / f_eu 100 a b ≤ a := Int.ediv_le_self _ (by omega)
  refine ⟨h1, h3, h4, h5, ?_, ?_⟩
  · unfold g_lcm
    exact Int.mul_pos h4 (by omega)
  · unfold g_lcm
    exact Int.mul_le_mul h5 hb.2 (by omega) (by omega)
def g_tg (σ : Sg) (s : Int) : Int → Int → Nat → Int
  | c, _, 0 => c
  | c, i, k + 1 => g_tg σ s (if s_bit s i = 1 then g_lcm c (s_rd σ i) else c) (i + 1) k
def g_tog (σ : Sg) (s : Int) : Int := g_tg σ s 1 0 (s_n σ).toNat
theorem p60 {i : Int} (hi : 0 ≤ i ∧ i ≤ 8) : 1 ≤ (60 : Int) ^ i.toNat ∧ (60 : Int) ^ i.toNat ≤ 167961600000000 := by
  obtain ⟨k, rfl⟩ : ∃ k : Nat, i = k := ⟨i.toNat, by omega⟩
  have : ∀ k : Nat, k ≤ 8 → 1 ≤ (60 : Int) ^ k ∧ (60 : Int) ^ k ≤ 167961600000000 := by decide +kernel
  exact this k (by omega)
theorem p60_s {i : Int} (hi : 0 ≤ i) : (60 : Int) ^ (i + 1).toNat = 60 * 60 ^ i.toNat := by
  rw [show (i + 1).toNat = i.toNat + 1 by omega, Int.pow_succ]
  omega
theorem g_tg_b {σ : Sg} (h : SB σ) (s : Int) : ∀ (k : Nat) (c i : Int), 0 ≤ i → i + k = s_n σ → 1 ≤ c → c ≤ 60 ^ i.toNat → 1 ≤ g_tg σ s c i k ∧ g_tg σ s c i k ≤ 60 ^ (i + k).toNat
  | 0, c, i, _, _, h1, h2 => by simpa [g_tg] using ⟨h1, h2⟩
  | k + 1, c, i, h0, hk, h1, h2 => by
    have hb := sg_b h (a := i) (by omega)
    have hl := g_lcm_b (a := c) (b := s_rd σ i) h1 (by omega)
    have hp := p60_s h0
    have ih := g_tg_b h s k (if s_bit s i = 1 then g_lcm c (s_rd σ i) else c) (i + 1) (by omega) (by omega) (by split <;> omega) (by split <;> omega)
    rw [show i + ((k + 1 : Nat) : Int) = i + 1 + k by omega]
    exact ih
theorem g_tog_b {σ : Sg} (h : SB σ) (s : Int) : 1 ≤ g_tog σ s ∧ g_tog σ s ≤ 167961600000000 := by
  have hn := sb_nb h
  have h1 := g_tg_b h s (s_n σ).toNat 1 0 (by omega) (by omega) (by omega) (by decide)
  rw [show (0 : Int) + ((s_n σ).toNat : Int) = s_n σ by omega] at h1
  have h2 := p60 hn
  unfold g_tog
  omega
/-- the first day from a day on, in steps, on which a is at the start; -1 -/
def g_nx (σ : Sg) (a e : Int) : Int → Nat → Int
  | _, 0 => -1
  | d, k + 1 => if (s_pl σ a + d) % s_rd σ a = 0 then d else g_nx σ a e (d + e) k
def g_st (σ : Sg) (s : Int) : Int → Int → Int → Nat → Int
  | d, _, _, 0 => d
  | d, e, i, k + 1 => if s_bit s i = 1 then (if g_nx σ i e d (s_rd σ i).toNat < 0 then -2 else g_st σ s (g_nx σ i e d (s_rd σ i).toNat) (g_lcm e (s_rd σ i)) (i + 1) k) else g_st σ s d e (i + 1) k
def g_start (σ : Sg) (s : Int) : Int := g_st σ s 0 1 0 (s_n σ).toNat
theorem g_nx_b (σ : Sg) (a e : Int) (he : 0 ≤ e) : ∀ (k : Nat) (d : Int), 0 ≤ d → -1 ≤ g_nx σ a e d k ∧ (k = 0 ∨ g_nx σ a e d k ≤ d + e * ((k : Int) - 1))
  | 0, d, _ => ⟨by simp [g_nx], Or.inl rfl⟩
  | k + 1, d, hd => by
    have ih := g_nx_b σ a e he k (d + e) (by omega)
    have hx : 0 ≤ e * (k : Int) := Int.mul_nonneg he (by omega)
    have e1 : e * (((k + 1 : Nat) : Int) - 1) = e * (k : Int) := by congr 1; omega
    unfold g_nx
    split
    · exact ⟨by omega, Or.inr (by rw [e1]; omega)⟩
    · refine ⟨ih.1, Or.inr ?_⟩
      rw [e1]
      rcases ih.2 with q | q
      · subst q
        simp [g_nx]
        omega
      · have e2 : e * ((k : Int) - 1) = e * k - e := by rw [Int.mul_sub, Int.mul_one]
        omega
theorem c_metOn {sL : Nat} {xs : Nat → Int32} {d : Nat} {M : Am_M} {Q : Int32 → Am_M → Prop} (hd : 5 ≤ d) {σ : Sg} (hX : SX M σ) {a f0 : Int} (ha : 0 ≤ a ∧ a < s_n σ) (hf : 0 ≤ f0 ∧ f0 ≤ 101000) (hq : Q (z_I (g_met σ a f0)) M) : am_bi sL xs d 10 [.ref 14, .int (z_I a), .int (z_I f0)] M Q := by
  obtain ⟨d, rfl⟩ : ∃ e, d = e + 1 := ⟨d - 1, by omega⟩
  have hn := sb_nb hX.1
  have hnr := sb_nrb hX.1
  have hl : ∀ (k : Nat) (i c : Int), (0 ≤ i ∧ i + k = s_n σ ∧ 0 ≤ c ∧ c < 2 ^ i.toNat) → (Q (z_I (c + f_sum (g_mb σ a f0) i k)) M) → am_rw sL xs d am_pX1_metOn 1 5 [.ref 14, .int (z_I a), .int (z_I f0), .int (z_I c), .int (z_I i)] [] M (am_pi Q) := by
    intro k
    induction k with
    | zero =>
      intro i c hk hq
      have hps := z_pow_s hk.1
      refine am_r_iload4 (pc' := 7) rfl rfl ?_
      refine am_r_aload0 (pc' := 8) rfl rfl ?_
      refine am_r_getR (t := 1) (pc' := 11) rfl rfl rfl ?_
      refine am_r_getIv (f := 5) (pc' := 14) rfl rfl rfl (sx_n hX) ?_
      refine am_r_icmp_ge (pt := 50) (pf := 17) rfl rfl rfl (fun h14 => ?_) (fun h14 => ?_)
      · refine am_r_iload3 (pc' := 51) rfl rfl ?_
        refine am_r_iret rfl rfl ?_
        rw [f_sum_0] at hq; exact hq
      · exfalso; omega
    | succ k ih =>
      intro i c hk hq
      have hps := z_pow_s hk.1
      refine am_r_iload4 (pc' := 7) rfl rfl ?_
      refine am_r_aload0 (pc' := 8) rfl rfl ?_
      refine am_r_getR (t := 1) (pc' := 11) rfl rfl rfl ?_
      refine am_r_getIv (f := 5) (pc' := 14) rfl rfl rfl (sx_n hX) ?_
      refine am_r_icmp_ge (pt := 50) (pf := 17) rfl rfl rfl (fun h14 => ?_) (fun h14 => ?_)
      · exfalso; omega
      · refine am_r_iload4 (pc' := 19) rfl rfl ?_
        refine am_r_iload1 (pc' := 20) rfl rfl ?_
        refine am_r_icmp_eq (pt := 44) (pf := 23) rfl rfl rfl (fun h20 => ?_) (fun h20 => ?_)
        · refine am_r_iinc4 (pc' := 47) rfl rfl rfl ?_
          refine am_r_goto (pc' := 5) rfl rfl ?_
          first | exact ih _ _ (by omega) (by rw [f_sum_s, show g_mb σ a f0 i = 2 ^ i.toNat from if_pos ⟨h20, h34⟩] at hq; exact hq) | exact ih _ _ (by omega) (by rw [f_sum_s, show g_mb σ a f0 i = 0 from if_neg (fun z => h34 z.2), Int.add_zero] at hq; exact hq) | exact ih _ _ (by omega) (by rw [f_sum_s, show g_mb σ a f0 i = 0 from if_neg (fun z => z.1 h20), Int.add_zero] at hq; exact hq)
        · refine am_r_aload0 (pc' := 24) rfl rfl ?_
          refine am_r_getR (t := 1) (pc' := 27) rfl rfl rfl ?_
          refine am_r_iload1 (pc' := 28) rfl rfl ?_
          refine am_r_iload4 (pc' := 30) rfl rfl ?_
          refine am_r_iload2 (pc' := 31) rfl rfl ?_
          refine am_r_invI3 (pc' := 34) rfl rfl rfl (Nat.le_of_ble_eq_true rfl) (c_meetOn (by omega) hX (by omega) (by omega) (by omega) ?_)
          refine am_r_if_eqB (pt := 44) (pf := 37) rfl rfl rfl (fun h34 => ?_) (fun h34 => ?_)
          · refine am_r_iinc4 (pc' := 47) rfl rfl rfl ?_
            refine am_r_goto (pc' := 5) rfl rfl ?_
            first | exact ih _ _ (by omega) (by rw [f_sum_s, show g_mb σ a f0 i = 2 ^ i.toNat from if_pos ⟨h20, h34⟩] at hq; exact hq) | exact ih _ _ (by omega) (by rw [f_sum_s, show g_mb σ a f0 i = 0 from if_neg (fun z => h34 z.2), Int.add_zero] at hq; exact hq) | exact ih _ _ (by omega) (by rw [f_sum_s, show g_mb σ a f0 i = 0 from if_neg (fun z => z.1 h20), Int.add_zero] at hq; exact hq)
          · refine am_r_iload3 (pc' := 38) rfl rfl ?_
            refine am_r_iconst (pc' := 39) rfl rfl ?_
            refine am_r_iload4 (pc' := 41) rfl rfl ?_
            refine am_r_ishl (pc' := 42) rfl rfl ?_
            refine am_r_iorR (pc' := 43) rfl rfl ?_
            rw [z_shl1 (by omega), z_or (by omega) (by omega)]
            refine am_r_istore3 (pc' := 44) rfl rfl rfl ?_
            refine am_r_iinc4 (pc' := 47) rfl rfl rfl ?_
            refine am_r_goto (pc' := 5) rfl rfl ?_
            first | exact ih _ _ (by omega) (by rw [f_sum_s, show g_mb σ a f0 i = 2 ^ i.toNat from if_pos ⟨h20, h34⟩] at hq; exact hq) | exact ih _ _ (by omega) (by rw [f_sum_s, show g_mb σ a f0 i = 0 from if_neg (fun z => h34 z.2), Int.add_zero] at hq; exact hq) | exact ih _ _ (by omega) (by rw [f_sum_s, show g_mb σ a f0 i = 0 from if_neg (fun z => z.1 h20), Int.add_zero] at hq; exact hq)
  refine am_bi_of (P := am_pX1_metOn) (rt := 1) (nL := 5) (Nat.le_of_ble_eq_true rfl) rfl (Nat.le_of_ble_eq_true rfl) rfl rfl rfl ?_
  refine am_r_iconst (pc' := 1) rfl rfl ?_
  refine am_r_istore3 (pc' := 2) rfl rfl rfl ?_
  refine am_r_iconst (pc' := 3) rfl rfl ?_
  refine am_r_istore4 (pc' := 5) rfl rfl rfl ?_
  exact hl (s_n σ).toNat 0 0 (by refine ⟨by omega, by omega, by omega, ?_⟩; decide) (by rw [Int.zero_add]; exact hq)
theorem c_isFree {sL : Nat} {xs : Nat → Int32} {d : Nat} {M : Am_M} {Q : Int32 → Am_M → Prop} (hd : 6 ≤ d) {σ : Sg} (hX : SX M σ) {s f0 : Int} (hs : 0 ≤ s ∧ s < 256) (hf : 0 ≤ f0 ∧ f0 ≤ 101000) (hq : Q (z_b (g_free σ s f0 = true)) M) : am_bi sL xs d 11 [.ref 14, .int (z_I s), .int (z_I f0)] M Q := by
  obtain ⟨d, rfl⟩ : ∃ e, d = e + 1 := ⟨d - 1, by omega⟩
  have hn := sb_nb hX.1
  have hnr := sb_nrb hX.1
  have hl : ∀ (k : Nat) (i : Int), (0 ≤ i ∧ i + k = s_n σ) → (Q (z_b (f_all (g_fr σ s f0) i k = true)) M) → am_rw sL xs d am_pX1_isFree 2 2 [.ref 14, .int (z_I s), .int (z_I f0), .int (z_I i)] [] M (am_pi Q) := by
    intro k
    induction k with
    | zero =>
      intro i hk hq
      have hbt := s_bit01 s i
      refine am_r_iload3 (pc' := 3) rfl rfl ?_
      refine am_r_aload0 (pc' := 4) rfl rfl ?_
      refine am_r_getR (t := 1) (pc' := 7) rfl rfl rfl ?_
      refine am_r_getIv (f := 5) (pc' := 10) rfl rfl rfl (sx_n hX) ?_
      refine am_r_icmp_ge (pt := 39) (pf := 13) rfl rfl rfl (fun h10 => ?_) (fun h10 => ?_)
      · refine am_r_iconst (pc' := 40) rfl rfl ?_
        refine am_r_zret rfl rfl (by first | exact Or.inr rfl | exact Or.inl rfl | exact z_b_01 _ | assumption) ?_
        rw [show f_all (g_fr σ s f0) i 0 = true from rfl, z_bT rfl] at hq; exact hq
      · exfalso; omega
    | succ k ih =>
      intro i hk hq
      have hbt := s_bit01 s i
      refine am_r_iload3 (pc' := 3) rfl rfl ?_
      refine am_r_aload0 (pc' := 4) rfl rfl ?_
      refine am_r_getR (t := 1) (pc' := 7) rfl rfl rfl ?_
      refine am_r_getIv (f := 5) (pc' := 10) rfl rfl rfl (sx_n hX) ?_
      refine am_r_icmp_ge (pt := 39) (pf := 13) rfl rfl rfl (fun h10 => ?_) (fun h10 => ?_)
      · exfalso; omega
      · refine am_r_iload1 (pc' := 14) rfl rfl ?_
        refine am_r_iload3 (pc' := 15) rfl rfl ?_
        refine am_r_ishr (pc' := 16) rfl rfl ?_
        refine am_r_iconst (pc' := 17) rfl rfl ?_
        refine am_r_iandR (pc' := 18) rfl rfl ?_
        rw [z_bit (by omega) (by omega)]
        refine am_r_iconst (pc' := 19) rfl rfl ?_
        refine am_r_icmp_ne (pt := 33) (pf := 22) rfl rfl rfl (fun h19 => ?_) (fun h19 => ?_)
        · refine am_r_iinc3 (pc' := 36) rfl rfl rfl ?_
          refine am_r_goto (pc' := 2) rfl rfl ?_
          first | exact ih _ (by omega) (by rw [f_all_t (p := g_fr σ s f0) (by unfold g_fr; rw [decide_eq_true_eq]; omega)] at hq; exact hq)
        · refine am_r_aload0 (pc' := 23) rfl rfl ?_
          refine am_r_iload3 (pc' := 24) rfl rfl ?_
          refine am_r_iload2 (pc' := 25) rfl rfl ?_
          refine am_r_invI2 (pc' := 28) rfl rfl rfl (Nat.le_of_ble_eq_true rfl) (c_metOn (by omega) hX (by omega) (by omega) ?_)
          have hmb := g_met_b hX.1 i f0
          have hp8 := z_pow8 hn
          refine am_r_if_eq (pt := 33) (pf := 31) rfl rfl rfl (fun h28 => ?_) (fun h28 => ?_)
          · refine am_r_iinc3 (pc' := 36) rfl rfl rfl ?_
            refine am_r_goto (pc' := 2) rfl rfl ?_
            first | exact ih _ (by omega) (by rw [f_all_t (p := g_fr σ s f0) (by unfold g_fr; rw [decide_eq_true_eq]; omega)] at hq; exact hq)
          · refine am_r_iconst (pc' := 32) rfl rfl ?_
            refine am_r_zret rfl rfl (by first | exact Or.inr rfl | exact Or.inl rfl | exact z_b_01 _ | assumption) ?_
            first | (rw [f_all_f (p := g_fr σ s f0) (by unfold g_fr; rw [decide_eq_true_eq]; omega), z_bF (by decide)] at hq; exact hq)
  refine am_bi_of (P := am_pX1_isFree) (rt := 2) (nL := 4) (Nat.le_of_ble_eq_true rfl) rfl (Nat.le_of_ble_eq_true rfl) rfl rfl rfl ?_
  refine am_r_iconst (pc' := 1) rfl rfl ?_
  refine am_r_istore3 (pc' := 2) rfl rfl rfl ?_
  exact hl (s_n σ).toNat 0 (by omega) hq
theorem c_freeDaysIn {sL : Nat} {xs : Nat → Int32} {d : Nat} {M : Am_M} {Q : Int32 → Am_M → Prop} (hd : 7 ≤ d) {σ : Sg} (hX : SX M σ) {s f0 : Int} (hs : 0 ≤ s ∧ s < 256) (hf : 0 ≤ f0 ∧ f0 ≤ 100000) {n : Int} (hnn : 0 ≤ n ∧ n ≤ 999) (hq : Q (z_I (f_cnt (g_free σ s) f0 n.toNat)) M) : am_bi sL xs d 13 [.ref 14, .int (z_I s), .int (z_I f0), .int (z_I n)] M Q := by
  obtain ⟨d, rfl⟩ : ∃ e, d = e + 1 := ⟨d - 1, by omega⟩
  have hn := sb_nb hX.1
  have hnr := sb_nrb hX.1
  have hl : ∀ (k : Nat) (i c : Int), (f0 ≤ i ∧ i + k = f0 + n) → (Q (z_I (c + f_cnt (g_free σ s) i k)) M) → am_rw sL xs d am_pX1_freeDaysIn 1 6 [.ref 14, .int (z_I s), .int (z_I f0), .int (z_I n), .int (z_I c), .int (z_I i)] [] M (am_pi Q) := by
    intro k
    induction k with
    | zero =>
      intro i c hk hq
      refine am_r_iload5 (pc' := 8) rfl rfl ?_
      refine am_r_iload2 (pc' := 9) rfl rfl ?_
      refine am_r_iload3 (pc' := 10) rfl rfl ?_
      refine am_r_iadd (pc' := 11) rfl rfl ?_
      refine am_r_icmp_ge (pt := 33) (pf := 14) rfl rfl rfl (fun h11 => ?_) (fun h11 => ?_)
      · refine am_r_iload4 (pc' := 35) rfl rfl ?_
        refine am_r_iret rfl rfl ?_
        rw [f_cnt_0] at hq; exact hq
      · exfalso; omega
    | succ k ih =>
      intro i c hk hq
      refine am_r_iload5 (pc' := 8) rfl rfl ?_
      refine am_r_iload2 (pc' := 9) rfl rfl ?_
      refine am_r_iload3 (pc' := 10) rfl rfl ?_
      refine am_r_iadd (pc' := 11) rfl rfl ?_
      refine am_r_icmp_ge (pt := 33) (pf := 14) rfl rfl rfl (fun h11 => ?_) (fun h11 => ?_)
      · exfalso; omega
      · refine am_r_aload0 (pc' := 15) rfl rfl ?_
        refine am_r_iload1 (pc' := 16) rfl rfl ?_
        refine am_r_iload5 (pc' := 18) rfl rfl ?_
        refine am_r_invI2 (pc' := 21) rfl rfl rfl (Nat.le_of_ble_eq_true rfl) (c_isFree (by omega) hX (by omega) (by omega) ?_)
        refine am_r_if_eqB (pt := 27) (pf := 24) rfl rfl rfl (fun h21 => ?_) (fun h21 => ?_)
        · refine am_r_iinc5 (pc' := 30) rfl rfl rfl ?_
          refine am_r_goto (pc' := 6) rfl rfl ?_
          first | (rw [f_cnt_t (p := g_free σ s) h21] at hq; exact ih _ _ (by omega) hq) | (rw [f_cnt_f (p := g_free σ s) h21] at hq; exact ih _ _ (by omega) hq)
        · refine am_r_iinc4 (pc' := 27) rfl rfl rfl ?_
          refine am_r_iinc5 (pc' := 30) rfl rfl rfl ?_
          refine am_r_goto (pc' := 6) rfl rfl ?_
          first | (rw [f_cnt_t (p := g_free σ s) h21] at hq; exact ih _ _ (by omega) hq) | (rw [f_cnt_f (p := g_free σ s) h21] at hq; exact ih _ _ (by omega) hq)
  refine am_bi_of (P := am_pX1_freeDaysIn) (rt := 1) (nL := 6) (Nat.le_of_ble_eq_true rfl) rfl (Nat.le_of_ble_eq_true rfl) rfl rfl rfl ?_
  refine am_r_iconst (pc' := 1) rfl rfl ?_
  refine am_r_istore4 (pc' := 3) rfl rfl rfl ?_
  refine am_r_iload2 (pc' := 4) rfl rfl ?_
  refine am_r_istore5 (pc' := 6) rfl rfl rfl ?_
  exact hl n.toNat f0 0 (by omega) (by rw [Int.zero_add]; exact hq)
theorem c_leastCommon {sL : Nat} {xs : Nat → Int32} {d : Nat} {M : Am_M} {Q : Int64 → Am_M → Prop} (hd : 1 ≤ d) {a b : Int} (ha : 1 ≤ a ∧ a ≤ 2799360000000) (hb : 1 ≤ b ∧ b ≤ 60) (hq : Q (z_L (g_lcm a b)) M) : am_bl sL xs d 7 [.long (z_L a), .long (z_L b)] M Q := by
  obtain ⟨d, rfl⟩ : ∃ e, d = e + 1 := ⟨d - 1, by omega⟩
  have hl := g_lcm_b (a := a) (b := b) ha.1 hb
  have hend : ∀ (x i : Int) (y : Int) (w9 w10 : Value), x = f_eu 100 a b → am_rw sL xs d am_pX1_leastCommon 3 45 [.long (z_L a), .null, .long (z_L b), .null, .long (z_L x), .null, .long (z_L y), .null, .int (z_I i), w9, w10] [] M (am_pl Q) := by
    intro x i y w9 w10 hx
    rw [hx]
    refine am_r_lload4 (pc' := 47) rfl rfl ?_
    refine am_r_lconst (z := 0) (pc' := 48) rfl rfl rfl ?_
    refine am_r_lcmp (pc' := 49) rfl rfl ?_
    refine am_r_lif_ne (pt := 56) (pf := 52) rfl rfl rfl (fun h49 => ?_) (fun h49 => ?_)
    · refine am_r_lload0 (pc' := 57) rfl rfl ?_
      refine am_r_lload4 (pc' := 59) rfl rfl ?_
      refine am_r_ldiv (pc' := 60) rfl rfl ?_
      refine am_r_lload2 (pc' := 61) rfl rfl ?_
      refine am_r_lmul (pc' := 62) rfl rfl ?_
      refine am_r_lret rfl rfl ?_
      exact hq
    · exfalso; omega
  have hlp : ∀ (k : Nat) (i x y : Int) (w9 w10 : Value), (0 ≤ i ∧ i + k = 200 ∧ 0 ≤ y ∧ 1 ≤ x ∧ x ≤ 2799360000000 ∧ y ≤ 60 ∧ y + i < 200 ∧ f_eu k x y = f_eu 100 a b) → am_rw sL xs d am_pX1_leastCommon 3 9 [.long (z_L a), .null, .long (z_L b), .null, .long (z_L x), .null, .long (z_L y), .null, .int (z_I i), w9, w10] [] M (am_pl Q) := by
    intro k
    induction k with
    | zero => intro i x y w9 w10 hk; omega
    | succ k ih =>
      intro i x y w9 w10 hk
      have hm1 : y ≠ 0 → 0 ≤ x % y ∧ x % y < y := fun q => ⟨Int.emod_nonneg x q, Int.emod_lt_of_pos x (by omega)⟩
      refine am_r_iload8 (pc' := 11) rfl rfl ?_
      refine am_r_iconst (pc' := 14) rfl rfl ?_
      refine am_r_icmp_ge (pt := 45) (pf := 17) rfl rfl rfl (fun h14 => ?_) (fun h14 => ?_)
      · first | (exfalso; omega) | exact hend _ _ _ _ _ (by have e := hk.2.2.2.2.2.2.2; rw [show f_eu (k + 1) x y = x from if_pos (by omega)] at e; exact e)
      · refine am_r_lload6 (pc' := 19) rfl rfl ?_
        refine am_r_lconst (z := 0) (pc' := 20) rfl rfl rfl ?_
        refine am_r_lcmp (pc' := 21) rfl rfl ?_
        refine am_r_lif_eq (pt := 45) (pf := 24) rfl rfl rfl (fun h21 => ?_) (fun h21 => ?_)
        · first | (exfalso; omega) | exact hend _ _ _ _ _ (by have e := hk.2.2.2.2.2.2.2; rw [show f_eu (k + 1) x y = x from if_pos (by omega)] at e; exact e)
        · have hm1 := hm1 (by omega)
          refine am_r_lload4 (pc' := 26) rfl rfl ?_
          refine am_r_lload6 (pc' := 28) rfl rfl ?_
          refine am_r_lrem (pc' := 29) rfl rfl ?_
          refine am_r_lstore9 (pc' := 31) rfl rfl rfl ?_
          refine am_r_lload6 (pc' := 33) rfl rfl ?_
          refine am_r_lstore4 (pc' := 35) rfl rfl rfl ?_
          refine am_r_lload9 (pc' := 37) rfl rfl ?_
          refine am_r_lstore6 (pc' := 39) rfl rfl rfl ?_
          refine am_r_iinc8 (pc' := 42) rfl rfl rfl ?_
          refine am_r_goto (pc' := 9) rfl rfl ?_
          exact ih _ _ _ _ _ (by have e := hk.2.2.2.2.2.2.2; rw [show f_eu (k + 1) x y = f_eu k y (x % y) from if_neg (by omega)] at e; omega)
  refine am_bl_of (P := am_pX1_leastCommon) (rt := 3) (nL := 11) (Nat.le_of_ble_eq_true rfl) rfl (Nat.le_of_ble_eq_true rfl) rfl rfl rfl ?_
  refine am_r_lload0 (pc' := 1) rfl rfl ?_
  refine am_r_lstore4 (pc' := 3) rfl rfl rfl ?_
  refine am_r_lload2 (pc' := 4) rfl rfl ?_
  refine am_r_lstore6 (pc' := 6) rfl rfl rfl ?_
  refine am_r_iconst (pc' := 7) rfl rfl ?_
  refine am_r_istore8 (pc' := 9) rfl rfl rfl ?_
  exact hlp 200 _ _ _ _ _ (by refine ⟨by omega, by omega, by omega, by omega, by omega, by omega, by omega, ?_⟩; exact f_eu_more 100 200 a b (by omega) (by omega) (by omega))
theorem c_togetherAgain {sL : Nat} {xs : Nat → Int32} {d : Nat} {M : Am_M} {Q : Int64 → Am_M → Prop} (hd : 2 ≤ d) {σ : Sg} (hX : SX M σ) {s : Int} (hs : 0 ≤ s ∧ s < 256) (hq : Q (z_L (g_tog σ s)) M) : am_bl sL xs d 4 [.ref 14, .int (z_I s)] M Q := by
  obtain ⟨d, rfl⟩ : ∃ e, d = e + 1 := ⟨d - 1, by omega⟩
  have hn := sb_nb hX.1
  have hnr := sb_nrb hX.1
  have hl : ∀ (k : Nat) (i c : Int), (0 ≤ i ∧ i + k = s_n σ ∧ 1 ≤ c ∧ c ≤ 60 ^ i.toNat) → (Q (z_L (g_tg σ s c i k)) M) → am_rw sL xs d am_pX1_togetherAgain 3 5 [.ref 14, .int (z_I s), .long (z_L c), .null, .int (z_I i)] [] M (am_pl Q) := by
    intro k
    induction k with
    | zero =>
      intro i c hk hq
      have hbt := s_bit01 s i
      have hps := p60_s hk.1
      refine am_r_iload4 (pc' := 7) rfl rfl ?_
      refine am_r_aload0 (pc' := 8) rfl rfl ?_
      refine am_r_getR (t := 1) (pc' := 11) rfl rfl rfl ?_
      refine am_r_getIv (f := 5) (pc' := 14) rfl rfl rfl (sx_n hX) ?_
      refine am_r_icmp_ge (pt := 49) (pf := 17) rfl rfl rfl (fun h14 => ?_) (fun h14 => ?_)
      · refine am_r_lload2 (pc' := 50) rfl rfl ?_
        refine am_r_lret rfl rfl ?_
        exact hq
      · exfalso; omega
    | succ k ih =>
      intro i c hk hq
      have hbt := s_bit01 s i
      have hps := p60_s hk.1
      refine am_r_iload4 (pc' := 7) rfl rfl ?_
      refine am_r_aload0 (pc' := 8) rfl rfl ?_
      refine am_r_getR (t := 1) (pc' := 11) rfl rfl rfl ?_
      refine am_r_getIv (f := 5) (pc' := 14) rfl rfl rfl (sx_n hX) ?_
      refine am_r_icmp_ge (pt := 49) (pf := 17) rfl rfl rfl (fun h14 => ?_) (fun h14 => ?_)
      · exfalso; omega
      · refine am_r_iload1 (pc' := 18) rfl rfl ?_
        refine am_r_iload4 (pc' := 20) rfl rfl ?_
        refine am_r_ishr (pc' := 21) rfl rfl ?_
        refine am_r_iconst (pc' := 22) rfl rfl ?_
        refine am_r_iandR (pc' := 23) rfl rfl ?_
        rw [z_bit (by omega) (by omega)]
        refine am_r_iconst (pc' := 24) rfl rfl ?_
        refine am_r_icmp_ne (pt := 43) (pf := 27) rfl rfl rfl (fun h24 => ?_) (fun h24 => ?_)
        · refine am_r_iinc4 (pc' := 46) rfl rfl rfl ?_
          refine am_r_goto (pc' := 5) rfl rfl ?_
          first | exact ih _ _ (by omega) (by rw [show g_tg σ s c i (k + 1) = g_tg σ s (g_lcm c (s_rd σ i)) (i + 1) k by (rw [g_tg, if_pos (by omega)])] at hq; exact hq) | exact ih _ _ (by omega) (by rw [show g_tg σ s c i (k + 1) = g_tg σ s c (i + 1) k by (rw [g_tg, if_neg (by omega)])] at hq; exact hq)
        · have hbb := sg_b hX.1 (a := i) (by omega)
          have h8 := p60 (i := i + 1) (by omega)
          have hlb := g_lcm_b (a := c) (b := s_rd σ i) (by omega) (by omega)
          refine am_r_lload2 (pc' := 28) rfl rfl ?_
          refine am_r_aload0 (pc' := 29) rfl rfl ?_
          refine am_r_getR (t := 1) (pc' := 32) rfl rfl rfl ?_
          refine am_r_getR (t := 2) (pc' := 35) rfl rfl rfl ?_
          refine am_r_iload4 (pc' := 37) rfl rfl ?_
          refine am_r_iaZv (n := 8) (pc' := 38) rfl rfl rfl (by decide) (sx_rd hX (by omega)) ?_
          refine am_r_i2l (pc' := 39) rfl rfl ?_
          refine am_r_ivsL2 (pc' := 42) rfl rfl rfl (Nat.le_of_ble_eq_true rfl) (c_leastCommon (by omega) (by omega) (by omega) ?_)
          refine am_r_lstore2 (pc' := 43) rfl rfl rfl ?_
          refine am_r_iinc4 (pc' := 46) rfl rfl rfl ?_
          refine am_r_goto (pc' := 5) rfl rfl ?_
          first | exact ih _ _ (by omega) (by rw [show g_tg σ s c i (k + 1) = g_tg σ s (g_lcm c (s_rd σ i)) (i + 1) k by (rw [g_tg, if_pos (by omega)])] at hq; exact hq) | exact ih _ _ (by omega) (by rw [show g_tg σ s c i (k + 1) = g_tg σ s c (i + 1) k by (rw [g_tg, if_neg (by omega)])] at hq; exact hq)
  refine am_bl_of (P := am_pX1_togetherAgain) (rt := 3) (nL := 5) (Nat.le_of_ble_eq_true rfl) rfl (Nat.le_of_ble_eq_true rfl) rfl rfl rfl ?_
  refine am_r_lconst (z := 1) (pc' := 1) rfl rfl rfl ?_
  refine am_r_lstore2 (pc' := 2) rfl rfl rfl ?_
  refine am_r_iconst (pc' := 3) rfl rfl ?_
  refine am_r_istore4 (pc' := 5) rfl rfl rfl ?_
  exact hl (s_n σ).toNat 0 1 (by refine ⟨by omega, by omega, by omega, ?_⟩; decide) hq
theorem c_firstFreeDay {sL : Nat} {xs : Nat → Int32} {d : Nat} {M : Am_M} {Q : Int32 → Am_M → Prop} (hd : 7 ≤ d) {σ : Sg} (hX : SX M σ) {s f0 : Int} (hs : 0 ≤ s ∧ s < 256) (hf : 0 ≤ f0 ∧ f0 ≤ 99999) (hq : Q (z_I (f_first (g_free σ s) f0 (min 99999 (f0 + g_tog σ (2 ^ (s_n σ).toNat - 1)) - f0 + 1).toNat)) M) : am_bi sL xs d 12 [.ref 14, .int (z_I s), .int (z_I f0)] M Q := by
  obtain ⟨d, rfl⟩ : ∃ e, d = e + 1 := ⟨d - 1, by omega⟩
  have hn := sb_nb hX.1
  have hnr := sb_nrb hX.1
  have hp8 := z_pow8 hn
  have htb := g_tog_b hX.1 (2 ^ (s_n σ).toNat - 1)
  have hl : ∀ (k : Nat) (i l : Int), (0 ≤ i ∧ i + k = l + 1 ∧ l ≤ 99999) → (Q (z_I (f_first (g_free σ s) i k)) M) → am_rw sL xs d am_pX1_firstFreeDay 1 28 [.ref 14, .int (z_I s), .int (z_I f0), .long (z_L l), .null, .int (z_I i)] [] M (am_pi Q) := by
    intro k
    induction k with
    | zero =>
      intro i l hk hq
      refine am_r_iload5 (pc' := 30) rfl rfl ?_
      refine am_r_i2l (pc' := 31) rfl rfl ?_
      refine am_r_lload3 (pc' := 32) rfl rfl ?_
      refine am_r_lcmp (pc' := 33) rfl rfl ?_
      refine am_r_lif_gt (pt := 55) (pf := 36) rfl rfl rfl (fun h33 => ?_) (fun h33 => ?_)
      · refine am_r_iconst (pc' := 57) rfl rfl ?_
        refine am_r_iret rfl rfl ?_
        exact hq
      · exfalso; omega
    | succ k ih =>
      intro i l hk hq
      refine am_r_iload5 (pc' := 30) rfl rfl ?_
      refine am_r_i2l (pc' := 31) rfl rfl ?_
      refine am_r_lload3 (pc' := 32) rfl rfl ?_
      refine am_r_lcmp (pc' := 33) rfl rfl ?_
      refine am_r_lif_gt (pt := 55) (pf := 36) rfl rfl rfl (fun h33 => ?_) (fun h33 => ?_)
      · exfalso; omega
      · refine am_r_aload0 (pc' := 37) rfl rfl ?_
        refine am_r_iload1 (pc' := 38) rfl rfl ?_
        refine am_r_iload5 (pc' := 40) rfl rfl ?_
        refine am_r_invI2 (pc' := 43) rfl rfl rfl (Nat.le_of_ble_eq_true rfl) (c_isFree (by omega) hX (by omega) (by omega) ?_)
        refine am_r_if_eqB (pt := 49) (pf := 46) rfl rfl rfl (fun h43 => ?_) (fun h43 => ?_)
        · refine am_r_iinc5 (pc' := 52) rfl rfl rfl ?_
          refine am_r_goto (pc' := 28) rfl rfl ?_
          rw [f_first_f (p := g_free σ s) h43] at hq; exact ih _ _ (by omega) hq
        · refine am_r_iload5 (pc' := 48) rfl rfl ?_
          refine am_r_iret rfl rfl ?_
          rw [f_first_t (p := g_free σ s) h43] at hq; exact hq
  refine am_bi_of (P := am_pX1_firstFreeDay) (rt := 1) (nL := 6) (Nat.le_of_ble_eq_true rfl) rfl (Nat.le_of_ble_eq_true rfl) rfl rfl rfl ?_
  refine am_r_lconst (z := 99999) (pc' := 3) rfl rfl rfl ?_
  refine am_r_iload2 (pc' := 4) rfl rfl ?_
  refine am_r_i2l (pc' := 5) rfl rfl ?_
  refine am_r_aload0 (pc' := 6) rfl rfl ?_
  refine am_r_iconst (pc' := 7) rfl rfl ?_
  refine am_r_aload0 (pc' := 8) rfl rfl ?_
  refine am_r_getR (t := 1) (pc' := 11) rfl rfl rfl ?_
  refine am_r_getIv (f := 5) (pc' := 14) rfl rfl rfl (sx_n hX) ?_
  refine am_r_ishl (pc' := 15) rfl rfl ?_
  rw [z_shl1 (by omega)]
  refine am_r_iconst (pc' := 16) rfl rfl ?_
  refine am_r_isub (pc' := 17) rfl rfl ?_
  refine am_r_invL1 (pc' := 20) rfl rfl rfl (Nat.le_of_ble_eq_true rfl) (c_togetherAgain (by omega) hX (by omega) ?_)
  refine am_r_ladd (pc' := 21) rfl rfl ?_
  refine am_r_minL (pc' := 24) rfl rfl (Nat.le_of_ble_eq_true rfl) ?_
  refine am_r_lstore3 (pc' := 25) rfl rfl rfl ?_
  refine am_r_iload2 (pc' := 26) rfl rfl ?_
  refine am_r_istore5 (pc' := 28) rfl rfl rfl ?_
  exact hl _ _ _ (by omega) hq
theorem c_nextAtStart {sL : Nat} {xs : Nat → Int32} {d : Nat} {M : Am_M} {Q : Int64 → Am_M → Prop} (hd : 1 ≤ d) {σ : Sg} (hX : SX M σ) {a f0 e : Int} (ha : 0 ≤ a ∧ a < s_n σ) (hf : 0 ≤ f0 ∧ f0 ≤ 167961600000000) (he : 1 ≤ e ∧ e ≤ 2799360000000) (hq : Q (z_L (g_nx σ a e f0 (s_rd σ a).toNat)) M) : am_bl sL xs d 6 [.ref 14, .int (z_I a), .long (z_L f0), .long (z_L e)] M Q := by
  obtain ⟨d, rfl⟩ : ∃ e, d = e + 1 := ⟨d - 1, by omega⟩
  have hn := sb_nb hX.1
  have hnr := sb_nrb hX.1
  have hb := sg_b hX.1 ha
  have hee : e * ((s_rd σ a).toNat : Int) ≤ 2799360000000 * 60 := Int.mul_le_mul (by omega) (by omega) (by omega) (by omega)
  have hl : ∀ (k : Nat) (i g : Int), (0 ≤ i ∧ i + k = s_rd σ a ∧ 0 ≤ g ∧ g + e * k ≤ 1000000000000000) → (Q (z_L (g_nx σ a e g k)) M) → am_rw sL xs d am_pX1_nextAtStart 3 6 [.ref 14, .int (z_I a), .long (z_L f0), .null, .long (z_L e), .null, .long (z_L g), .null, .int (z_I i)] [] M (am_pl Q) := by
    intro k
    induction k with
    | zero =>
      intro i g hk hq
      have hek1 : e * ((0 : Nat) : Int) = 0 := (by simp)
      refine am_r_iload8 (pc' := 8) rfl rfl ?_
      refine am_r_aload0 (pc' := 9) rfl rfl ?_
      refine am_r_getR (t := 1) (pc' := 12) rfl rfl rfl ?_
      refine am_r_getR (t := 2) (pc' := 15) rfl rfl rfl ?_
      refine am_r_iload1 (pc' := 16) rfl rfl ?_
      refine am_r_iaZv (n := 8) (pc' := 17) rfl rfl rfl (by decide) (sx_rd hX (by omega)) ?_
      refine am_r_icmp_ge (pt := 65) (pf := 20) rfl rfl rfl (fun h17 => ?_) (fun h17 => ?_)
      · refine am_r_lconst (z := (-1)) (pc' := 68) rfl rfl rfl ?_
        refine am_r_lret rfl rfl ?_
        exact hq
      · exfalso; omega
    | succ k ih =>
      intro i g hk hq
      have hek : 0 ≤ e * (k : Int) := Int.mul_nonneg (by omega) (by omega)
      have hek1 : e * ((k + 1 : Nat) : Int) = e * k + e := (by rw [show ((k + 1 : Nat) : Int) = (k : Int) + 1 by omega, Int.mul_add, Int.mul_one])
      refine am_r_iload8 (pc' := 8) rfl rfl ?_
      refine am_r_aload0 (pc' := 9) rfl rfl ?_
      refine am_r_getR (t := 1) (pc' := 12) rfl rfl rfl ?_
      refine am_r_getR (t := 2) (pc' := 15) rfl rfl rfl ?_
      refine am_r_iload1 (pc' := 16) rfl rfl ?_
      refine am_r_iaZv (n := 8) (pc' := 17) rfl rfl rfl (by decide) (sx_rd hX (by omega)) ?_
      refine am_r_icmp_ge (pt := 65) (pf := 20) rfl rfl rfl (fun h17 => ?_) (fun h17 => ?_)
      · exfalso; omega
      · refine am_r_aload0 (pc' := 21) rfl rfl ?_
        refine am_r_getR (t := 1) (pc' := 24) rfl rfl rfl ?_
        refine am_r_getR (t := 3) (pc' := 27) rfl rfl rfl ?_
        refine am_r_iload1 (pc' := 28) rfl rfl ?_
        refine am_r_iaZv (n := 8) (pc' := 29) rfl rfl rfl (by decide) (sx_pl hX (by omega)) ?_
        refine am_r_i2l (pc' := 30) rfl rfl ?_
        refine am_r_lload6 (pc' := 32) rfl rfl ?_
        refine am_r_ladd (pc' := 33) rfl rfl ?_
        refine am_r_aload0 (pc' := 34) rfl rfl ?_
        refine am_r_getR (t := 1) (pc' := 37) rfl rfl rfl ?_
        refine am_r_getR (t := 2) (pc' := 40) rfl rfl rfl ?_
        refine am_r_iload1 (pc' := 41) rfl rfl ?_
        refine am_r_iaZv (n := 8) (pc' := 42) rfl rfl rfl (by decide) (sx_rd hX (by omega)) ?_
        refine am_r_i2l (pc' := 43) rfl rfl ?_
        refine am_r_lrem (pc' := 44) rfl rfl ?_
        have hmm1 := Int.emod_nonneg (s_pl σ a + g) (show s_rd σ a ≠ 0 by omega)
        have hmm2 := Int.emod_lt_of_pos (s_pl σ a + g) (show 0 < s_rd σ a by omega)
        refine am_r_lconst (z := 0) (pc' := 45) rfl rfl rfl ?_
        refine am_r_lcmp (pc' := 46) rfl rfl ?_
        refine am_r_lif_ne (pt := 52) (pf := 49) rfl rfl rfl (fun h46 => ?_) (fun h46 => ?_)
        · refine am_r_lload6 (pc' := 54) rfl rfl ?_
          refine am_r_lload4 (pc' := 56) rfl rfl ?_
          refine am_r_ladd (pc' := 57) rfl rfl ?_
          refine am_r_lstore6 (pc' := 59) rfl rfl rfl ?_
          refine am_r_iinc8 (pc' := 62) rfl rfl rfl ?_
          refine am_r_goto (pc' := 6) rfl rfl ?_
          exact ih _ _ (by omega) (by rw [show g_nx σ a e g (k + 1) = g_nx σ a e (g + e) k by (rw [g_nx, if_neg (by omega)])] at hq; exact hq)
        · refine am_r_lload6 (pc' := 51) rfl rfl ?_
          refine am_r_lret rfl rfl ?_
          rw [show g_nx σ a e g (k + 1) = g by (rw [g_nx, if_pos (by omega)])] at hq; exact hq
  refine am_bl_of (P := am_pX1_nextAtStart) (rt := 3) (nL := 9) (Nat.le_of_ble_eq_true rfl) rfl (Nat.le_of_ble_eq_true rfl) rfl rfl rfl ?_
  refine am_r_lload2 (pc' := 1) rfl rfl ?_
  refine am_r_lstore6 (pc' := 3) rfl rfl rfl ?_
  refine am_r_iconst (pc' := 4) rfl rfl ?_
  refine am_r_istore8 (pc' := 6) rfl rfl rfl ?_
  exact hl (s_rd σ a).toNat _ _ (by omega) hq
theorem g_nx_ub {σ : Sg} (h : SB σ) {a e d : Int} (ha : 0 ≤ a ∧ a < s_n σ) (he : 1 ≤ e) (hd : 0 ≤ d ∧ d ≤ e) : -1 ≤ g_nx σ a e d (s_rd σ a).toNat ∧ g_nx σ a e d (s_rd σ a).toNat ≤ 60 * e := by
  have hb := sg_b h ha
  have h1 := g_nx_b σ a e (by omega) (s_rd σ a).toNat d hd.1
  refine ⟨h1.1, ?_⟩
  rcases h1.2 with q | q
  · omega
  · have h2 : e * (((s_rd σ a).toNat : Int) - 1) ≤ e * 59 := Int.mul_le_mul_of_nonneg_left (by omega) (by omega)
    omega
theorem c_allAtStart {sL : Nat} {xs : Nat → Int32} {d : Nat} {M : Am_M} {Q : Int64 → Am_M → Prop} (hd : 2 ≤ d) {σ : Sg} (hX : SX M σ) {s : Int} (hs : 0 ≤ s ∧ s < 256) (hq : Q (z_L (g_start σ s)) M) : am_bl sL xs d 5 [.ref 14, .int (z_I s)] M Q := by
  obtain ⟨d, rfl⟩ : ∃ e, d = e + 1 := ⟨d - 1, by omega⟩
  have hn := sb_nb hX.1
  have hnr := sb_nrb hX.1
  have hl : ∀ (k : Nat) (i c e : Int), (0 ≤ i ∧ i + k = s_n σ ∧ 0 ≤ c ∧ c ≤ 60 ^ i.toNat ∧ 1 ≤ e ∧ e ≤ 60 ^ i.toNat) → (Q (z_L (g_st σ s c e i k)) M) → am_rw sL xs d am_pX1_allAtStart 3 8 [.ref 14, .int (z_I s), .long (z_L c), .null, .long (z_L e), .null, .int (z_I i)] [] M (am_pl Q) := by
    intro k
    induction k with
    | zero =>
      intro i c e hk hq
      have hbt := s_bit01 s i
      have hps := p60_s hk.1
      have h88 := p60 (i := i) (by omega)
      refine am_r_iload6 (pc' := 10) rfl rfl ?_
      refine am_r_aload0 (pc' := 11) rfl rfl ?_
      refine am_r_getR (t := 1) (pc' := 14) rfl rfl rfl ?_
      refine am_r_getIv (f := 5) (pc' := 17) rfl rfl rfl (sx_n hX) ?_
      refine am_r_icmp_ge (pt := 74) (pf := 20) rfl rfl rfl (fun h17 => ?_) (fun h17 => ?_)
      · refine am_r_lload2 (pc' := 75) rfl rfl ?_
        refine am_r_lret rfl rfl ?_
        exact hq
      · exfalso; omega
    | succ k ih =>
      intro i c e hk hq
      have hbt := s_bit01 s i
      have hps := p60_s hk.1
      have h88 := p60 (i := i) (by omega)
      refine am_r_iload6 (pc' := 10) rfl rfl ?_
      refine am_r_aload0 (pc' := 11) rfl rfl ?_
      refine am_r_getR (t := 1) (pc' := 14) rfl rfl rfl ?_
      refine am_r_getIv (f := 5) (pc' := 17) rfl rfl rfl (sx_n hX) ?_
      refine am_r_icmp_ge (pt := 74) (pf := 20) rfl rfl rfl (fun h17 => ?_) (fun h17 => ?_)
      · exfalso; omega
      · refine am_r_iload1 (pc' := 21) rfl rfl ?_
        refine am_r_iload6 (pc' := 23) rfl rfl ?_
        refine am_r_ishr (pc' := 24) rfl rfl ?_
        refine am_r_iconst (pc' := 25) rfl rfl ?_
        refine am_r_iandR (pc' := 26) rfl rfl ?_
        rw [z_bit (by omega) (by omega)]
        refine am_r_iconst (pc' := 27) rfl rfl ?_
        refine am_r_icmp_ne (pt := 68) (pf := 30) rfl rfl rfl (fun h27 => ?_) (fun h27 => ?_)
        · refine am_r_iinc6 (pc' := 71) rfl rfl rfl ?_
          refine am_r_goto (pc' := 8) rfl rfl ?_
          first | exact ih _ _ _ (by omega) (by rw [show g_st σ s c e i (k + 1) = g_st σ s (g_nx σ i e c (s_rd σ i).toNat) (g_lcm e (s_rd σ i)) (i + 1) k by (rw [g_st, if_pos (by omega), if_neg (by omega)])] at hq; exact hq) | exact ih _ _ _ (by omega) (by rw [show g_st σ s c e i (k + 1) = g_st σ s c e (i + 1) k by (rw [g_st, if_neg (by omega)])] at hq; exact hq)
        · have hbb := sg_b hX.1 (a := i) (by omega)
          have h8 := p60 (i := i + 1) (by omega)
          have hlb := g_lcm_b (a := e) (b := s_rd σ i) (by omega) (by omega)
          have hnb2 := g_nx_b σ i e (by omega) (s_rd σ i).toNat c (by omega)
          have hnx : g_nx σ i e c (s_rd σ i).toNat ≤ 60 * 60 ^ i.toNat := (by have q1 : e * (((s_rd σ i).toNat : Int) - 1) ≤ 60 ^ i.toNat * 59 := Int.mul_le_mul (by omega) (by omega) (by omega) (by omega); omega)
          refine am_r_aload0 (pc' := 31) rfl rfl ?_
          refine am_r_iload6 (pc' := 33) rfl rfl ?_
          refine am_r_lload2 (pc' := 34) rfl rfl ?_
          refine am_r_lload4 (pc' := 36) rfl rfl ?_
          refine am_r_invL3 (pc' := 39) rfl rfl rfl (Nat.le_of_ble_eq_true rfl) (c_nextAtStart (by omega) hX (by omega) (by omega) (by omega) ?_)
          refine am_r_lstore2 (pc' := 40) rfl rfl rfl ?_
          refine am_r_lload2 (pc' := 41) rfl rfl ?_
          refine am_r_lconst (z := 0) (pc' := 42) rfl rfl rfl ?_
          refine am_r_lcmp (pc' := 43) rfl rfl ?_
          refine am_r_lif_ge (pt := 50) (pf := 46) rfl rfl rfl (fun h43 => ?_) (fun h43 => ?_)
          · refine am_r_lload4 (pc' := 52) rfl rfl ?_
            refine am_r_aload0 (pc' := 53) rfl rfl ?_
            refine am_r_getR (t := 1) (pc' := 56) rfl rfl rfl ?_
            refine am_r_getR (t := 2) (pc' := 59) rfl rfl rfl ?_
            refine am_r_iload6 (pc' := 61) rfl rfl ?_
            refine am_r_iaZv (n := 8) (pc' := 62) rfl rfl rfl (by decide) (sx_rd hX (by omega)) ?_
            refine am_r_i2l (pc' := 63) rfl rfl ?_
            refine am_r_ivsL2 (pc' := 66) rfl rfl rfl (Nat.le_of_ble_eq_true rfl) (c_leastCommon (by omega) (by omega) (by omega) ?_)
            refine am_r_lstore4 (pc' := 68) rfl rfl rfl ?_
            refine am_r_iinc6 (pc' := 71) rfl rfl rfl ?_
            refine am_r_goto (pc' := 8) rfl rfl ?_
            first | exact ih _ _ _ (by omega) (by rw [show g_st σ s c e i (k + 1) = g_st σ s (g_nx σ i e c (s_rd σ i).toNat) (g_lcm e (s_rd σ i)) (i + 1) k by (rw [g_st, if_pos (by omega), if_neg (by omega)])] at hq; exact hq) | exact ih _ _ _ (by omega) (by rw [show g_st σ s c e i (k + 1) = g_st σ s c e (i + 1) k by (rw [g_st, if_neg (by omega)])] at hq; exact hq)
          · refine am_r_lconst (z := (-2)) (pc' := 49) rfl rfl rfl ?_
            refine am_r_lret rfl rfl ?_
            rw [show g_st σ s c e i (k + 1) = -2 by (rw [g_st, if_pos (by omega), if_pos (by omega)])] at hq; exact hq
  refine am_bl_of (P := am_pX1_allAtStart) (rt := 3) (nL := 7) (Nat.le_of_ble_eq_true rfl) rfl (Nat.le_of_ble_eq_true rfl) rfl rfl rfl ?_
  refine am_r_lconst (z := 0) (pc' := 1) rfl rfl rfl ?_
  refine am_r_lstore2 (pc' := 2) rfl rfl rfl ?_
  refine am_r_lconst (z := 1) (pc' := 3) rfl rfl rfl ?_
  refine am_r_lstore4 (pc' := 5) rfl rfl rfl ?_
  refine am_r_iconst (pc' := 6) rfl rfl ?_
  refine am_r_istore6 (pc' := 8) rfl rfl rfl ?_
  exact hl (s_n σ).toNat 0 0 1 (by refine ⟨by omega, by omega, by omega, ?_, by omega, ?_⟩ <;> decide) hq
/-- the least nudge -/
def g_nud (σ : Sg) (a b d : Int) : Int → Nat → Int
  | _, 0 => -1000
  | i, k + 1 => if g_mt σ a i b d = true then i else if g_mt σ a (-i) b d = true then -i else g_nud σ a b d (i + 1) k
/-- at place p of a it meets b on none of n days -/
def g_lnp (σ : Sg) (a p b d : Int) : Bool := ! g_mt σ a (p - s_pl σ a) b d
def g_lon (σ : Sg) (a b n p : Int) : Bool := f_all (g_lnp σ a p b) 0 n.toNat
theorem c_leastNudge {sL : Nat} {xs : Nat → Int32} {d : Nat} {M : Am_M} {Q : Int32 → Am_M → Prop} (hd : 5 ≤ d) {σ : Sg} (hX : SX M σ) {a b f0 : Int} (ha : 0 ≤ a ∧ a < s_n σ) (hb : 0 ≤ b ∧ b < s_n σ) (hf : 0 ≤ f0 ∧ f0 ≤ 100000) (hq : Q (z_I (g_nud σ a b f0 0 (s_rd σ a).toNat)) M) : am_bi sL xs d 14 [.ref 14, .int (z_I a), .int (z_I b), .int (z_I f0)] M Q := by
  obtain ⟨d, rfl⟩ : ∃ e, d = e + 1 := ⟨d - 1, by omega⟩
  have hn := sb_nb hX.1
  have hnr := sb_nrb hX.1
  have hba := sg_b hX.1 ha
  have hl : ∀ (k : Nat) (i : Int), (0 ≤ i ∧ i + k = s_rd σ a) → (Q (z_I (g_nud σ a b f0 i k)) M) → am_rw sL xs d am_pX1_leastNudge 1 3 [.ref 14, .int (z_I a), .int (z_I b), .int (z_I f0), .int (z_I i)] [] M (am_pi Q) := by
    intro k
    induction k with
    | zero =>
      intro i hk hq
      refine am_r_iload4 (pc' := 5) rfl rfl ?_
      refine am_r_aload0 (pc' := 6) rfl rfl ?_
      refine am_r_getR (t := 1) (pc' := 9) rfl rfl rfl ?_
      refine am_r_getR (t := 2) (pc' := 12) rfl rfl rfl ?_
      refine am_r_iload1 (pc' := 13) rfl rfl ?_
      refine am_r_iaZv (n := 8) (pc' := 14) rfl rfl rfl (by decide) (sx_rd hX (by omega)) ?_
      refine am_r_icmp_ge (pt := 61) (pf := 17) rfl rfl rfl (fun h14 => ?_) (fun h14 => ?_)
      · refine am_r_iconst (pc' := 64) rfl rfl ?_
        refine am_r_iret rfl rfl ?_
        exact hq
      · exfalso; omega
    | succ k ih =>
      intro i hk hq
      refine am_r_iload4 (pc' := 5) rfl rfl ?_
      refine am_r_aload0 (pc' := 6) rfl rfl ?_
      refine am_r_getR (t := 1) (pc' := 9) rfl rfl rfl ?_
      refine am_r_getR (t := 2) (pc' := 12) rfl rfl rfl ?_
      refine am_r_iload1 (pc' := 13) rfl rfl ?_
      refine am_r_iaZv (n := 8) (pc' := 14) rfl rfl rfl (by decide) (sx_rd hX (by omega)) ?_
      refine am_r_icmp_ge (pt := 61) (pf := 17) rfl rfl rfl (fun h14 => ?_) (fun h14 => ?_)
      · exfalso; omega
      · refine am_r_aload0 (pc' := 18) rfl rfl ?_
        refine am_r_getR (t := 1) (pc' := 21) rfl rfl rfl ?_
        refine am_r_iload1 (pc' := 22) rfl rfl ?_
        refine am_r_iload4 (pc' := 24) rfl rfl ?_
        refine am_r_iload2 (pc' := 25) rfl rfl ?_
        refine am_r_iload3 (pc' := 26) rfl rfl ?_
        refine am_r_invI4 (pc' := 29) rfl rfl rfl (Nat.le_of_ble_eq_true rfl) (c_meetMoved (by omega) hX (by omega) (by omega) (by omega) (by omega) ?_)
        refine am_r_if_eqB (pt := 35) (pf := 32) rfl rfl rfl (fun h29 => ?_) (fun h29 => ?_)
        · refine am_r_aload0 (pc' := 36) rfl rfl ?_
          refine am_r_getR (t := 1) (pc' := 39) rfl rfl rfl ?_
          refine am_r_iload1 (pc' := 40) rfl rfl ?_
          refine am_r_iload4 (pc' := 42) rfl rfl ?_
          refine am_r_ineg (pc' := 43) rfl rfl ?_
          refine am_r_iload2 (pc' := 44) rfl rfl ?_
          refine am_r_iload3 (pc' := 45) rfl rfl ?_
          refine am_r_invI4 (pc' := 48) rfl rfl rfl (Nat.le_of_ble_eq_true rfl) (c_meetMoved (by omega) hX (by omega) (by omega) (by omega) (by omega) ?_)
          refine am_r_if_eqB (pt := 55) (pf := 51) rfl rfl rfl (fun h48 => ?_) (fun h48 => ?_)
          · refine am_r_iinc4 (pc' := 58) rfl rfl rfl ?_
            refine am_r_goto (pc' := 3) rfl rfl ?_
            exact ih _ (by omega) (by rw [show g_nud σ a b f0 i (k + 1) = g_nud σ a b f0 (i + 1) k by (rw [g_nud, if_neg h29, if_neg h48])] at hq; exact hq)
          · refine am_r_iload4 (pc' := 53) rfl rfl ?_
            refine am_r_ineg (pc' := 54) rfl rfl ?_
            refine am_r_iret rfl rfl ?_
            rw [show g_nud σ a b f0 i (k + 1) = -i by (rw [g_nud, if_neg h29, if_pos h48])] at hq; exact hq
        · refine am_r_iload4 (pc' := 34) rfl rfl ?_
          refine am_r_iret rfl rfl ?_
          rw [show g_nud σ a b f0 i (k + 1) = i by (rw [g_nud, if_pos h29])] at hq; exact hq
  refine am_bi_of (P := am_pX1_leastNudge) (rt := 1) (nL := 5) (Nat.le_of_ble_eq_true rfl) rfl (Nat.le_of_ble_eq_true rfl) rfl rfl rfl ?_
  refine am_r_iconst (pc' := 1) rfl rfl ?_
  refine am_r_istore4 (pc' := 3) rfl rfl rfl ?_
  exact hl (s_rd σ a).toNat 0 (by omega) hq
theorem c_isLonely {sL : Nat} {xs : Nat → Int32} {d : Nat} {M : Am_M} {Q : Int32 → Am_M → Prop} (hd : 5 ≤ d) {σ : Sg} (hX : SX M σ) {a p b n : Int} (ha : 0 ≤ a ∧ a < s_n σ) (hp : 0 ≤ p ∧ p < s_rd σ a) (hb : 0 ≤ b ∧ b < s_n σ) (hnn : 0 ≤ n ∧ n ≤ 999) (hq : Q (z_b (g_lon σ a b n p = true)) M) : am_bi sL xs d 15 [.ref 14, .int (z_I a), .int (z_I p), .int (z_I b), .int (z_I n)] M Q := by
  obtain ⟨d, rfl⟩ : ∃ e, d = e + 1 := ⟨d - 1, by omega⟩
  have hn := sb_nb hX.1
  have hnr := sb_nrb hX.1
  have hba := sg_b hX.1 ha
  have hl : ∀ (k : Nat) (i : Int), (0 ≤ i ∧ i + k = n) → (Q (z_b (f_all (g_lnp σ a p b) i k = true)) M) → am_rw sL xs d am_pX1_isLonely 2 16 [.ref 14, .int (z_I a), .int (z_I p), .int (z_I b), .int (z_I n), .int (z_I (p - s_pl σ a)), .int (z_I i)] [] M (am_pi Q) := by
    intro k
    induction k with
    | zero =>
      intro i hk hq
      refine am_r_iload6 (pc' := 18) rfl rfl ?_
      refine am_r_iload4 (pc' := 20) rfl rfl ?_
      refine am_r_icmp_ge (pt := 47) (pf := 23) rfl rfl rfl (fun h20 => ?_) (fun h20 => ?_)
      · refine am_r_iconst (pc' := 48) rfl rfl ?_
        refine am_r_zret rfl rfl (by first | exact Or.inr rfl | exact Or.inl rfl | exact z_b_01 _ | assumption) ?_
        rw [show f_all (g_lnp σ a p b) i 0 = true from rfl, z_bT rfl] at hq; exact hq
      · exfalso; omega
    | succ k ih =>
      intro i hk hq
      refine am_r_iload6 (pc' := 18) rfl rfl ?_
      refine am_r_iload4 (pc' := 20) rfl rfl ?_
      refine am_r_icmp_ge (pt := 47) (pf := 23) rfl rfl rfl (fun h20 => ?_) (fun h20 => ?_)
      · exfalso; omega
      · refine am_r_aload0 (pc' := 24) rfl rfl ?_
        refine am_r_getR (t := 1) (pc' := 27) rfl rfl rfl ?_
        refine am_r_iload1 (pc' := 28) rfl rfl ?_
        refine am_r_iload5 (pc' := 30) rfl rfl ?_
        refine am_r_iload3 (pc' := 31) rfl rfl ?_
        refine am_r_iload6 (pc' := 33) rfl rfl ?_
        refine am_r_invI4 (pc' := 36) rfl rfl rfl (Nat.le_of_ble_eq_true rfl) (c_meetMoved (by omega) hX (by omega) (by omega) (by omega) (by omega) ?_)
        refine am_r_if_eqB (pt := 41) (pf := 39) rfl rfl rfl (fun h36 => ?_) (fun h36 => ?_)
        · refine am_r_iinc6 (pc' := 44) rfl rfl rfl ?_
          refine am_r_goto (pc' := 16) rfl rfl ?_
          exact ih _ (by omega) (by rw [f_all_t (p := g_lnp σ a p b) (by unfold g_lnp; simp [h36])] at hq; exact hq)
        · refine am_r_iconst (pc' := 40) rfl rfl ?_
          refine am_r_zret rfl rfl (by first | exact Or.inr rfl | exact Or.inl rfl | exact z_b_01 _ | assumption) ?_
          rw [f_all_f (p := g_lnp σ a p b) (by unfold g_lnp; simp [h36]), z_bF (by decide)] at hq; exact hq
  refine am_bi_of (P := am_pX1_isLonely) (rt := 2) (nL := 7) (Nat.le_of_ble_eq_true rfl) rfl (Nat.le_of_ble_eq_true rfl) rfl rfl rfl ?_
  refine am_r_iload2 (pc' := 1) rfl rfl ?_
  refine am_r_aload0 (pc' := 2) rfl rfl ?_
  refine am_r_getR (t := 1) (pc' := 5) rfl rfl rfl ?_
  refine am_r_getR (t := 3) (pc' := 8) rfl rfl rfl ?_
  refine am_r_iload1 (pc' := 9) rfl rfl ?_
  refine am_r_iaZv (n := 8) (pc' := 10) rfl rfl rfl (by decide) (sx_pl hX (by omega)) ?_
  refine am_r_isub (pc' := 11) rfl rfl ?_
  refine am_r_istore5 (pc' := 13) rfl rfl rfl ?_
  refine am_r_iconst (pc' := 14) rfl rfl ?_
  refine am_r_istore6 (pc' := 16) rfl rfl rfl ?_
  exact hl n.toNat 0 (by omega) hq
theorem c_lonelyPlaces {sL : Nat} {xs : Nat → Int32} {d : Nat} {M : Am_M} {Q : Int32 → Am_M → Prop} (hd : 6 ≤ d) {σ : Sg} (hX : SX M σ) {a b n : Int} (ha : 0 ≤ a ∧ a < s_n σ) (hb : 0 ≤ b ∧ b < s_n σ) (hnn : 0 ≤ n ∧ n ≤ 999) (hq : Q (z_I (f_cnt (g_lon σ a b n) 0 (s_rd σ a).toNat)) M) : am_bi sL xs d 16 [.ref 14, .int (z_I a), .int (z_I b), .int (z_I n)] M Q := by
  obtain ⟨d, rfl⟩ : ∃ e, d = e + 1 := ⟨d - 1, by omega⟩
  have hn := sb_nb hX.1
  have hnr := sb_nrb hX.1
  have hba := sg_b hX.1 ha
  have hl : ∀ (k : Nat) (i c : Int), (0 ≤ i ∧ i + k = s_rd σ a) → (Q (z_I (c + f_cnt (g_lon σ a b n) i k)) M) → am_rw sL xs d am_pX1_lonelyPlaces 1 6 [.ref 14, .int (z_I a), .int (z_I b), .int (z_I n), .int (z_I c), .int (z_I i)] [] M (am_pi Q) := by
    intro k
    induction k with
    | zero =>
      intro i c hk hq
      refine am_r_iload5 (pc' := 8) rfl rfl ?_
      refine am_r_aload0 (pc' := 9) rfl rfl ?_
      refine am_r_getR (t := 1) (pc' := 12) rfl rfl rfl ?_
      refine am_r_getR (t := 2) (pc' := 15) rfl rfl rfl ?_
      refine am_r_iload1 (pc' := 16) rfl rfl ?_
      refine am_r_iaZv (n := 8) (pc' := 17) rfl rfl rfl (by decide) (sx_rd hX (by omega)) ?_
      refine am_r_icmp_ge (pt := 41) (pf := 20) rfl rfl rfl (fun h17 => ?_) (fun h17 => ?_)
      · refine am_r_iload4 (pc' := 43) rfl rfl ?_
        refine am_r_iret rfl rfl ?_
        rw [f_cnt_0] at hq; exact hq
      · exfalso; omega
    | succ k ih =>
      intro i c hk hq
      refine am_r_iload5 (pc' := 8) rfl rfl ?_
      refine am_r_aload0 (pc' := 9) rfl rfl ?_
      refine am_r_getR (t := 1) (pc' := 12) rfl rfl rfl ?_
      refine am_r_getR (t := 2) (pc' := 15) rfl rfl rfl ?_
      refine am_r_iload1 (pc' := 16) rfl rfl ?_
      refine am_r_iaZv (n := 8) (pc' := 17) rfl rfl rfl (by decide) (sx_rd hX (by omega)) ?_
      refine am_r_icmp_ge (pt := 41) (pf := 20) rfl rfl rfl (fun h17 => ?_) (fun h17 => ?_)
      · exfalso; omega
      · refine am_r_aload0 (pc' := 21) rfl rfl ?_
        refine am_r_iload1 (pc' := 22) rfl rfl ?_
        refine am_r_iload5 (pc' := 24) rfl rfl ?_
        refine am_r_iload2 (pc' := 25) rfl rfl ?_
        refine am_r_iload3 (pc' := 26) rfl rfl ?_
        refine am_r_invI4 (pc' := 29) rfl rfl rfl (Nat.le_of_ble_eq_true rfl) (c_isLonely (by omega) hX (by omega) (by omega) (by omega) (by omega) ?_)
        refine am_r_if_eqB (pt := 35) (pf := 32) rfl rfl rfl (fun h29 => ?_) (fun h29 => ?_)
        · refine am_r_iinc5 (pc' := 38) rfl rfl rfl ?_
          refine am_r_goto (pc' := 6) rfl rfl ?_
          first | (rw [f_cnt_t (p := g_lon σ a b n) h29] at hq; exact ih _ _ (by omega) hq) | (rw [f_cnt_f (p := g_lon σ a b n) h29] at hq; exact ih _ _ (by omega) hq)
        · refine am_r_iinc4 (pc' := 35) rfl rfl rfl ?_
          refine am_r_iinc5 (pc' := 38) rfl rfl rfl ?_
          refine am_r_goto (pc' := 6) rfl rfl ?_
          first | (rw [f_cnt_t (p := g_lon σ a b n) h29] at hq; exact ih _ _ (by omega) hq) | (rw [f_cnt_f (p := g_lon σ a b n) h29] at hq; exact ih _ _ (by omega) hq)
  refine am_bi_of (P := am_pX1_lonelyPlaces) (rt := 1) (nL := 6) (Nat.le_of_ble_eq_true rfl) rfl (Nat.le_of_ble_eq_true rfl) rfl rfl rfl ?_
  refine am_r_iconst (pc' := 1) rfl rfl ?_
  refine am_r_istore4 (pc' := 3) rfl rfl rfl ?_
  refine am_r_iconst (pc' := 4) rfl rfl ?_
  refine am_r_istore5 (pc' := 6) rfl rfl rfl ?_
  exact hl (s_rd σ a).toNat 0 0 (by omega) (by rw [Int.zero_add]; exact hq)
theorem c_leastLonelyPlace {sL : Nat} {xs : Nat → Int32} {d : Nat} {M : Am_M} {Q : Int32 → Am_M → Prop} (hd : 6 ≤ d) {σ : Sg} (hX : SX M σ) {a b n : Int} (ha : 0 ≤ a ∧ a < s_n σ) (hb : 0 ≤ b ∧ b < s_n σ) (hnn : 0 ≤ n ∧ n ≤ 999) (hq : Q (z_I (f_first (g_lon σ a b n) 0 (s_rd σ a).toNat)) M) : am_bi sL xs d 17 [.ref 14, .int (z_I a), .int (z_I b), .int (z_I n)] M Q := by
  obtain ⟨d, rfl⟩ : ∃ e, d = e + 1 := ⟨d - 1, by omega⟩
  have hn := sb_nb hX.1
  have hnr := sb_nrb hX.1
  have hba := sg_b hX.1 ha
  have hl : ∀ (k : Nat) (i : Int), (0 ≤ i ∧ i + k = s_rd σ a) → (Q (z_I (f_first (g_lon σ a b n) i k)) M) → am_rw sL xs d am_pX1_leastLonelyPlace 1 3 [.ref 14, .int (z_I a), .int (z_I b), .int (z_I n), .int (z_I i)] [] M (am_pi Q) := by
    intro k
    induction k with
    | zero =>
      intro i hk hq
      refine am_r_iload4 (pc' := 5) rfl rfl ?_
      refine am_r_aload0 (pc' := 6) rfl rfl ?_
      refine am_r_getR (t := 1) (pc' := 9) rfl rfl rfl ?_
      refine am_r_getR (t := 2) (pc' := 12) rfl rfl rfl ?_
      refine am_r_iload1 (pc' := 13) rfl rfl ?_
      refine am_r_iaZv (n := 8) (pc' := 14) rfl rfl rfl (by decide) (sx_rd hX (by omega)) ?_
      refine am_r_icmp_ge (pt := 38) (pf := 17) rfl rfl rfl (fun h14 => ?_) (fun h14 => ?_)
      · refine am_r_iconst (pc' := 40) rfl rfl ?_
        refine am_r_iret rfl rfl ?_
        exact hq
      · exfalso; omega
    | succ k ih =>
      intro i hk hq
      refine am_r_iload4 (pc' := 5) rfl rfl ?_
      refine am_r_aload0 (pc' := 6) rfl rfl ?_
      refine am_r_getR (t := 1) (pc' := 9) rfl rfl rfl ?_
      refine am_r_getR (t := 2) (pc' := 12) rfl rfl rfl ?_
      refine am_r_iload1 (pc' := 13) rfl rfl ?_
      refine am_r_iaZv (n := 8) (pc' := 14) rfl rfl rfl (by decide) (sx_rd hX (by omega)) ?_
      refine am_r_icmp_ge (pt := 38) (pf := 17) rfl rfl rfl (fun h14 => ?_) (fun h14 => ?_)
      · exfalso; omega
      · refine am_r_aload0 (pc' := 18) rfl rfl ?_
        refine am_r_iload1 (pc' := 19) rfl rfl ?_
        refine am_r_iload4 (pc' := 21) rfl rfl ?_
        refine am_r_iload2 (pc' := 22) rfl rfl ?_
        refine am_r_iload3 (pc' := 23) rfl rfl ?_
        refine am_r_invI4 (pc' := 26) rfl rfl rfl (Nat.le_of_ble_eq_true rfl) (c_isLonely (by omega) hX (by omega) (by omega) (by omega) (by omega) ?_)
        refine am_r_if_eqB (pt := 32) (pf := 29) rfl rfl rfl (fun h26 => ?_) (fun h26 => ?_)
        · refine am_r_iinc4 (pc' := 35) rfl rfl rfl ?_
          refine am_r_goto (pc' := 3) rfl rfl ?_
          rw [f_first_f (p := g_lon σ a b n) h26] at hq; exact ih _ (by omega) hq
        · refine am_r_iload4 (pc' := 31) rfl rfl ?_
          refine am_r_iret rfl rfl ?_
          rw [f_first_t (p := g_lon σ a b n) h26] at hq; exact hq
  refine am_bi_of (P := am_pX1_leastLonelyPlace) (rt := 1) (nL := 5) (Nat.le_of_ble_eq_true rfl) rfl (Nat.le_of_ble_eq_true rfl) rfl rfl rfl ?_
  refine am_r_iconst (pc' := 1) rfl rfl ?_
  refine am_r_istore4 (pc' := 3) rfl rfl rfl ?_
  exact hl (s_rd σ a).toNat 0 (by omega) hq
def g_scn (σ : Sg) (a b i : Int) : Bool := decide (g_pl σ a (-i) * s_rd σ b = g_pl σ b (-i) * s_rd σ a)
theorem c_daysSinceScene {sL : Nat} {xs : Nat → Int32} {d : Nat} {M : Am_M} {Q : Int32 → Am_M → Prop} (hd : 3 ≤ d) {σ : Sg} (hX : SX M σ) {a b : Int} (ha : 0 ≤ a ∧ a < s_n σ) (hb : 0 ≤ b ∧ b < s_n σ) (hq : Q (z_I (f_first (g_scn σ a b) 1 3600)) M) : am_bi sL xs d 18 [.ref 14, .int (z_I a), .int (z_I b)] M Q := by
  obtain ⟨d, rfl⟩ : ∃ e, d = e + 1 := ⟨d - 1, by omega⟩
  have hn := sb_nb hX.1
  have hnr := sb_nrb hX.1
  have hba := sg_b hX.1 ha
  have hbb := sg_b hX.1 hb
  have hl : ∀ (k : Nat) (i : Int), (1 ≤ i ∧ i + k = 3601) → (Q (z_I (f_first (g_scn σ a b) i k)) M) → am_rw sL xs d am_pX1_daysSinceScene 1 2 [.ref 14, .int (z_I a), .int (z_I b), .int (z_I i)] [] M (am_pi Q) := by
    intro k
    induction k with
    | zero =>
      intro i hk hq
      refine am_r_iload3 (pc' := 3) rfl rfl ?_
      refine am_r_iconst (pc' := 6) rfl rfl ?_
      refine am_r_icmp_gt (pt := 60) (pf := 9) rfl rfl rfl (fun h6 => ?_) (fun h6 => ?_)
      · refine am_r_iconst (pc' := 62) rfl rfl ?_
        refine am_r_iret rfl rfl ?_
        exact hq
      · exfalso; omega
    | succ k ih =>
      intro i hk hq
      refine am_r_iload3 (pc' := 3) rfl rfl ?_
      refine am_r_iconst (pc' := 6) rfl rfl ?_
      refine am_r_icmp_gt (pt := 60) (pf := 9) rfl rfl rfl (fun h6 => ?_) (fun h6 => ?_)
      · exfalso; omega
      · refine am_r_aload0 (pc' := 10) rfl rfl ?_
        refine am_r_getR (t := 1) (pc' := 13) rfl rfl rfl ?_
        refine am_r_iload1 (pc' := 14) rfl rfl ?_
        refine am_r_iload3 (pc' := 15) rfl rfl ?_
        refine am_r_ineg (pc' := 16) rfl rfl ?_
        refine am_r_invI2 (pc' := 19) rfl rfl rfl (Nat.le_of_ble_eq_true rfl) (c_placeOn (by omega) hX (by omega) (by omega) ?_)
        refine am_r_aload0 (pc' := 20) rfl rfl ?_
        refine am_r_getR (t := 1) (pc' := 23) rfl rfl rfl ?_
        refine am_r_getR (t := 2) (pc' := 26) rfl rfl rfl ?_
        refine am_r_iload2 (pc' := 27) rfl rfl ?_
        refine am_r_iaZv (n := 8) (pc' := 28) rfl rfl rfl (by decide) (sx_rd hX (by omega)) ?_
        refine am_r_imul (pc' := 29) rfl rfl ?_
        refine am_r_aload0 (pc' := 30) rfl rfl ?_
        refine am_r_getR (t := 1) (pc' := 33) rfl rfl rfl ?_
        refine am_r_iload2 (pc' := 34) rfl rfl ?_
        refine am_r_iload3 (pc' := 35) rfl rfl ?_
        refine am_r_ineg (pc' := 36) rfl rfl ?_
        refine am_r_invI2 (pc' := 39) rfl rfl rfl (Nat.le_of_ble_eq_true rfl) (c_placeOn (by omega) hX (by omega) (by omega) ?_)
        refine am_r_aload0 (pc' := 40) rfl rfl ?_
        refine am_r_getR (t := 1) (pc' := 43) rfl rfl rfl ?_
        refine am_r_getR (t := 2) (pc' := 46) rfl rfl rfl ?_
        refine am_r_iload1 (pc' := 47) rfl rfl ?_
        refine am_r_iaZv (n := 8) (pc' := 48) rfl rfl rfl (by decide) (sx_rd hX (by omega)) ?_
        refine am_r_imul (pc' := 49) rfl rfl ?_
        have hpa := g_pl_b hX.1 ha (-i)
        have hpb := g_pl_b hX.1 hb (-i)
        have hm1 : g_pl σ a (-i) * s_rd σ b ≤ 60 * 60 := Int.mul_le_mul (by omega) (by omega) (by omega) (by omega)
        have hm2 : g_pl σ b (-i) * s_rd σ a ≤ 60 * 60 := Int.mul_le_mul (by omega) (by omega) (by omega) (by omega)
        have hm3 : 0 ≤ g_pl σ a (-i) * s_rd σ b := Int.mul_nonneg (by omega) (by omega)
        have hm4 : 0 ≤ g_pl σ b (-i) * s_rd σ a := Int.mul_nonneg (by omega) (by omega)
        refine am_r_icmp_ne (pt := 54) (pf := 52) rfl rfl rfl (fun h49 => ?_) (fun h49 => ?_)
        · refine am_r_iinc3 (pc' := 57) rfl rfl rfl ?_
          refine am_r_goto (pc' := 2) rfl rfl ?_
          rw [f_first_f (p := g_scn σ a b) (by unfold g_scn; rw [decide_eq_true_eq]; exact h49)] at hq; exact ih _ (by omega) hq
        · refine am_r_iload3 (pc' := 53) rfl rfl ?_
          refine am_r_iret rfl rfl ?_
          rw [f_first_t (p := g_scn σ a b) (by unfold g_scn; rw [decide_eq_true_eq]; exact h49)] at hq; exact hq
  refine am_bi_of (P := am_pX1_daysSinceScene) (rt := 1) (nL := 4) (Nat.le_of_ble_eq_true rfl) rfl (Nat.le_of_ble_eq_true rfl) rfl rfl rfl ?_
  refine am_r_iconst (pc' := 1) rfl rfl ?_
  refine am_r_istore3 (pc' := 2) rfl rfl rfl ?_
  exact hl 3600 1 (by omega) hq
theorem z_b_e1 {c : Prop} [Decidable c] : z_b c = z_I 1 ↔ c := by
  unfold z_b
  split
  · rename_i h; exact ⟨fun _ => h, fun _ => rfl⟩
  · rename_i h; exact ⟨fun q => absurd q (by decide), fun q => absurd q h⟩
theorem z_b_e0 {c : Prop} [Decidable c] : z_b c = z_I 0 ↔ ¬ c := by
  unfold z_b
  split
  · rename_i h; exact ⟨fun q => absurd q (by decide), fun q => absurd h q⟩
  · rename_i h; exact ⟨fun _ => h, fun _ => rfl⟩
def g_ev (f : Int → Bool) (w : Bool) : Int → Nat → Bool
  | _, 0 => !w
  | v, k + 1 => if f v = w then w else g_ev f w (v + 1) k
/-- by turns: t nudges are left, the next one wants w -/
def g_ends (σ : Sg) (a b d : Int) : Nat → Bool → Int → Bool
  | 0, _, m => g_mt σ a m b d
  | t + 1, w, m => g_ev (fun v => g_ends σ a b d t (!w) (m + v)) w (-1) 3
def g_win (σ : Sg) (a b d : Int) (t : Nat) : Int := f_first (fun v => g_ends σ a b d t false v) (-1) 3
theorem c_endsMet {sL : Nat} {xs : Nat → Int32} {σ : Sg} {a b f0 : Int} (ha : 0 ≤ a ∧ a < s_n σ) (hb : 0 ≤ b ∧ b < s_n σ) (hf : 0 ≤ f0 ∧ f0 ≤ 100000) : ∀ (t : Nat), t ≤ 6 → ∀ (w : Bool) {d : Nat} {M : Am_M} {Q : Int32 → Am_M → Prop} {m : Int}, t + 5 ≤ d → SX M σ → (-20 + (t : Int) ≤ m ∧ m ≤ 20 - (t : Int)) → Q (z_b (g_ends σ a b f0 t w m = true)) M → am_bi sL xs d 20 [.ref 14, .int (z_I a), .int (z_I m), .int (z_I b), .int (z_I f0), .int (z_I t), .int (z_I (if w = true then 1 else 0))] M Q := by
  intro t
  induction t with
  | zero =>
    intro ht w d M Q m hd hX hm hq
    obtain ⟨d, rfl⟩ : ∃ e, d = e + 1 := ⟨d - 1, by omega⟩
    have hn := sb_nb hX.1
    have hnr := sb_nrb hX.1
    refine am_bi_of (P := am_pX1_endsMet) (rt := 2) (nL := 8) (Nat.le_of_ble_eq_true rfl) rfl (Nat.le_of_ble_eq_true rfl) rfl rfl rfl ?_
    refine am_r_iload5 (pc' := 2) rfl rfl ?_
    refine am_r_if_le (pt := 12) (pf := 5) rfl rfl rfl (fun h2 => ?_) (fun h2 => ?_)
    · refine am_r_aload0 (pc' := 13) rfl rfl ?_
      refine am_r_getR (t := 1) (pc' := 16) rfl rfl rfl ?_
      refine am_r_iload1 (pc' := 17) rfl rfl ?_
      refine am_r_iload2 (pc' := 18) rfl rfl ?_
      refine am_r_iload3 (pc' := 19) rfl rfl ?_
      refine am_r_iload4 (pc' := 21) rfl rfl ?_
      refine am_r_invI4 (pc' := 24) rfl rfl rfl (Nat.le_of_ble_eq_true rfl) (c_meetMoved (by omega) hX (by omega) (by omega) (by omega) (by omega) ?_)
      refine am_r_zret rfl rfl (by first | exact Or.inr rfl | exact Or.inl rfl | exact z_b_01 _ | assumption) ?_
      exact hq
    · exfalso; omega
  | succ t iht =>
    intro ht w d M Q m hd hX hm hq
    obtain ⟨d, rfl⟩ : ∃ e, d = e + 1 := ⟨d - 1, by omega⟩
    have hn := sb_nb hX.1
    have hnr := sb_nrb hX.1
    have hl0 : w = false → ∀ (k : Nat) (v : Int), -1 ≤ v ∧ v + k = 2 → Q (z_b (g_ev (fun v => g_ends σ a b f0 t (!false) (m + v)) false v k = true)) M → am_rw sL xs d am_pX1_endsMet 2 28 [.ref 14, .int (z_I a), .int (z_I m), .int (z_I b), .int (z_I f0), .int (z_I ((t : Int) + 1)), .int (z_I 0), .int (z_I v)] [] M (am_pi Q) := by
      intro hw k
      induction k with
      | zero =>
        intro v hk hq
        refine am_r_iload7 (pc' := 30) rfl rfl ?_
        refine am_r_iconst (pc' := 31) rfl rfl ?_
        refine am_r_icmp_gt (pt := 74) (pf := 34) rfl rfl rfl (fun h31 => ?_) (fun h31 => ?_)
        · refine am_r_iload6 (pc' := 76) rfl rfl ?_
          refine am_r_if_ne (pt := 83) (pf := 79) rfl rfl rfl (fun h76 => ?_) (fun h76 => ?_)
          · exfalso; omega
          · refine am_r_iconst (pc' := 80) rfl rfl ?_
            refine am_r_goto (pc' := 84) rfl rfl ?_
            refine am_r_zret rfl rfl (by first | exact Or.inr rfl | exact Or.inl rfl | exact z_b_01 _ | assumption) ?_
            rw [z_bT (by rfl)] at hq; exact hq
        · exfalso; omega
      | succ k ih =>
        intro v hk hq
        refine am_r_iload7 (pc' := 30) rfl rfl ?_
        refine am_r_iconst (pc' := 31) rfl rfl ?_
        refine am_r_icmp_gt (pt := 74) (pf := 34) rfl rfl rfl (fun h31 => ?_) (fun h31 => ?_)
        · exfalso; omega
        · refine am_r_aload0 (pc' := 35) rfl rfl ?_
          refine am_r_iload1 (pc' := 36) rfl rfl ?_
          refine am_r_iload2 (pc' := 37) rfl rfl ?_
          refine am_r_iload7 (pc' := 39) rfl rfl ?_
          refine am_r_iadd (pc' := 40) rfl rfl ?_
          refine am_r_iload3 (pc' := 41) rfl rfl ?_
          refine am_r_iload4 (pc' := 43) rfl rfl ?_
          refine am_r_iload5 (pc' := 45) rfl rfl ?_
          refine am_r_iconst (pc' := 46) rfl rfl ?_
          refine am_r_isub (pc' := 47) rfl rfl ?_
          rw [show (t : Int) + 1 - 1 = t by omega]
          refine am_r_iload6 (pc' := 49) rfl rfl ?_
          refine am_r_if_ne (pt := 56) (pf := 52) rfl rfl rfl (fun h49 => ?_) (fun h49 => ?_)
          · exfalso; omega
          · refine am_r_iconst (pc' := 53) rfl rfl ?_
            refine am_r_goto (pc' := 57) rfl rfl ?_
            refine am_r_invI6 (pc' := 60) rfl rfl rfl (Nat.le_of_ble_eq_true rfl) (iht (by omega) true (by omega) hX (by omega) ?_)
            refine am_r_iload6 (pc' := 62) rfl rfl ?_
            refine am_r_icmp_neR (pt := 68) (pf := 65) rfl rfl rfl (fun h62 => ?_) (fun h62 => ?_)
            · refine am_r_iinc7 (pc' := 71) rfl rfl rfl ?_
              refine am_r_goto (pc' := 28) rfl rfl ?_
              exact ih _ (by omega) (by rw [show g_ev (fun v => g_ends σ a b f0 t (!false) (m + v)) false v (k + 1) = g_ev (fun v => g_ends σ a b f0 t (!false) (m + v)) false (v + 1) k by (rw [g_ev, if_neg]; intro z; exact h62 (z_b_e0.mpr (Bool.eq_false_iff.mp z)))] at hq; exact hq)
            · refine am_r_iload6 (pc' := 67) rfl rfl ?_
              refine am_r_zret rfl rfl (by first | exact Or.inr rfl | exact Or.inl rfl | exact z_b_01 _ | assumption) ?_
              rw [show g_ev (fun v => g_ends σ a b f0 t (!false) (m + v)) false v (k + 1) = false by (rw [g_ev, if_pos]; exact Bool.eq_false_iff.mpr (z_b_e0.mp (Classical.not_not.mp h62))), z_bF (by decide)] at hq; exact hq
    have hl1 : w = true → ∀ (k : Nat) (v : Int), -1 ≤ v ∧ v + k = 2 → Q (z_b (g_ev (fun v => g_ends σ a b f0 t (!true) (m + v)) true v k = true)) M → am_rw sL xs d am_pX1_endsMet 2 28 [.ref 14, .int (z_I a), .int (z_I m), .int (z_I b), .int (z_I f0), .int (z_I ((t : Int) + 1)), .int (z_I 1), .int (z_I v)] [] M (am_pi Q) := by
      intro hw k
      induction k with
      | zero =>
        intro v hk hq
        refine am_r_iload7 (pc' := 30) rfl rfl ?_
        refine am_r_iconst (pc' := 31) rfl rfl ?_
        refine am_r_icmp_gt (pt := 74) (pf := 34) rfl rfl rfl (fun h31 => ?_) (fun h31 => ?_)
        · refine am_r_iload6 (pc' := 76) rfl rfl ?_
          refine am_r_if_ne (pt := 83) (pf := 79) rfl rfl rfl (fun h76 => ?_) (fun h76 => ?_)
          · refine am_r_iconst (pc' := 84) rfl rfl ?_
            refine am_r_zret rfl rfl (by first | exact Or.inr rfl | exact Or.inl rfl | exact z_b_01 _ | assumption) ?_
            rw [z_bF (by simp [g_ev])] at hq; exact hq
          · exfalso; omega
        · exfalso; omega
      | succ k ih =>
        intro v hk hq
        refine am_r_iload7 (pc' := 30) rfl rfl ?_
        refine am_r_iconst (pc' := 31) rfl rfl ?_
        refine am_r_icmp_gt (pt := 74) (pf := 34) rfl rfl rfl (fun h31 => ?_) (fun h31 => ?_)
        · exfalso; omega
        · refine am_r_aload0 (pc' := 35) rfl rfl ?_
          refine am_r_iload1 (pc' := 36) rfl rfl ?_
          refine am_r_iload2 (pc' := 37) rfl rfl ?_
          refine am_r_iload7 (pc' := 39) rfl rfl ?_
          refine am_r_iadd (pc' := 40) rfl rfl ?_
          refine am_r_iload3 (pc' := 41) rfl rfl ?_
          refine am_r_iload4 (pc' := 43) rfl rfl ?_
          refine am_r_iload5 (pc' := 45) rfl rfl ?_
          refine am_r_iconst (pc' := 46) rfl rfl ?_
          refine am_r_isub (pc' := 47) rfl rfl ?_
          rw [show (t : Int) + 1 - 1 = t by omega]
          refine am_r_iload6 (pc' := 49) rfl rfl ?_
          refine am_r_if_ne (pt := 56) (pf := 52) rfl rfl rfl (fun h49 => ?_) (fun h49 => ?_)
          · refine am_r_iconst (pc' := 57) rfl rfl ?_
            refine am_r_invI6 (pc' := 60) rfl rfl rfl (Nat.le_of_ble_eq_true rfl) (iht (by omega) false (by omega) hX (by omega) ?_)
            refine am_r_iload6 (pc' := 62) rfl rfl ?_
            refine am_r_icmp_neR (pt := 68) (pf := 65) rfl rfl rfl (fun h62 => ?_) (fun h62 => ?_)
            · refine am_r_iinc7 (pc' := 71) rfl rfl rfl ?_
              refine am_r_goto (pc' := 28) rfl rfl ?_
              exact ih _ (by omega) (by rw [show g_ev (fun v => g_ends σ a b f0 t (!true) (m + v)) true v (k + 1) = g_ev (fun v => g_ends σ a b f0 t (!true) (m + v)) true (v + 1) k by (rw [g_ev, if_neg]; intro z; exact h62 (z_b_e1.mpr z))] at hq; exact hq)
            · refine am_r_iload6 (pc' := 67) rfl rfl ?_
              refine am_r_zret rfl rfl (by first | exact Or.inr rfl | exact Or.inl rfl | exact z_b_01 _ | assumption) ?_
              rw [show g_ev (fun v => g_ends σ a b f0 t (!true) (m + v)) true v (k + 1) = true by (rw [g_ev, if_pos]; exact z_b_e1.mp (Classical.not_not.mp h62)), z_bT rfl] at hq; exact hq
          · exfalso; omega
    cases w with
    | false =>
      show am_bi sL xs (d + 1) 20 [.ref 14, .int (z_I a), .int (z_I m), .int (z_I b), .int (z_I f0), .int (z_I ((t : Int) + 1)), .int (z_I 0)] M Q
      refine am_bi_of (P := am_pX1_endsMet) (rt := 2) (nL := 8) (Nat.le_of_ble_eq_true rfl) rfl (Nat.le_of_ble_eq_true rfl) rfl rfl rfl ?_
      refine am_r_iload5 (pc' := 2) rfl rfl ?_
      refine am_r_if_le (pt := 12) (pf := 5) rfl rfl rfl (fun h2 => ?_) (fun h2 => ?_)
      · exfalso; omega
      · refine am_r_iload5 (pc' := 7) rfl rfl ?_
        refine am_r_iconst (pc' := 9) rfl rfl ?_
        refine am_r_icmp_le (pt := 25) (pf := 12) rfl rfl rfl (fun h9 => ?_) (fun h9 => ?_)
        · refine am_r_iconst (pc' := 26) rfl rfl ?_
          refine am_r_istore7 (pc' := 28) rfl rfl rfl ?_
          exact hl0 rfl 3 (-1) (by omega) hq
        · exfalso; omega
    | true =>
      show am_bi sL xs (d + 1) 20 [.ref 14, .int (z_I a), .int (z_I m), .int (z_I b), .int (z_I f0), .int (z_I ((t : Int) + 1)), .int (z_I 1)] M Q
      refine am_bi_of (P := am_pX1_endsMet) (rt := 2) (nL := 8) (Nat.le_of_ble_eq_true rfl) rfl (Nat.le_of_ble_eq_true rfl) rfl rfl rfl ?_
      refine am_r_iload5 (pc' := 2) rfl rfl ?_
      refine am_r_if_le (pt := 12) (pf := 5) rfl rfl rfl (fun h2 => ?_) (fun h2 => ?_)
      · exfalso; omega
      · refine am_r_iload5 (pc' := 7) rfl rfl ?_
        refine am_r_iconst (pc' := 9) rfl rfl ?_
        refine am_r_icmp_le (pt := 25) (pf := 12) rfl rfl rfl (fun h9 => ?_) (fun h9 => ?_)
        · refine am_r_iconst (pc' := 26) rfl rfl ?_
          refine am_r_istore7 (pc' := 28) rfl rfl rfl ?_
          exact hl1 rfl 3 (-1) (by omega) hq
        · exfalso; omega
theorem c_firstWinningNudge {sL : Nat} {xs : Nat → Int32} {d : Nat} {M : Am_M} {Q : Int32 → Am_M → Prop} {t : Nat} (hd : t + 6 ≤ d) {σ : Sg} (hX : SX M σ) {a b f0 : Int} (ha : 0 ≤ a ∧ a < s_n σ) (hb : 0 ≤ b ∧ b < s_n σ) (hf : 0 ≤ f0 ∧ f0 ≤ 100000) (ht : t ≤ 5) (hq : Q (z_I (g_win σ a b f0 t)) M) : am_bi sL xs d 19 [.ref 14, .int (z_I a), .int (z_I b), .int (z_I f0), .int (z_I ((t : Int) + 1))] M Q := by
  obtain ⟨d, rfl⟩ : ∃ e, d = e + 1 := ⟨d - 1, by omega⟩
  have hn := sb_nb hX.1
  have hnr := sb_nrb hX.1
  have hl : ∀ (k : Nat) (v : Int), (-1 ≤ v ∧ v + k = 2) → (Q (z_I (f_first (fun v => g_ends σ a b f0 t false v) v k)) M) → am_rw sL xs d am_pX1_firstWinningNudge 1 3 [.ref 14, .int (z_I a), .int (z_I b), .int (z_I f0), .int (z_I ((t : Int) + 1)), .int (z_I v)] [] M (am_pi Q) := by
    intro k
    induction k with
    | zero =>
      intro v hk hq
      refine am_r_iload5 (pc' := 5) rfl rfl ?_
      refine am_r_iconst (pc' := 6) rfl rfl ?_
      refine am_r_icmp_gt (pt := 35) (pf := 9) rfl rfl rfl (fun h6 => ?_) (fun h6 => ?_)
      · refine am_r_iconst (pc' := 37) rfl rfl ?_
        refine am_r_iret rfl rfl ?_
        exact hq
      · exfalso; omega
    | succ k ih =>
      intro v hk hq
      refine am_r_iload5 (pc' := 5) rfl rfl ?_
      refine am_r_iconst (pc' := 6) rfl rfl ?_
      refine am_r_icmp_gt (pt := 35) (pf := 9) rfl rfl rfl (fun h6 => ?_) (fun h6 => ?_)
      · exfalso; omega
      · refine am_r_aload0 (pc' := 10) rfl rfl ?_
        refine am_r_iload1 (pc' := 11) rfl rfl ?_
        refine am_r_iload5 (pc' := 13) rfl rfl ?_
        refine am_r_iload2 (pc' := 14) rfl rfl ?_
        refine am_r_iload3 (pc' := 15) rfl rfl ?_
        refine am_r_iload4 (pc' := 17) rfl rfl ?_
        refine am_r_iconst (pc' := 18) rfl rfl ?_
        refine am_r_isub (pc' := 19) rfl rfl ?_
        rw [show (t : Int) + 1 - 1 = t by omega]
        refine am_r_iconst (pc' := 20) rfl rfl ?_
        refine am_r_invI6 (pc' := 23) rfl rfl rfl (Nat.le_of_ble_eq_true rfl) (c_endsMet ha hb hf t (by omega) false (by omega) hX (by omega) ?_)
        refine am_r_if_eqB (pt := 29) (pf := 26) rfl rfl rfl (fun h23 => ?_) (fun h23 => ?_)
        · refine am_r_iinc5 (pc' := 32) rfl rfl rfl ?_
          refine am_r_goto (pc' := 3) rfl rfl ?_
          rw [f_first_f (p := fun v => g_ends σ a b f0 t false v) h23] at hq; exact ih _ (by omega) hq
        · refine am_r_iload5 (pc' := 28) rfl rfl ?_
          refine am_r_iret rfl rfl ?_
          rw [f_first_t (p := fun v => g_ends σ a b f0 t false v) h23] at hq; exact hq
  refine am_bi_of (P := am_pX1_firstWinningNudge) (rt := 1) (nL := 6) (Nat.le_of_ble_eq_true rfl) rfl (Nat.le_of_ble_eq_true rfl) rfl rfl rfl ?_
  refine am_r_iconst (pc' := 1) rfl rfl ?_
  refine am_r_istore5 (pc' := 3) rfl rfl rfl ?_
  exact hl 3 (-1) (by omega) hq
/-- from a on: the longest way on to any other of a set -/
def g_af (σ : Sg) (s a d : Int) : Int → Int → Nat → Int
  | c, _, 0 => c
  | c, i, k + 1 => if s_bit s i = 1 then g_af σ s a d (max c ((g_dg σ i d - g_dg σ a d) % 360)) (i + 1) k else g_af σ s a d c (i + 1) k
def g_arcf (σ : Sg) (s a d : Int) : Int := g_af σ s a d 0 0 (s_n σ).toNat
def g_la (σ : Sg) (s d : Int) : Int → Int → Nat → Int
  | c, _, 0 => c
  | c, i, k + 1 => if s_bit s i = 1 then g_la σ s d (min c (g_arcf σ s i d)) (i + 1) k else g_la σ s d c (i + 1) k
def g_arc (σ : Sg) (s d : Int) : Int := if s = 0 then 0 else g_la σ s d 360 0 (s_n σ).toNat
theorem g_af_b (σ : Sg) (s a d : Int) : ∀ (k : Nat) (c i : Int), 0 ≤ c ∧ c < 360 → 0 ≤ g_af σ s a d c i k ∧ g_af σ s a d c i k < 360
  | 0, c, i, h => h
  | k + 1, c, i, h => by
    have h1 := Int.emod_nonneg (g_dg σ i d - g_dg σ a d) (show (360 : Int) ≠ 0 by omega)
    have h2 := Int.emod_lt_of_pos (g_dg σ i d - g_dg σ a d) (show (0 : Int) < 360 by omega)
    unfold g_af
    split
    · exact g_af_b σ s a d k _ _ (by omega)
    · exact g_af_b σ s a d k _ _ h
theorem g_arcf_b (σ : Sg) (s a d : Int) : 0 ≤ g_arcf σ s a d ∧ g_arcf σ s a d < 360 := g_af_b σ s a d _ 0 0 (by omega)
theorem c_arcFrom {sL : Nat} {xs : Nat → Int32} {d : Nat} {M : Am_M} {Q : Int32 → Am_M → Prop} (hd : 4 ≤ d) {σ : Sg} (hX : SX M σ) {a s f0 : Int} (ha : 0 ≤ a ∧ a < s_n σ) (hs : 0 ≤ s ∧ s < 256) (hf : 0 ≤ f0 ∧ f0 ≤ 100000) (hq : Q (z_I (g_arcf σ s a f0)) M) : am_bi sL xs d 22 [.ref 14, .int (z_I a), .int (z_I s), .int (z_I f0)] M Q := by
  obtain ⟨d, rfl⟩ : ∃ e, d = e + 1 := ⟨d - 1, by omega⟩
  have hn := sb_nb hX.1
  have hnr := sb_nrb hX.1
  have hl : ∀ (k : Nat) (i c : Int), (0 ≤ i ∧ i + k = s_n σ ∧ 0 ≤ c ∧ c < 360) → (Q (z_I (g_af σ s a f0 c i k)) M) → am_rw sL xs d am_pX1_arcFrom 1 17 [.ref 14, .int (z_I a), .int (z_I s), .int (z_I f0), .int (z_I (g_dg σ a f0)), .int (z_I c), .int (z_I i)] [] M (am_pi Q) := by
    intro k
    induction k with
    | zero =>
      intro i c hk hq
      have hbt := s_bit01 s i
      refine am_r_iload6 (pc' := 19) rfl rfl ?_
      refine am_r_aload0 (pc' := 20) rfl rfl ?_
      refine am_r_getR (t := 1) (pc' := 23) rfl rfl rfl ?_
      refine am_r_getIv (f := 5) (pc' := 26) rfl rfl rfl (sx_n hX) ?_
      refine am_r_icmp_ge (pt := 71) (pf := 29) rfl rfl rfl (fun h26 => ?_) (fun h26 => ?_)
      · refine am_r_iload5 (pc' := 73) rfl rfl ?_
        refine am_r_iret rfl rfl ?_
        exact hq
      · exfalso; omega
    | succ k ih =>
      intro i c hk hq
      have hbt := s_bit01 s i
      refine am_r_iload6 (pc' := 19) rfl rfl ?_
      refine am_r_aload0 (pc' := 20) rfl rfl ?_
      refine am_r_getR (t := 1) (pc' := 23) rfl rfl rfl ?_
      refine am_r_getIv (f := 5) (pc' := 26) rfl rfl rfl (sx_n hX) ?_
      refine am_r_icmp_ge (pt := 71) (pf := 29) rfl rfl rfl (fun h26 => ?_) (fun h26 => ?_)
      · exfalso; omega
      · refine am_r_iload2 (pc' := 30) rfl rfl ?_
        refine am_r_iload6 (pc' := 32) rfl rfl ?_
        refine am_r_ishr (pc' := 33) rfl rfl ?_
        refine am_r_iconst (pc' := 34) rfl rfl ?_
        refine am_r_iandR (pc' := 35) rfl rfl ?_
        rw [z_bit (by omega) (by omega)]
        refine am_r_iconst (pc' := 36) rfl rfl ?_
        refine am_r_icmp_ne (pt := 65) (pf := 39) rfl rfl rfl (fun h36 => ?_) (fun h36 => ?_)
        · refine am_r_iinc6 (pc' := 68) rfl rfl rfl ?_
          refine am_r_goto (pc' := 17) rfl rfl ?_
          first | exact ih _ _ (by omega) (by rw [show g_af σ s a f0 c i (k + 1) = g_af σ s a f0 (max c ((g_dg σ i f0 - g_dg σ a f0) % 360)) (i + 1) k by (rw [g_af, if_pos (by omega)])] at hq; exact hq) | exact ih _ _ (by omega) (by rw [show g_af σ s a f0 c i (k + 1) = g_af σ s a f0 c (i + 1) k by (rw [g_af, if_neg (by omega)])] at hq; exact hq)
        · have hda := g_dg_b hX.1 ha f0
          have hdi := g_dg_b hX.1 (a := i) (by omega) f0
          have hm1 := Int.emod_nonneg (g_dg σ i f0 - g_dg σ a f0) (show (360 : Int) ≠ 0 by omega)
          have hm2 := Int.emod_lt_of_pos (g_dg σ i f0 - g_dg σ a f0) (show (0 : Int) < 360 by omega)
          refine am_r_iload5 (pc' := 41) rfl rfl ?_
          refine am_r_aload0 (pc' := 42) rfl rfl ?_
          refine am_r_getR (t := 1) (pc' := 45) rfl rfl rfl ?_
          refine am_r_iload6 (pc' := 47) rfl rfl ?_
          refine am_r_iload3 (pc' := 48) rfl rfl ?_
          refine am_r_invI2 (pc' := 51) rfl rfl rfl (Nat.le_of_ble_eq_true rfl) (c_degreesOn (by omega) hX (by omega) (by omega) ?_)
          refine am_r_iload4 (pc' := 53) rfl rfl ?_
          refine am_r_isub (pc' := 54) rfl rfl ?_
          refine am_r_iconst (pc' := 57) rfl rfl ?_
          refine am_r_ivsI2 (pc' := 60) rfl rfl rfl (Nat.le_of_ble_eq_true rfl) (c_floorMod (by omega) (by omega) (by omega) ?_)
          refine am_r_maxZ (pc' := 63) rfl rfl (Nat.le_of_ble_eq_true rfl) ?_
          refine am_r_istore5 (pc' := 65) rfl rfl rfl ?_
          refine am_r_iinc6 (pc' := 68) rfl rfl rfl ?_
          refine am_r_goto (pc' := 17) rfl rfl ?_
          first | exact ih _ _ (by omega) (by rw [show g_af σ s a f0 c i (k + 1) = g_af σ s a f0 (max c ((g_dg σ i f0 - g_dg σ a f0) % 360)) (i + 1) k by (rw [g_af, if_pos (by omega)])] at hq; exact hq) | exact ih _ _ (by omega) (by rw [show g_af σ s a f0 c i (k + 1) = g_af σ s a f0 c (i + 1) k by (rw [g_af, if_neg (by omega)])] at hq; exact hq)
  refine am_bi_of (P := am_pX1_arcFrom) (rt := 1) (nL := 7) (Nat.le_of_ble_eq_true rfl) rfl (Nat.le_of_ble_eq_true rfl) rfl rfl rfl ?_
  refine am_r_aload0 (pc' := 1) rfl rfl ?_
  refine am_r_getR (t := 1) (pc' := 4) rfl rfl rfl ?_
  refine am_r_iload1 (pc' := 5) rfl rfl ?_
  refine am_r_iload3 (pc' := 6) rfl rfl ?_
  refine am_r_invI2 (pc' := 9) rfl rfl rfl (Nat.le_of_ble_eq_true rfl) (c_degreesOn (by omega) hX (by omega) (by omega) ?_)
  refine am_r_istore4 (pc' := 11) rfl rfl rfl ?_
  refine am_r_iconst (pc' := 12) rfl rfl ?_
  refine am_r_istore5 (pc' := 14) rfl rfl rfl ?_
  refine am_r_iconst (pc' := 15) rfl rfl ?_
  refine am_r_istore6 (pc' := 17) rfl rfl rfl ?_
  exact hl (s_n σ).toNat 0 0 (by omega) hq
theorem c_leastArc {sL : Nat} {xs : Nat → Int32} {d : Nat} {M : Am_M} {Q : Int32 → Am_M → Prop} (hd : 5 ≤ d) {σ : Sg} (hX : SX M σ) {s f0 : Int} (hs : 0 ≤ s ∧ s < 256) (hf : 0 ≤ f0 ∧ f0 ≤ 100000) (hq : Q (z_I (g_arc σ s f0)) M) : am_bi sL xs d 21 [.ref 14, .int (z_I s), .int (z_I f0)] M Q := by
  obtain ⟨d, rfl⟩ : ∃ e, d = e + 1 := ⟨d - 1, by omega⟩
  have hn := sb_nb hX.1
  have hnr := sb_nrb hX.1
  have hl : ∀ (k : Nat) (i c : Int), (0 ≤ i ∧ i + k = s_n σ ∧ 0 ≤ c ∧ c ≤ 360) → (Q (z_I (if s = 0 then 0 else g_la σ s f0 c i k)) M) → am_rw sL xs d am_pX1_leastArc 1 7 [.ref 14, .int (z_I s), .int (z_I f0), .int (z_I c), .int (z_I i)] [] M (am_pi Q) := by
    intro k
    induction k with
    | zero =>
      intro i c hk hq
      have hbt := s_bit01 s i
      refine am_r_iload4 (pc' := 9) rfl rfl ?_
      refine am_r_aload0 (pc' := 10) rfl rfl ?_
      refine am_r_getR (t := 1) (pc' := 13) rfl rfl rfl ?_
      refine am_r_getIv (f := 5) (pc' := 16) rfl rfl rfl (sx_n hX) ?_
      refine am_r_icmp_ge (pt := 48) (pf := 19) rfl rfl rfl (fun h16 => ?_) (fun h16 => ?_)
      · refine am_r_iload1 (pc' := 49) rfl rfl ?_
        refine am_r_if_ne (pt := 56) (pf := 52) rfl rfl rfl (fun h49 => ?_) (fun h49 => ?_)
        · refine am_r_iload3 (pc' := 57) rfl rfl ?_
          refine am_r_iret rfl rfl ?_
          first | (rw [if_neg (by omega)] at hq; exact hq) | (rw [if_pos (by omega)] at hq; exact hq)
        · refine am_r_iconst (pc' := 53) rfl rfl ?_
          refine am_r_goto (pc' := 57) rfl rfl ?_
          refine am_r_iret rfl rfl ?_
          first | (rw [if_neg (by omega)] at hq; exact hq) | (rw [if_pos (by omega)] at hq; exact hq)
      · exfalso; omega
    | succ k ih =>
      intro i c hk hq
      have hbt := s_bit01 s i
      refine am_r_iload4 (pc' := 9) rfl rfl ?_
      refine am_r_aload0 (pc' := 10) rfl rfl ?_
      refine am_r_getR (t := 1) (pc' := 13) rfl rfl rfl ?_
      refine am_r_getIv (f := 5) (pc' := 16) rfl rfl rfl (sx_n hX) ?_
      refine am_r_icmp_ge (pt := 48) (pf := 19) rfl rfl rfl (fun h16 => ?_) (fun h16 => ?_)
      · exfalso; omega
      · refine am_r_iload1 (pc' := 20) rfl rfl ?_
        refine am_r_iload4 (pc' := 22) rfl rfl ?_
        refine am_r_ishr (pc' := 23) rfl rfl ?_
        refine am_r_iconst (pc' := 24) rfl rfl ?_
        refine am_r_iandR (pc' := 25) rfl rfl ?_
        rw [z_bit (by omega) (by omega)]
        refine am_r_iconst (pc' := 26) rfl rfl ?_
        refine am_r_icmp_ne (pt := 42) (pf := 29) rfl rfl rfl (fun h26 => ?_) (fun h26 => ?_)
        · refine am_r_iinc4 (pc' := 45) rfl rfl rfl ?_
          refine am_r_goto (pc' := 7) rfl rfl ?_
          first | exact ih _ _ (by omega) (by rw [show g_la σ s f0 c i (k + 1) = g_la σ s f0 (min c (g_arcf σ s i f0)) (i + 1) k by (rw [g_la, if_pos (by omega)])] at hq; exact hq) | exact ih _ _ (by omega) (by rw [show g_la σ s f0 c i (k + 1) = g_la σ s f0 c (i + 1) k by (rw [g_la, if_neg (by omega)])] at hq; exact hq)
        · have hab := g_arcf_b σ s i f0
          refine am_r_iload3 (pc' := 30) rfl rfl ?_
          refine am_r_aload0 (pc' := 31) rfl rfl ?_
          refine am_r_iload4 (pc' := 33) rfl rfl ?_
          refine am_r_iload1 (pc' := 34) rfl rfl ?_
          refine am_r_iload2 (pc' := 35) rfl rfl ?_
          refine am_r_invI3 (pc' := 38) rfl rfl rfl (Nat.le_of_ble_eq_true rfl) (c_arcFrom (by omega) hX (by omega) (by omega) (by omega) ?_)
          refine am_r_minZ (pc' := 41) rfl rfl (Nat.le_of_ble_eq_true rfl) ?_
          refine am_r_istore3 (pc' := 42) rfl rfl rfl ?_
          refine am_r_iinc4 (pc' := 45) rfl rfl rfl ?_
          refine am_r_goto (pc' := 7) rfl rfl ?_
          first | exact ih _ _ (by omega) (by rw [show g_la σ s f0 c i (k + 1) = g_la σ s f0 (min c (g_arcf σ s i f0)) (i + 1) k by (rw [g_la, if_pos (by omega)])] at hq; exact hq) | exact ih _ _ (by omega) (by rw [show g_la σ s f0 c i (k + 1) = g_la σ s f0 c (i + 1) k by (rw [g_la, if_neg (by omega)])] at hq; exact hq)
  refine am_bi_of (P := am_pX1_leastArc) (rt := 1) (nL := 5) (Nat.le_of_ble_eq_true rfl) rfl (Nat.le_of_ble_eq_true rfl) rfl rfl rfl ?_
  refine am_r_iconst (pc' := 3) rfl rfl ?_
  refine am_r_istore3 (pc' := 4) rfl rfl rfl ?_
  refine am_r_iconst (pc' := 5) rfl rfl ?_
  refine am_r_istore4 (pc' := 7) rfl rfl rfl ?_
  exact hl (s_n σ).toNat 0 360 (by omega) hq
end
