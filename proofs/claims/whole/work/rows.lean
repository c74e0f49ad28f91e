section
-- ===== PART A: goes FIRST, ahead of the names: the tables' words, and 'selects' of the private methods out of them =====
/-- a private method of a class that the tables say can be made, by its rows of tables_1 -/
def lw_okq (q : MethodName × Nat) : Prop := (q.1.cls ≠ "java/lang/invoke/MethodHandle" ∧ q.1.cls ≠ "java/lang/invoke/VarHandle") ∧ Cond.instantiable q.1.cls q.2 ∈ tables_1 ∧ Cond.privateMethod q.1 ∈ tables_1 ∧ Cond.instanceMethod q.1 ∈ tables_1
theorem lw_p0 : lw_okq (⟨"OrbitsWed", "bodiesFrom", "(III)I"⟩, 10) := ⟨⟨by decide +kernel, by decide +kernel⟩, List.mem_of_getElem? (i := 18) (by decide +kernel), List.mem_of_getElem? (i := 376) (by decide +kernel), List.mem_of_getElem? (i := 377) (by decide +kernel)⟩
theorem lw_p1 : lw_okq (⟨"OrbitsWed$Changes", "forgetOldest", "()V"⟩, 6) := ⟨⟨by decide +kernel, by decide +kernel⟩, List.mem_of_getElem? (i := 237) (by decide +kernel), List.mem_of_getElem? (i := 409) (by decide +kernel), List.mem_of_getElem? (i := 410) (by decide +kernel)⟩
theorem lw_p2 : lw_okq (⟨"OrbitsWed$Tape", "readsLine", "()Z"⟩, 6) := ⟨⟨by decide +kernel, by decide +kernel⟩, List.mem_of_getElem? (i := 84) (by decide +kernel), List.mem_of_getElem? (i := 438) (by decide +kernel), List.mem_of_getElem? (i := 439) (by decide +kernel)⟩
theorem lw_p3 : lw_okq (⟨"OrbitsWed$Tape", "readsEither", "(I)Z"⟩, 6) := ⟨⟨by decide +kernel, by decide +kernel⟩, List.mem_of_getElem? (i := 84) (by decide +kernel), List.mem_of_getElem? (i := 442) (by decide +kernel), List.mem_of_getElem? (i := 443) (by decide +kernel)⟩
theorem lw_p4 : lw_okq (⟨"OrbitsWed$Tape", "readsBoth", "(I)Z"⟩, 6) := ⟨⟨by decide +kernel, by decide +kernel⟩, List.mem_of_getElem? (i := 84) (by decide +kernel), List.mem_of_getElem? (i := 446) (by decide +kernel), List.mem_of_getElem? (i := 447) (by decide +kernel)⟩
theorem lw_p5 : lw_okq (⟨"OrbitsWed$Tape", "readsCompared", "(I)Z"⟩, 6) := ⟨⟨by decide +kernel, by decide +kernel⟩, List.mem_of_getElem? (i := 84) (by decide +kernel), List.mem_of_getElem? (i := 450) (by decide +kernel), List.mem_of_getElem? (i := 451) (by decide +kernel)⟩
theorem lw_p6 : lw_okq (⟨"OrbitsWed$Tape", "readsSum", "(I)Z"⟩, 6) := ⟨⟨by decide +kernel, by decide +kernel⟩, List.mem_of_getElem? (i := 84) (by decide +kernel), List.mem_of_getElem? (i := 454) (by decide +kernel), List.mem_of_getElem? (i := 455) (by decide +kernel)⟩
theorem lw_p7 : lw_okq (⟨"OrbitsWed$Tape", "readsProduct", "(I)Z"⟩, 6) := ⟨⟨by decide +kernel, by decide +kernel⟩, List.mem_of_getElem? (i := 84) (by decide +kernel), List.mem_of_getElem? (i := 458) (by decide +kernel), List.mem_of_getElem? (i := 459) (by decide +kernel)⟩
theorem lw_p8 : lw_okq (⟨"OrbitsWed$Tape", "readsOperand", "(I)Z"⟩, 6) := ⟨⟨by decide +kernel, by decide +kernel⟩, List.mem_of_getElem? (i := 84) (by decide +kernel), List.mem_of_getElem? (i := 462) (by decide +kernel), List.mem_of_getElem? (i := 463) (by decide +kernel)⟩
theorem lw_p9 : lw_okq (⟨"OrbitsWed$Tape", "next", "()I"⟩, 6) := ⟨⟨by decide +kernel, by decide +kernel⟩, List.mem_of_getElem? (i := 84) (by decide +kernel), List.mem_of_getElem? (i := 466) (by decide +kernel), List.mem_of_getElem? (i := 467) (by decide +kernel)⟩
theorem lw_p10 : lw_okq (⟨"OrbitsWed$Tape", "readNumber", "()V"⟩, 6) := ⟨⟨by decide +kernel, by decide +kernel⟩, List.mem_of_getElem? (i := 84) (by decide +kernel), List.mem_of_getElem? (i := 470) (by decide +kernel), List.mem_of_getElem? (i := 471) (by decide +kernel)⟩
theorem lw_p11 : lw_okq (⟨"OrbitsWed$Tape", "draft", "(II)V"⟩, 6) := ⟨⟨by decide +kernel, by decide +kernel⟩, List.mem_of_getElem? (i := 84) (by decide +kernel), List.mem_of_getElem? (i := 474) (by decide +kernel), List.mem_of_getElem? (i := 475) (by decide +kernel)⟩
theorem lw_p12 : lw_okq (⟨"OrbitsWed$Tape", "readsClosed", "(I)Z"⟩, 6) := ⟨⟨by decide +kernel, by decide +kernel⟩, List.mem_of_getElem? (i := 84) (by decide +kernel), List.mem_of_getElem? (i := 481) (by decide +kernel), List.mem_of_getElem? (i := 482) (by decide +kernel)⟩
theorem lw_p13 : lw_okq (⟨"OrbitsWed$Tape", "readsTurned", "(II)Z"⟩, 6) := ⟨⟨by decide +kernel, by decide +kernel⟩, List.mem_of_getElem? (i := 84) (by decide +kernel), List.mem_of_getElem? (i := 485) (by decide +kernel), List.mem_of_getElem? (i := 486) (by decide +kernel)⟩
theorem lw_p14 : lw_okq (⟨"OrbitsWed$Clock", "nextAtStart", "(IJJ)J"⟩, 1) := ⟨⟨by decide +kernel, by decide +kernel⟩, List.mem_of_getElem? (i := 74) (by decide +kernel), List.mem_of_getElem? (i := 588) (by decide +kernel), List.mem_of_getElem? (i := 589) (by decide +kernel)⟩
theorem lw_p15 : lw_okq (⟨"OrbitsWed$Clock", "isFree", "(II)Z"⟩, 1) := ⟨⟨by decide +kernel, by decide +kernel⟩, List.mem_of_getElem? (i := 74) (by decide +kernel), List.mem_of_getElem? (i := 624) (by decide +kernel), List.mem_of_getElem? (i := 625) (by decide +kernel)⟩
def lw_privs_1 : List (MethodName × Nat) := [(⟨"OrbitsWed", "bodiesFrom", "(III)I"⟩, 10), (⟨"OrbitsWed$Changes", "forgetOldest", "()V"⟩, 6), (⟨"OrbitsWed$Tape", "readsLine", "()Z"⟩, 6), (⟨"OrbitsWed$Tape", "readsEither", "(I)Z"⟩, 6), (⟨"OrbitsWed$Tape", "readsBoth", "(I)Z"⟩, 6), (⟨"OrbitsWed$Tape", "readsCompared", "(I)Z"⟩, 6), (⟨"OrbitsWed$Tape", "readsSum", "(I)Z"⟩, 6), (⟨"OrbitsWed$Tape", "readsProduct", "(I)Z"⟩, 6), (⟨"OrbitsWed$Tape", "readsOperand", "(I)Z"⟩, 6), (⟨"OrbitsWed$Tape", "next", "()I"⟩, 6), (⟨"OrbitsWed$Tape", "readNumber", "()V"⟩, 6), (⟨"OrbitsWed$Tape", "draft", "(II)V"⟩, 6), (⟨"OrbitsWed$Tape", "readsClosed", "(I)Z"⟩, 6), (⟨"OrbitsWed$Tape", "readsTurned", "(II)Z"⟩, 6), (⟨"OrbitsWed$Clock", "nextAtStart", "(IJJ)J"⟩, 1), (⟨"OrbitsWed$Clock", "isFree", "(II)Z"⟩, 1)]
theorem lw_r1 : ∀ q ∈ lw_privs_1, lw_okq q := List.forall_mem_cons.mpr ⟨lw_p0, List.forall_mem_cons.mpr ⟨lw_p1, List.forall_mem_cons.mpr ⟨lw_p2, List.forall_mem_cons.mpr ⟨lw_p3, List.forall_mem_cons.mpr ⟨lw_p4, List.forall_mem_cons.mpr ⟨lw_p5, List.forall_mem_cons.mpr ⟨lw_p6, List.forall_mem_cons.mpr ⟨lw_p7, List.forall_mem_cons.mpr ⟨lw_p8, List.forall_mem_cons.mpr ⟨lw_p9, List.forall_mem_cons.mpr ⟨lw_p10, List.forall_mem_cons.mpr ⟨lw_p11, List.forall_mem_cons.mpr ⟨lw_p12, List.forall_mem_cons.mpr ⟨lw_p13, List.forall_mem_cons.mpr ⟨lw_p14, List.forall_mem_cons.mpr ⟨lw_p15, fun _ h => absurd h List.not_mem_nil⟩⟩⟩⟩⟩⟩⟩⟩⟩⟩⟩⟩⟩⟩⟩⟩
theorem lw_p16 : lw_okq (⟨"OrbitsWed$Clock", "isLonely", "(IIII)Z"⟩, 1) := ⟨⟨by decide +kernel, by decide +kernel⟩, List.mem_of_getElem? (i := 74) (by decide +kernel), List.mem_of_getElem? (i := 656) (by decide +kernel), List.mem_of_getElem? (i := 657) (by decide +kernel)⟩
theorem lw_p17 : lw_okq (⟨"OrbitsWed$Walk", "look", "()V"⟩, 8) := ⟨⟨by decide +kernel, by decide +kernel⟩, List.mem_of_getElem? (i := 136) (by decide +kernel), List.mem_of_getElem? (i := 692) (by decide +kernel), List.mem_of_getElem? (i := 693) (by decide +kernel)⟩
theorem lw_p18 : lw_okq (⟨"OrbitsWed$Walk", "pushOf", "(II)I"⟩, 8) := ⟨⟨by decide +kernel, by decide +kernel⟩, List.mem_of_getElem? (i := 136) (by decide +kernel), List.mem_of_getElem? (i := 698) (by decide +kernel), List.mem_of_getElem? (i := 699) (by decide +kernel)⟩
theorem lw_p19 : lw_okq (⟨"OrbitsWed$Law", "workedOut", "()I"⟩, 5) := ⟨⟨by decide +kernel, by decide +kernel⟩, List.mem_of_getElem? (i := 114) (by decide +kernel), List.mem_of_getElem? (i := 710) (by decide +kernel), List.mem_of_getElem? (i := 711) (by decide +kernel)⟩
theorem lw_p20 : lw_okq (⟨"OrbitsWed$Law", "namedBy", "(I)I"⟩, 5) := ⟨⟨by decide +kernel, by decide +kernel⟩, List.mem_of_getElem? (i := 114) (by decide +kernel), List.mem_of_getElem? (i := 714) (by decide +kernel), List.mem_of_getElem? (i := 715) (by decide +kernel)⟩
theorem lw_p21 : lw_okq (⟨"OrbitsWed$Foresight", "firstSeen", "(I)I"⟩, 3) := ⟨⟨by decide +kernel, by decide +kernel⟩, List.mem_of_getElem? (i := 172) (by decide +kernel), List.mem_of_getElem? (i := 765) (by decide +kernel), List.mem_of_getElem? (i := 766) (by decide +kernel)⟩
theorem lw_p22 : lw_okq (⟨"OrbitsWed", "likings", "(IIIZ)I"⟩, 10) := ⟨⟨by decide +kernel, by decide +kernel⟩, List.mem_of_getElem? (i := 18) (by decide +kernel), List.mem_of_getElem? (i := 792) (by decide +kernel), List.mem_of_getElem? (i := 793) (by decide +kernel)⟩
theorem lw_p23 : lw_okq (⟨"OrbitsWed$Clock", "endsMet", "(IIIIIZ)Z"⟩, 1) := ⟨⟨by decide +kernel, by decide +kernel⟩, List.mem_of_getElem? (i := 74) (by decide +kernel), List.mem_of_getElem? (i := 808) (by decide +kernel), List.mem_of_getElem? (i := 809) (by decide +kernel)⟩
theorem lw_p24 : lw_okq (⟨"OrbitsWed$Clock", "arcFrom", "(III)I"⟩, 1) := ⟨⟨by decide +kernel, by decide +kernel⟩, List.mem_of_getElem? (i := 74) (by decide +kernel), List.mem_of_getElem? (i := 831) (by decide +kernel), List.mem_of_getElem? (i := 832) (by decide +kernel)⟩
theorem lw_p25 : lw_okq (⟨"OrbitsWed$Foresight", "slipped", "(II)I"⟩, 3) := ⟨⟨by decide +kernel, by decide +kernel⟩, List.mem_of_getElem? (i := 172) (by decide +kernel), List.mem_of_getElem? (i := 846) (by decide +kernel), List.mem_of_getElem? (i := 847) (by decide +kernel)⟩
theorem lw_p26 : lw_okq (⟨"OrbitsWed$Moods", "own", "(IIII)I"⟩, 4) := ⟨⟨by decide +kernel, by decide +kernel⟩, List.mem_of_getElem? (i := 296) (by decide +kernel), List.mem_of_getElem? (i := 923) (by decide +kernel), List.mem_of_getElem? (i := 924) (by decide +kernel)⟩
theorem lw_p27 : lw_okq (⟨"OrbitsWed$Moods", "ranFrom", "(IIIII)I"⟩, 4) := ⟨⟨by decide +kernel, by decide +kernel⟩, List.mem_of_getElem? (i := 296) (by decide +kernel), List.mem_of_getElem? (i := 927) (by decide +kernel), List.mem_of_getElem? (i := 928) (by decide +kernel)⟩
theorem lw_p28 : lw_okq (⟨"OrbitsWed$Moods", "note", "(I)V"⟩, 4) := ⟨⟨by decide +kernel, by decide +kernel⟩, List.mem_of_getElem? (i := 296) (by decide +kernel), List.mem_of_getElem? (i := 939) (by decide +kernel), List.mem_of_getElem? (i := 940) (by decide +kernel)⟩
theorem lw_p29 : lw_okq (⟨"OrbitsWed$Moods", "drawing", "(IIII)I"⟩, 4) := ⟨⟨by decide +kernel, by decide +kernel⟩, List.mem_of_getElem? (i := 296) (by decide +kernel), List.mem_of_getElem? (i := 943) (by decide +kernel), List.mem_of_getElem? (i := 944) (by decide +kernel)⟩
theorem lw_p30 : lw_okq (⟨"OrbitsWed$Moods", "above", "(IIIII)I"⟩, 4) := ⟨⟨by decide +kernel, by decide +kernel⟩, List.mem_of_getElem? (i := 296) (by decide +kernel), List.mem_of_getElem? (i := 947) (by decide +kernel), List.mem_of_getElem? (i := 948) (by decide +kernel)⟩
theorem lw_p31 : lw_okq (⟨"OrbitsWed$Moods", "meeting", "(IIII)I"⟩, 4) := ⟨⟨by decide +kernel, by decide +kernel⟩, List.mem_of_getElem? (i := 296) (by decide +kernel), List.mem_of_getElem? (i := 951) (by decide +kernel), List.mem_of_getElem? (i := 952) (by decide +kernel)⟩
def lw_privs_2 : List (MethodName × Nat) := [(⟨"OrbitsWed$Clock", "isLonely", "(IIII)Z"⟩, 1), (⟨"OrbitsWed$Walk", "look", "()V"⟩, 8), (⟨"OrbitsWed$Walk", "pushOf", "(II)I"⟩, 8), (⟨"OrbitsWed$Law", "workedOut", "()I"⟩, 5), (⟨"OrbitsWed$Law", "namedBy", "(I)I"⟩, 5), (⟨"OrbitsWed$Foresight", "firstSeen", "(I)I"⟩, 3), (⟨"OrbitsWed", "likings", "(IIIZ)I"⟩, 10), (⟨"OrbitsWed$Clock", "endsMet", "(IIIIIZ)Z"⟩, 1), (⟨"OrbitsWed$Clock", "arcFrom", "(III)I"⟩, 1), (⟨"OrbitsWed$Foresight", "slipped", "(II)I"⟩, 3), (⟨"OrbitsWed$Moods", "own", "(IIII)I"⟩, 4), (⟨"OrbitsWed$Moods", "ranFrom", "(IIIII)I"⟩, 4), (⟨"OrbitsWed$Moods", "note", "(I)V"⟩, 4), (⟨"OrbitsWed$Moods", "drawing", "(IIII)I"⟩, 4), (⟨"OrbitsWed$Moods", "above", "(IIIII)I"⟩, 4), (⟨"OrbitsWed$Moods", "meeting", "(IIII)I"⟩, 4)]
theorem lw_r2 : ∀ q ∈ lw_privs_2, lw_okq q := List.forall_mem_cons.mpr ⟨lw_p16, List.forall_mem_cons.mpr ⟨lw_p17, List.forall_mem_cons.mpr ⟨lw_p18, List.forall_mem_cons.mpr ⟨lw_p19, List.forall_mem_cons.mpr ⟨lw_p20, List.forall_mem_cons.mpr ⟨lw_p21, List.forall_mem_cons.mpr ⟨lw_p22, List.forall_mem_cons.mpr ⟨lw_p23, List.forall_mem_cons.mpr ⟨lw_p24, List.forall_mem_cons.mpr ⟨lw_p25, List.forall_mem_cons.mpr ⟨lw_p26, List.forall_mem_cons.mpr ⟨lw_p27, List.forall_mem_cons.mpr ⟨lw_p28, List.forall_mem_cons.mpr ⟨lw_p29, List.forall_mem_cons.mpr ⟨lw_p30, List.forall_mem_cons.mpr ⟨lw_p31, fun _ h => absurd h List.not_mem_nil⟩⟩⟩⟩⟩⟩⟩⟩⟩⟩⟩⟩⟩⟩⟩⟩
theorem lw_p32 : lw_okq (⟨"OrbitsWed$Moods", "shunning", "(IIII)I"⟩, 4) := ⟨⟨by decide +kernel, by decide +kernel⟩, List.mem_of_getElem? (i := 296) (by decide +kernel), List.mem_of_getElem? (i := 955) (by decide +kernel), List.mem_of_getElem? (i := 956) (by decide +kernel)⟩
theorem lw_p33 : lw_okq (⟨"OrbitsWed$Moods", "telling", "(IIII)I"⟩, 4) := ⟨⟨by decide +kernel, by decide +kernel⟩, List.mem_of_getElem? (i := 296) (by decide +kernel), List.mem_of_getElem? (i := 959) (by decide +kernel), List.mem_of_getElem? (i := 960) (by decide +kernel)⟩
theorem lw_p34 : lw_okq (⟨"OrbitsWedModel", "adds", "(III)V"⟩, 39) := ⟨⟨by decide +kernel, by decide +kernel⟩, List.mem_of_getElem? (i := 1036) (by decide +kernel), List.mem_of_getElem? (i := 1180) (by decide +kernel), List.mem_of_getElem? (i := 1181) (by decide +kernel)⟩
theorem lw_p35 : lw_okq (⟨"OrbitsWedModel", "placeOf", "(II)I"⟩, 39) := ⟨⟨by decide +kernel, by decide +kernel⟩, List.mem_of_getElem? (i := 1036) (by decide +kernel), List.mem_of_getElem? (i := 1197) (by decide +kernel), List.mem_of_getElem? (i := 1198) (by decide +kernel)⟩
theorem lw_p36 : lw_okq (⟨"OrbitsWedModel", "isOrb", "(J)Z"⟩, 39) := ⟨⟨by decide +kernel, by decide +kernel⟩, List.mem_of_getElem? (i := 1036) (by decide +kernel), List.mem_of_getElem? (i := 1201) (by decide +kernel), List.mem_of_getElem? (i := 1202) (by decide +kernel)⟩
theorem lw_p37 : lw_okq (⟨"OrbitsWedModel", "isAb", "(I)Z"⟩, 39) := ⟨⟨by decide +kernel, by decide +kernel⟩, List.mem_of_getElem? (i := 1036) (by decide +kernel), List.mem_of_getElem? (i := 1205) (by decide +kernel), List.mem_of_getElem? (i := 1206) (by decide +kernel)⟩
theorem lw_p38 : lw_okq (⟨"OrbitsWedModel", "mayBecome", "(III)Z"⟩, 39) := ⟨⟨by decide +kernel, by decide +kernel⟩, List.mem_of_getElem? (i := 1036) (by decide +kernel), List.mem_of_getElem? (i := 1209) (by decide +kernel), List.mem_of_getElem? (i := 1210) (by decide +kernel)⟩
theorem lw_p39 : lw_okq (⟨"OrbitsWedModel", "becomes", "(II)I"⟩, 39) := ⟨⟨by decide +kernel, by decide +kernel⟩, List.mem_of_getElem? (i := 1036) (by decide +kernel), List.mem_of_getElem? (i := 1215) (by decide +kernel), List.mem_of_getElem? (i := 1216) (by decide +kernel)⟩
theorem lw_p40 : lw_okq (⟨"OrbitsWedModel", "workOut", "(II)I"⟩, 39) := ⟨⟨by decide +kernel, by decide +kernel⟩, List.mem_of_getElem? (i := 1036) (by decide +kernel), List.mem_of_getElem? (i := 1233) (by decide +kernel), List.mem_of_getElem? (i := 1234) (by decide +kernel)⟩
theorem lw_p41 : lw_okq (⟨"OrbitsWedModel", "either", "()I"⟩, 39) := ⟨⟨by decide +kernel, by decide +kernel⟩, List.mem_of_getElem? (i := 1036) (by decide +kernel), List.mem_of_getElem? (i := 1237) (by decide +kernel), List.mem_of_getElem? (i := 1238) (by decide +kernel)⟩
theorem lw_p42 : lw_okq (⟨"OrbitsWedModel", "both", "()I"⟩, 39) := ⟨⟨by decide +kernel, by decide +kernel⟩, List.mem_of_getElem? (i := 1036) (by decide +kernel), List.mem_of_getElem? (i := 1241) (by decide +kernel), List.mem_of_getElem? (i := 1242) (by decide +kernel)⟩
theorem lw_p43 : lw_okq (⟨"OrbitsWedModel", "compared", "()I"⟩, 39) := ⟨⟨by decide +kernel, by decide +kernel⟩, List.mem_of_getElem? (i := 1036) (by decide +kernel), List.mem_of_getElem? (i := 1245) (by decide +kernel), List.mem_of_getElem? (i := 1246) (by decide +kernel)⟩
theorem lw_p44 : lw_okq (⟨"OrbitsWedModel", "sums", "()I"⟩, 39) := ⟨⟨by decide +kernel, by decide +kernel⟩, List.mem_of_getElem? (i := 1036) (by decide +kernel), List.mem_of_getElem? (i := 1249) (by decide +kernel), List.mem_of_getElem? (i := 1250) (by decide +kernel)⟩
theorem lw_p45 : lw_okq (⟨"OrbitsWedModel", "product", "()I"⟩, 39) := ⟨⟨by decide +kernel, by decide +kernel⟩, List.mem_of_getElem? (i := 1036) (by decide +kernel), List.mem_of_getElem? (i := 1253) (by decide +kernel), List.mem_of_getElem? (i := 1254) (by decide +kernel)⟩
theorem lw_p46 : lw_okq (⟨"OrbitsWedModel", "one", "()I"⟩, 39) := ⟨⟨by decide +kernel, by decide +kernel⟩, List.mem_of_getElem? (i := 1036) (by decide +kernel), List.mem_of_getElem? (i := 1257) (by decide +kernel), List.mem_of_getElem? (i := 1258) (by decide +kernel)⟩
theorem lw_p47 : lw_okq (⟨"OrbitsWedModel", "byteAt", "()I"⟩, 39) := ⟨⟨by decide +kernel, by decide +kernel⟩, List.mem_of_getElem? (i := 1036) (by decide +kernel), List.mem_of_getElem? (i := 1261) (by decide +kernel), List.mem_of_getElem? (i := 1262) (by decide +kernel)⟩
def lw_privs_3 : List (MethodName × Nat) := [(⟨"OrbitsWed$Moods", "shunning", "(IIII)I"⟩, 4), (⟨"OrbitsWed$Moods", "telling", "(IIII)I"⟩, 4), (⟨"OrbitsWedModel", "adds", "(III)V"⟩, 39), (⟨"OrbitsWedModel", "placeOf", "(II)I"⟩, 39), (⟨"OrbitsWedModel", "isOrb", "(J)Z"⟩, 39), (⟨"OrbitsWedModel", "isAb", "(I)Z"⟩, 39), (⟨"OrbitsWedModel", "mayBecome", "(III)Z"⟩, 39), (⟨"OrbitsWedModel", "becomes", "(II)I"⟩, 39), (⟨"OrbitsWedModel", "workOut", "(II)I"⟩, 39), (⟨"OrbitsWedModel", "either", "()I"⟩, 39), (⟨"OrbitsWedModel", "both", "()I"⟩, 39), (⟨"OrbitsWedModel", "compared", "()I"⟩, 39), (⟨"OrbitsWedModel", "sums", "()I"⟩, 39), (⟨"OrbitsWedModel", "product", "()I"⟩, 39), (⟨"OrbitsWedModel", "one", "()I"⟩, 39), (⟨"OrbitsWedModel", "byteAt", "()I"⟩, 39)]
theorem lw_r3 : ∀ q ∈ lw_privs_3, lw_okq q := List.forall_mem_cons.mpr ⟨lw_p32, List.forall_mem_cons.mpr ⟨lw_p33, List.forall_mem_cons.mpr ⟨lw_p34, List.forall_mem_cons.mpr ⟨lw_p35, List.forall_mem_cons.mpr ⟨lw_p36, List.forall_mem_cons.mpr ⟨lw_p37, List.forall_mem_cons.mpr ⟨lw_p38, List.forall_mem_cons.mpr ⟨lw_p39, List.forall_mem_cons.mpr ⟨lw_p40, List.forall_mem_cons.mpr ⟨lw_p41, List.forall_mem_cons.mpr ⟨lw_p42, List.forall_mem_cons.mpr ⟨lw_p43, List.forall_mem_cons.mpr ⟨lw_p44, List.forall_mem_cons.mpr ⟨lw_p45, List.forall_mem_cons.mpr ⟨lw_p46, List.forall_mem_cons.mpr ⟨lw_p47, fun _ h => absurd h List.not_mem_nil⟩⟩⟩⟩⟩⟩⟩⟩⟩⟩⟩⟩⟩⟩⟩⟩
theorem lw_p48 : lw_okq (⟨"OrbitsWedModel", "wrong", "()I"⟩, 39) := ⟨⟨by decide +kernel, by decide +kernel⟩, List.mem_of_getElem? (i := 1036) (by decide +kernel), List.mem_of_getElem? (i := 1265) (by decide +kernel), List.mem_of_getElem? (i := 1266) (by decide +kernel)⟩
theorem lw_p49 : lw_okq (⟨"OrbitsWedModel", "takes", "(I)Z"⟩, 39) := ⟨⟨by decide +kernel, by decide +kernel⟩, List.mem_of_getElem? (i := 1036) (by decide +kernel), List.mem_of_getElem? (i := 1269) (by decide +kernel), List.mem_of_getElem? (i := 1270) (by decide +kernel)⟩
theorem lw_p50 : lw_okq (⟨"OrbitsWedModel", "clock", "(IJ)I"⟩, 39) := ⟨⟨by decide +kernel, by decide +kernel⟩, List.mem_of_getElem? (i := 1036) (by decide +kernel), List.mem_of_getElem? (i := 1284) (by decide +kernel), List.mem_of_getElem? (i := 1285) (by decide +kernel)⟩
theorem lw_p51 : lw_okq (⟨"OrbitsWedModel", "degreesOf", "(II)I"⟩, 39) := ⟨⟨by decide +kernel, by decide +kernel⟩, List.mem_of_getElem? (i := 1036) (by decide +kernel), List.mem_of_getElem? (i := 1288) (by decide +kernel), List.mem_of_getElem? (i := 1289) (by decide +kernel)⟩
theorem lw_p52 : lw_okq (⟨"OrbitsWedModel", "apartOn", "(IIJ)I"⟩, 39) := ⟨⟨by decide +kernel, by decide +kernel⟩, List.mem_of_getElem? (i := 1036) (by decide +kernel), List.mem_of_getElem? (i := 1296) (by decide +kernel), List.mem_of_getElem? (i := 1297) (by decide +kernel)⟩
theorem lw_p53 : lw_okq (⟨"OrbitsWedModel", "meetOn", "(IIJ)Z"⟩, 39) := ⟨⟨by decide +kernel, by decide +kernel⟩, List.mem_of_getElem? (i := 1036) (by decide +kernel), List.mem_of_getElem? (i := 1303) (by decide +kernel), List.mem_of_getElem? (i := 1304) (by decide +kernel)⟩
theorem lw_p54 : lw_okq (⟨"OrbitsWedModel", "isSet", "(I)Z"⟩, 39) := ⟨⟨by decide +kernel, by decide +kernel⟩, List.mem_of_getElem? (i := 1036) (by decide +kernel), List.mem_of_getElem? (i := 1321) (by decide +kernel), List.mem_of_getElem? (i := 1322) (by decide +kernel)⟩
theorem lw_p55 : lw_okq (⟨"OrbitsWedModel", "moodOn", "(IJ)I"⟩, 39) := ⟨⟨by decide +kernel, by decide +kernel⟩, List.mem_of_getElem? (i := 1036) (by decide +kernel), List.mem_of_getElem? (i := 1341) (by decide +kernel), List.mem_of_getElem? (i := 1342) (by decide +kernel)⟩
theorem lw_p56 : lw_okq (⟨"OrbitsWedModel", "isQuiet", "(IJ)Z"⟩, 39) := ⟨⟨by decide +kernel, by decide +kernel⟩, List.mem_of_getElem? (i := 1036) (by decide +kernel), List.mem_of_getElem? (i := 1354) (by decide +kernel), List.mem_of_getElem? (i := 1355) (by decide +kernel)⟩
theorem lw_p57 : lw_okq (⟨"OrbitsWedModel", "meetsMoved", "(IIIJ)Z"⟩, 39) := ⟨⟨by decide +kernel, by decide +kernel⟩, List.mem_of_getElem? (i := 1036) (by decide +kernel), List.mem_of_getElem? (i := 1362) (by decide +kernel), List.mem_of_getElem? (i := 1363) (by decide +kernel)⟩
theorem lw_p58 : lw_okq (⟨"OrbitsWedModel", "ago", "(II)I"⟩, 39) := ⟨⟨by decide +kernel, by decide +kernel⟩, List.mem_of_getElem? (i := 1036) (by decide +kernel), List.mem_of_getElem? (i := 1374) (by decide +kernel), List.mem_of_getElem? (i := 1375) (by decide +kernel)⟩
theorem lw_p59 : lw_okq (⟨"OrbitsWedModel", "goes", "(I)V"⟩, 39) := ⟨⟨by decide +kernel, by decide +kernel⟩, List.mem_of_getElem? (i := 1036) (by decide +kernel), List.mem_of_getElem? (i := 1386) (by decide +kernel), List.mem_of_getElem? (i := 1387) (by decide +kernel)⟩
theorem lw_p60 : lw_okq (⟨"OrbitsWedModel", "begins", "()V"⟩, 39) := ⟨⟨by decide +kernel, by decide +kernel⟩, List.mem_of_getElem? (i := 1036) (by decide +kernel), List.mem_of_getElem? (i := 1390) (by decide +kernel), List.mem_of_getElem? (i := 1391) (by decide +kernel)⟩
theorem lw_p61 : lw_okq (⟨"OrbitsWedModel", "passes", "(I)V"⟩, 39) := ⟨⟨by decide +kernel, by decide +kernel⟩, List.mem_of_getElem? (i := 1036) (by decide +kernel), List.mem_of_getElem? (i := 1394) (by decide +kernel), List.mem_of_getElem? (i := 1395) (by decide +kernel)⟩
theorem lw_p62 : lw_okq (⟨"OrbitsWedModel", "meetNow", "(II)Z"⟩, 39) := ⟨⟨by decide +kernel, by decide +kernel⟩, List.mem_of_getElem? (i := 1036) (by decide +kernel), List.mem_of_getElem? (i := 1398) (by decide +kernel), List.mem_of_getElem? (i := 1399) (by decide +kernel)⟩
theorem lw_p63 : lw_okq (⟨"OrbitsWedModel", "apartNow", "(II)I"⟩, 39) := ⟨⟨by decide +kernel, by decide +kernel⟩, List.mem_of_getElem? (i := 1036) (by decide +kernel), List.mem_of_getElem? (i := 1402) (by decide +kernel), List.mem_of_getElem? (i := 1403) (by decide +kernel)⟩
def lw_privs_4 : List (MethodName × Nat) := [(⟨"OrbitsWedModel", "wrong", "()I"⟩, 39), (⟨"OrbitsWedModel", "takes", "(I)Z"⟩, 39), (⟨"OrbitsWedModel", "clock", "(IJ)I"⟩, 39), (⟨"OrbitsWedModel", "degreesOf", "(II)I"⟩, 39), (⟨"OrbitsWedModel", "apartOn", "(IIJ)I"⟩, 39), (⟨"OrbitsWedModel", "meetOn", "(IIJ)Z"⟩, 39), (⟨"OrbitsWedModel", "isSet", "(I)Z"⟩, 39), (⟨"OrbitsWedModel", "moodOn", "(IJ)I"⟩, 39), (⟨"OrbitsWedModel", "isQuiet", "(IJ)Z"⟩, 39), (⟨"OrbitsWedModel", "meetsMoved", "(IIIJ)Z"⟩, 39), (⟨"OrbitsWedModel", "ago", "(II)I"⟩, 39), (⟨"OrbitsWedModel", "goes", "(I)V"⟩, 39), (⟨"OrbitsWedModel", "begins", "()V"⟩, 39), (⟨"OrbitsWedModel", "passes", "(I)V"⟩, 39), (⟨"OrbitsWedModel", "meetNow", "(II)Z"⟩, 39), (⟨"OrbitsWedModel", "apartNow", "(II)I"⟩, 39)]
theorem lw_r4 : ∀ q ∈ lw_privs_4, lw_okq q := List.forall_mem_cons.mpr ⟨lw_p48, List.forall_mem_cons.mpr ⟨lw_p49, List.forall_mem_cons.mpr ⟨lw_p50, List.forall_mem_cons.mpr ⟨lw_p51, List.forall_mem_cons.mpr ⟨lw_p52, List.forall_mem_cons.mpr ⟨lw_p53, List.forall_mem_cons.mpr ⟨lw_p54, List.forall_mem_cons.mpr ⟨lw_p55, List.forall_mem_cons.mpr ⟨lw_p56, List.forall_mem_cons.mpr ⟨lw_p57, List.forall_mem_cons.mpr ⟨lw_p58, List.forall_mem_cons.mpr ⟨lw_p59, List.forall_mem_cons.mpr ⟨lw_p60, List.forall_mem_cons.mpr ⟨lw_p61, List.forall_mem_cons.mpr ⟨lw_p62, List.forall_mem_cons.mpr ⟨lw_p63, fun _ h => absurd h List.not_mem_nil⟩⟩⟩⟩⟩⟩⟩⟩⟩⟩⟩⟩⟩⟩⟩⟩
theorem lw_p64 : lw_okq (⟨"OrbitsWedModel", "pushOf", "(III)I"⟩, 39) := ⟨⟨by decide +kernel, by decide +kernel⟩, List.mem_of_getElem? (i := 1036) (by decide +kernel), List.mem_of_getElem? (i := 1406) (by decide +kernel), List.mem_of_getElem? (i := 1407) (by decide +kernel)⟩
theorem lw_p65 : lw_okq (⟨"OrbitsWedModel", "stoodAs", "(II)Z"⟩, 39) := ⟨⟨by decide +kernel, by decide +kernel⟩, List.mem_of_getElem? (i := 1036) (by decide +kernel), List.mem_of_getElem? (i := 1422) (by decide +kernel), List.mem_of_getElem? (i := 1423) (by decide +kernel)⟩
theorem lw_p66 : lw_okq (⟨"OrbitsWedModel", "bytesIs", "(I)I"⟩, 39) := ⟨⟨by decide +kernel, by decide +kernel⟩, List.mem_of_getElem? (i := 1036) (by decide +kernel), List.mem_of_getElem? (i := 1430) (by decide +kernel), List.mem_of_getElem? (i := 1431) (by decide +kernel)⟩
theorem lw_p67 : lw_okq (⟨"OrbitsWedModel", "firstFalse", "(II)I"⟩, 39) := ⟨⟨by decide +kernel, by decide +kernel⟩, List.mem_of_getElem? (i := 1036) (by decide +kernel), List.mem_of_getElem? (i := 1434) (by decide +kernel), List.mem_of_getElem? (i := 1435) (by decide +kernel)⟩
theorem lw_p68 : lw_okq (⟨"OrbitsWedModel", "gapBehind", "(III)I"⟩, 39) := ⟨⟨by decide +kernel, by decide +kernel⟩, List.mem_of_getElem? (i := 1036) (by decide +kernel), List.mem_of_getElem? (i := 1459) (by decide +kernel), List.mem_of_getElem? (i := 1460) (by decide +kernel)⟩
theorem lw_p69 : lw_okq (⟨"OrbitsWedModel", "meetsAnybody", "(I)Z"⟩, 39) := ⟨⟨by decide +kernel, by decide +kernel⟩, List.mem_of_getElem? (i := 1036) (by decide +kernel), List.mem_of_getElem? (i := 1469) (by decide +kernel), List.mem_of_getElem? (i := 1470) (by decide +kernel)⟩
theorem lw_p70 : lw_okq (⟨"OrbitsWedModel", "isBody", "(I)Z"⟩, 39) := ⟨⟨by decide +kernel, by decide +kernel⟩, List.mem_of_getElem? (i := 1036) (by decide +kernel), List.mem_of_getElem? (i := 1504) (by decide +kernel), List.mem_of_getElem? (i := 1505) (by decide +kernel)⟩
theorem lw_p71 : lw_okq (⟨"OrbitsWedModel", "drawsAs", "(II)I"⟩, 39) := ⟨⟨by decide +kernel, by decide +kernel⟩, List.mem_of_getElem? (i := 1036) (by decide +kernel), List.mem_of_getElem? (i := 1508) (by decide +kernel), List.mem_of_getElem? (i := 1509) (by decide +kernel)⟩
theorem lw_p72 : lw_okq (⟨"OrbitsWedModel", "runs", "(I)V"⟩, 39) := ⟨⟨by decide +kernel, by decide +kernel⟩, List.mem_of_getElem? (i := 1036) (by decide +kernel), List.mem_of_getElem? (i := 1512) (by decide +kernel), List.mem_of_getElem? (i := 1513) (by decide +kernel)⟩
theorem lw_p73 : lw_okq (⟨"OrbitsWedModel", "meetsAs", "(II)I"⟩, 39) := ⟨⟨by decide +kernel, by decide +kernel⟩, List.mem_of_getElem? (i := 1036) (by decide +kernel), List.mem_of_getElem? (i := 1516) (by decide +kernel), List.mem_of_getElem? (i := 1517) (by decide +kernel)⟩
theorem lw_p74 : lw_okq (⟨"OrbitsWedModel", "shunsAs", "(II)I"⟩, 39) := ⟨⟨by decide +kernel, by decide +kernel⟩, List.mem_of_getElem? (i := 1036) (by decide +kernel), List.mem_of_getElem? (i := 1520) (by decide +kernel), List.mem_of_getElem? (i := 1521) (by decide +kernel)⟩
theorem lw_p75 : lw_okq (⟨"OrbitsWedModel", "tellsAs", "(II)I"⟩, 39) := ⟨⟨by decide +kernel, by decide +kernel⟩, List.mem_of_getElem? (i := 1036) (by decide +kernel), List.mem_of_getElem? (i := 1524) (by decide +kernel), List.mem_of_getElem? (i := 1525) (by decide +kernel)⟩
theorem lw_p76 : lw_okq (⟨"OrbitsWedModel", "refusal", "(II)I"⟩, 39) := ⟨⟨by decide +kernel, by decide +kernel⟩, List.mem_of_getElem? (i := 1036) (by decide +kernel), List.mem_of_getElem? (i := 1545) (by decide +kernel), List.mem_of_getElem? (i := 1546) (by decide +kernel)⟩
theorem lw_p77 : lw_okq (⟨"OrbitsWedModel", "kindOf", "(I)I"⟩, 39) := ⟨⟨by decide +kernel, by decide +kernel⟩, List.mem_of_getElem? (i := 1036) (by decide +kernel), List.mem_of_getElem? (i := 1564) (by decide +kernel), List.mem_of_getElem? (i := 1565) (by decide +kernel)⟩
def lw_privs_5 : List (MethodName × Nat) := [(⟨"OrbitsWedModel", "pushOf", "(III)I"⟩, 39), (⟨"OrbitsWedModel", "stoodAs", "(II)Z"⟩, 39), (⟨"OrbitsWedModel", "bytesIs", "(I)I"⟩, 39), (⟨"OrbitsWedModel", "firstFalse", "(II)I"⟩, 39), (⟨"OrbitsWedModel", "gapBehind", "(III)I"⟩, 39), (⟨"OrbitsWedModel", "meetsAnybody", "(I)Z"⟩, 39), (⟨"OrbitsWedModel", "isBody", "(I)Z"⟩, 39), (⟨"OrbitsWedModel", "drawsAs", "(II)I"⟩, 39), (⟨"OrbitsWedModel", "runs", "(I)V"⟩, 39), (⟨"OrbitsWedModel", "meetsAs", "(II)I"⟩, 39), (⟨"OrbitsWedModel", "shunsAs", "(II)I"⟩, 39), (⟨"OrbitsWedModel", "tellsAs", "(II)I"⟩, 39), (⟨"OrbitsWedModel", "refusal", "(II)I"⟩, 39), (⟨"OrbitsWedModel", "kindOf", "(I)I"⟩, 39)]
theorem lw_r5 : ∀ q ∈ lw_privs_5, lw_okq q := List.forall_mem_cons.mpr ⟨lw_p64, List.forall_mem_cons.mpr ⟨lw_p65, List.forall_mem_cons.mpr ⟨lw_p66, List.forall_mem_cons.mpr ⟨lw_p67, List.forall_mem_cons.mpr ⟨lw_p68, List.forall_mem_cons.mpr ⟨lw_p69, List.forall_mem_cons.mpr ⟨lw_p70, List.forall_mem_cons.mpr ⟨lw_p71, List.forall_mem_cons.mpr ⟨lw_p72, List.forall_mem_cons.mpr ⟨lw_p73, List.forall_mem_cons.mpr ⟨lw_p74, List.forall_mem_cons.mpr ⟨lw_p75, List.forall_mem_cons.mpr ⟨lw_p76, List.forall_mem_cons.mpr ⟨lw_p77, fun _ h => absurd h List.not_mem_nil⟩⟩⟩⟩⟩⟩⟩⟩⟩⟩⟩⟩⟩⟩
def lw_privs : List (MethodName × Nat) := lw_privs_1 ++ (lw_privs_2 ++ (lw_privs_3 ++ (lw_privs_4 ++ (lw_privs_5))))
def lw_tbl : List Cond := k2_sels lw_privs ++ tables_1
theorem lw_privs_ok : ∀ q ∈ lw_privs, lw_okq q := by
  show ∀ q ∈ lw_privs_1 ++ (lw_privs_2 ++ (lw_privs_3 ++ (lw_privs_4 ++ (lw_privs_5)))), lw_okq q
  exact List.forall_mem_append.mpr ⟨lw_r1, List.forall_mem_append.mpr ⟨lw_r2, List.forall_mem_append.mpr ⟨lw_r3, List.forall_mem_append.mpr ⟨lw_r4, lw_r5⟩⟩⟩⟩

/-! ===== BEGIN words of one list among another's, by their places ===== -/
theorem goodIn_r {big : List Cond} (ws : List Cond) (ps : List Nat) (hp : ws = ps.filterMap (fun i => big[i]?)) (h : ws.all goodWord = true) : GoodIn big ws := by
  intro w hw
  have h1 := List.all_eq_true.mp h w hw
  rw [hp] at hw
  obtain ⟨i, -, hi⟩ := List.mem_filterMap.mp hw
  have hm : w ∈ big := by first | exact List.mem_of_getElem? hi | exact List.getElem?_mem hi
  exact ⟨hm, good_of_word h1⟩
theorem goodIn_app {big a b : List Cond} (ha : GoodIn big a) (hb : GoodIn big b) : GoodIn big (a ++ b) := fun w h => (List.mem_append.mp h).elim (ha w) (hb w)
theorem goodIn_ca {big a b : List Cond} {c : Cond} (ha : GoodIn big (c :: a)) (hb : GoodIn big b) : GoodIn big (c :: (a ++ b)) := fun w h => (List.mem_cons.mp h).elim (fun e => ha w (List.mem_cons.mpr (Or.inl e))) (fun h => (List.mem_append.mp h).elim (fun h => ha w (List.mem_cons.mpr (Or.inr h))) (hb w))
theorem goodIn_sub {big ws : List Cond} (hm : ∀ w ∈ ws, w ∈ big) (h : ws.all goodWord = true) : GoodIn big ws := fun w hw => ⟨hm w hw, good_of_word (List.all_eq_true.mp h w hw)⟩
/-! ===== END ===== -/

/-! ===== BEGIN new T[n][m]: the outer array a place, the inner ones among the pooled ===== -/
/-- f, but v at every address of l -/
def vr_up {α : Type} (f : Nat → α) (l : List Nat) (v : α) : Nat → α := fun a => if a ∈ l then v else f a
theorem vr_up_in {α : Type} {f : Nat → α} {l : List Nat} {v : α} {a : Nat} (h : a ∈ l) : vr_up f l v a = v := if_pos h
theorem vr_up_ne {α : Type} {f : Nat → α} {l : List Nat} {v : α} {a : Nat} (h : a ∉ l) : vr_up f l v a = f a := if_neg h
theorem vr_rows {L l : List Nat} {f : Nat → va_E} {e : va_E} (h : ∀ a, a ∈ l → a ∉ L) : va_pl L f ++ l.map (fun a => (a, e)) = va_pl (L ++ l) (vr_up f l e) := by
  unfold va_pl
  rw [List.map_append]
  congr 1
  · apply List.map_congr_left
    intro a ha
    rw [vr_up_ne (fun q => h a q ha)]
  · apply List.map_congr_left
    intro a ha
    rw [vr_up_in ha]
theorem vr_lay {X rows : va_W} {x : Nat × va_E} {pl : va_W} {D : va_G} {cl : List vw_C} {H : Heap} (hP : va_P D cl (((X ++ pl) ++ [x]) ++ rows) H) : va_P D cl ((X ++ [x]) ++ (pl ++ rows)) H := by
  rw [List.append_assoc (X ++ pl)] at hP
  have h := va_P.swap hP
  rw [← List.append_assoc X] at h
  have h2 := va_P.swap h
  rw [List.append_assoc (X ++ [x])] at h2
  exact h2
theorem vr_layD {X rows : va_W} {x : Nat × va_E} {pl : va_W} {A : Nat → Prop} (hD : va_D A (((X ++ pl) ++ [x]) ++ rows)) : va_D A ((X ++ [x]) ++ (pl ++ rows)) := by
  rw [List.append_assoc (X ++ pl)] at hD
  have h := va_D.swap hD
  rw [← List.append_assoc X] at h
  have h2 := va_D.swap h
  rw [List.append_assoc (X ++ [x])] at h2
  exact h2
theorem vr_outer (c : ClassId) (N h0 : Nat) : ∀ i : Nat, Jvm.Free.Multi.outerC c N h0 i = arrV c N (fun j => va_rf (if j < i then some (h0 + 1 + j) else none))
  | 0 => by
    show ({ cls := c, slots := Array.replicate N .null, vm := .none } : Cell) = _
    rw [arrV_new]
    refine congrArg (arrV c N) (funext fun j => ?_)
    simp [va_rf]
  | i + 1 => by
    show (Jvm.Free.Multi.outerC c N h0 i).setSlot i (.ref (h0 + 1 + i)) = _
    rw [vr_outer c N h0 i, arrV_store]
    refine congrArg (arrV c N) (funext fun j => ?_)
    by_cases e : j = i
    · subst e
      simp [updV, va_rf]
    · by_cases h : j < i
      · simp [updV, e, h, Nat.lt_succ_of_lt h]
      · simp [updV, e, h, show ¬ j < i + 1 by omega]
section VGM
variable {p : Program} {l : Launch} {e : Env} {R : Room} {s : State} {m : MethodId} {args : Array Value} {below : List Frame} {meth : Method} {c : Code} {H : Heap} {locs : List Loc} {cells slots : Nat} {Q : State → Prop}
variable {cc : ByteArray} {pc : Nat} {ls : Array Slot} {rest : List Value} {D : va_G} {cl : List vw_C} {A : Nat → Prop} {a : Nat} {tys : List (ClassId × FieldType)} {ws : va_W} {H0 : Heap}
theorem va_mna {X : va_W} {L : List Nat} {f : Nat → va_E} {cc : ByteArray} (hexec : p.tables.exec = Jvm.exec) (hb : c.code = cc) {own : String} {index : Nat} {ty : FieldType} {cy : ClassId} (hown : s.vm.findClass own = some m.cls) (hclink : (Cond.classLink own index ("[" ++ (FieldType.array ty).toString)).before args s = true) (hover : (Cond.arrayOver (.array ty)).before args s = true) (harr : (Cond.arrayClass ty).before args s = true) (hcy : s.vm.findClass (FieldType.array ty).toString = some cy)
    (hK : va_K D cl tys s) (hP : va_P D cl (X ++ va_pl L f) H) (hD : va_D A (X ++ va_pl L f)) (hS : va_S A H0 H locs) (hA : ∀ q, H0.size ≤ q → A q) {n k : Int32} {N' K' : Nat} {z : vp_A} (hn : ¬ n < 0) (hk : ¬ k < 0) (hN : n.toNatClampNeg = N') (hM : k.toNatClampNeg = K')
    (hb1 : N' * 4 ≤ 536870912) (hb2 : K' * componentBytes ty ≤ 536870912) (hb3 : K' ≤ 536870912) (hdf : fits ty (defaultValue ty) = true) (hdd : (defaultValue ty).isDefault = true) (hcells : cells + (1 + N') ≤ R.cells) (hslots : slots + (N' + N' * K') ≤ R.slots) (hz : ∀ c : ClassId, Jvm.Free.Multi.innerC c K' (defaultValue ty) = vp_cell c z) (hdg : decode cc pc = .ok (.multianewarray index 2, 4))
    (kk : ∀ (q : Nat) (r : Nat → Nat) (cA : ClassId) (H1 : Heap), (∀ i j : Nat, i < N' → j < N' → r i = r j → i = j) → (∀ i : Nat, i < N' → r i ∉ L) → va_K D cl (tys ++ [(cA, .array ty)]) s →
      va_P D cl ((X ++ [(q, .inl (cA, N', .inr (.inr (.inr (.inr (fun i => if i < N' then some (r i) else none))))))]) ++ va_pl (L ++ (List.range N').map r) (vr_up f ((List.range N').map r) (.inl (cy, z)))) H1 → va_D A ((X ++ [(q, .inl (cA, N', .inr (.inr (.inr (.inr (fun i => if i < N' then some (r i) else none))))))]) ++ va_pl (L ++ (List.range N').map r) (vr_up f ((List.range N').map r) (.inl (cy, z)))) → va_S A H0 H1 locs →
      W p l e R s m args below meth c H1 locs (cells + 1 + N') (slots + N' + N' * K') Q (F0 m (pc + 4) ls (.ref q :: rest))) : W p l e R s m args below meth c H locs cells slots Q (F0 m pc ls (.int k :: .int n :: rest)) := by
  subst hN
  subst hM
  intro T hT Xs
  obtain ⟨vm₁, cA, comp, -, fA, fC, hO, -, X', step⟩ := Xs.multianewarray2F hexec hown hclink hover harr (g := F0 m pc ls (.int k :: .int n :: rest)) rfl (by rw [hb]; exact hdg) rfl hn hk hb1 hb2 hb3 hdf hdd hcells hslots
  have ec : some cy = some comp := hcy.symm.trans fC
  cases ec
  generalize hF : Jvm.Free.Multi.fill (T.setVm vm₁) cA cy n.toNatClampNeg k.toNatClampNeg (defaultValue ty) n.toNatClampNeg = F at X' step
  have hTh : (T.setVm vm₁).heap = H := hT
  obtain ⟨f1, f2, -, -⟩ := Jvm.Free.Multi.fill_facts (T.setVm vm₁) cA cy n.toNatClampNeg k.toNatClampNeg (defaultValue ty) n.toNatClampNeg
  rw [hF, hTh] at f1 f2
  have hold : ∀ x : Nat, x < H.size → F.heap[x]? = H[x]? := fun x hx => by
    have := Jvm.Free.Multi.fill_old (T.setVm vm₁) cA cy n.toNatClampNeg k.toNatClampNeg (defaultValue ty) (a := x) (by rw [hTh]; exact hx) n.toNatClampNeg
    rw [hF, hTh] at this
    exact this
  have hrow : ∀ j : Nat, j < n.toNatClampNeg → F.heap[H.size + 1 + j]? = some (vp_cell cy z) := fun j hj => by
    have := Jvm.Free.Multi.fill_inner (T.setVm vm₁) cA cy n.toNatClampNeg k.toNatClampNeg (defaultValue ty) n.toNatClampNeg j hj
    rw [hF, hTh, hz] at this
    exact this
  have hout : Jvm.Free.Multi.outerC cA n.toNatClampNeg H.size n.toNatClampNeg = vp_cell cA (n.toNatClampNeg, .inr (.inr (.inr (.inr (fun i => if i < n.toNatClampNeg then some (H.size + 1 + i) else none))))) := by
    rw [vp_cell_q]
    exact vr_outer cA n.toNatClampNeg H.size n.toNatClampNeg
  rw [hout] at f2
  have hlt : ∀ a, a ∈ L → a < H.size := fun a ha => by
    obtain ⟨k9, hk9⟩ := va_pl_get (X := X) (f := f) ha
    exact (hP k9 _ hk9).lt
  have hnl : ∀ i : Nat, i < n.toNatClampNeg → H.size + 1 + i ∉ L := fun i _ h => by
    have := hlt _ h
    omega
  have hnm : ∀ a, a ∈ (List.range n.toNatClampNeg).map (fun i => H.size + 1 + i) → a ∉ L := fun a ha h => by
    obtain ⟨i, -, rfl⟩ := List.mem_map.mp ha
    have := hlt _ h
    omega
  have hP0 : va_P D cl (X ++ va_pl L f) F.heap := hP.kept (fun k9 x hx => hold x.1 ((hP k9 x hx).lt))
  have hP1 : va_P D cl ((X ++ va_pl L f) ++ [(H.size, .inl (cA, n.toNatClampNeg, .inr (.inr (.inr (.inr (fun i => if i < n.toNatClampNeg then some (H.size + 1 + i) else none))))))]) F.heap := hP0.app (fun k9 x hx => by
    have h0 : k9 < 1 := (List.getElem?_eq_some_iff.mp hx).1
    rw [show k9 = 0 by omega] at hx
    cases hx
    exact f2)
  have hP2 : va_P D cl (((X ++ va_pl L f) ++ [(H.size, .inl (cA, n.toNatClampNeg, .inr (.inr (.inr (.inr (fun i => if i < n.toNatClampNeg then some (H.size + 1 + i) else none))))))]) ++ ((List.range n.toNatClampNeg).map (fun i => H.size + 1 + i)).map (fun a => (a, .inl (cy, z)))) F.heap := hP1.app (fun k9 x hx => by
    obtain ⟨a, ha, rfl⟩ := List.mem_map.mp (List.mem_of_getElem? hx)
    obtain ⟨i, hi, rfl⟩ := List.mem_map.mp ha
    exact hrow i (List.mem_range.mp hi))
  have hD2 : va_D A (((X ++ va_pl L f) ++ [(H.size, .inl (cA, n.toNatClampNeg, .inr (.inr (.inr (.inr (fun i => if i < n.toNatClampNeg then some (H.size + 1 + i) else none))))))]) ++ ((List.range n.toNatClampNeg).map (fun i => H.size + 1 + i)).map (fun a => (a, .inl (cy, z)))) := by
    have hD1 := hD.push (e := .inl (cA, n.toNatClampNeg, .inr (.inr (.inr (.inr (fun i => if i < n.toNatClampNeg then some (H.size + 1 + i) else none)))))) hP rfl (hA _ hS.1)
    generalize hW1 : (X ++ va_pl L f) ++ [(H.size, .inl (cA, n.toNatClampNeg, .inr (.inr (.inr (.inr (fun i => if i < n.toNatClampNeg then some (H.size + 1 + i) else none))))))] = W1 at hD1 hP1 ⊢
    have hle : ∀ (k9 : Nat) (x : Nat × va_E), W1[k9]? = some x → x.1 ≤ H.size := fun k9 x hx => by
      rw [← hW1] at hx
      by_cases hl : k9 < (X ++ va_pl L f).length
      · rw [List.getElem?_append_left hl] at hx
        exact Nat.le_of_lt ((hP k9 x hx).lt)
      · rw [List.getElem?_append_right (by omega)] at hx
        have h0 : k9 - (X ++ va_pl L f).length < 1 := (List.getElem?_eq_some_iff.mp hx).1
        rw [show k9 - (X ++ va_pl L f).length = 0 by omega] at hx
        cases hx
        exact Nat.le_refl _
    have hr : ∀ (k9 : Nat) (x : Nat × va_E), (((List.range n.toNatClampNeg).map (fun i => H.size + 1 + i)).map (fun a => ((a, .inl (cy, z)) : Nat × va_E)))[k9]? = some x → x.1 = H.size + 1 + k9 := fun k9 x hx => by
      rw [List.getElem?_map, List.getElem?_map] at hx
      by_cases h9 : k9 < n.toNatClampNeg
      · rw [List.getElem?_range h9] at hx
        cases hx
        rfl
      · have hn0 : (List.range n.toNatClampNeg)[k9]? = none := List.getElem?_eq_none (by rw [List.length_range]; omega)
        rw [hn0] at hx
        cases hx
    refine ⟨fun i j x y hi hj hxy => ?_, fun k9 x hx => ?_⟩
    · by_cases h1 : i < W1.length <;> by_cases h2 : j < W1.length
      · rw [List.getElem?_append_left h1] at hi
        rw [List.getElem?_append_left h2] at hj
        exact hD1.1 i j x y hi hj hxy
      · rw [List.getElem?_append_left h1] at hi
        rw [List.getElem?_append_right (by omega)] at hj
        have := hle _ _ hi
        have := hr _ _ hj
        omega
      · rw [List.getElem?_append_right (by omega)] at hi
        rw [List.getElem?_append_left h2] at hj
        have := hle _ _ hj
        have := hr _ _ hi
        omega
      · rw [List.getElem?_append_right (by omega)] at hi hj
        have := hr _ _ hi
        have := hr _ _ hj
        omega
    · by_cases h1 : k9 < W1.length
      · rw [List.getElem?_append_left h1] at hx
        exact hD1.2 k9 x hx
      · rw [List.getElem?_append_right (by omega)] at hx
        have := hr _ _ hx
        exact hA _ (by have := hS.1; omega)
  have hAr : ArrOfT s cA (.array ty) := fun N9 z9 => by
    obtain ⟨-, k9, hk9, cm9, hkk9⟩ := (hO 0 0 0).1
    exact ⟨(fun q hq => by cases hq), k9, hk9, cm9, hkk9⟩
  have hK2 : va_K D cl (tys ++ [(cA, .array ty)]) s := ⟨hK.1, fun k9 x hx => by
    by_cases hl : k9 < tys.length
    · rw [List.getElem?_append_left hl] at hx
      exact hK.2 k9 x hx
    · rw [List.getElem?_append_right (by omega)] at hx
      have h0 : k9 - tys.length < 1 := (List.getElem?_eq_some_iff.mp hx).1
      rw [show k9 - tys.length = 0 by omega] at hx
      cases hx
      exact ⟨hAr, fA⟩⟩
  obtain ⟨t, a1, b1⟩ := kk H.size (fun i => H.size + 1 + i) cA F.heap (fun i j _ _ h => by have h9 : H.size + 1 + i = H.size + 1 + j := h; omega) hnl hK2 (by rw [← vr_rows hnm]; exact vr_lay hP2) (by rw [← vr_rows hnm]; exact vr_layD hD2) ⟨by rw [f1]; have := hS.1; omega, fun x h1 h2 => (hold x (Nat.lt_of_lt_of_le h1 hS.1)).trans (hS.2.1 x h1 h2), hS.2.2⟩ F rfl X'
  refine ⟨t, step t ?_, b1⟩
  have e : T.heap.size = H.size := by rw [hT]
  rw [e]
  exact a1
end VGM
/-! ===== END ===== -/

def RX0 : String := "OrbitsWed$Changes"
def TX0 : u_T := fun k => match k with
  | 0 => ("OrbitsWed$Changes", "numbers", "[I", true)
  | 1 => ("OrbitsWed$Changes", "whats", "[I", true)
  | 2 => ("OrbitsWed$Changes", "olds", "[I", true)
  | 3 => ("OrbitsWed$Changes", "news", "[I", true)
  | 4 => ("OrbitsWed$Changes", "done", "I", false)
  | _ => ("OrbitsWed$Changes", "size", "I", false)
def tyX0 : Nat → FieldType := fun k => match k with
  | 0 => .array .int
  | 1 => .array .int
  | 2 => .array .int
  | 3 => .array .int
  | 4 => .int
  | _ => .int
abbrev wsX00 : List Cond := u_ws RX0 TX0 6
theorem nmX0 : ∀ a, a < 6 → ∀ b, b < 6 → a ≠ b → (TX0 a).2.1 ≠ (TX0 b).2.1 := by decide +kernel
theorem tyX0_ok : ∀ k, k < 6 → parseFieldDescriptor (TX0 k).2.2.1 = some (tyX0 k) := by decide +kernel
abbrev cX0_init : ByteArray := prog_2_method_1_code
def yX0_init : MethodName := ⟨RX0, "<init>", "()V"⟩
abbrev cX0_add : ByteArray := prog_2_method_2_code
def yX0_add : MethodName := ⟨RX0, "add", "(IIII)V"⟩
abbrev cX0_forgetOldest : ByteArray := prog_2_method_3_code
def yX0_forgetOldest : MethodName := ⟨RX0, "forgetOldest", "()V"⟩
def RX1 : String := "OrbitsWed$Clock"
def TX1 : u_T := fun k => match k with
  | _ => ("OrbitsWed$Clock", "sky", "LOrbitsWed$Sky;", true)
def tyX1 : Nat → FieldType := fun k => match k with
  | _ => .object "OrbitsWed$Sky"
abbrev wsX10 : List Cond := u_ws RX1 TX1 1
theorem nmX1 : ∀ a, a < 1 → ∀ b, b < 1 → a ≠ b → (TX1 a).2.1 ≠ (TX1 b).2.1 := by decide +kernel
theorem tyX1_ok : ∀ k, k < 1 → parseFieldDescriptor (TX1 k).2.2.1 = some (tyX1 k) := by decide +kernel
abbrev cX1_init : ByteArray := prog_3_method_1_code
def yX1_init : MethodName := ⟨RX1, "<init>", "(LOrbitsWed$Sky;)V"⟩
abbrev cX1_firstMeeting : ByteArray := prog_3_method_2_code
def yX1_firstMeeting : MethodName := ⟨RX1, "firstMeeting", "(III)I"⟩
abbrev cX1_meetingsIn : ByteArray := prog_3_method_3_code
def yX1_meetingsIn : MethodName := ⟨RX1, "meetingsIn", "(IIII)I"⟩
abbrev cX1_togetherAgain : ByteArray := prog_3_method_4_code
def yX1_togetherAgain : MethodName := ⟨RX1, "togetherAgain", "(I)J"⟩
abbrev cX1_allAtStart : ByteArray := prog_3_method_5_code
def yX1_allAtStart : MethodName := ⟨RX1, "allAtStart", "(I)J"⟩
abbrev cX1_nextAtStart : ByteArray := prog_3_method_6_code
def yX1_nextAtStart : MethodName := ⟨RX1, "nextAtStart", "(IJJ)J"⟩
abbrev cX1_leastCommon : ByteArray := prog_3_method_7_code
def yX1_leastCommon : MethodName := ⟨RX1, "leastCommon", "(JJ)J"⟩
abbrev cX1_moodOn : ByteArray := prog_3_method_8_code
def yX1_moodOn : MethodName := ⟨RX1, "moodOn", "(II)I"⟩
abbrev cX1_bestDay : ByteArray := prog_3_method_9_code
def yX1_bestDay : MethodName := ⟨RX1, "bestDay", "(III)I"⟩
abbrev cX1_metOn : ByteArray := prog_3_method_10_code
def yX1_metOn : MethodName := ⟨RX1, "metOn", "(II)I"⟩
abbrev cX1_isFree : ByteArray := prog_3_method_11_code
def yX1_isFree : MethodName := ⟨RX1, "isFree", "(II)Z"⟩
abbrev cX1_firstFreeDay : ByteArray := prog_3_method_12_code
def yX1_firstFreeDay : MethodName := ⟨RX1, "firstFreeDay", "(II)I"⟩
abbrev cX1_freeDaysIn : ByteArray := prog_3_method_13_code
def yX1_freeDaysIn : MethodName := ⟨RX1, "freeDaysIn", "(III)I"⟩
abbrev cX1_leastNudge : ByteArray := prog_3_method_14_code
def yX1_leastNudge : MethodName := ⟨RX1, "leastNudge", "(III)I"⟩
abbrev cX1_isLonely : ByteArray := prog_3_method_15_code
def yX1_isLonely : MethodName := ⟨RX1, "isLonely", "(IIII)Z"⟩
abbrev cX1_lonelyPlaces : ByteArray := prog_3_method_16_code
def yX1_lonelyPlaces : MethodName := ⟨RX1, "lonelyPlaces", "(III)I"⟩
abbrev cX1_leastLonelyPlace : ByteArray := prog_3_method_17_code
def yX1_leastLonelyPlace : MethodName := ⟨RX1, "leastLonelyPlace", "(III)I"⟩
abbrev cX1_daysSinceScene : ByteArray := prog_3_method_18_code
def yX1_daysSinceScene : MethodName := ⟨RX1, "daysSinceScene", "(II)I"⟩
abbrev cX1_firstWinningNudge : ByteArray := prog_3_method_19_code
def yX1_firstWinningNudge : MethodName := ⟨RX1, "firstWinningNudge", "(IIII)I"⟩
abbrev cX1_endsMet : ByteArray := prog_3_method_20_code
def yX1_endsMet : MethodName := ⟨RX1, "endsMet", "(IIIIIZ)Z"⟩
abbrev cX1_leastArc : ByteArray := prog_3_method_21_code
def yX1_leastArc : MethodName := ⟨RX1, "leastArc", "(II)I"⟩
abbrev cX1_arcFrom : ByteArray := prog_3_method_22_code
def yX1_arcFrom : MethodName := ⟨RX1, "arcFrom", "(III)I"⟩
def RX2 : String := "OrbitsWed$Deeds"
def TX2 : u_T := fun k => match k with
  | 0 => ("OrbitsWed$Deeds", "sky", "LOrbitsWed$Sky;", true)
  | 1 => ("OrbitsWed$Deeds", "days", "I", false)
  | 2 => ("OrbitsWed$Deeds", "pushes", "I", false)
  | 3 => ("OrbitsWed$Deeds", "meetings", "I", false)
  | 4 => ("OrbitsWed$Deeds", "nudges", "I", false)
  | 5 => ("OrbitsWed$Deeds", "hasImage", "Z", false)
  | 6 => ("OrbitsWed$Deeds", "imagePlaces", "[I", true)
  | 7 => ("OrbitsWed$Deeds", "imageSize", "I", false)
  | 8 => ("OrbitsWed$Deeds", "imageDays", "I", false)
  | 9 => ("OrbitsWed$Deeds", "imagePushes", "I", false)
  | 10 => ("OrbitsWed$Deeds", "imageMeetings", "I", false)
  | _ => ("OrbitsWed$Deeds", "imageNudges", "I", false)
def tyX2 : Nat → FieldType := fun k => match k with
  | 0 => .object "OrbitsWed$Sky"
  | 1 => .int
  | 2 => .int
  | 3 => .int
  | 4 => .int
  | 5 => .boolean
  | 6 => .array .int
  | 7 => .int
  | 8 => .int
  | 9 => .int
  | 10 => .int
  | _ => .int
abbrev wsX20 : List Cond := u_ws RX2 TX2 12
theorem nmX2 : ∀ a, a < 12 → ∀ b, b < 12 → a ≠ b → (TX2 a).2.1 ≠ (TX2 b).2.1 := by decide +kernel
theorem tyX2_ok : ∀ k, k < 12 → parseFieldDescriptor (TX2 k).2.2.1 = some (tyX2 k) := by decide +kernel
abbrev cX2_init : ByteArray := prog_4_method_1_code
def yX2_init : MethodName := ⟨RX2, "<init>", "(LOrbitsWed$Sky;)V"⟩
abbrev cX2_keepImage : ByteArray := prog_4_method_2_code
def yX2_keepImage : MethodName := ⟨RX2, "keepImage", "()V"⟩
abbrev cX2_layBack : ByteArray := prog_4_method_3_code
def yX2_layBack : MethodName := ⟨RX2, "layBack", "()V"⟩
def RX3 : String := "OrbitsWed$Foresight"
def TX3 : u_T := fun k => match k with
  | 0 => ("OrbitsWed$Foresight", "sky", "LOrbitsWed$Sky;", true)
  | 1 => ("OrbitsWed$Foresight", "walk", "LOrbitsWed$Walk;", true)
  | _ => ("OrbitsWed$Foresight", "seen", "[J", true)
def tyX3 : Nat → FieldType := fun k => match k with
  | 0 => .object "OrbitsWed$Sky"
  | 1 => .object "OrbitsWed$Walk"
  | _ => .array .long
abbrev wsX30 : List Cond := u_ws RX3 TX3 3
theorem nmX3 : ∀ a, a < 3 → ∀ b, b < 3 → a ≠ b → (TX3 a).2.1 ≠ (TX3 b).2.1 := by decide +kernel
theorem tyX3_ok : ∀ k, k < 3 → parseFieldDescriptor (TX3 k).2.2.1 = some (tyX3 k) := by decide +kernel
abbrev cX3_init : ByteArray := prog_5_method_1_code
def yX3_init : MethodName := ⟨RX3, "<init>", "(LOrbitsWed$Sky;LOrbitsWed$Walk;)V"⟩
abbrev cX3_placeBehind : ByteArray := prog_5_method_2_code
def yX3_placeBehind : MethodName := ⟨RX3, "placeBehind", "(II)I"⟩
abbrev cX3_pushesIn : ByteArray := prog_5_method_3_code
def yX3_pushesIn : MethodName := ⟨RX3, "pushesIn", "(I)I"⟩
abbrev cX3_firstPushIn : ByteArray := prog_5_method_4_code
def yX3_firstPushIn : MethodName := ⟨RX3, "firstPushIn", "(I)I"⟩
abbrev cX3_meetingsIn : ByteArray := prog_5_method_5_code
def yX3_meetingsIn : MethodName := ⟨RX3, "meetingsIn", "(III)I"⟩
abbrev cX3_roundAgain : ByteArray := prog_5_method_6_code
def yX3_roundAgain : MethodName := ⟨RX3, "roundAgain", "(Z)I"⟩
abbrev cX3_firstSeen : ByteArray := prog_5_method_7_code
def yX3_firstSeen : MethodName := ⟨RX3, "firstSeen", "(I)I"⟩
abbrev cX3_firstUnlike : ByteArray := prog_5_method_8_code
def yX3_firstUnlike : MethodName := ⟨RX3, "firstUnlike", "([JII)I"⟩
abbrev cX3_drawnYears : ByteArray := prog_5_method_9_code
def yX3_drawnYears : MethodName := ⟨RX3, "drawnYears", "(IIIII)I"⟩
abbrev cX3_slipped : ByteArray := prog_5_method_10_code
def yX3_slipped : MethodName := ⟨RX3, "slipped", "(II)I"⟩
def RX4 : String := "OrbitsWed$Law"
def TX4 : u_T := fun k => match k with
  | 0 => ("OrbitsWed$Law", "steps", "[I", true)
  | 1 => ("OrbitsWed$Law", "values", "[I", true)
  | 2 => ("OrbitsWed$Law", "size", "I", false)
  | 3 => ("OrbitsWed$Law", "named", "[I", true)
  | _ => ("OrbitsWed$Law", "stack", "[I", true)
def tyX4 : Nat → FieldType := fun k => match k with
  | 0 => .array .int
  | 1 => .array .int
  | 2 => .int
  | 3 => .array .int
  | _ => .array .int
abbrev wsX40 : List Cond := u_ws RX4 TX4 5
theorem nmX4 : ∀ a, a < 5 → ∀ b, b < 5 → a ≠ b → (TX4 a).2.1 ≠ (TX4 b).2.1 := by decide +kernel
theorem tyX4_ok : ∀ k, k < 5 → parseFieldDescriptor (TX4 k).2.2.1 = some (tyX4 k) := by decide +kernel
abbrev cX4_init : ByteArray := prog_6_method_1_code
def yX4_init : MethodName := ⟨RX4, "<init>", "()V"⟩
abbrev cX4_nameOf : ByteArray := prog_6_method_2_code
def yX4_nameOf : MethodName := ⟨RX4, "nameOf", "(I)I"⟩
abbrev cX4_become : ByteArray := prog_6_method_3_code
def yX4_become : MethodName := ⟨RX4, "become", "(LOrbitsWed$Tape;)V"⟩
abbrev cX4_turnTo : ByteArray := prog_6_method_4_code
def yX4_turnTo : MethodName := ⟨RX4, "turnTo", "(III)V"⟩
abbrev cX4_push : ByteArray := prog_6_method_5_code
def yX4_push : MethodName := ⟨RX4, "push", "(III)I"⟩
abbrev cX4_workedOut : ByteArray := prog_6_method_6_code
def yX4_workedOut : MethodName := ⟨RX4, "workedOut", "()I"⟩
abbrev cX4_namedBy : ByteArray := prog_6_method_7_code
def yX4_namedBy : MethodName := ⟨RX4, "namedBy", "(I)I"⟩
abbrev cX4_turned : ByteArray := prog_6_method_8_code
def yX4_turned : MethodName := ⟨RX4, "turned", "(II)I"⟩
abbrev cX4_joined : ByteArray := prog_6_method_9_code
def yX4_joined : MethodName := ⟨RX4, "joined", "(III)I"⟩
def RX5 : String := "OrbitsWed$Moods"
def TX5 : u_T := fun k => match k with
  | 0 => ("OrbitsWed$Moods", "kinds", "[I", true)
  | 1 => ("OrbitsWed$Moods", "size", "I", false)
  | 2 => ("OrbitsWed$Moods", "traced", "[I", true)
  | _ => ("OrbitsWed$Moods", "ran", "I", false)
def tyX5 : Nat → FieldType := fun k => match k with
  | 0 => .array .int
  | 1 => .int
  | 2 => .array .int
  | _ => .int
abbrev wsX50 : List Cond := u_ws RX5 TX5 4
theorem nmX5 : ∀ a, a < 4 → ∀ b, b < 4 → a ≠ b → (TX5 a).2.1 ≠ (TX5 b).2.1 := by decide +kernel
theorem tyX5_ok : ∀ k, k < 4 → parseFieldDescriptor (TX5 k).2.2.1 = some (tyX5 k) := by decide +kernel
abbrev cX5_init : ByteArray := prog_7_method_1_code
def yX5_init : MethodName := ⟨RX5, "<init>", "()V"⟩
abbrev cX5_isKind : ByteArray := prog_7_method_2_code
def yX5_isKind : MethodName := ⟨RX5, "isKind", "(I)Z"⟩
abbrev cX5_isUnder : ByteArray := prog_7_method_3_code
def yX5_isUnder : MethodName := ⟨RX5, "isUnder", "(II)Z"⟩
abbrev cX5_has : ByteArray := prog_7_method_4_code
def yX5_has : MethodName := ⟨RX5, "has", "(I)Z"⟩
abbrev cX5_added : ByteArray := prog_7_method_5_code
def yX5_added : MethodName := ⟨RX5, "added", "(I)I"⟩
abbrev cX5_acted : ByteArray := prog_7_method_6_code
def yX5_acted : MethodName := ⟨RX5, "acted", "(III)I"⟩
abbrev cX5_own : ByteArray := prog_7_method_7_code
def yX5_own : MethodName := ⟨RX5, "own", "(IIII)I"⟩
abbrev cX5_above : ByteArray := prog_7_method_8_code
def yX5_above : MethodName := ⟨RX5, "above", "(IIIII)I"⟩
abbrev cX5_ranFrom : ByteArray := prog_7_method_9_code
def yX5_ranFrom : MethodName := ⟨RX5, "ranFrom", "(IIIII)I"⟩
abbrev cX5_codeFrom : ByteArray := prog_7_method_10_code
def yX5_codeFrom : MethodName := ⟨RX5, "codeFrom", "(II)I"⟩
abbrev cX5_note : ByteArray := prog_7_method_11_code
def yX5_note : MethodName := ⟨RX5, "note", "(I)V"⟩
abbrev cX5_drawing : ByteArray := prog_7_method_12_code
def yX5_drawing : MethodName := ⟨RX5, "drawing", "(IIII)I"⟩
abbrev cX5_meeting : ByteArray := prog_7_method_13_code
def yX5_meeting : MethodName := ⟨RX5, "meeting", "(IIII)I"⟩
abbrev cX5_shunning : ByteArray := prog_7_method_14_code
def yX5_shunning : MethodName := ⟨RX5, "shunning", "(IIII)I"⟩
abbrev cX5_telling : ByteArray := prog_7_method_15_code
def yX5_telling : MethodName := ⟨RX5, "telling", "(IIII)I"⟩
def RX6 : String := "OrbitsWed$Shelves"
def TX6 : u_T := fun k => match k with
  | 0 => ("OrbitsWed$Shelves", "holds", "[I", true)
  | 1 => ("OrbitsWed$Shelves", "held", "[I", true)
  | 2 => ("OrbitsWed$Shelves", "sorts", "[I", true)
  | 3 => ("OrbitsWed$Shelves", "lengths", "[I", true)
  | _ => ("OrbitsWed$Shelves", "values", "[[J", true)
def tyX6 : Nat → FieldType := fun k => match k with
  | 0 => .array .int
  | 1 => .array .int
  | 2 => .array .int
  | 3 => .array .int
  | _ => .array (.array .long)
abbrev wsX60 : List Cond := u_ws RX6 TX6 5
theorem nmX6 : ∀ a, a < 5 → ∀ b, b < 5 → a ≠ b → (TX6 a).2.1 ≠ (TX6 b).2.1 := by decide +kernel
theorem tyX6_ok : ∀ k, k < 5 → parseFieldDescriptor (TX6 k).2.2.1 = some (tyX6 k) := by decide +kernel
abbrev cX6_init : ByteArray := prog_8_method_1_code
def yX6_init : MethodName := ⟨RX6, "<init>", "()V"⟩
abbrev cX6_isShelf : ByteArray := prog_8_method_2_code
def yX6_isShelf : MethodName := ⟨RX6, "isShelf", "(I)Z"⟩
abbrev cX6_isEmpty : ByteArray := prog_8_method_3_code
def yX6_isEmpty : MethodName := ⟨RX6, "isEmpty", "(I)Z"⟩
abbrev cX6_isMood : ByteArray := prog_8_method_4_code
def yX6_isMood : MethodName := ⟨RX6, "isMood", "(I)Z"⟩
abbrev cX6_isBook : ByteArray := prog_8_method_5_code
def yX6_isBook : MethodName := ⟨RX6, "isBook", "(I)Z"⟩
abbrev cX6_clear : ByteArray := prog_8_method_6_code
def yX6_clear : MethodName := ⟨RX6, "clear", "(I)V"⟩
abbrev cX6_holdMood : ByteArray := prog_8_method_7_code
def yX6_holdMood : MethodName := ⟨RX6, "holdMood", "(II)V"⟩
abbrev cX6_holdRow : ByteArray := prog_8_method_8_code
def yX6_holdRow : MethodName := ⟨RX6, "holdRow", "(III)V"⟩
abbrev cX6_rowRefusal : ByteArray := prog_8_method_9_code
def yX6_rowRefusal : MethodName := ⟨RX6, "rowRefusal", "(I)I"⟩
abbrev cX6_bookRefusal : ByteArray := prog_8_method_10_code
def yX6_bookRefusal : MethodName := ⟨RX6, "bookRefusal", "(I)I"⟩
abbrev cX6_placeRefusal : ByteArray := prog_8_method_11_code
def yX6_placeRefusal : MethodName := ⟨RX6, "placeRefusal", "(II)I"⟩
abbrev cX6_pairRefusal : ByteArray := prog_8_method_12_code
def yX6_pairRefusal : MethodName := ⟨RX6, "pairRefusal", "(II)I"⟩
abbrev cX6_hasSpan : ByteArray := prog_8_method_13_code
def yX6_hasSpan : MethodName := ⟨RX6, "hasSpan", "(III)Z"⟩
abbrev cX6_lowest : ByteArray := prog_8_method_14_code
def yX6_lowest : MethodName := ⟨RX6, "lowest", "(IJ)J"⟩
def RX7 : String := "OrbitsWed$Sky"
def TX7 : u_T := fun k => match k with
  | 0 => ("OrbitsWed$Sky", "rounds", "[I", true)
  | 1 => ("OrbitsWed$Sky", "places", "[I", true)
  | 2 => ("OrbitsWed$Sky", "weights", "[I", true)
  | 3 => ("OrbitsWed$Sky", "likes", "[[I", true)
  | 4 => ("OrbitsWed$Sky", "near", "I", false)
  | _ => ("OrbitsWed$Sky", "size", "I", false)
def tyX7 : Nat → FieldType := fun k => match k with
  | 0 => .array .int
  | 1 => .array .int
  | 2 => .array .int
  | 3 => .array (.array .int)
  | 4 => .int
  | _ => .int
abbrev wsX70 : List Cond := u_ws RX7 TX7 6
theorem nmX7 : ∀ a, a < 6 → ∀ b, b < 6 → a ≠ b → (TX7 a).2.1 ≠ (TX7 b).2.1 := by decide +kernel
theorem tyX7_ok : ∀ k, k < 6 → parseFieldDescriptor (TX7 k).2.2.1 = some (tyX7 k) := by decide +kernel
abbrev cX7_init : ByteArray := prog_9_method_1_code
def yX7_init : MethodName := ⟨RX7, "<init>", "()V"⟩
abbrev cX7_fitsBody : ByteArray := prog_9_method_2_code
def yX7_fitsBody : MethodName := ⟨RX7, "fitsBody", "(III)Z"⟩
abbrev cX7_added : ByteArray := prog_9_method_3_code
def yX7_added : MethodName := ⟨RX7, "added", "(III)I"⟩
abbrev cX7_has : ByteArray := prog_9_method_4_code
def yX7_has : MethodName := ⟨RX7, "has", "(I)Z"⟩
abbrev cX7_hasPair : ByteArray := prog_9_method_5_code
def yX7_hasPair : MethodName := ⟨RX7, "hasPair", "(I)Z"⟩
abbrev cX7_hasAll : ByteArray := prog_9_method_6_code
def yX7_hasAll : MethodName := ⟨RX7, "hasAll", "(I)Z"⟩
abbrev cX7_hasNumber : ByteArray := prog_9_method_7_code
def yX7_hasNumber : MethodName := ⟨RX7, "hasNumber", "(II)Z"⟩
abbrev cX7_fitsNumber : ByteArray := prog_9_method_8_code
def yX7_fitsNumber : MethodName := ⟨RX7, "fitsNumber", "(III)Z"⟩
abbrev cX7_told : ByteArray := prog_9_method_9_code
def yX7_told : MethodName := ⟨RX7, "told", "(II)I"⟩
abbrev cX7_tell : ByteArray := prog_9_method_10_code
def yX7_tell : MethodName := ⟨RX7, "tell", "(III)V"⟩
abbrev cX7_degrees : ByteArray := prog_9_method_11_code
def yX7_degrees : MethodName := ⟨RX7, "degrees", "(II)I"⟩
abbrev cX7_gap : ByteArray := prog_9_method_12_code
def yX7_gap : MethodName := ⟨RX7, "gap", "(II)I"⟩
abbrev cX7_placeOn : ByteArray := prog_9_method_13_code
def yX7_placeOn : MethodName := ⟨RX7, "placeOn", "(II)I"⟩
abbrev cX7_degreesOn : ByteArray := prog_9_method_14_code
def yX7_degreesOn : MethodName := ⟨RX7, "degreesOn", "(II)I"⟩
abbrev cX7_gapOn : ByteArray := prog_9_method_15_code
def yX7_gapOn : MethodName := ⟨RX7, "gapOn", "(III)I"⟩
abbrev cX7_meetOn : ByteArray := prog_9_method_16_code
def yX7_meetOn : MethodName := ⟨RX7, "meetOn", "(III)Z"⟩
abbrev cX7_meetMoved : ByteArray := prog_9_method_17_code
def yX7_meetMoved : MethodName := ⟨RX7, "meetMoved", "(IIII)Z"⟩
def RX8 : String := "OrbitsWed$Tape"
def TX8 : u_T := fun k => match k with
  | 0 => ("OrbitsWed$Tape", "bytes", "[I", true)
  | 1 => ("OrbitsWed$Tape", "length", "I", false)
  | 2 => ("OrbitsWed$Tape", "place", "I", false)
  | 3 => ("OrbitsWed$Tape", "steps", "[I", true)
  | 4 => ("OrbitsWed$Tape", "values", "[I", true)
  | _ => ("OrbitsWed$Tape", "size", "I", false)
def tyX8 : Nat → FieldType := fun k => match k with
  | 0 => .array .int
  | 1 => .int
  | 2 => .int
  | 3 => .array .int
  | 4 => .array .int
  | _ => .int
abbrev wsX80 : List Cond := u_ws RX8 TX8 6
theorem nmX8 : ∀ a, a < 6 → ∀ b, b < 6 → a ≠ b → (TX8 a).2.1 ≠ (TX8 b).2.1 := by decide +kernel
theorem tyX8_ok : ∀ k, k < 6 → parseFieldDescriptor (TX8 k).2.2.1 = some (tyX8 k) := by decide +kernel
abbrev cX8_init : ByteArray := prog_10_method_1_code
def yX8_init : MethodName := ⟨RX8, "<init>", "()V"⟩
abbrev cX8_fed : ByteArray := prog_10_method_2_code
def yX8_fed : MethodName := ⟨RX8, "fed", "(I)I"⟩
abbrev cX8_isText : ByteArray := prog_10_method_3_code
def yX8_isText : MethodName := ⟨RX8, "isText", "()Z"⟩
abbrev cX8_next : ByteArray := prog_10_method_4_code
def yX8_next : MethodName := ⟨RX8, "next", "()I"⟩
abbrev cX8_draft : ByteArray := prog_10_method_5_code
def yX8_draft : MethodName := ⟨RX8, "draft", "(II)V"⟩
abbrev cX8_readsLine : ByteArray := prog_10_method_6_code
def yX8_readsLine : MethodName := ⟨RX8, "readsLine", "()Z"⟩
abbrev cX8_readsEither : ByteArray := prog_10_method_7_code
def yX8_readsEither : MethodName := ⟨RX8, "readsEither", "(I)Z"⟩
abbrev cX8_readsBoth : ByteArray := prog_10_method_8_code
def yX8_readsBoth : MethodName := ⟨RX8, "readsBoth", "(I)Z"⟩
abbrev cX8_readsCompared : ByteArray := prog_10_method_9_code
def yX8_readsCompared : MethodName := ⟨RX8, "readsCompared", "(I)Z"⟩
abbrev cX8_readsSum : ByteArray := prog_10_method_10_code
def yX8_readsSum : MethodName := ⟨RX8, "readsSum", "(I)Z"⟩
abbrev cX8_readsProduct : ByteArray := prog_10_method_11_code
def yX8_readsProduct : MethodName := ⟨RX8, "readsProduct", "(I)Z"⟩
abbrev cX8_readsOperand : ByteArray := prog_10_method_12_code
def yX8_readsOperand : MethodName := ⟨RX8, "readsOperand", "(I)Z"⟩
abbrev cX8_readsClosed : ByteArray := prog_10_method_13_code
def yX8_readsClosed : MethodName := ⟨RX8, "readsClosed", "(I)Z"⟩
abbrev cX8_readsTurned : ByteArray := prog_10_method_14_code
def yX8_readsTurned : MethodName := ⟨RX8, "readsTurned", "(II)Z"⟩
abbrev cX8_readNumber : ByteArray := prog_10_method_15_code
def yX8_readNumber : MethodName := ⟨RX8, "readNumber", "()V"⟩
def RX9 : String := "OrbitsWed$Walk"
def TX9 : u_T := fun k => match k with
  | 0 => ("OrbitsWed$Walk", "sky", "LOrbitsWed$Sky;", true)
  | 1 => ("OrbitsWed$Walk", "law", "LOrbitsWed$Law;", true)
  | 2 => ("OrbitsWed$Walk", "places", "[I", true)
  | 3 => ("OrbitsWed$Walk", "degrees", "[I", true)
  | 4 => ("OrbitsWed$Walk", "sums", "[I", true)
  | 5 => ("OrbitsWed$Walk", "metBits", "[I", true)
  | 6 => ("OrbitsWed$Walk", "meetings", "I", false)
  | _ => ("OrbitsWed$Walk", "pushes", "I", false)
def tyX9 : Nat → FieldType := fun k => match k with
  | 0 => .object "OrbitsWed$Sky"
  | 1 => .object "OrbitsWed$Law"
  | 2 => .array .int
  | 3 => .array .int
  | 4 => .array .int
  | 5 => .array .int
  | 6 => .int
  | _ => .int
abbrev wsX90 : List Cond := u_ws RX9 TX9 8
theorem nmX9 : ∀ a, a < 8 → ∀ b, b < 8 → a ≠ b → (TX9 a).2.1 ≠ (TX9 b).2.1 := by decide +kernel
theorem tyX9_ok : ∀ k, k < 8 → parseFieldDescriptor (TX9 k).2.2.1 = some (tyX9 k) := by decide +kernel
abbrev cX9_init : ByteArray := prog_11_method_1_code
def yX9_init : MethodName := ⟨RX9, "<init>", "(LOrbitsWed$Sky;LOrbitsWed$Law;)V"⟩
abbrev cX9_begin : ByteArray := prog_11_method_2_code
def yX9_begin : MethodName := ⟨RX9, "begin", "()V"⟩
abbrev cX9_keepPlaces : ByteArray := prog_11_method_3_code
def yX9_keepPlaces : MethodName := ⟨RX9, "keepPlaces", "()V"⟩
abbrev cX9_pass : ByteArray := prog_11_method_4_code
def yX9_pass : MethodName := ⟨RX9, "pass", "(I)V"⟩
abbrev cX9_move : ByteArray := prog_11_method_5_code
def yX9_move : MethodName := ⟨RX9, "move", "(II)V"⟩
abbrev cX9_look : ByteArray := prog_11_method_6_code
def yX9_look : MethodName := ⟨RX9, "look", "()V"⟩
abbrev cX9_pushOf : ByteArray := prog_11_method_7_code
def yX9_pushOf : MethodName := ⟨RX9, "pushOf", "(II)I"⟩
abbrev cX9_allPlaces : ByteArray := prog_11_method_8_code
def yX9_allPlaces : MethodName := ⟨RX9, "allPlaces", "()J"⟩
abbrev cX9_areAllAtStart : ByteArray := prog_11_method_9_code
def yX9_areAllAtStart : MethodName := ⟨RX9, "areAllAtStart", "()Z"⟩
def RX10 : String := "OrbitsWed"
def TX10 : u_T := fun k => match k with
  | 0 => ("OrbitsWed", "sky", "LOrbitsWed$Sky;", true)
  | 1 => ("OrbitsWed", "clock", "LOrbitsWed$Clock;", true)
  | 2 => ("OrbitsWed", "tape", "LOrbitsWed$Tape;", true)
  | 3 => ("OrbitsWed", "law", "LOrbitsWed$Law;", true)
  | 4 => ("OrbitsWed", "walk", "LOrbitsWed$Walk;", true)
  | 5 => ("OrbitsWed", "foresight", "LOrbitsWed$Foresight;", true)
  | 6 => ("OrbitsWed", "deeds", "LOrbitsWed$Deeds;", true)
  | 7 => ("OrbitsWed", "changes", "LOrbitsWed$Changes;", true)
  | 8 => ("OrbitsWed", "shelves", "LOrbitsWed$Shelves;", true)
  | _ => ("OrbitsWed", "moods", "LOrbitsWed$Moods;", true)
def tyX10 : Nat → FieldType := fun k => match k with
  | 0 => .object "OrbitsWed$Sky"
  | 1 => .object "OrbitsWed$Clock"
  | 2 => .object "OrbitsWed$Tape"
  | 3 => .object "OrbitsWed$Law"
  | 4 => .object "OrbitsWed$Walk"
  | 5 => .object "OrbitsWed$Foresight"
  | 6 => .object "OrbitsWed$Deeds"
  | 7 => .object "OrbitsWed$Changes"
  | 8 => .object "OrbitsWed$Shelves"
  | _ => .object "OrbitsWed$Moods"
abbrev wsX100 : List Cond := u_ws RX10 TX10 10
theorem nmX10 : ∀ a, a < 10 → ∀ b, b < 10 → a ≠ b → (TX10 a).2.1 ≠ (TX10 b).2.1 := by decide +kernel
theorem tyX10_ok : ∀ k, k < 10 → parseFieldDescriptor (TX10 k).2.2.1 = some (tyX10 k) := by decide +kernel
abbrev cX10_init : ByteArray := prog_1_method_1_code
def yX10_init : MethodName := ⟨RX10, "<init>", "()V"⟩
abbrev cX10_orb : ByteArray := prog_1_method_2_code
def yX10_orb : MethodName := ⟨RX10, "orb", "(II)I"⟩
abbrev cX10_orbs : ByteArray := prog_1_method_3_code
def yX10_orbs : MethodName := ⟨RX10, "orbs", "(III)I"⟩
abbrev cX10_mend : ByteArray := prog_1_method_4_code
def yX10_mend : MethodName := ⟨RX10, "mend", "(III)I"⟩
abbrev cX10_of : ByteArray := prog_1_method_5_code
def yX10_of : MethodName := ⟨RX10, "of", "(II)I"⟩
abbrev cX10_feed : ByteArray := prog_1_method_6_code
def yX10_feed : MethodName := ⟨RX10, "feed", "(I)I"⟩
abbrev cX10_law : ByteArray := prog_1_method_7_code
def yX10_law : MethodName := ⟨RX10, "law", "()I"⟩
abbrev cX10_at : ByteArray := prog_1_method_8_code
def yX10_at : MethodName := ⟨RX10, "at", "(III)I"⟩
abbrev cX10_apart : ByteArray := prog_1_method_9_code
def yX10_apart : MethodName := ⟨RX10, "apart", "(III)I"⟩
abbrev cX10_meets : ByteArray := prog_1_method_10_code
def yX10_meets : MethodName := ⟨RX10, "meets", "(II)I"⟩
abbrev cX10_often : ByteArray := prog_1_method_11_code
def yX10_often : MethodName := ⟨RX10, "often", "(III)I"⟩
abbrev cX10_together : ByteArray := prog_1_method_12_code
def yX10_together : MethodName := ⟨RX10, "together", "(I)J"⟩
abbrev cX10_start : ByteArray := prog_1_method_13_code
def yX10_start : MethodName := ⟨RX10, "start", "(I)J"⟩
abbrev cX10_mood : ByteArray := prog_1_method_14_code
def yX10_mood : MethodName := ⟨RX10, "mood", "(II)I"⟩
abbrev cX10_best : ByteArray := prog_1_method_15_code
def yX10_best : MethodName := ⟨RX10, "best", "(III)I"⟩
abbrev cX10_sign : ByteArray := prog_1_method_16_code
def yX10_sign : MethodName := ⟨RX10, "sign", "(III)I"⟩
abbrev cX10_nudge : ByteArray := prog_1_method_17_code
def yX10_nudge : MethodName := ⟨RX10, "nudge", "(II)I"⟩
abbrev cX10_never : ByteArray := prog_1_method_18_code
def yX10_never : MethodName := ⟨RX10, "never", "(III)I"⟩
abbrev cX10_scene : ByteArray := prog_1_method_19_code
def yX10_scene : MethodName := ⟨RX10, "scene", "(I)I"⟩
abbrev cX10_later : ByteArray := prog_1_method_20_code
def yX10_later : MethodName := ⟨RX10, "later", "(II)I"⟩
abbrev cX10_pushes : ByteArray := prog_1_method_21_code
def yX10_pushes : MethodName := ⟨RX10, "pushes", "(II)I"⟩
abbrev cX10_met : ByteArray := prog_1_method_22_code
def yX10_met : MethodName := ⟨RX10, "met", "(II)I"⟩
abbrev cX10_again : ByteArray := prog_1_method_23_code
def yX10_again : MethodName := ⟨RX10, "again", "(I)I"⟩
abbrev cX10_judge : ByteArray := prog_1_method_24_code
def yX10_judge : MethodName := ⟨RX10, "judge", "(II)I"⟩
abbrev cX10_liking : ByteArray := prog_1_method_25_code
def yX10_liking : MethodName := ⟨RX10, "liking", "(IIII)I"⟩
abbrev cX10_whose : ByteArray := prog_1_method_26_code
def yX10_whose : MethodName := ⟨RX10, "whose", "(I)I"⟩
abbrev cX10_byTurns : ByteArray := prog_1_method_27_code
def yX10_byTurns : MethodName := ⟨RX10, "byTurns", "(III)I"⟩
abbrev cX10_crowd : ByteArray := prog_1_method_28_code
def yX10_crowd : MethodName := ⟨RX10, "crowd", "(III)I"⟩
abbrev cX10_arc : ByteArray := prog_1_method_29_code
def yX10_arc : MethodName := ⟨RX10, "arc", "(II)I"⟩
abbrev cX10_drawn : ByteArray := prog_1_method_30_code
def yX10_drawn : MethodName := ⟨RX10, "drawn", "(III)I"⟩
abbrev cX10_day : ByteArray := prog_1_method_31_code
def yX10_day : MethodName := ⟨RX10, "day", "()I"⟩
abbrev cX10_nudged : ByteArray := prog_1_method_32_code
def yX10_nudged : MethodName := ⟨RX10, "nudged", "(II)I"⟩
abbrev cX10_led : ByteArray := prog_1_method_33_code
def yX10_led : MethodName := ⟨RX10, "led", "(I)I"⟩
abbrev cX10_image : ByteArray := prog_1_method_34_code
def yX10_image : MethodName := ⟨RX10, "image", "()I"⟩
abbrev cX10_back : ByteArray := prog_1_method_35_code
def yX10_back : MethodName := ⟨RX10, "back", "()I"⟩
abbrev cX10_undo : ByteArray := prog_1_method_36_code
def yX10_undo : MethodName := ⟨RX10, "undo", "()I"⟩
abbrev cX10_redo : ByteArray := prog_1_method_37_code
def yX10_redo : MethodName := ⟨RX10, "redo", "()I"⟩
abbrev cX10_body : ByteArray := prog_1_method_38_code
def yX10_body : MethodName := ⟨RX10, "body", "(I)I"⟩
abbrev cX10_act : ByteArray := prog_1_method_39_code
def yX10_act : MethodName := ⟨RX10, "act", "(III)I"⟩
abbrev cX10_trace : ByteArray := prog_1_method_40_code
def yX10_trace : MethodName := ⟨RX10, "trace", "(I)I"⟩
abbrev cX10_keep : ByteArray := prog_1_method_41_code
def yX10_keep : MethodName := ⟨RX10, "keep", "(II)I"⟩
abbrev cX10_row : ByteArray := prog_1_method_42_code
def yX10_row : MethodName := ⟨RX10, "row", "(III)I"⟩
abbrev cX10_put : ByteArray := prog_1_method_43_code
def yX10_put : MethodName := ⟨RX10, "put", "(IIJ)I"⟩
abbrev cX10_element : ByteArray := prog_1_method_44_code
def yX10_element : MethodName := ⟨RX10, "element", "(II)J"⟩
abbrev cX10_shift : ByteArray := prog_1_method_45_code
def yX10_shift : MethodName := ⟨RX10, "shift", "(IIIII)I"⟩
abbrev cX10_taken : ByteArray := prog_1_method_46_code
def yX10_taken : MethodName := ⟨RX10, "taken", "(II)I"⟩
abbrev cX10_count : ByteArray := prog_1_method_47_code
def yX10_count : MethodName := ⟨RX10, "count", "(I)I"⟩
abbrev cX10_isDay : ByteArray := prog_1_method_48_code
def yX10_isDay : MethodName := ⟨RX10, "isDay", "(I)Z"⟩
abbrev cX10_isWhat : ByteArray := prog_1_method_49_code
def yX10_isWhat : MethodName := ⟨RX10, "isWhat", "(I)Z"⟩
abbrev cX10_isSpan : ByteArray := prog_1_method_50_code
def yX10_isSpan : MethodName := ⟨RX10, "isSpan", "(I)Z"⟩
abbrev cX10_isPushedSpan : ByteArray := prog_1_method_51_code
def yX10_isPushedSpan : MethodName := ⟨RX10, "isPushedSpan", "(I)Z"⟩
abbrev cX10_bodiesFrom : ByteArray := prog_1_method_52_code
def yX10_bodiesFrom : MethodName := ⟨RX10, "bodiesFrom", "(III)I"⟩
abbrev cX10_likings : ByteArray := prog_1_method_53_code
def yX10_likings : MethodName := ⟨RX10, "likings", "(IIIZ)I"⟩
def RX11 : String := "OrbitsWedModel"
def TX11 : u_T := fun k => match k with
  | 0 => ("OrbitsWedModel", "may", "[I", true)
  | 1 => ("OrbitsWedModel", "changeAt", "[I", true)
  | 2 => ("OrbitsWedModel", "changeWas", "[I", true)
  | 3 => ("OrbitsWedModel", "changeIs", "[I", true)
  | 4 => ("OrbitsWedModel", "keptMany", "I", false)
  | 5 => ("OrbitsWedModel", "done", "I", false)
  | 6 => ("OrbitsWedModel", "orbs", "I", false)
  | 7 => ("OrbitsWedModel", "round", "[I", true)
  | 8 => ("OrbitsWedModel", "tape", "[I", true)
  | 9 => ("OrbitsWedModel", "tapeMany", "I", false)
  | 10 => ("OrbitsWedModel", "text", "[I", true)
  | 11 => ("OrbitsWedModel", "textMany", "I", false)
  | 12 => ("OrbitsWedModel", "base", "I", false)
  | 13 => ("OrbitsWedModel", "at", "I", false)
  | 14 => ("OrbitsWedModel", "ends", "I", false)
  | 15 => ("OrbitsWedModel", "fault", "I", false)
  | 16 => ("OrbitsWedModel", "opened", "I", false)
  | 17 => ("OrbitsWedModel", "names", "[I", true)
  | 18 => ("OrbitsWedModel", "place", "[I", true)
  | 19 => ("OrbitsWedModel", "pushes", "I", false)
  | 20 => ("OrbitsWedModel", "meetings", "I", false)
  | 21 => ("OrbitsWedModel", "on", "[I", true)
  | 22 => ("OrbitsWedModel", "stood", "[I", true)
  | 23 => ("OrbitsWedModel", "whether", "[I", true)
  | 24 => ("OrbitsWedModel", "ledNow", "[I", true)
  | 25 => ("OrbitsWedModel", "isKept", "Z", false)
  | 26 => ("OrbitsWedModel", "imageOrbs", "I", false)
  | 27 => ("OrbitsWedModel", "imagePlace", "[I", true)
  | 28 => ("OrbitsWedModel", "imageLed", "[I", true)
  | 29 => ("OrbitsWedModel", "bodies", "I", false)
  | 30 => ("OrbitsWedModel", "bodyKind", "[I", true)
  | 31 => ("OrbitsWedModel", "trace", "[I", true)
  | 32 => ("OrbitsWedModel", "ran", "I", false)
  | 33 => ("OrbitsWedModel", "ownKind", "I", false)
  | 34 => ("OrbitsWedModel", "ownNumber", "I", false)
  | 35 => ("OrbitsWedModel", "shelf", "[I", true)
  | 36 => ("OrbitsWedModel", "many", "[I", true)
  | 37 => ("OrbitsWedModel", "items", "[J", true)
  | _ => ("OrbitsWedModel", "carried", "[J", true)
def tyX11 : Nat → FieldType := fun k => match k with
  | 0 => .array .int
  | 1 => .array .int
  | 2 => .array .int
  | 3 => .array .int
  | 4 => .int
  | 5 => .int
  | 6 => .int
  | 7 => .array .int
  | 8 => .array .int
  | 9 => .int
  | 10 => .array .int
  | 11 => .int
  | 12 => .int
  | 13 => .int
  | 14 => .int
  | 15 => .int
  | 16 => .int
  | 17 => .array .int
  | 18 => .array .int
  | 19 => .int
  | 20 => .int
  | 21 => .array .int
  | 22 => .array .int
  | 23 => .array .int
  | 24 => .array .int
  | 25 => .boolean
  | 26 => .int
  | 27 => .array .int
  | 28 => .array .int
  | 29 => .int
  | 30 => .array .int
  | 31 => .array .int
  | 32 => .int
  | 33 => .int
  | 34 => .int
  | 35 => .array .int
  | 36 => .array .int
  | 37 => .array .long
  | _ => .array .long
abbrev wsX110 : List Cond := u_ws RX11 TX11 39
theorem nmX11 : ∀ a, a < 39 → ∀ b, b < 39 → a ≠ b → (TX11 a).2.1 ≠ (TX11 b).2.1 := by decide +kernel
theorem tyX11_ok : ∀ k, k < 39 → parseFieldDescriptor (TX11 k).2.2.1 = some (tyX11 k) := by decide +kernel
abbrev cX11_within : ByteArray := prog_13_method_1_code
def yX11_within : MethodName := ⟨RX11, "within", "(JJJ)Z"⟩
abbrev cX11_isIn : ByteArray := prog_13_method_2_code
def yX11_isIn : MethodName := ⟨RX11, "isIn", "(II)Z"⟩
abbrev cX11_init : ByteArray := prog_13_method_3_code
def yX11_init : MethodName := ⟨RX11, "<init>", "()V"⟩
abbrev cX11_becomes : ByteArray := prog_13_method_4_code
def yX11_becomes : MethodName := ⟨RX11, "becomes", "(II)I"⟩
abbrev cX11_undo : ByteArray := prog_13_method_5_code
def yX11_undo : MethodName := ⟨RX11, "undo", "()I"⟩
abbrev cX11_redo : ByteArray := prog_13_method_6_code
def yX11_redo : MethodName := ⟨RX11, "redo", "()I"⟩
abbrev cX11_isOrb : ByteArray := prog_13_method_7_code
def yX11_isOrb : MethodName := ⟨RX11, "isOrb", "(J)Z"⟩
abbrev cX11_isAb : ByteArray := prog_13_method_8_code
def yX11_isAb : MethodName := ⟨RX11, "isAb", "(I)Z"⟩
abbrev cX11_mayCome : ByteArray := prog_13_method_9_code
def yX11_mayCome : MethodName := ⟨RX11, "mayCome", "(JJJ)Z"⟩
abbrev cX11_adds : ByteArray := prog_13_method_10_code
def yX11_adds : MethodName := ⟨RX11, "adds", "(III)V"⟩
abbrev cX11_orb : ByteArray := prog_13_method_11_code
def yX11_orb : MethodName := ⟨RX11, "orb", "(II)I"⟩
abbrev cX11_orbs : ByteArray := prog_13_method_12_code
def yX11_orbs : MethodName := ⟨RX11, "orbs", "(III)I"⟩
abbrev cX11_placeOf : ByteArray := prog_13_method_13_code
def yX11_placeOf : MethodName := ⟨RX11, "placeOf", "(II)I"⟩
abbrev cX11_mayBecome : ByteArray := prog_13_method_14_code
def yX11_mayBecome : MethodName := ⟨RX11, "mayBecome", "(III)Z"⟩
abbrev cX11_mend : ByteArray := prog_13_method_15_code
def yX11_mend : MethodName := ⟨RX11, "mend", "(III)I"⟩
abbrev cX11_of : ByteArray := prog_13_method_16_code
def yX11_of : MethodName := ⟨RX11, "of", "(II)I"⟩
abbrev cX11_feed : ByteArray := prog_13_method_17_code
def yX11_feed : MethodName := ⟨RX11, "feed", "(I)I"⟩
abbrev cX11_byteAt : ByteArray := prog_13_method_18_code
def yX11_byteAt : MethodName := ⟨RX11, "byteAt", "()I"⟩
abbrev cX11_wrong : ByteArray := prog_13_method_19_code
def yX11_wrong : MethodName := ⟨RX11, "wrong", "()I"⟩
abbrev cX11_takes : ByteArray := prog_13_method_20_code
def yX11_takes : MethodName := ⟨RX11, "takes", "(I)Z"⟩
abbrev cX11_either : ByteArray := prog_13_method_21_code
def yX11_either : MethodName := ⟨RX11, "either", "()I"⟩
abbrev cX11_both : ByteArray := prog_13_method_22_code
def yX11_both : MethodName := ⟨RX11, "both", "()I"⟩
abbrev cX11_compared : ByteArray := prog_13_method_23_code
def yX11_compared : MethodName := ⟨RX11, "compared", "()I"⟩
abbrev cX11_sums : ByteArray := prog_13_method_24_code
def yX11_sums : MethodName := ⟨RX11, "sums", "()I"⟩
abbrev cX11_product : ByteArray := prog_13_method_25_code
def yX11_product : MethodName := ⟨RX11, "product", "()I"⟩
abbrev cX11_nameOf : ByteArray := prog_13_method_26_code
def yX11_nameOf : MethodName := ⟨RX11, "nameOf", "(I)I"⟩
abbrev cX11_one : ByteArray := prog_13_method_27_code
def yX11_one : MethodName := ⟨RX11, "one", "()I"⟩
abbrev cX11_workOut : ByteArray := prog_13_method_28_code
def yX11_workOut : MethodName := ⟨RX11, "workOut", "(II)I"⟩
abbrev cX11_law : ByteArray := prog_13_method_29_code
def yX11_law : MethodName := ⟨RX11, "law", "()I"⟩
abbrev cX11_isDay : ByteArray := prog_13_method_30_code
def yX11_isDay : MethodName := ⟨RX11, "isDay", "(I)Z"⟩
abbrev cX11_clock : ByteArray := prog_13_method_31_code
def yX11_clock : MethodName := ⟨RX11, "clock", "(IJ)I"⟩
abbrev cX11_degreesOf : ByteArray := prog_13_method_32_code
def yX11_degreesOf : MethodName := ⟨RX11, "degreesOf", "(II)I"⟩
abbrev cX11_arcOf : ByteArray := prog_13_method_33_code
def yX11_arcOf : MethodName := ⟨RX11, "arcOf", "(II)I"⟩
abbrev cX11_apartOn : ByteArray := prog_13_method_34_code
def yX11_apartOn : MethodName := ⟨RX11, "apartOn", "(IIJ)I"⟩
abbrev cX11_meetOn : ByteArray := prog_13_method_35_code
def yX11_meetOn : MethodName := ⟨RX11, "meetOn", "(IIJ)Z"⟩
abbrev cX11_at : ByteArray := prog_13_method_36_code
def yX11_at : MethodName := ⟨RX11, "at", "(III)I"⟩
abbrev cX11_apart : ByteArray := prog_13_method_37_code
def yX11_apart : MethodName := ⟨RX11, "apart", "(III)I"⟩
abbrev cX11_meets : ByteArray := prog_13_method_38_code
def yX11_meets : MethodName := ⟨RX11, "meets", "(II)I"⟩
abbrev cX11_often : ByteArray := prog_13_method_39_code
def yX11_often : MethodName := ⟨RX11, "often", "(III)I"⟩
abbrev cX11_common : ByteArray := prog_13_method_40_code
def yX11_common : MethodName := ⟨RX11, "common", "(JJ)J"⟩
abbrev cX11_isSet : ByteArray := prog_13_method_41_code
def yX11_isSet : MethodName := ⟨RX11, "isSet", "(I)Z"⟩
abbrev cX11_together : ByteArray := prog_13_method_42_code
def yX11_together : MethodName := ⟨RX11, "together", "(I)J"⟩
abbrev cX11_start : ByteArray := prog_13_method_43_code
def yX11_start : MethodName := ⟨RX11, "start", "(I)J"⟩
abbrev cX11_moodOn : ByteArray := prog_13_method_44_code
def yX11_moodOn : MethodName := ⟨RX11, "moodOn", "(IJ)I"⟩
abbrev cX11_mood : ByteArray := prog_13_method_45_code
def yX11_mood : MethodName := ⟨RX11, "mood", "(II)I"⟩
abbrev cX11_best : ByteArray := prog_13_method_46_code
def yX11_best : MethodName := ⟨RX11, "best", "(III)I"⟩
abbrev cX11_isQuiet : ByteArray := prog_13_method_47_code
def yX11_isQuiet : MethodName := ⟨RX11, "isQuiet", "(IJ)Z"⟩
abbrev cX11_sign : ByteArray := prog_13_method_48_code
def yX11_sign : MethodName := ⟨RX11, "sign", "(III)I"⟩
abbrev cX11_meetsMoved : ByteArray := prog_13_method_49_code
def yX11_meetsMoved : MethodName := ⟨RX11, "meetsMoved", "(IIIJ)Z"⟩
abbrev cX11_nudge : ByteArray := prog_13_method_50_code
def yX11_nudge : MethodName := ⟨RX11, "nudge", "(II)I"⟩
abbrev cX11_never : ByteArray := prog_13_method_51_code
def yX11_never : MethodName := ⟨RX11, "never", "(III)I"⟩
abbrev cX11_ago : ByteArray := prog_13_method_52_code
def yX11_ago : MethodName := ⟨RX11, "ago", "(II)I"⟩
abbrev cX11_scene : ByteArray := prog_13_method_53_code
def yX11_scene : MethodName := ⟨RX11, "scene", "(I)I"⟩
abbrev cX11_begins : ByteArray := prog_13_method_54_code
def yX11_begins : MethodName := ⟨RX11, "begins", "()V"⟩
abbrev cX11_apartNow : ByteArray := prog_13_method_55_code
def yX11_apartNow : MethodName := ⟨RX11, "apartNow", "(II)I"⟩
abbrev cX11_meetNow : ByteArray := prog_13_method_56_code
def yX11_meetNow : MethodName := ⟨RX11, "meetNow", "(II)Z"⟩
abbrev cX11_meetsAnybody : ByteArray := prog_13_method_57_code
def yX11_meetsAnybody : MethodName := ⟨RX11, "meetsAnybody", "(I)Z"⟩
abbrev cX11_pushOf : ByteArray := prog_13_method_58_code
def yX11_pushOf : MethodName := ⟨RX11, "pushOf", "(III)I"⟩
abbrev cX11_passes : ByteArray := prog_13_method_59_code
def yX11_passes : MethodName := ⟨RX11, "passes", "(I)V"⟩
abbrev cX11_goes : ByteArray := prog_13_method_60_code
def yX11_goes : MethodName := ⟨RX11, "goes", "(I)V"⟩
abbrev cX11_isPushed : ByteArray := prog_13_method_61_code
def yX11_isPushed : MethodName := ⟨RX11, "isPushed", "(I)Z"⟩
abbrev cX11_later : ByteArray := prog_13_method_62_code
def yX11_later : MethodName := ⟨RX11, "later", "(II)I"⟩
abbrev cX11_pushes : ByteArray := prog_13_method_63_code
def yX11_pushes : MethodName := ⟨RX11, "pushes", "(II)I"⟩
abbrev cX11_met : ByteArray := prog_13_method_64_code
def yX11_met : MethodName := ⟨RX11, "met", "(II)I"⟩
abbrev cX11_stoodAs : ByteArray := prog_13_method_65_code
def yX11_stoodAs : MethodName := ⟨RX11, "stoodAs", "(II)Z"⟩
abbrev cX11_again : ByteArray := prog_13_method_66_code
def yX11_again : MethodName := ⟨RX11, "again", "(I)I"⟩
abbrev cX11_bytesIs : ByteArray := prog_13_method_67_code
def yX11_bytesIs : MethodName := ⟨RX11, "bytesIs", "(I)I"⟩
abbrev cX11_firstFalse : ByteArray := prog_13_method_68_code
def yX11_firstFalse : MethodName := ⟨RX11, "firstFalse", "(II)I"⟩
abbrev cX11_judge : ByteArray := prog_13_method_69_code
def yX11_judge : MethodName := ⟨RX11, "judge", "(II)I"⟩
abbrev cX11_liking : ByteArray := prog_13_method_70_code
def yX11_liking : MethodName := ⟨RX11, "liking", "(IIII)I"⟩
abbrev cX11_whose : ByteArray := prog_13_method_71_code
def yX11_whose : MethodName := ⟨RX11, "whose", "(I)I"⟩
abbrev cX11_byTurns : ByteArray := prog_13_method_72_code
def yX11_byTurns : MethodName := ⟨RX11, "byTurns", "(III)I"⟩
abbrev cX11_crowd : ByteArray := prog_13_method_73_code
def yX11_crowd : MethodName := ⟨RX11, "crowd", "(III)I"⟩
abbrev cX11_gapBehind : ByteArray := prog_13_method_74_code
def yX11_gapBehind : MethodName := ⟨RX11, "gapBehind", "(III)I"⟩
abbrev cX11_arc : ByteArray := prog_13_method_75_code
def yX11_arc : MethodName := ⟨RX11, "arc", "(II)I"⟩
abbrev cX11_drawn : ByteArray := prog_13_method_76_code
def yX11_drawn : MethodName := ⟨RX11, "drawn", "(III)I"⟩
abbrev cX11_day : ByteArray := prog_13_method_77_code
def yX11_day : MethodName := ⟨RX11, "day", "()I"⟩
abbrev cX11_nudged : ByteArray := prog_13_method_78_code
def yX11_nudged : MethodName := ⟨RX11, "nudged", "(II)I"⟩
abbrev cX11_led : ByteArray := prog_13_method_79_code
def yX11_led : MethodName := ⟨RX11, "led", "(I)I"⟩
abbrev cX11_image : ByteArray := prog_13_method_80_code
def yX11_image : MethodName := ⟨RX11, "image", "()I"⟩
abbrev cX11_back : ByteArray := prog_13_method_81_code
def yX11_back : MethodName := ⟨RX11, "back", "()I"⟩
abbrev cX11_isBody : ByteArray := prog_13_method_82_code
def yX11_isBody : MethodName := ⟨RX11, "isBody", "(I)Z"⟩
abbrev cX11_kindOf : ByteArray := prog_13_method_83_code
def yX11_kindOf : MethodName := ⟨RX11, "kindOf", "(I)I"⟩
abbrev cX11_body : ByteArray := prog_13_method_84_code
def yX11_body : MethodName := ⟨RX11, "body", "(I)I"⟩
abbrev cX11_above : ByteArray := prog_13_method_85_code
def yX11_above : MethodName := ⟨RX11, "above", "(I)I"⟩
abbrev cX11_runs : ByteArray := prog_13_method_86_code
def yX11_runs : MethodName := ⟨RX11, "runs", "(I)V"⟩
abbrev cX11_drawsAs : ByteArray := prog_13_method_87_code
def yX11_drawsAs : MethodName := ⟨RX11, "drawsAs", "(II)I"⟩
abbrev cX11_meetsAs : ByteArray := prog_13_method_88_code
def yX11_meetsAs : MethodName := ⟨RX11, "meetsAs", "(II)I"⟩
abbrev cX11_shunsAs : ByteArray := prog_13_method_89_code
def yX11_shunsAs : MethodName := ⟨RX11, "shunsAs", "(II)I"⟩
abbrev cX11_tellsAs : ByteArray := prog_13_method_90_code
def yX11_tellsAs : MethodName := ⟨RX11, "tellsAs", "(II)I"⟩
abbrev cX11_act : ByteArray := prog_13_method_91_code
def yX11_act : MethodName := ⟨RX11, "act", "(III)I"⟩
abbrev cX11_trace : ByteArray := prog_13_method_92_code
def yX11_trace : MethodName := ⟨RX11, "trace", "(I)I"⟩
abbrev cX11_isShelf : ByteArray := prog_13_method_93_code
def yX11_isShelf : MethodName := ⟨RX11, "isShelf", "(I)Z"⟩
abbrev cX11_keep : ByteArray := prog_13_method_94_code
def yX11_keep : MethodName := ⟨RX11, "keep", "(II)I"⟩
abbrev cX11_row : ByteArray := prog_13_method_95_code
def yX11_row : MethodName := ⟨RX11, "row", "(III)I"⟩
abbrev cX11_refusal : ByteArray := prog_13_method_96_code
def yX11_refusal : MethodName := ⟨RX11, "refusal", "(II)I"⟩
abbrev cX11_asSort : ByteArray := prog_13_method_97_code
def yX11_asSort : MethodName := ⟨RX11, "asSort", "(IJ)J"⟩
abbrev cX11_put : ByteArray := prog_13_method_98_code
def yX11_put : MethodName := ⟨RX11, "put", "(IIJ)I"⟩
abbrev cX11_element : ByteArray := prog_13_method_99_code
def yX11_element : MethodName := ⟨RX11, "element", "(II)J"⟩
abbrev cX11_shift : ByteArray := prog_13_method_100_code
def yX11_shift : MethodName := ⟨RX11, "shift", "(IIIII)I"⟩
abbrev cX11_taken : ByteArray := prog_13_method_101_code
def yX11_taken : MethodName := ⟨RX11, "taken", "(II)I"⟩
abbrev cX11_count : ByteArray := prog_13_method_102_code
def yX11_count : MethodName := ⟨RX11, "count", "(I)I"⟩
def RJ6 : String := "java/lang/Integer"
abbrev cJ6_bitCount_0f7a4 : ByteArray := prog_14_method_49_code
def yJ6_bitCount_0f7a4 : MethodName := ⟨RJ6, "bitCount", "(I)I"⟩
def RJ9 : String := "java/lang/Math"
abbrev cJ9_floorMod_7cf53 : ByteArray := prog_15_method_50_code
def yJ9_floorMod_7cf53 : MethodName := ⟨RJ9, "floorMod", "(II)I"⟩
abbrev cJ9_abs_0f7a4 : ByteArray := prog_15_method_59_code
def yJ9_abs_0f7a4 : MethodName := ⟨RJ9, "abs", "(I)I"⟩
abbrev cJ9_max_7cf53 : ByteArray := prog_15_method_65_code
def yJ9_max_7cf53 : MethodName := ⟨RJ9, "max", "(II)I"⟩
abbrev cJ9_min_7cf53 : ByteArray := prog_15_method_69_code
def yJ9_min_7cf53 : MethodName := ⟨RJ9, "min", "(II)I"⟩
abbrev cJ9_min_f86c9 : ByteArray := prog_15_method_70_code
def yJ9_min_f86c9 : MethodName := ⟨RJ9, "min", "(JJ)J"⟩
def RJ10 : String := "java/lang/System"
def RJ7 : String := "java/util/Arrays"
abbrev cJ7_fill_d0a16 : ByteArray := prog_17_method_101_code
def yJ7_fill_d0a16 : MethodName := ⟨RJ7, "fill", "([JJ)V"⟩
abbrev cJ7_fill_53178 : ByteArray := prog_17_method_103_code
def yJ7_fill_53178 : MethodName := ⟨RJ7, "fill", "([II)V"⟩
def RL : String := "OrbitsWedLaw"
abbrev cL_law : ByteArray := code
def yL_law : MethodName := ⟨RL, "law", "([I)Z"⟩
abbrev vwCl : List vw_C := [(RX0, TX0, 6), (RX1, TX1, 1), (RX2, TX2, 12), (RX3, TX3, 3), (RX4, TX4, 5), (RX5, TX5, 4), (RX6, TX6, 5), (RX7, TX7, 6), (RX8, TX8, 6), (RX9, TX9, 8), (RX10, TX10, 10), (RX11, TX11, 39)]
end
section
/-! THE TABLES, by program: methods, words -/
/-- methods: owner, name, bytes, locals, answer, static, parameters, places of its words -/
abbrev Am_m : Type := Nat × MethodName × ByteArray × Nat × Option FieldType × Bool × Nat × List Nat
def am_mt0 : List Am_m := [(0, ⟨RX0, "add", "(IIII)V"⟩, cX0_add, 5, (Option.none : Option Jvm.ClassFile.FieldType), false, 4, [613, 481, 614, 615]), (0, ⟨RX0, "forgetOldest", "()V"⟩, cX0_forgetOldest, 2, (Option.none : Option Jvm.ClassFile.FieldType), false, 0, [616, 481, 617, 618]), (1, ⟨RX1, "firstMeeting", "(III)I"⟩, cX1_firstMeeting, 6, (Option.some Jvm.ClassFile.FieldType.int), false, 3, [619, 482, 620, 621]), (1, ⟨RX1, "meetingsIn", "(IIII)I"⟩, cX1_meetingsIn, 7, (Option.some Jvm.ClassFile.FieldType.int), false, 4, [622, 482, 623, 624]), (1, ⟨RX1, "togetherAgain", "(I)J"⟩, cX1_togetherAgain, 5, (Option.some Jvm.ClassFile.FieldType.long), false, 1, [625, 482, 626, 627]), (1, ⟨RX1, "allAtStart", "(I)J"⟩, cX1_allAtStart, 7, (Option.some Jvm.ClassFile.FieldType.long), false, 1, [628, 482, 629, 630]), (1, ⟨RX1, "nextAtStart", "(IJJ)J"⟩, cX1_nextAtStart, 9, (Option.some Jvm.ClassFile.FieldType.long), false, 3, [631, 482, 632, 633]), (1, ⟨RX1, "leastCommon", "(JJ)J"⟩, cX1_leastCommon, 11, (Option.some Jvm.ClassFile.FieldType.long), true, 2, [634, 482, 635]), (1, ⟨RX1, "moodOn", "(II)I"⟩, cX1_moodOn, 5, (Option.some Jvm.ClassFile.FieldType.int), false, 2, [636, 482, 637, 638]), (1, ⟨RX1, "bestDay", "(III)I"⟩, cX1_bestDay, 8, (Option.some Jvm.ClassFile.FieldType.int), false, 3, [639, 482, 640, 641]), (1, ⟨RX1, "metOn", "(II)I"⟩, cX1_metOn, 5, (Option.some Jvm.ClassFile.FieldType.int), false, 2, [642, 482, 643, 644]), (1, ⟨RX1, "isFree", "(II)Z"⟩, cX1_isFree, 4, (Option.some Jvm.ClassFile.FieldType.boolean), false, 2, [645, 482, 646, 647]), (1, ⟨RX1, "firstFreeDay", "(II)I"⟩, cX1_firstFreeDay, 6, (Option.some Jvm.ClassFile.FieldType.int), false, 2, [648, 482, 649, 650]), (1, ⟨RX1, "freeDaysIn", "(III)I"⟩, cX1_freeDaysIn, 6, (Option.some Jvm.ClassFile.FieldType.int), false, 3, [651, 482, 652, 653]), (1, ⟨RX1, "leastNudge", "(III)I"⟩, cX1_leastNudge, 5, (Option.some Jvm.ClassFile.FieldType.int), false, 3, [654, 482, 655, 656]), (1, ⟨RX1, "isLonely", "(IIII)Z"⟩, cX1_isLonely, 7, (Option.some Jvm.ClassFile.FieldType.boolean), false, 4, [657, 482, 658, 659]), (1, ⟨RX1, "lonelyPlaces", "(III)I"⟩, cX1_lonelyPlaces, 6, (Option.some Jvm.ClassFile.FieldType.int), false, 3, [660, 482, 661, 662]), (1, ⟨RX1, "leastLonelyPlace", "(III)I"⟩, cX1_leastLonelyPlace, 5, (Option.some Jvm.ClassFile.FieldType.int), false, 3, [663, 482, 664, 665]), (1, ⟨RX1, "daysSinceScene", "(II)I"⟩, cX1_daysSinceScene, 4, (Option.some Jvm.ClassFile.FieldType.int), false, 2, [666, 482, 667, 668]), (1, ⟨RX1, "firstWinningNudge", "(IIII)I"⟩, cX1_firstWinningNudge, 6, (Option.some Jvm.ClassFile.FieldType.int), false, 4, [669, 482, 670, 671])]
def am_mt1 : List Am_m := [(1, ⟨RX1, "endsMet", "(IIIIIZ)Z"⟩, cX1_endsMet, 8, (Option.some Jvm.ClassFile.FieldType.boolean), false, 6, [672, 482, 673, 674]), (1, ⟨RX1, "leastArc", "(II)I"⟩, cX1_leastArc, 5, (Option.some Jvm.ClassFile.FieldType.int), false, 2, [675, 482, 676, 677]), (1, ⟨RX1, "arcFrom", "(III)I"⟩, cX1_arcFrom, 7, (Option.some Jvm.ClassFile.FieldType.int), false, 3, [678, 482, 679, 680]), (2, ⟨RX2, "keepImage", "()V"⟩, cX2_keepImage, 2, (Option.none : Option Jvm.ClassFile.FieldType), false, 0, [681, 483, 682, 683]), (2, ⟨RX2, "layBack", "()V"⟩, cX2_layBack, 2, (Option.none : Option Jvm.ClassFile.FieldType), false, 0, [684, 483, 685, 686]), (3, ⟨RX3, "placeBehind", "(II)I"⟩, cX3_placeBehind, 4, (Option.some Jvm.ClassFile.FieldType.int), false, 2, [687, 484, 688, 689]), (3, ⟨RX3, "pushesIn", "(I)I"⟩, cX3_pushesIn, 4, (Option.some Jvm.ClassFile.FieldType.int), false, 1, [690, 484, 691, 692]), (3, ⟨RX3, "firstPushIn", "(I)I"⟩, cX3_firstPushIn, 3, (Option.some Jvm.ClassFile.FieldType.int), false, 1, [693, 484, 694, 695]), (3, ⟨RX3, "meetingsIn", "(III)I"⟩, cX3_meetingsIn, 6, (Option.some Jvm.ClassFile.FieldType.int), false, 3, [696, 484, 697, 698]), (3, ⟨RX3, "roundAgain", "(Z)I"⟩, cX3_roundAgain, 4, (Option.some Jvm.ClassFile.FieldType.int), false, 1, [699, 484, 700, 701]), (3, ⟨RX3, "firstSeen", "(I)I"⟩, cX3_firstSeen, 3, (Option.some Jvm.ClassFile.FieldType.int), false, 1, [702, 484, 703, 704]), (3, ⟨RX3, "firstUnlike", "([JII)I"⟩, cX3_firstUnlike, 5, (Option.some Jvm.ClassFile.FieldType.int), false, 3, [705, 484, 706, 707]), (3, ⟨RX3, "drawnYears", "(IIIII)I"⟩, cX3_drawnYears, 11, (Option.some Jvm.ClassFile.FieldType.int), false, 5, [708, 484, 709, 710]), (3, ⟨RX3, "slipped", "(II)I"⟩, cX3_slipped, 5, (Option.some Jvm.ClassFile.FieldType.int), false, 2, [711, 484, 712, 713]), (4, ⟨RX4, "nameOf", "(I)I"⟩, cX4_nameOf, 1, (Option.some Jvm.ClassFile.FieldType.int), true, 1, [714, 485, 715]), (4, ⟨RX4, "become", "(LOrbitsWed$Tape;)V"⟩, cX4_become, 3, (Option.none : Option Jvm.ClassFile.FieldType), false, 1, [716, 485, 717, 718]), (4, ⟨RX4, "turnTo", "(III)V"⟩, cX4_turnTo, 4, (Option.none : Option Jvm.ClassFile.FieldType), false, 3, [719, 485, 720, 721]), (4, ⟨RX4, "push", "(III)I"⟩, cX4_push, 5, (Option.some Jvm.ClassFile.FieldType.int), false, 3, [722, 485, 723, 724]), (4, ⟨RX4, "workedOut", "()I"⟩, cX4_workedOut, 6, (Option.some Jvm.ClassFile.FieldType.int), false, 0, [725, 485, 726, 727]), (4, ⟨RX4, "namedBy", "(I)I"⟩, cX4_namedBy, 2, (Option.some Jvm.ClassFile.FieldType.int), false, 1, [728, 485, 729, 730])]
def am_mt2 : List Am_m := [(4, ⟨RX4, "turned", "(II)I"⟩, cX4_turned, 2, (Option.some Jvm.ClassFile.FieldType.int), true, 2, [731, 485, 732]), (4, ⟨RX4, "joined", "(III)I"⟩, cX4_joined, 3, (Option.some Jvm.ClassFile.FieldType.int), true, 3, [733, 485, 734]), (5, ⟨RX5, "isKind", "(I)Z"⟩, cX5_isKind, 1, (Option.some Jvm.ClassFile.FieldType.boolean), true, 1, [735, 486, 736]), (5, ⟨RX5, "isUnder", "(II)Z"⟩, cX5_isUnder, 4, (Option.some Jvm.ClassFile.FieldType.boolean), true, 2, [737, 486, 738]), (5, ⟨RX5, "has", "(I)Z"⟩, cX5_has, 2, (Option.some Jvm.ClassFile.FieldType.boolean), false, 1, [739, 486, 740, 741]), (5, ⟨RX5, "added", "(I)I"⟩, cX5_added, 2, (Option.some Jvm.ClassFile.FieldType.int), false, 1, [742, 486, 743, 744]), (5, ⟨RX5, "acted", "(III)I"⟩, cX5_acted, 4, (Option.some Jvm.ClassFile.FieldType.int), false, 3, [745, 486, 746, 747]), (5, ⟨RX5, "own", "(IIII)I"⟩, cX5_own, 5, (Option.some Jvm.ClassFile.FieldType.int), false, 4, [748, 486, 749, 750]), (5, ⟨RX5, "above", "(IIIII)I"⟩, cX5_above, 6, (Option.some Jvm.ClassFile.FieldType.int), false, 5, [751, 486, 752, 753]), (5, ⟨RX5, "ranFrom", "(IIIII)I"⟩, cX5_ranFrom, 7, (Option.some Jvm.ClassFile.FieldType.int), false, 5, [754, 486, 755, 756]), (5, ⟨RX5, "codeFrom", "(II)I"⟩, cX5_codeFrom, 5, (Option.some Jvm.ClassFile.FieldType.int), true, 2, [757, 486, 758]), (5, ⟨RX5, "note", "(I)V"⟩, cX5_note, 2, (Option.none : Option Jvm.ClassFile.FieldType), false, 1, [759, 486, 760, 761]), (5, ⟨RX5, "drawing", "(IIII)I"⟩, cX5_drawing, 5, (Option.some Jvm.ClassFile.FieldType.int), false, 4, [762, 486, 763, 764]), (5, ⟨RX5, "meeting", "(IIII)I"⟩, cX5_meeting, 5, (Option.some Jvm.ClassFile.FieldType.int), false, 4, [765, 486, 766, 767]), (5, ⟨RX5, "shunning", "(IIII)I"⟩, cX5_shunning, 5, (Option.some Jvm.ClassFile.FieldType.int), false, 4, [768, 486, 769, 770]), (5, ⟨RX5, "telling", "(IIII)I"⟩, cX5_telling, 5, (Option.some Jvm.ClassFile.FieldType.int), false, 4, [771, 486, 772, 773]), (6, ⟨RX6, "isShelf", "(I)Z"⟩, cX6_isShelf, 1, (Option.some Jvm.ClassFile.FieldType.boolean), true, 1, [774, 487, 775]), (6, ⟨RX6, "isEmpty", "(I)Z"⟩, cX6_isEmpty, 2, (Option.some Jvm.ClassFile.FieldType.boolean), false, 1, [776, 487, 777, 778]), (6, ⟨RX6, "isMood", "(I)Z"⟩, cX6_isMood, 2, (Option.some Jvm.ClassFile.FieldType.boolean), false, 1, [779, 487, 780, 781]), (6, ⟨RX6, "isBook", "(I)Z"⟩, cX6_isBook, 2, (Option.some Jvm.ClassFile.FieldType.boolean), false, 1, [782, 487, 783, 784])]
def am_mt3 : List Am_m := [(6, ⟨RX6, "clear", "(I)V"⟩, cX6_clear, 2, (Option.none : Option Jvm.ClassFile.FieldType), false, 1, [785, 487, 786, 787]), (6, ⟨RX6, "holdMood", "(II)V"⟩, cX6_holdMood, 3, (Option.none : Option Jvm.ClassFile.FieldType), false, 2, [788, 487, 789, 790]), (6, ⟨RX6, "holdRow", "(III)V"⟩, cX6_holdRow, 4, (Option.none : Option Jvm.ClassFile.FieldType), false, 3, [791, 487, 792, 793]), (6, ⟨RX6, "rowRefusal", "(I)I"⟩, cX6_rowRefusal, 2, (Option.some Jvm.ClassFile.FieldType.int), false, 1, [794, 487, 795, 796]), (6, ⟨RX6, "bookRefusal", "(I)I"⟩, cX6_bookRefusal, 3, (Option.some Jvm.ClassFile.FieldType.int), false, 1, [797, 487, 798, 799]), (6, ⟨RX6, "placeRefusal", "(II)I"⟩, cX6_placeRefusal, 4, (Option.some Jvm.ClassFile.FieldType.int), false, 2, [800, 487, 801, 802]), (6, ⟨RX6, "pairRefusal", "(II)I"⟩, cX6_pairRefusal, 3, (Option.some Jvm.ClassFile.FieldType.int), false, 2, [803, 487, 804, 805]), (6, ⟨RX6, "hasSpan", "(III)Z"⟩, cX6_hasSpan, 4, (Option.some Jvm.ClassFile.FieldType.boolean), false, 3, [806, 487, 807, 808]), (6, ⟨RX6, "lowest", "(IJ)J"⟩, cX6_lowest, 3, (Option.some Jvm.ClassFile.FieldType.long), true, 2, [809, 487, 810]), (7, ⟨RX7, "fitsBody", "(III)Z"⟩, cX7_fitsBody, 3, (Option.some Jvm.ClassFile.FieldType.boolean), true, 3, [811, 488, 812]), (7, ⟨RX7, "added", "(III)I"⟩, cX7_added, 4, (Option.some Jvm.ClassFile.FieldType.int), false, 3, [813, 488, 814, 815]), (7, ⟨RX7, "has", "(I)Z"⟩, cX7_has, 2, (Option.some Jvm.ClassFile.FieldType.boolean), false, 1, [816, 488, 817, 818]), (7, ⟨RX7, "hasPair", "(I)Z"⟩, cX7_hasPair, 2, (Option.some Jvm.ClassFile.FieldType.boolean), false, 1, [819, 488, 820, 821]), (7, ⟨RX7, "hasAll", "(I)Z"⟩, cX7_hasAll, 2, (Option.some Jvm.ClassFile.FieldType.boolean), false, 1, [822, 488, 823, 824]), (7, ⟨RX7, "hasNumber", "(II)Z"⟩, cX7_hasNumber, 3, (Option.some Jvm.ClassFile.FieldType.boolean), false, 2, [825, 488, 826, 827]), (7, ⟨RX7, "fitsNumber", "(III)Z"⟩, cX7_fitsNumber, 4, (Option.some Jvm.ClassFile.FieldType.boolean), false, 3, [828, 488, 829, 830]), (7, ⟨RX7, "told", "(II)I"⟩, cX7_told, 3, (Option.some Jvm.ClassFile.FieldType.int), false, 2, [831, 488, 832, 833]), (7, ⟨RX7, "tell", "(III)V"⟩, cX7_tell, 4, (Option.none : Option Jvm.ClassFile.FieldType), false, 3, [834, 488, 835, 836]), (7, ⟨RX7, "degrees", "(II)I"⟩, cX7_degrees, 3, (Option.some Jvm.ClassFile.FieldType.int), false, 2, [837, 488, 838, 839]), (7, ⟨RX7, "gap", "(II)I"⟩, cX7_gap, 3, (Option.some Jvm.ClassFile.FieldType.int), true, 2, [840, 488, 841])]
def am_mt4 : List Am_m := [(7, ⟨RX7, "placeOn", "(II)I"⟩, cX7_placeOn, 3, (Option.some Jvm.ClassFile.FieldType.int), false, 2, [842, 488, 843, 844]), (7, ⟨RX7, "degreesOn", "(II)I"⟩, cX7_degreesOn, 3, (Option.some Jvm.ClassFile.FieldType.int), false, 2, [845, 488, 846, 847]), (7, ⟨RX7, "gapOn", "(III)I"⟩, cX7_gapOn, 4, (Option.some Jvm.ClassFile.FieldType.int), false, 3, [848, 488, 849, 850]), (7, ⟨RX7, "meetOn", "(III)Z"⟩, cX7_meetOn, 4, (Option.some Jvm.ClassFile.FieldType.boolean), false, 3, [851, 488, 852, 853]), (7, ⟨RX7, "meetMoved", "(IIII)Z"⟩, cX7_meetMoved, 5, (Option.some Jvm.ClassFile.FieldType.boolean), false, 4, [854, 488, 855, 856]), (8, ⟨RX8, "fed", "(I)I"⟩, cX8_fed, 2, (Option.some Jvm.ClassFile.FieldType.int), false, 1, [857, 489, 858, 859]), (8, ⟨RX8, "isText", "()Z"⟩, cX8_isText, 2, (Option.some Jvm.ClassFile.FieldType.boolean), false, 0, [860, 489, 861, 862]), (8, ⟨RX8, "next", "()I"⟩, cX8_next, 1, (Option.some Jvm.ClassFile.FieldType.int), false, 0, [863, 489, 864, 865]), (8, ⟨RX8, "draft", "(II)V"⟩, cX8_draft, 3, (Option.none : Option Jvm.ClassFile.FieldType), false, 2, [866, 489, 867, 868]), (8, ⟨RX8, "readsLine", "()Z"⟩, cX8_readsLine, 2, (Option.some Jvm.ClassFile.FieldType.boolean), false, 0, [869, 489, 870, 871]), (8, ⟨RX8, "readsEither", "(I)Z"⟩, cX8_readsEither, 3, (Option.some Jvm.ClassFile.FieldType.boolean), false, 1, [872, 489, 873, 874]), (8, ⟨RX8, "readsBoth", "(I)Z"⟩, cX8_readsBoth, 3, (Option.some Jvm.ClassFile.FieldType.boolean), false, 1, [875, 489, 876, 877]), (8, ⟨RX8, "readsCompared", "(I)Z"⟩, cX8_readsCompared, 3, (Option.some Jvm.ClassFile.FieldType.boolean), false, 1, [878, 489, 879, 880]), (8, ⟨RX8, "readsSum", "(I)Z"⟩, cX8_readsSum, 4, (Option.some Jvm.ClassFile.FieldType.boolean), false, 1, [881, 489, 882, 883]), (8, ⟨RX8, "readsProduct", "(I)Z"⟩, cX8_readsProduct, 4, (Option.some Jvm.ClassFile.FieldType.boolean), false, 1, [884, 489, 885, 886]), (8, ⟨RX8, "readsOperand", "(I)Z"⟩, cX8_readsOperand, 4, (Option.some Jvm.ClassFile.FieldType.boolean), false, 1, [887, 489, 888, 889]), (8, ⟨RX8, "readsClosed", "(I)Z"⟩, cX8_readsClosed, 2, (Option.some Jvm.ClassFile.FieldType.boolean), false, 1, [890, 489, 891, 892]), (8, ⟨RX8, "readsTurned", "(II)Z"⟩, cX8_readsTurned, 3, (Option.some Jvm.ClassFile.FieldType.boolean), false, 2, [893, 489, 894, 895]), (8, ⟨RX8, "readNumber", "()V"⟩, cX8_readNumber, 3, (Option.none : Option Jvm.ClassFile.FieldType), false, 0, [896, 489, 897, 898]), (9, ⟨RX9, "begin", "()V"⟩, cX9_begin, 2, (Option.none : Option Jvm.ClassFile.FieldType), false, 0, [899, 490, 900, 901])]
def am_mt5 : List Am_m := [(9, ⟨RX9, "keepPlaces", "()V"⟩, cX9_keepPlaces, 2, (Option.none : Option Jvm.ClassFile.FieldType), false, 0, [902, 490, 903, 904]), (9, ⟨RX9, "pass", "(I)V"⟩, cX9_pass, 3, (Option.none : Option Jvm.ClassFile.FieldType), false, 1, [905, 490, 906, 907]), (9, ⟨RX9, "move", "(II)V"⟩, cX9_move, 3, (Option.none : Option Jvm.ClassFile.FieldType), false, 2, [908, 490, 909, 910]), (9, ⟨RX9, "look", "()V"⟩, cX9_look, 3, (Option.none : Option Jvm.ClassFile.FieldType), false, 0, [911, 490, 912, 913]), (9, ⟨RX9, "pushOf", "(II)I"⟩, cX9_pushOf, 7, (Option.some Jvm.ClassFile.FieldType.int), false, 2, [914, 490, 915, 916]), (9, ⟨RX9, "allPlaces", "()J"⟩, cX9_allPlaces, 4, (Option.some Jvm.ClassFile.FieldType.long), false, 0, [917, 490, 918, 919]), (9, ⟨RX9, "areAllAtStart", "()Z"⟩, cX9_areAllAtStart, 1, (Option.some Jvm.ClassFile.FieldType.boolean), false, 0, [920, 490, 921, 922]), (10, ⟨RX10, "orb", "(II)I"⟩, cX10_orb, 3, (Option.some Jvm.ClassFile.FieldType.int), false, 2, [923, 491, 924, 925]), (10, ⟨RX10, "orbs", "(III)I"⟩, cX10_orbs, 4, (Option.some Jvm.ClassFile.FieldType.int), false, 3, [926, 491, 927, 928]), (10, ⟨RX10, "mend", "(III)I"⟩, cX10_mend, 5, (Option.some Jvm.ClassFile.FieldType.int), false, 3, [929, 491, 930, 931]), (10, ⟨RX10, "of", "(II)I"⟩, cX10_of, 3, (Option.some Jvm.ClassFile.FieldType.int), false, 2, [932, 491, 933, 934]), (10, ⟨RX10, "feed", "(I)I"⟩, cX10_feed, 2, (Option.some Jvm.ClassFile.FieldType.int), false, 1, [935, 491, 936, 937]), (10, ⟨RX10, "law", "()I"⟩, cX10_law, 3, (Option.some Jvm.ClassFile.FieldType.int), false, 0, [938, 491, 939, 940]), (10, ⟨RX10, "at", "(III)I"⟩, cX10_at, 4, (Option.some Jvm.ClassFile.FieldType.int), false, 3, [941, 491, 942, 943]), (10, ⟨RX10, "apart", "(III)I"⟩, cX10_apart, 5, (Option.some Jvm.ClassFile.FieldType.int), false, 3, [944, 491, 945, 946]), (10, ⟨RX10, "meets", "(II)I"⟩, cX10_meets, 3, (Option.some Jvm.ClassFile.FieldType.int), false, 2, [947, 491, 948, 949]), (10, ⟨RX10, "often", "(III)I"⟩, cX10_often, 4, (Option.some Jvm.ClassFile.FieldType.int), false, 3, [950, 491, 951, 952]), (10, ⟨RX10, "together", "(I)J"⟩, cX10_together, 2, (Option.some Jvm.ClassFile.FieldType.long), false, 1, [953, 491, 954, 955]), (10, ⟨RX10, "start", "(I)J"⟩, cX10_start, 2, (Option.some Jvm.ClassFile.FieldType.long), false, 1, [956, 491, 957, 958]), (10, ⟨RX10, "mood", "(II)I"⟩, cX10_mood, 3, (Option.some Jvm.ClassFile.FieldType.int), false, 2, [959, 491, 960, 961])]
def am_mt6 : List Am_m := [(10, ⟨RX10, "best", "(III)I"⟩, cX10_best, 7, (Option.some Jvm.ClassFile.FieldType.int), false, 3, [962, 491, 963, 964]), (10, ⟨RX10, "sign", "(III)I"⟩, cX10_sign, 4, (Option.some Jvm.ClassFile.FieldType.int), false, 3, [965, 491, 966, 967]), (10, ⟨RX10, "nudge", "(II)I"⟩, cX10_nudge, 3, (Option.some Jvm.ClassFile.FieldType.int), false, 2, [968, 491, 969, 970]), (10, ⟨RX10, "never", "(III)I"⟩, cX10_never, 6, (Option.some Jvm.ClassFile.FieldType.int), false, 3, [971, 491, 972, 973]), (10, ⟨RX10, "scene", "(I)I"⟩, cX10_scene, 2, (Option.some Jvm.ClassFile.FieldType.int), false, 1, [974, 491, 975, 976]), (10, ⟨RX10, "later", "(II)I"⟩, cX10_later, 3, (Option.some Jvm.ClassFile.FieldType.int), false, 2, [977, 491, 978, 979]), (10, ⟨RX10, "pushes", "(II)I"⟩, cX10_pushes, 3, (Option.some Jvm.ClassFile.FieldType.int), false, 2, [980, 491, 981, 982]), (10, ⟨RX10, "met", "(II)I"⟩, cX10_met, 3, (Option.some Jvm.ClassFile.FieldType.int), false, 2, [983, 491, 984, 985]), (10, ⟨RX10, "again", "(I)I"⟩, cX10_again, 2, (Option.some Jvm.ClassFile.FieldType.int), false, 1, [986, 491, 987, 988]), (10, ⟨RX10, "judge", "(II)I"⟩, cX10_judge, 4, (Option.some Jvm.ClassFile.FieldType.int), false, 2, [989, 491, 990, 991]), (10, ⟨RX10, "liking", "(IIII)I"⟩, cX10_liking, 5, (Option.some Jvm.ClassFile.FieldType.int), false, 4, [992, 491, 993, 994]), (10, ⟨RX10, "whose", "(I)I"⟩, cX10_whose, 5, (Option.some Jvm.ClassFile.FieldType.int), false, 1, [995, 491, 996, 997]), (10, ⟨RX10, "byTurns", "(III)I"⟩, cX10_byTurns, 7, (Option.some Jvm.ClassFile.FieldType.int), false, 3, [998, 491, 999, 1000]), (10, ⟨RX10, "crowd", "(III)I"⟩, cX10_crowd, 5, (Option.some Jvm.ClassFile.FieldType.int), false, 3, [1001, 491, 1002, 1003]), (10, ⟨RX10, "arc", "(II)I"⟩, cX10_arc, 3, (Option.some Jvm.ClassFile.FieldType.int), false, 2, [1004, 491, 1005, 1006]), (10, ⟨RX10, "drawn", "(III)I"⟩, cX10_drawn, 7, (Option.some Jvm.ClassFile.FieldType.int), false, 3, [1007, 491, 1008, 1009]), (10, ⟨RX10, "day", "()I"⟩, cX10_day, 1, (Option.some Jvm.ClassFile.FieldType.int), false, 0, [1010, 491, 1011, 1012]), (10, ⟨RX10, "nudged", "(II)I"⟩, cX10_nudged, 3, (Option.some Jvm.ClassFile.FieldType.int), false, 2, [1013, 491, 1014, 1015]), (10, ⟨RX10, "led", "(I)I"⟩, cX10_led, 2, (Option.some Jvm.ClassFile.FieldType.int), false, 1, [1016, 491, 1017, 1018]), (10, ⟨RX10, "image", "()I"⟩, cX10_image, 1, (Option.some Jvm.ClassFile.FieldType.int), false, 0, [1019, 491, 1020, 1021])]
def am_mt7 : List Am_m := [(10, ⟨RX10, "back", "()I"⟩, cX10_back, 1, (Option.some Jvm.ClassFile.FieldType.int), false, 0, [1022, 491, 1023, 1024]), (10, ⟨RX10, "undo", "()I"⟩, cX10_undo, 2, (Option.some Jvm.ClassFile.FieldType.int), false, 0, [1025, 491, 1026, 1027]), (10, ⟨RX10, "redo", "()I"⟩, cX10_redo, 2, (Option.some Jvm.ClassFile.FieldType.int), false, 0, [1028, 491, 1029, 1030]), (10, ⟨RX10, "body", "(I)I"⟩, cX10_body, 2, (Option.some Jvm.ClassFile.FieldType.int), false, 1, [1031, 491, 1032, 1033]), (10, ⟨RX10, "act", "(III)I"⟩, cX10_act, 4, (Option.some Jvm.ClassFile.FieldType.int), false, 3, [1034, 491, 1035, 1036]), (10, ⟨RX10, "trace", "(I)I"⟩, cX10_trace, 2, (Option.some Jvm.ClassFile.FieldType.int), false, 1, [1037, 491, 1038, 1039]), (10, ⟨RX10, "keep", "(II)I"⟩, cX10_keep, 3, (Option.some Jvm.ClassFile.FieldType.int), false, 2, [1040, 491, 1041, 1042]), (10, ⟨RX10, "row", "(III)I"⟩, cX10_row, 4, (Option.some Jvm.ClassFile.FieldType.int), false, 3, [1043, 491, 1044, 1045]), (10, ⟨RX10, "put", "(IIJ)I"⟩, cX10_put, 6, (Option.some Jvm.ClassFile.FieldType.int), false, 3, [1046, 491, 1047, 1048]), (10, ⟨RX10, "element", "(II)J"⟩, cX10_element, 3, (Option.some Jvm.ClassFile.FieldType.long), false, 2, [1049, 491, 1050, 1051]), (10, ⟨RX10, "shift", "(IIIII)I"⟩, cX10_shift, 7, (Option.some Jvm.ClassFile.FieldType.int), false, 5, [1052, 491, 1053, 1054]), (10, ⟨RX10, "taken", "(II)I"⟩, cX10_taken, 4, (Option.some Jvm.ClassFile.FieldType.int), false, 2, [1055, 491, 1056, 1057]), (10, ⟨RX10, "count", "(I)I"⟩, cX10_count, 2, (Option.some Jvm.ClassFile.FieldType.int), false, 1, [1058, 491, 1059, 1060]), (10, ⟨RX10, "isDay", "(I)Z"⟩, cX10_isDay, 1, (Option.some Jvm.ClassFile.FieldType.boolean), true, 1, [1061, 491, 1062]), (10, ⟨RX10, "isWhat", "(I)Z"⟩, cX10_isWhat, 1, (Option.some Jvm.ClassFile.FieldType.boolean), true, 1, [1063, 491, 1064]), (10, ⟨RX10, "isSpan", "(I)Z"⟩, cX10_isSpan, 1, (Option.some Jvm.ClassFile.FieldType.boolean), true, 1, [1065, 491, 1066]), (10, ⟨RX10, "isPushedSpan", "(I)Z"⟩, cX10_isPushedSpan, 1, (Option.some Jvm.ClassFile.FieldType.boolean), true, 1, [1067, 491, 1068]), (10, ⟨RX10, "bodiesFrom", "(III)I"⟩, cX10_bodiesFrom, 12, (Option.some Jvm.ClassFile.FieldType.int), false, 3, [1069, 491, 1070, 1071]), (10, ⟨RX10, "likings", "(IIIZ)I"⟩, cX10_likings, 9, (Option.some Jvm.ClassFile.FieldType.int), false, 4, [1072, 491, 1073, 1074]), (11, ⟨RX11, "within", "(JJJ)Z"⟩, cX11_within, 6, (Option.some Jvm.ClassFile.FieldType.boolean), true, 3, [1075, 492, 1076])]
def am_mt8 : List Am_m := [(11, ⟨RX11, "isIn", "(II)Z"⟩, cX11_isIn, 2, (Option.some Jvm.ClassFile.FieldType.boolean), true, 2, [1077, 492, 1078]), (11, ⟨RX11, "becomes", "(II)I"⟩, cX11_becomes, 5, (Option.some Jvm.ClassFile.FieldType.int), false, 2, [1079, 492, 1080, 1081]), (11, ⟨RX11, "undo", "()I"⟩, cX11_undo, 1, (Option.some Jvm.ClassFile.FieldType.int), false, 0, [1082, 492, 1083, 1084]), (11, ⟨RX11, "redo", "()I"⟩, cX11_redo, 1, (Option.some Jvm.ClassFile.FieldType.int), false, 0, [1085, 492, 1086, 1087]), (11, ⟨RX11, "isOrb", "(J)Z"⟩, cX11_isOrb, 3, (Option.some Jvm.ClassFile.FieldType.boolean), false, 1, [1088, 492, 1089, 1090]), (11, ⟨RX11, "isAb", "(I)Z"⟩, cX11_isAb, 2, (Option.some Jvm.ClassFile.FieldType.boolean), false, 1, [1091, 492, 1092, 1093]), (11, ⟨RX11, "mayCome", "(JJJ)Z"⟩, cX11_mayCome, 6, (Option.some Jvm.ClassFile.FieldType.boolean), true, 3, [1094, 492, 1095]), (11, ⟨RX11, "adds", "(III)V"⟩, cX11_adds, 4, (Option.none : Option Jvm.ClassFile.FieldType), false, 3, [1096, 492, 1097, 1098]), (11, ⟨RX11, "orb", "(II)I"⟩, cX11_orb, 3, (Option.some Jvm.ClassFile.FieldType.int), false, 2, [1099, 492, 1100, 1101]), (11, ⟨RX11, "orbs", "(III)I"⟩, cX11_orbs, 7, (Option.some Jvm.ClassFile.FieldType.int), false, 3, [1102, 492, 1103, 1104]), (11, ⟨RX11, "placeOf", "(II)I"⟩, cX11_placeOf, 3, (Option.some Jvm.ClassFile.FieldType.int), false, 2, [1105, 492, 1106, 1107]), (11, ⟨RX11, "mayBecome", "(III)Z"⟩, cX11_mayBecome, 4, (Option.some Jvm.ClassFile.FieldType.boolean), false, 3, [1108, 492, 1109, 1110]), (11, ⟨RX11, "mend", "(III)I"⟩, cX11_mend, 5, (Option.some Jvm.ClassFile.FieldType.int), false, 3, [1111, 492, 1112, 1113]), (11, ⟨RX11, "of", "(II)I"⟩, cX11_of, 4, (Option.some Jvm.ClassFile.FieldType.int), false, 2, [1114, 492, 1115, 1116]), (11, ⟨RX11, "feed", "(I)I"⟩, cX11_feed, 2, (Option.some Jvm.ClassFile.FieldType.int), false, 1, [1117, 492, 1118, 1119]), (11, ⟨RX11, "byteAt", "()I"⟩, cX11_byteAt, 1, (Option.some Jvm.ClassFile.FieldType.int), false, 0, [1120, 492, 1121, 1122]), (11, ⟨RX11, "wrong", "()I"⟩, cX11_wrong, 1, (Option.some Jvm.ClassFile.FieldType.int), false, 0, [1123, 492, 1124, 1125]), (11, ⟨RX11, "takes", "(I)Z"⟩, cX11_takes, 2, (Option.some Jvm.ClassFile.FieldType.boolean), false, 1, [1126, 492, 1127, 1128]), (11, ⟨RX11, "either", "()I"⟩, cX11_either, 3, (Option.some Jvm.ClassFile.FieldType.int), false, 0, [1129, 492, 1130, 1131]), (11, ⟨RX11, "both", "()I"⟩, cX11_both, 3, (Option.some Jvm.ClassFile.FieldType.int), false, 0, [1132, 492, 1133, 1134])]
def am_mt9 : List Am_m := [(11, ⟨RX11, "compared", "()I"⟩, cX11_compared, 4, (Option.some Jvm.ClassFile.FieldType.int), false, 0, [1135, 492, 1136, 1137]), (11, ⟨RX11, "sums", "()I"⟩, cX11_sums, 4, (Option.some Jvm.ClassFile.FieldType.int), false, 0, [1138, 492, 1139, 1140]), (11, ⟨RX11, "product", "()I"⟩, cX11_product, 4, (Option.some Jvm.ClassFile.FieldType.int), false, 0, [1141, 492, 1142, 1143]), (11, ⟨RX11, "nameOf", "(I)I"⟩, cX11_nameOf, 1, (Option.some Jvm.ClassFile.FieldType.int), true, 1, [1144, 492, 1145]), (11, ⟨RX11, "one", "()I"⟩, cX11_one, 5, (Option.some Jvm.ClassFile.FieldType.int), false, 0, [1146, 492, 1147, 1148]), (11, ⟨RX11, "workOut", "(II)I"⟩, cX11_workOut, 8, (Option.some Jvm.ClassFile.FieldType.int), false, 2, [1149, 492, 1150, 1151]), (11, ⟨RX11, "law", "()I"⟩, cX11_law, 4, (Option.some Jvm.ClassFile.FieldType.int), false, 0, [1152, 492, 1153, 1154]), (11, ⟨RX11, "isDay", "(I)Z"⟩, cX11_isDay, 1, (Option.some Jvm.ClassFile.FieldType.boolean), true, 1, [1155, 492, 1156]), (11, ⟨RX11, "clock", "(IJ)I"⟩, cX11_clock, 4, (Option.some Jvm.ClassFile.FieldType.int), false, 2, [1157, 492, 1158, 1159]), (11, ⟨RX11, "degreesOf", "(II)I"⟩, cX11_degreesOf, 3, (Option.some Jvm.ClassFile.FieldType.int), false, 2, [1160, 492, 1161, 1162]), (11, ⟨RX11, "arcOf", "(II)I"⟩, cX11_arcOf, 3, (Option.some Jvm.ClassFile.FieldType.int), true, 2, [1163, 492, 1164]), (11, ⟨RX11, "apartOn", "(IIJ)I"⟩, cX11_apartOn, 5, (Option.some Jvm.ClassFile.FieldType.int), false, 3, [1165, 492, 1166, 1167]), (11, ⟨RX11, "meetOn", "(IIJ)Z"⟩, cX11_meetOn, 5, (Option.some Jvm.ClassFile.FieldType.boolean), false, 3, [1168, 492, 1169, 1170]), (11, ⟨RX11, "at", "(III)I"⟩, cX11_at, 4, (Option.some Jvm.ClassFile.FieldType.int), false, 3, [1171, 492, 1172, 1173]), (11, ⟨RX11, "apart", "(III)I"⟩, cX11_apart, 4, (Option.some Jvm.ClassFile.FieldType.int), false, 3, [1174, 492, 1175, 1176]), (11, ⟨RX11, "meets", "(II)I"⟩, cX11_meets, 4, (Option.some Jvm.ClassFile.FieldType.int), false, 2, [1177, 492, 1178, 1179]), (11, ⟨RX11, "often", "(III)I"⟩, cX11_often, 6, (Option.some Jvm.ClassFile.FieldType.int), false, 3, [1180, 492, 1181, 1182]), (11, ⟨RX11, "common", "(JJ)J"⟩, cX11_common, 10, (Option.some Jvm.ClassFile.FieldType.long), true, 2, [1183, 492, 1184]), (11, ⟨RX11, "isSet", "(I)Z"⟩, cX11_isSet, 2, (Option.some Jvm.ClassFile.FieldType.boolean), false, 1, [1185, 492, 1186, 1187]), (11, ⟨RX11, "together", "(I)J"⟩, cX11_together, 5, (Option.some Jvm.ClassFile.FieldType.long), false, 1, [1188, 492, 1189, 1190])]
def am_mt10 : List Am_m := [(11, ⟨RX11, "start", "(I)J"⟩, cX11_start, 8, (Option.some Jvm.ClassFile.FieldType.long), false, 1, [1191, 492, 1192, 1193]), (11, ⟨RX11, "moodOn", "(IJ)I"⟩, cX11_moodOn, 6, (Option.some Jvm.ClassFile.FieldType.int), false, 2, [1194, 492, 1195, 1196]), (11, ⟨RX11, "mood", "(II)I"⟩, cX11_mood, 3, (Option.some Jvm.ClassFile.FieldType.int), false, 2, [1197, 492, 1198, 1199]), (11, ⟨RX11, "best", "(III)I"⟩, cX11_best, 9, (Option.some Jvm.ClassFile.FieldType.int), false, 3, [1200, 492, 1201, 1202]), (11, ⟨RX11, "isQuiet", "(IJ)Z"⟩, cX11_isQuiet, 6, (Option.some Jvm.ClassFile.FieldType.boolean), false, 2, [1203, 492, 1204, 1205]), (11, ⟨RX11, "sign", "(III)I"⟩, cX11_sign, 6, (Option.some Jvm.ClassFile.FieldType.int), false, 3, [1206, 492, 1207, 1208]), (11, ⟨RX11, "meetsMoved", "(IIIJ)Z"⟩, cX11_meetsMoved, 7, (Option.some Jvm.ClassFile.FieldType.boolean), false, 4, [1209, 492, 1210, 1211]), (11, ⟨RX11, "nudge", "(II)I"⟩, cX11_nudge, 5, (Option.some Jvm.ClassFile.FieldType.int), false, 2, [1212, 492, 1213, 1214]), (11, ⟨RX11, "never", "(III)I"⟩, cX11_never, 10, (Option.some Jvm.ClassFile.FieldType.int), false, 3, [1215, 492, 1216, 1217]), (11, ⟨RX11, "ago", "(II)I"⟩, cX11_ago, 3, (Option.some Jvm.ClassFile.FieldType.int), false, 2, [1218, 492, 1219, 1220]), (11, ⟨RX11, "scene", "(I)I"⟩, cX11_scene, 3, (Option.some Jvm.ClassFile.FieldType.int), false, 1, [1221, 492, 1222, 1223]), (11, ⟨RX11, "begins", "()V"⟩, cX11_begins, 2, (Option.none : Option Jvm.ClassFile.FieldType), false, 0, [1224, 492, 1225, 1226]), (11, ⟨RX11, "apartNow", "(II)I"⟩, cX11_apartNow, 3, (Option.some Jvm.ClassFile.FieldType.int), false, 2, [1227, 492, 1228, 1229]), (11, ⟨RX11, "meetNow", "(II)Z"⟩, cX11_meetNow, 3, (Option.some Jvm.ClassFile.FieldType.boolean), false, 2, [1230, 492, 1231, 1232]), (11, ⟨RX11, "meetsAnybody", "(I)Z"⟩, cX11_meetsAnybody, 3, (Option.some Jvm.ClassFile.FieldType.boolean), false, 1, [1233, 492, 1234, 1235]), (11, ⟨RX11, "pushOf", "(III)I"⟩, cX11_pushOf, 6, (Option.some Jvm.ClassFile.FieldType.int), false, 3, [1236, 492, 1237, 1238]), (11, ⟨RX11, "passes", "(I)V"⟩, cX11_passes, 5, (Option.none : Option Jvm.ClassFile.FieldType), false, 1, [1239, 492, 1240, 1241]), (11, ⟨RX11, "goes", "(I)V"⟩, cX11_goes, 3, (Option.none : Option Jvm.ClassFile.FieldType), false, 1, [1242, 492, 1243, 1244]), (11, ⟨RX11, "isPushed", "(I)Z"⟩, cX11_isPushed, 1, (Option.some Jvm.ClassFile.FieldType.boolean), true, 1, [1245, 492, 1246]), (11, ⟨RX11, "later", "(II)I"⟩, cX11_later, 3, (Option.some Jvm.ClassFile.FieldType.int), false, 2, [1247, 492, 1248, 1249])]
def am_mt11 : List Am_m := [(11, ⟨RX11, "pushes", "(II)I"⟩, cX11_pushes, 5, (Option.some Jvm.ClassFile.FieldType.int), false, 2, [1250, 492, 1251, 1252]), (11, ⟨RX11, "met", "(II)I"⟩, cX11_met, 5, (Option.some Jvm.ClassFile.FieldType.int), false, 2, [1253, 492, 1254, 1255]), (11, ⟨RX11, "stoodAs", "(II)Z"⟩, cX11_stoodAs, 4, (Option.some Jvm.ClassFile.FieldType.boolean), false, 2, [1256, 492, 1257, 1258]), (11, ⟨RX11, "again", "(I)I"⟩, cX11_again, 4, (Option.some Jvm.ClassFile.FieldType.int), false, 1, [1259, 492, 1260, 1261]), (11, ⟨RX11, "bytesIs", "(I)I"⟩, cX11_bytesIs, 2, (Option.some Jvm.ClassFile.FieldType.int), false, 1, [1262, 492, 1263, 1264]), (11, ⟨RX11, "firstFalse", "(II)I"⟩, cX11_firstFalse, 4, (Option.some Jvm.ClassFile.FieldType.int), false, 2, [1265, 492, 1266, 1267]), (11, ⟨RX11, "judge", "(II)I"⟩, cX11_judge, 3, (Option.some Jvm.ClassFile.FieldType.int), false, 2, [1268, 492, 1269, 1270]), (11, ⟨RX11, "liking", "(IIII)I"⟩, cX11_liking, 10, (Option.some Jvm.ClassFile.FieldType.int), false, 4, [1271, 492, 1272, 1273]), (11, ⟨RX11, "whose", "(I)I"⟩, cX11_whose, 4, (Option.some Jvm.ClassFile.FieldType.int), false, 1, [1274, 492, 1275, 1276]), (11, ⟨RX11, "byTurns", "(III)I"⟩, cX11_byTurns, 13, (Option.some Jvm.ClassFile.FieldType.int), false, 3, [1277, 492, 1278, 1279]), (11, ⟨RX11, "crowd", "(III)I"⟩, cX11_crowd, 7, (Option.some Jvm.ClassFile.FieldType.int), false, 3, [1280, 492, 1281, 1282]), (11, ⟨RX11, "gapBehind", "(III)I"⟩, cX11_gapBehind, 8, (Option.some Jvm.ClassFile.FieldType.int), false, 3, [1283, 492, 1284, 1285]), (11, ⟨RX11, "arc", "(II)I"⟩, cX11_arc, 6, (Option.some Jvm.ClassFile.FieldType.int), false, 2, [1286, 492, 1287, 1288]), (11, ⟨RX11, "drawn", "(III)I"⟩, cX11_drawn, 10, (Option.some Jvm.ClassFile.FieldType.int), false, 3, [1289, 492, 1290, 1291]), (11, ⟨RX11, "day", "()I"⟩, cX11_day, 2, (Option.some Jvm.ClassFile.FieldType.int), false, 0, [1292, 492, 1293, 1294]), (11, ⟨RX11, "nudged", "(II)I"⟩, cX11_nudged, 3, (Option.some Jvm.ClassFile.FieldType.int), false, 2, [1295, 492, 1296, 1297]), (11, ⟨RX11, "led", "(I)I"⟩, cX11_led, 2, (Option.some Jvm.ClassFile.FieldType.int), false, 1, [1298, 492, 1299, 1300]), (11, ⟨RX11, "image", "()I"⟩, cX11_image, 2, (Option.some Jvm.ClassFile.FieldType.int), false, 0, [1301, 492, 1302, 1303]), (11, ⟨RX11, "back", "()I"⟩, cX11_back, 2, (Option.some Jvm.ClassFile.FieldType.int), false, 0, [1304, 492, 1305, 1306]), (11, ⟨RX11, "isBody", "(I)Z"⟩, cX11_isBody, 2, (Option.some Jvm.ClassFile.FieldType.boolean), false, 1, [1307, 492, 1308, 1309])]
def am_mt12 : List Am_m := [(11, ⟨RX11, "kindOf", "(I)I"⟩, cX11_kindOf, 2, (Option.some Jvm.ClassFile.FieldType.int), false, 1, [1310, 492, 1311, 1312]), (11, ⟨RX11, "body", "(I)I"⟩, cX11_body, 2, (Option.some Jvm.ClassFile.FieldType.int), false, 1, [1313, 492, 1314, 1315]), (11, ⟨RX11, "above", "(I)I"⟩, cX11_above, 1, (Option.some Jvm.ClassFile.FieldType.int), true, 1, [1316, 492, 1317]), (11, ⟨RX11, "runs", "(I)V"⟩, cX11_runs, 2, (Option.none : Option Jvm.ClassFile.FieldType), false, 1, [1318, 492, 1319, 1320]), (11, ⟨RX11, "drawsAs", "(II)I"⟩, cX11_drawsAs, 3, (Option.some Jvm.ClassFile.FieldType.int), false, 2, [1321, 492, 1322, 1323]), (11, ⟨RX11, "meetsAs", "(II)I"⟩, cX11_meetsAs, 4, (Option.some Jvm.ClassFile.FieldType.int), false, 2, [1324, 492, 1325, 1326]), (11, ⟨RX11, "shunsAs", "(II)I"⟩, cX11_shunsAs, 4, (Option.some Jvm.ClassFile.FieldType.int), false, 2, [1327, 492, 1328, 1329]), (11, ⟨RX11, "tellsAs", "(II)I"⟩, cX11_tellsAs, 4, (Option.some Jvm.ClassFile.FieldType.int), false, 2, [1330, 492, 1331, 1332]), (11, ⟨RX11, "act", "(III)I"⟩, cX11_act, 4, (Option.some Jvm.ClassFile.FieldType.int), false, 3, [1333, 492, 1334, 1335]), (11, ⟨RX11, "trace", "(I)I"⟩, cX11_trace, 2, (Option.some Jvm.ClassFile.FieldType.int), false, 1, [1336, 492, 1337, 1338]), (11, ⟨RX11, "isShelf", "(I)Z"⟩, cX11_isShelf, 1, (Option.some Jvm.ClassFile.FieldType.boolean), true, 1, [1339, 492, 1340]), (11, ⟨RX11, "keep", "(II)I"⟩, cX11_keep, 3, (Option.some Jvm.ClassFile.FieldType.int), false, 2, [1341, 492, 1342, 1343]), (11, ⟨RX11, "row", "(III)I"⟩, cX11_row, 5, (Option.some Jvm.ClassFile.FieldType.int), false, 3, [1344, 492, 1345, 1346]), (11, ⟨RX11, "refusal", "(II)I"⟩, cX11_refusal, 3, (Option.some Jvm.ClassFile.FieldType.int), false, 2, [1347, 492, 1348, 1349]), (11, ⟨RX11, "asSort", "(IJ)J"⟩, cX11_asSort, 3, (Option.some Jvm.ClassFile.FieldType.long), true, 2, [1350, 492, 1351]), (11, ⟨RX11, "put", "(IIJ)I"⟩, cX11_put, 6, (Option.some Jvm.ClassFile.FieldType.int), false, 3, [1352, 492, 1353, 1354]), (11, ⟨RX11, "element", "(II)J"⟩, cX11_element, 3, (Option.some Jvm.ClassFile.FieldType.long), false, 2, [1355, 492, 1356, 1357]), (11, ⟨RX11, "shift", "(IIIII)I"⟩, cX11_shift, 7, (Option.some Jvm.ClassFile.FieldType.int), false, 5, [1358, 492, 1359, 1360]), (11, ⟨RX11, "taken", "(II)I"⟩, cX11_taken, 4, (Option.some Jvm.ClassFile.FieldType.int), false, 2, [1361, 492, 1362, 1363]), (11, ⟨RX11, "count", "(I)I"⟩, cX11_count, 2, (Option.some Jvm.ClassFile.FieldType.int), false, 1, [1364, 492, 1365, 1366])]
def am_mt13 : List Am_m := [(14, ⟨"java/lang/Integer", "bitCount", "(I)I"⟩, cJ6_bitCount_0f7a4, 1, (Option.some Jvm.ClassFile.FieldType.int), true, 1, [1367, 495, 1368]), (13, ⟨"java/lang/Math", "floorMod", "(II)I"⟩, cJ9_floorMod_7cf53, 3, (Option.some Jvm.ClassFile.FieldType.int), true, 2, [1369, 494, 1370]), (15, ⟨"java/util/Arrays", "fill", "([JJ)V"⟩, cJ7_fill_d0a16, 5, (Option.none : Option Jvm.ClassFile.FieldType), true, 2, [1371, 496, 1372])]
def am_mtL : List Am_m := am_mt0 ++ (am_mt1 ++ (am_mt2 ++ (am_mt3 ++ (am_mt4 ++ (am_mt5 ++ (am_mt6 ++ (am_mt7 ++ (am_mt8 ++ (am_mt9 ++ (am_mt10 ++ (am_mt11 ++ (am_mt12 ++ (am_mt13)))))))))))))
def am_NM : Nat := 263
def am_mt (j : Nat) : Am_m := am_mtL.getD j (99, yL_law, cL_law, 0, none, false, 0, [])
def am_own (o : Nat) : String := ([RX0, RX1, RX2, RX3, RX4, RX5, RX6, RX7, RX8, RX9, RX10, RX11, RL, "java/lang/Math", "java/lang/Integer", "java/util/Arrays", "java/lang/System"] : List String).getD o ""
def am_T (ci : Nat) : u_T := (vwCl.getD ci ("", fun _ => ("", "", "", true), 0)).2.1
def am_R (ci : Nat) : String := (vwCl.getD ci ("", fun _ => ("", "", "", true), 0)).1
def am_nf (ci : Nat) : Nat := (vwCl.getD ci ("", fun _ => ("", "", "", true), 0)).2.2
def am_tyq (ci : Nat) : Nat → FieldType := ([tyX0, tyX1, tyX2, tyX3, tyX4, tyX5, tyX6, tyX7, tyX8, tyX9, tyX10, tyX11] : List (Nat → FieldType)).getD ci (fun _ => .byte)
def am_iz (e : Nat) : Bool := match am_tyq (e / 64) (e % 64) with
  | .int => true
  | .boolean => true
  | _ => false
theorem am_iz_e {e : Nat} (h : am_iz e = true) : am_tyq (e / 64) (e % 64) = .int ∨ am_tyq (e / 64) (e % 64) = .boolean := by
  unfold am_iz at h
  split at h
  · left; assumption
  · right; assumption
  · cases h
theorem am_cl {ci : Nat} (h : ci < 12) : vwCl[ci]? = some (am_R ci, am_T ci, am_nf ci) := by
  have e : vwCl[ci]? = some (vwCl.getD ci ("", fun _ => ("", "", "", true), 0)) := by
    rw [List.getD_eq_getElem?_getD, List.getElem?_eq_getElem (show ci < vwCl.length from h)]
    rfl
  exact e
def am_nmx : Nat → MethodName
  | 0 => Lib.Math.abs.name
  | 1 => Lib.Math.min.name
  | 2 => Lib.Math.max.name
  | 3 => Lib.MathLoose.min_long.x
  | _ => arraycopyName
/-- a word by numbers -/
def am_word : Nat × Nat × Nat × Nat → Cond
  | (0, o, k, e) => .fieldLink (am_own o) k (am_T (e / 64) (e % 64)).1 (am_T (e / 64) (e % 64)).2.1 (am_T (e / 64) (e % 64)).2.2.1
  | (1, o, k, j) => .methodLink (am_own o) k (am_mt j).2.1
  | (2, o, k, t) => .methodLink (am_own o) k (am_nmx t)
  | (3, o, k, v) => .constant (am_own o) k (Int32.ofNat v)
  | (4, o, k, v) => .constantLong (am_own o) k (Int64.ofNat v)
  | (5, j, _, _) => .code (am_mt j).2.1 (am_mt j).2.2.1 (am_mt j).2.2.2.1 (am_mt j).2.2.2.2.1
  | (6, j, _, _) => .instanceMethod (am_mt j).2.1
  | (7, j, _, _) => .selects (am_mt j).2.1.cls (am_mt j).2.1 (am_mt j).2.1
  | (8, o, _, _) => .initialized (am_own o)
  | (9, j, _, _) => .static (am_mt j).2.1
  | (10, o, k, 0) => .fieldLink (am_own o) k "OrbitsWed$Moods" "ABOVE" "[I"
  | (10, o, k, _) => .fieldLink (am_own o) k "OrbitsWed$Moods" "OWN" "[I"
  | (11, ci, k, _) => u_lay (am_R ci) (am_T ci) k
  | (12, t, _, _) => .static (am_nmx t)
  | (13, _, _, _) => .native arraycopyName
  | (15, 0, _, _) => .code Lib.Math.abs.name Lib.Math.abs.code 1 (some .int)
  | (15, 1, _, _) => .code Lib.Math.min.name Lib.Math.min.code 2 (some .int)
  | (15, 2, _, _) => .code Lib.Math.max.name Lib.Math.max.code 2 (some .int)
  | (15, _, _, _) => .code Lib.MathLoose.min_long.x Lib.MathLoose.min_long.code 4 (some .long)
  | _ => .initialized (am_own 0)
def am_K : Nat := 75
def am_cellL : List (Nat × Nat) := [(3, 10), (3, 7), (0, 8), (0, 8), (0, 8), (2, 8), (0, 8), (0, 8), (0, 8), (0, 8), (0, 8), (0, 8), (0, 8), (0, 8), (3, 1), (3, 8), (0, 120), (0, 121), (0, 121), (3, 4), (0, 121), (0, 121), (0, 6), (0, 121), (3, 9), (0, 8), (0, 8), (0, 8), (0, 8), (3, 3), (1, 301), (3, 2), (0, 8), (3, 0), (0, 40), (0, 40), (0, 40), (0, 40), (3, 6), (0, 6), (0, 6), (0, 6), (0, 6), (4, 6), (1, 60), (1, 60), (1, 60), (1, 60), (1, 60), (1, 60), (3, 5), (0, 50), (0, 24), (3, 11), (0, 81), (0, 40), (0, 40), (0, 40), (0, 8), (0, 120), (0, 120), (0, 6), (0, 8), (0, 8), (0, 2408), (0, 91), (0, 4), (0, 8), (0, 4), (0, 50), (0, 24), (0, 6), (0, 6), (1, 360), (1, 60)]
def am_rtL : List (List Nat) := [[2, 15, 16, 20, 25, 30, 32, 34, 39, 51], [3, 4, 5, 6, 0, 0], [], [], [], [6], [], [], [], [], [], [], [], [], [2], [17, 0, 0, 18, 19, 0], [], [], [], [21, 22, 0, 23, 24], [], [], [], [], [2, 20, 26, 27, 28, 29, 0, 0], [], [], [], [], [2, 25, 31], [], [2, 0, 0, 0, 0, 0, 33, 0, 0, 0, 0, 0], [], [35, 36, 37, 38, 0, 0], [], [], [], [], [40, 41, 42, 43, 44], [], [], [], [], [44], [], [], [], [], [], [], [52, 0, 53, 0], [], [], [55, 56, 57, 58, 0, 0, 0, 59, 60, 0, 61, 0, 0, 0, 0, 0, 0, 62, 63, 0, 0, 64, 65, 66, 67, 0, 0, 68, 69, 0, 70, 71, 0, 0, 0, 72, 73, 74, 75], [], [], [], [], [], [], [], [], [], [], [], [], [], [], [], [], [], [], [], [], []]
def am_WC0 : List (Nat × Nat × Nat × Nat) := [(0, 0, 22, 4), (1, 0, 26, 1), (0, 0, 9, 0), (0, 0, 13, 1), (0, 0, 16, 2), (0, 0, 19, 3), (0, 0, 29, 5), (3, 1, 15, 99999), (0, 1, 9, 64), (0, 1, 16, 448), (2, 1, 22, 1), (1, 1, 28, 83), (0, 1, 32, 453), (1, 1, 36, 7), (1, 1, 40, 6), (4, 1, 44, 18446744073709551614), (0, 1, 46, 449), (4, 1, 49, 18446744073709551615), (0, 1, 51, 451), (1, 1, 55, 8), (1, 1, 58, 10), (4, 1, 61, 99999), (1, 1, 63, 4), (2, 1, 67, 3), (1, 1, 69, 11), (1, 1, 73, 84), (1, 1, 77, 15), (1, 1, 80, 80), (1, 1, 83, 20), (1, 1, 87, 22), (1, 1, 91, 81), (1, 1, 94, 261), (2, 1, 97, 2), (0, 2, 19, 133), (0, 2, 9, 128), (0, 2, 23, 453), (0, 2, 29, 135), (0, 2, 15, 134), (0, 2, 32, 449), (0, 2, 35, 129), (0, 2, 38, 136), (0, 2, 41, 130), (0, 2, 44, 137), (0, 2, 47, 131), (0, 2, 50, 138), (0, 2, 53, 132), (0, 2, 56, 139), (0, 3, 15, 193), (1, 3, 23, 99), (1, 3, 28, 101)]
def am_WP0 : List Nat := [328, 486, 320, 322, 324, 326, 330, 624, 157, 115, 625, 626, 134, 653, 665, 670, 121, 669, 127, 687, 705, 696, 697, 698, 701, 721, 733, 749, 885, 908, 912, 913, 914, 281, 272, 132, 284, 283, 120, 273, 285, 275, 286, 277, 287, 279, 288, 256, 761, 765]
set_option maxRecDepth 20000 in
theorem am_wr0 : am_WC0.map am_word = am_WP0.filterMap (fun i => lw_tbl[i]?) := rfl
def am_WC1 : List (Nat × Nat × Nat × Nat) := [(0, 3, 32, 578), (0, 3, 36, 583), (0, 3, 40, 581), (0, 3, 19, 194), (1, 3, 43, 105), (1, 3, 47, 30), (1, 3, 51, 33), (1, 3, 55, 106), (0, 3, 9, 192), (0, 3, 59, 453), (3, 3, 64, 1103515245), (1, 3, 65, 102), (0, 4, 24, 517), (0, 4, 28, 258), (0, 4, 11, 256), (0, 4, 29, 515), (0, 4, 15, 257), (0, 4, 30, 516), (0, 4, 18, 259), (1, 4, 31, 38), (2, 4, 35, 1), (2, 4, 41, 2), (0, 4, 21, 260), (1, 4, 44, 39), (1, 4, 48, 41), (1, 4, 52, 40), (1, 5, 18, 42), (10, 5, 22, 0), (0, 5, 25, 321), (0, 5, 11, 320), (0, 5, 29, 323), (1, 5, 32, 44), (1, 5, 35, 47), (1, 5, 39, 49), (1, 5, 43, 50), (1, 5, 47, 51), (1, 5, 51, 52), (1, 5, 54, 53), (1, 5, 57, 54), (1, 5, 60, 55), (10, 5, 63, 1), (0, 5, 15, 322), (1, 5, 66, 48), (0, 6, 11, 384), (0, 6, 18, 386), (0, 6, 15, 385), (0, 6, 21, 387), (0, 6, 26, 388), (1, 6, 29, 262), (1, 6, 35, 56)]
def am_WP1 : List Nat := [222, 229, 226, 257, 838, 842, 923, 929, 255, 135, 927, 928, 176, 199, 197, 173, 198, 175, 200, 787, 801, 802, 201, 791, 795, 798, 1011, 1014, 381, 379, 385, 996, 1000, 1004, 1008, 1016, 1020, 1028, 1032, 1036, 1012, 383, 1024, 353, 356, 354, 358, 360, 1065, 858]
set_option maxRecDepth 20000 in
theorem am_wr1 : am_WC1.map am_word = am_WP1.filterMap (fun i => lw_tbl[i]?) := rfl
def am_WC2 : List (Nat × Nat × Nat × Nat) := [(1, 6, 39, 57), (1, 6, 42, 63), (1, 6, 46, 59), (0, 7, 36, 453), (0, 7, 9, 448), (0, 7, 21, 449), (0, 7, 24, 450), (1, 7, 39, 71), (1, 7, 43, 72), (0, 7, 29, 451), (0, 7, 32, 452), (2, 7, 46, 0), (2, 7, 52, 1), (1, 7, 56, 261), (1, 7, 59, 80), (1, 7, 62, 78), (1, 7, 65, 81), (1, 7, 68, 79), (0, 8, 23, 513), (0, 8, 11, 512), (0, 8, 27, 514), (0, 8, 30, 517), (1, 8, 33, 89), (1, 8, 37, 87), (0, 8, 17, 515), (0, 8, 20, 516), (1, 8, 41, 90), (1, 8, 45, 88), (1, 8, 49, 91), (1, 8, 52, 92), (1, 8, 55, 93), (1, 8, 58, 94), (1, 8, 61, 95), (1, 8, 64, 98), (1, 8, 67, 34), (1, 8, 71, 96), (1, 8, 74, 97), (0, 9, 9, 576), (0, 9, 32, 453), (0, 9, 19, 578), (0, 9, 38, 449), (1, 9, 39, 103), (0, 9, 42, 583), (0, 9, 26, 580), (1, 9, 45, 104), (1, 9, 49, 102), (0, 9, 53, 448), (1, 9, 56, 261), (0, 9, 61, 582), (0, 9, 23, 579)]
def am_WP2 : List Nat := [859, 854, 860, 133, 114, 118, 123, 465, 469, 125, 128, 610, 613, 585, 592, 593, 606, 607, 168, 167, 170, 177, 515, 543, 172, 174, 519, 551, 523, 527, 531, 535, 539, 547, 555, 558, 562, 219, 131, 221, 119, 769, 230, 224, 775, 805, 116, 809, 227, 223]
set_option maxRecDepth 20000 in
theorem am_wr2 : am_WC2.map am_word = am_WP2.filterMap (fun i => lw_tbl[i]?) := rfl
def am_WC3 : List (Nat × Nat × Nat × Nat) := [(1, 9, 64, 78), (0, 9, 29, 581), (1, 9, 66, 79), (0, 9, 69, 452), (0, 9, 15, 577), (1, 9, 72, 36), (0, 9, 78, 451), (0, 9, 82, 450), (1, 9, 85, 37), (1, 9, 89, 105), (1, 10, 85, 69), (0, 10, 10, 640), (1, 10, 89, 70), (1, 10, 93, 56), (0, 10, 74, 648), (1, 10, 97, 57), (1, 10, 100, 59), (1, 10, 103, 157), (1, 10, 106, 74), (1, 10, 110, 75), (3, 10, 113, 2294967296), (1, 10, 114, 76), (0, 10, 67, 647), (1, 10, 118, 0), (1, 10, 122, 77), (1, 10, 126, 71), (0, 10, 129, 448), (0, 10, 28, 642), (1, 10, 133, 85), (1, 10, 137, 86), (0, 10, 141, 514), (0, 10, 35, 643), (1, 10, 145, 35), (0, 10, 149, 513), (1, 10, 152, 153), (1, 10, 155, 154), (1, 10, 158, 80), (1, 10, 161, 81), (1, 10, 164, 72), (1, 10, 167, 82), (0, 10, 170, 452), (0, 10, 21, 641), (1, 10, 173, 2), (1, 10, 176, 155), (1, 10, 179, 3), (1, 10, 183, 73), (1, 10, 186, 4), (4, 10, 192, 9223372036854775808), (1, 10, 194, 5), (1, 10, 197, 8)]
def am_WP3 : List Nat := [773, 225, 774, 129, 220, 779, 126, 124, 783, 933, 431, 396, 434, 442, 404, 445, 449, 453, 461, 473, 477, 478, 403, 482, 490, 498, 117, 398, 503, 511, 171, 399, 566, 169, 574, 578, 581, 588, 601, 602, 130, 397, 620, 634, 637, 645, 649, 656, 661, 675]
set_option maxRecDepth 20000 in
theorem am_wr3 : am_WC3.map am_word = am_WP3.filterMap (fun i => lw_tbl[i]?) := rfl
def am_WC4 : List (Nat × Nat × Nat × Nat) := [(1, 10, 200, 9), (1, 10, 203, 12), (1, 10, 206, 13), (1, 10, 209, 14), (1, 10, 212, 16), (1, 10, 215, 17), (1, 10, 218, 18), (1, 10, 221, 156), (0, 10, 53, 645), (1, 10, 224, 25), (1, 10, 227, 26), (1, 10, 230, 27), (1, 10, 233, 28), (1, 10, 235, 29), (1, 10, 239, 64), (0, 10, 242, 388), (0, 10, 246, 387), (1, 10, 249, 31), (1, 10, 253, 158), (0, 10, 257, 453), (1, 10, 260, 19), (1, 10, 263, 10), (1, 10, 266, 260), (1, 10, 271, 21), (1, 10, 274, 32), (0, 10, 44, 644), (1, 10, 278, 99), (1, 10, 281, 101), (1, 10, 285, 100), (0, 10, 60, 646), (0, 10, 288, 129), (0, 10, 291, 130), (0, 10, 294, 583), (0, 10, 295, 131), (0, 10, 298, 582), (0, 10, 299, 449), (1, 10, 302, 261), (0, 10, 307, 132), (1, 10, 310, 23), (0, 10, 313, 133), (1, 10, 317, 24), (0, 10, 320, 4), (0, 10, 323, 0), (0, 10, 326, 1), (0, 10, 329, 2), (0, 10, 332, 5), (0, 10, 333, 3), (1, 10, 336, 42), (0, 10, 81, 649), (1, 10, 339, 45)]
def am_WP4 : List Nat := [683, 692, 709, 717, 729, 737, 745, 754, 401, 757, 814, 818, 826, 834, 850, 361, 359, 861, 869, 136, 881, 893, 894, 904, 919, 400, 938, 939, 940, 402, 274, 276, 231, 278, 228, 122, 948, 280, 957, 282, 965, 329, 321, 323, 325, 331, 327, 981, 405, 984]
set_option maxRecDepth 20000 in
theorem am_wr4 : am_WC4.map am_word = am_WP4.filterMap (fun i => lw_tbl[i]?) := rfl
def am_WC5 : List (Nat × Nat × Nat × Nat) := [(1, 10, 341, 46), (0, 10, 344, 323), (0, 10, 347, 322), (1, 10, 350, 44), (1, 10, 351, 60), (1, 10, 354, 61), (1, 10, 358, 62), (1, 10, 361, 65), (0, 10, 364, 386), (1, 10, 367, 68), (1, 10, 371, 66), (1, 10, 374, 67), (2, 10, 377, 4), (1, 10, 383, 58), (0, 10, 386, 320), (0, 10, 389, 385), (1, 10, 392, 43), (0, 10, 395, 321), (3, 10, 396, 99999), (0, 11, 9, 704), (0, 11, 78, 709), (0, 11, 13, 705), (0, 11, 16, 706), (0, 11, 19, 707), (0, 11, 81, 708), (0, 11, 84, 710), (1, 11, 87, 159), (1, 11, 91, 164), (4, 11, 95, 60), (4, 11, 97, 9), (0, 11, 22, 711), (1, 11, 99, 166), (1, 11, 102, 167), (1, 11, 106, 250), (4, 11, 110, 8), (0, 11, 61, 739), (0, 11, 64, 740), (0, 11, 67, 741), (1, 11, 112, 165), (4, 11, 115, 18446744073709551607), (4, 11, 117, 90), (1, 11, 119, 170), (1, 11, 123, 171), (1, 11, 127, 161), (3, 11, 130, 2294967296), (4, 11, 131, 255), (0, 11, 133, 713), (0, 11, 25, 712), (0, 11, 136, 717), (0, 11, 139, 718)]
def am_WP5 : List Nat := [992, 386, 384, 1048, 1049, 1053, 1061, 1072, 357, 1076, 1087, 1091, 1095, 1102, 380, 355, 1106, 382, 577, 1119, 1124, 1120, 1121, 1122, 1123, 1125, 1253, 1278, 1252, 1256, 1126, 1249, 1257, 1265, 1269, 1154, 1155, 1156, 1282, 1290, 1291, 1274, 1286, 1292, 1296, 1305, 1128, 1127, 1132, 1133]
set_option maxRecDepth 20000 in
theorem am_wr5 : am_WC5.map am_word = am_WP5.filterMap (fun i => lw_tbl[i]?) := rfl
def am_WC6 : List (Nat × Nat × Nat × Nat) := [(0, 11, 142, 716), (0, 11, 28, 714), (0, 11, 145, 719), (1, 11, 148, 175), (1, 11, 152, 179), (1, 11, 155, 177), (1, 11, 158, 180), (1, 11, 161, 181), (1, 11, 164, 182), (1, 11, 167, 184), (0, 11, 170, 720), (1, 11, 173, 176), (1, 11, 176, 178), (1, 11, 179, 183), (0, 11, 31, 721), (1, 11, 183, 185), (0, 11, 74, 715), (4, 11, 186, 99999), (1, 11, 188, 188), (1, 11, 192, 189), (1, 11, 195, 190), (1, 11, 198, 191), (1, 11, 202, 187), (1, 11, 205, 192), (3, 11, 209, 99999), (4, 11, 210, 999), (1, 11, 212, 198), (4, 11, 217, 9223372036854775808), (1, 11, 219, 160), (1, 11, 223, 197), (4, 11, 227, 18446744073709551614), (1, 11, 229, 201), (4, 11, 232, 9999), (1, 11, 234, 204), (1, 11, 238, 206), (1, 11, 242, 209), (0, 11, 34, 722), (0, 11, 245, 723), (0, 11, 248, 724), (1, 11, 251, 212), (1, 11, 254, 213), (0, 11, 37, 725), (1, 11, 257, 215), (1, 11, 261, 211), (1, 11, 264, 216), (4, 11, 268, 200), (1, 11, 270, 218), (1, 11, 273, 217), (0, 11, 40, 726), (1, 11, 276, 222)]
def am_WP6 : List Nat := [1131, 1129, 1134, 1338, 1318, 1346, 1322, 1326, 1330, 1334, 1135, 1342, 1314, 1350, 1136, 1310, 1130, 1360, 1361, 1365, 1377, 1373, 1357, 1380, 1388, 1393, 1398, 1402, 1403, 1406, 1413, 1418, 1426, 1431, 1439, 1451, 1137, 1138, 1139, 1479, 1475, 1140, 1483, 1467, 1471, 1462, 1459, 1463, 1141, 1499]
set_option maxRecDepth 20000 in
theorem am_wr6 : am_WC6.map am_word = am_WP6.filterMap (fun i => lw_tbl[i]?) := rfl
def am_WC7 : List (Nat × Nat × Nat × Nat) := [(1, 11, 279, 224), (1, 11, 282, 225), (4, 11, 285, 6), (0, 11, 43, 727), (1, 11, 287, 231), (4, 11, 290, 30), (4, 11, 292, 12), (1, 11, 294, 214), (3, 11, 297, 1103515245), (0, 11, 46, 728), (4, 11, 298, 3), (0, 11, 300, 729), (0, 11, 304, 730), (0, 11, 49, 731), (0, 11, 52, 732), (0, 11, 307, 733), (0, 11, 55, 734), (4, 11, 310, 7), (0, 11, 312, 736), (0, 11, 58, 735), (1, 11, 315, 243), (1, 11, 318, 244), (0, 11, 321, 738), (1, 11, 324, 245), (0, 11, 327, 737), (1, 11, 330, 246), (1, 11, 333, 247), (1, 11, 336, 239), (4, 11, 339, 5), (4, 11, 341, 4), (1, 11, 343, 253), (1, 11, 346, 254), (0, 11, 71, 742), (1, 11, 350, 240), (1, 11, 353, 242), (3, 14, 265, 1431655765), (3, 14, 266, 858993459), (3, 14, 267, 252645135), (1, 12, 13, 107), (1, 12, 17, 168), (1, 12, 18, 108), (1, 12, 22, 169), (1, 12, 23, 109), (1, 12, 26, 172), (1, 12, 27, 110), (1, 12, 30, 173), (1, 12, 31, 111), (1, 12, 35, 174), (1, 12, 36, 112), (1, 12, 40, 186)]
def am_WP7 : List Nat := [1507, 1511, 1527, 1142, 1536, 1544, 1545, 1546, 1550, 1143, 1563, 1144, 1145, 1146, 1147, 1148, 1149, 1576, 1151, 1150, 1589, 1585, 1153, 1593, 1152, 1597, 1601, 1581, 1268, 1617, 1622, 1626, 1157, 1641, 1645, 897, 898, 899, 427, 1245, 438, 1261, 457, 1270, 494, 1297, 499, 1301, 507, 1306]
set_option maxRecDepth 20000 in
theorem am_wr7 : am_WC7.map am_word = am_WP7.filterMap (fun i => lw_tbl[i]?) := rfl
def am_WC8 : List (Nat × Nat × Nat × Nat) := [(1, 12, 41, 113), (1, 12, 44, 193), (1, 12, 45, 114), (1, 12, 48, 194), (1, 12, 49, 115), (1, 12, 52, 195), (1, 12, 53, 116), (1, 12, 56, 196), (1, 12, 57, 117), (1, 12, 61, 199), (1, 12, 62, 118), (1, 12, 65, 200), (1, 12, 66, 119), (1, 12, 69, 202), (1, 12, 70, 120), (1, 12, 73, 203), (1, 12, 74, 121), (1, 12, 77, 205), (1, 12, 78, 122), (1, 12, 81, 207), (1, 12, 82, 123), (1, 12, 85, 208), (1, 12, 86, 124), (1, 12, 89, 210), (1, 12, 90, 125), (1, 12, 93, 219), (1, 12, 94, 126), (1, 12, 97, 220), (1, 12, 98, 127), (1, 12, 101, 221), (1, 12, 102, 128), (1, 12, 105, 223), (1, 12, 106, 129), (1, 12, 109, 226), (1, 12, 110, 130), (1, 12, 114, 227), (1, 12, 115, 131), (1, 12, 118, 228), (1, 12, 119, 132), (1, 12, 122, 229), (1, 12, 123, 133), (1, 12, 126, 230), (1, 12, 127, 134), (1, 12, 130, 232), (1, 12, 131, 135), (1, 12, 134, 233), (1, 12, 135, 136), (1, 12, 138, 234), (1, 12, 139, 137), (1, 12, 142, 235)]
def am_WP8 : List Nat := [570, 1353, 597, 1369, 616, 1384, 630, 1389, 641, 1394, 657, 1409, 671, 1414, 679, 1422, 688, 1427, 713, 1435, 725, 1443, 741, 1447, 750, 1455, 810, 1487, 822, 1491, 830, 1495, 846, 1503, 865, 1515, 873, 1519, 877, 1523, 889, 1528, 900, 1532, 915, 1540, 934, 1551, 944, 1555]
set_option maxRecDepth 20000 in
theorem am_wr8 : am_WC8.map am_word = am_WP8.filterMap (fun i => lw_tbl[i]?) := rfl
def am_WC9 : List (Nat × Nat × Nat × Nat) := [(1, 12, 143, 138), (1, 12, 146, 236), (1, 12, 147, 139), (1, 12, 150, 237), (1, 12, 151, 140), (1, 12, 154, 238), (1, 12, 155, 141), (1, 12, 158, 162), (1, 12, 159, 142), (1, 12, 162, 163), (1, 12, 163, 143), (1, 12, 166, 241), (1, 12, 167, 144), (1, 12, 170, 248), (1, 12, 171, 145), (1, 12, 174, 249), (1, 12, 175, 146), (1, 12, 178, 251), (1, 12, 179, 147), (1, 12, 182, 252), (4, 12, 183, 4294967295), (1, 12, 185, 148), (1, 12, 189, 255), (1, 12, 190, 149), (1, 12, 194, 256), (1, 12, 195, 150), (1, 12, 199, 257), (1, 12, 200, 151), (1, 12, 203, 258), (1, 12, 204, 152), (1, 12, 207, 259), (8, 0, 0, 0), (8, 1, 0, 0), (8, 2, 0, 0), (8, 3, 0, 0), (8, 4, 0, 0), (8, 5, 0, 0), (8, 6, 0, 0), (8, 7, 0, 0), (8, 8, 0, 0), (8, 9, 0, 0), (8, 10, 0, 0), (8, 11, 0, 0), (8, 12, 0, 0), (8, 13, 0, 0), (8, 14, 0, 0), (8, 15, 0, 0), (8, 16, 0, 0), (12, 0, 0, 0), (12, 1, 0, 0)]
def am_WP9 : List Nat := [949, 1559, 953, 1564, 961, 1568, 969, 1237, 973, 1241, 977, 1572, 988, 1577, 1040, 1605, 1044, 1609, 1057, 1613, 1652, 1068, 1618, 1079, 1629, 1083, 1633, 1098, 1637, 1109, 1648, 88, 82, 87, 86, 84, 90, 89, 80, 83, 85, 79, 91, 78, 92, 93, 81, 94, 611, 614]
set_option maxRecDepth 20000 in
theorem am_wr9 : am_WC9.map am_word = am_WP9.filterMap (fun i => lw_tbl[i]?) := rfl
def am_WC10 : List (Nat × Nat × Nat × Nat) := [(12, 2, 0, 0), (12, 3, 0, 0), (12, 4, 0, 0), (13, 0, 0, 0), (15, 0, 0, 0), (15, 1, 0, 0), (15, 2, 0, 0), (15, 3, 0, 0), (11, 0, 0, 0), (11, 0, 1, 0), (11, 0, 2, 0), (11, 0, 3, 0), (11, 0, 4, 0), (11, 0, 5, 0), (11, 1, 0, 0), (11, 2, 0, 0), (11, 2, 1, 0), (11, 2, 2, 0), (11, 2, 3, 0), (11, 2, 4, 0), (11, 2, 5, 0), (11, 2, 6, 0), (11, 2, 7, 0), (11, 2, 8, 0), (11, 2, 9, 0), (11, 2, 10, 0), (11, 2, 11, 0), (11, 3, 0, 0), (11, 3, 1, 0), (11, 3, 2, 0), (11, 4, 0, 0), (11, 4, 1, 0), (11, 4, 2, 0), (11, 4, 3, 0), (11, 4, 4, 0), (11, 5, 0, 0), (11, 5, 1, 0), (11, 5, 2, 0), (11, 5, 3, 0), (11, 6, 0, 0), (11, 6, 1, 0), (11, 6, 2, 0), (11, 6, 3, 0), (11, 6, 4, 0), (11, 7, 0, 0), (11, 7, 1, 0), (11, 7, 2, 0), (11, 7, 3, 0), (11, 7, 4, 0), (11, 7, 5, 0)]
def am_WP10 : List Nat := [803, 699, 1096, 1097, 612, 615, 804, 700, 332, 334, 336, 338, 340, 342, 158, 289, 291, 293, 295, 297, 299, 301, 303, 305, 307, 309, 311, 258, 260, 262, 202, 204, 206, 208, 210, 387, 389, 391, 393, 362, 364, 366, 368, 370, 137, 139, 141, 143, 145, 147]
set_option maxRecDepth 20000 in
theorem am_wr10 : am_WC10.map am_word = am_WP10.filterMap (fun i => lw_tbl[i]?) := rfl
def am_WC11 : List (Nat × Nat × Nat × Nat) := [(11, 8, 0, 0), (11, 8, 1, 0), (11, 8, 2, 0), (11, 8, 3, 0), (11, 8, 4, 0), (11, 8, 5, 0), (11, 9, 0, 0), (11, 9, 1, 0), (11, 9, 2, 0), (11, 9, 3, 0), (11, 9, 4, 0), (11, 9, 5, 0), (11, 9, 6, 0), (11, 9, 7, 0), (11, 10, 0, 0), (11, 10, 1, 0), (11, 10, 2, 0), (11, 10, 3, 0), (11, 10, 4, 0), (11, 10, 5, 0), (11, 10, 6, 0), (11, 10, 7, 0), (11, 10, 8, 0), (11, 10, 9, 0), (11, 11, 0, 0), (11, 11, 1, 0), (11, 11, 2, 0), (11, 11, 3, 0), (11, 11, 4, 0), (11, 11, 5, 0), (11, 11, 6, 0), (11, 11, 7, 0), (11, 11, 8, 0), (11, 11, 9, 0), (11, 11, 10, 0), (11, 11, 11, 0), (11, 11, 12, 0), (11, 11, 13, 0), (11, 11, 14, 0), (11, 11, 15, 0), (11, 11, 16, 0), (11, 11, 17, 0), (11, 11, 18, 0), (11, 11, 19, 0), (11, 11, 20, 0), (11, 11, 21, 0), (11, 11, 22, 0), (11, 11, 23, 0), (11, 11, 24, 0), (11, 11, 25, 0)]
def am_WP11 : List Nat := [178, 180, 182, 184, 186, 188, 232, 234, 236, 238, 240, 242, 244, 246, 406, 408, 410, 412, 414, 416, 418, 420, 422, 424, 1158, 1160, 1162, 1164, 1166, 1168, 1170, 1172, 1174, 1176, 1178, 1180, 1182, 1184, 1186, 1188, 1190, 1192, 1194, 1196, 1198, 1200, 1202, 1204, 1206, 1208]
set_option maxRecDepth 20000 in
theorem am_wr11 : am_WC11.map am_word = am_WP11.filterMap (fun i => lw_tbl[i]?) := rfl
def am_WC12 : List (Nat × Nat × Nat × Nat) := [(11, 11, 26, 0), (11, 11, 27, 0), (11, 11, 28, 0), (11, 11, 29, 0), (11, 11, 30, 0), (11, 11, 31, 0), (11, 11, 32, 0), (11, 11, 33, 0), (11, 11, 34, 0), (11, 11, 35, 0), (11, 11, 36, 0), (11, 11, 37, 0), (11, 11, 38, 0), (5, 0, 0, 0), (6, 0, 0, 0), (7, 0, 0, 0), (5, 1, 0, 0), (6, 1, 0, 0), (7, 1, 0, 0), (5, 2, 0, 0), (6, 2, 0, 0), (7, 2, 0, 0), (5, 3, 0, 0), (6, 3, 0, 0), (7, 3, 0, 0), (5, 4, 0, 0), (6, 4, 0, 0), (7, 4, 0, 0), (5, 5, 0, 0), (6, 5, 0, 0), (7, 5, 0, 0), (5, 6, 0, 0), (6, 6, 0, 0), (7, 6, 0, 0), (5, 7, 0, 0), (9, 7, 0, 0), (5, 8, 0, 0), (6, 8, 0, 0), (7, 8, 0, 0), (5, 9, 0, 0), (6, 9, 0, 0), (7, 9, 0, 0), (5, 10, 0, 0), (6, 10, 0, 0), (7, 10, 0, 0), (5, 11, 0, 0), (6, 11, 0, 0), (7, 11, 0, 0), (5, 12, 0, 0), (6, 12, 0, 0)]
def am_WP12 : List Nat := [1210, 1212, 1214, 1216, 1218, 1220, 1222, 1224, 1226, 1228, 1230, 1232, 1234, 485, 483, 484, 489, 488, 1, 623, 621, 622, 640, 638, 639, 652, 650, 651, 664, 662, 663, 668, 667, 14, 655, 654, 678, 676, 677, 686, 684, 685, 708, 706, 707, 704, 703, 15, 695, 693]
set_option maxRecDepth 20000 in
theorem am_wr12 : am_WC12.map am_word = am_WP12.filterMap (fun i => lw_tbl[i]?) := rfl
def am_WC13 : List (Nat × Nat × Nat × Nat) := [(7, 12, 0, 0), (5, 13, 0, 0), (6, 13, 0, 0), (7, 13, 0, 0), (5, 14, 0, 0), (6, 14, 0, 0), (7, 14, 0, 0), (5, 15, 0, 0), (6, 15, 0, 0), (7, 15, 0, 0), (5, 16, 0, 0), (6, 16, 0, 0), (7, 16, 0, 0), (5, 17, 0, 0), (6, 17, 0, 0), (7, 17, 0, 0), (5, 18, 0, 0), (6, 18, 0, 0), (7, 18, 0, 0), (5, 19, 0, 0), (6, 19, 0, 0), (7, 19, 0, 0), (5, 20, 0, 0), (6, 20, 0, 0), (7, 20, 0, 0), (5, 21, 0, 0), (6, 21, 0, 0), (7, 21, 0, 0), (5, 22, 0, 0), (6, 22, 0, 0), (7, 22, 0, 0), (5, 23, 0, 0), (6, 23, 0, 0), (7, 23, 0, 0), (5, 24, 0, 0), (6, 24, 0, 0), (7, 24, 0, 0), (5, 25, 0, 0), (6, 25, 0, 0), (7, 25, 0, 0), (5, 26, 0, 0), (6, 26, 0, 0), (7, 26, 0, 0), (5, 27, 0, 0), (6, 27, 0, 0), (7, 27, 0, 0), (5, 28, 0, 0), (6, 28, 0, 0), (7, 28, 0, 0), (5, 29, 0, 0)]
def am_WP13 : List Nat := [694, 712, 710, 711, 720, 718, 719, 736, 735, 16, 732, 730, 731, 740, 738, 739, 748, 746, 747, 884, 882, 883, 888, 887, 23, 907, 905, 906, 911, 910, 24, 960, 958, 959, 968, 966, 967, 760, 758, 759, 817, 815, 816, 821, 819, 820, 829, 827, 828, 837]
set_option maxRecDepth 20000 in
theorem am_wr13 : am_WC13.map am_word = am_WP13.filterMap (fun i => lw_tbl[i]?) := rfl
def am_WC14 : List (Nat × Nat × Nat × Nat) := [(6, 29, 0, 0), (7, 29, 0, 0), (5, 30, 0, 0), (6, 30, 0, 0), (7, 30, 0, 0), (5, 31, 0, 0), (6, 31, 0, 0), (7, 31, 0, 0), (5, 32, 0, 0), (6, 32, 0, 0), (7, 32, 0, 0), (5, 33, 0, 0), (6, 33, 0, 0), (7, 33, 0, 0), (5, 34, 0, 0), (9, 34, 0, 0), (5, 35, 0, 0), (6, 35, 0, 0), (7, 35, 0, 0), (5, 36, 0, 0), (6, 36, 0, 0), (7, 36, 0, 0), (5, 37, 0, 0), (6, 37, 0, 0), (7, 37, 0, 0), (5, 38, 0, 0), (6, 38, 0, 0), (7, 38, 0, 0), (5, 39, 0, 0), (6, 39, 0, 0), (7, 39, 0, 0), (5, 40, 0, 0), (9, 40, 0, 0), (5, 41, 0, 0), (9, 41, 0, 0), (5, 42, 0, 0), (9, 42, 0, 0), (5, 43, 0, 0), (9, 43, 0, 0), (5, 44, 0, 0), (6, 44, 0, 0), (7, 44, 0, 0), (5, 45, 0, 0), (6, 45, 0, 0), (7, 45, 0, 0), (5, 46, 0, 0), (6, 46, 0, 0), (7, 46, 0, 0), (5, 47, 0, 0), (6, 47, 0, 0)]
def am_WP14 : List Nat := [835, 836, 845, 844, 21, 864, 862, 863, 922, 920, 921, 926, 925, 25, 557, 556, 569, 567, 568, 782, 780, 781, 786, 784, 785, 790, 789, 19, 794, 793, 20, 800, 799, 797, 796, 983, 982, 1108, 1107, 999, 997, 998, 987, 985, 986, 995, 993, 994, 1003, 1002]
set_option maxRecDepth 20000 in
theorem am_wr14 : am_WC14.map am_word = am_WP14.filterMap (fun i => lw_tbl[i]?) := rfl
def am_WC15 : List (Nat × Nat × Nat × Nat) := [(7, 47, 0, 0), (5, 48, 0, 0), (6, 48, 0, 0), (7, 48, 0, 0), (5, 49, 0, 0), (6, 49, 0, 0), (7, 49, 0, 0), (5, 50, 0, 0), (9, 50, 0, 0), (5, 51, 0, 0), (6, 51, 0, 0), (7, 51, 0, 0), (5, 52, 0, 0), (6, 52, 0, 0), (7, 52, 0, 0), (5, 53, 0, 0), (6, 53, 0, 0), (7, 53, 0, 0), (5, 54, 0, 0), (6, 54, 0, 0), (7, 54, 0, 0), (5, 55, 0, 0), (6, 55, 0, 0), (7, 55, 0, 0), (5, 56, 0, 0), (9, 56, 0, 0), (5, 57, 0, 0), (6, 57, 0, 0), (7, 57, 0, 0), (5, 58, 0, 0), (6, 58, 0, 0), (7, 58, 0, 0), (5, 59, 0, 0), (6, 59, 0, 0), (7, 59, 0, 0), (5, 60, 0, 0), (6, 60, 0, 0), (7, 60, 0, 0), (5, 61, 0, 0), (6, 61, 0, 0), (7, 61, 0, 0), (5, 62, 0, 0), (6, 62, 0, 0), (7, 62, 0, 0), (5, 63, 0, 0), (6, 63, 0, 0), (7, 63, 0, 0), (5, 64, 0, 0), (6, 64, 0, 0), (7, 64, 0, 0)]
def am_WP15 : List Nat := [26, 1027, 1026, 30, 1007, 1006, 27, 1010, 1009, 1019, 1018, 28, 1023, 1022, 29, 1031, 1030, 31, 1035, 1034, 32, 1039, 1038, 33, 444, 443, 448, 446, 447, 1105, 1103, 1104, 452, 450, 451, 1052, 1050, 1051, 1056, 1054, 1055, 1064, 1062, 1063, 857, 855, 856, 853, 851, 852]
set_option maxRecDepth 20000 in
theorem am_wr15 : am_WC15.map am_word = am_WP15.filterMap (fun i => lw_tbl[i]?) := rfl
def am_WC16 : List (Nat × Nat × Nat × Nat) := [(5, 65, 0, 0), (6, 65, 0, 0), (7, 65, 0, 0), (5, 66, 0, 0), (6, 66, 0, 0), (7, 66, 0, 0), (5, 67, 0, 0), (6, 67, 0, 0), (7, 67, 0, 0), (5, 68, 0, 0), (9, 68, 0, 0), (5, 69, 0, 0), (9, 69, 0, 0), (5, 70, 0, 0), (6, 70, 0, 0), (7, 70, 0, 0), (5, 71, 0, 0), (6, 71, 0, 0), (7, 71, 0, 0), (5, 72, 0, 0), (6, 72, 0, 0), (7, 72, 0, 0), (5, 73, 0, 0), (6, 73, 0, 0), (7, 73, 0, 0), (5, 74, 0, 0), (6, 74, 0, 0), (7, 74, 0, 0), (5, 75, 0, 0), (6, 75, 0, 0), (7, 75, 0, 0), (5, 76, 0, 0), (6, 76, 0, 0), (7, 76, 0, 0), (5, 77, 0, 0), (6, 77, 0, 0), (7, 77, 0, 0), (5, 78, 0, 0), (6, 78, 0, 0), (7, 78, 0, 0), (5, 79, 0, 0), (9, 79, 0, 0), (5, 80, 0, 0), (6, 80, 0, 0), (7, 80, 0, 0), (5, 81, 0, 0), (6, 81, 0, 0), (7, 81, 0, 0), (5, 82, 0, 0), (6, 82, 0, 0)]
def am_WP16 : List Nat := [1075, 1073, 1074, 1090, 1088, 1089, 1094, 1092, 1093, 1078, 1077, 433, 432, 437, 435, 436, 468, 466, 467, 472, 470, 471, 648, 646, 647, 464, 462, 463, 476, 474, 475, 481, 479, 480, 493, 491, 492, 596, 594, 595, 609, 608, 584, 582, 583, 591, 589, 590, 605, 603]
set_option maxRecDepth 20000 in
theorem am_wr16 : am_WC16.map am_word = am_WP16.filterMap (fun i => lw_tbl[i]?) := rfl
def am_WC17 : List (Nat × Nat × Nat × Nat) := [(7, 82, 0, 0), (5, 83, 0, 0), (6, 83, 0, 0), (7, 83, 0, 0), (5, 84, 0, 0), (6, 84, 0, 0), (7, 84, 0, 0), (5, 85, 0, 0), (6, 85, 0, 0), (7, 85, 0, 0), (5, 86, 0, 0), (6, 86, 0, 0), (7, 86, 0, 0), (5, 87, 0, 0), (6, 87, 0, 0), (7, 87, 0, 0), (5, 88, 0, 0), (6, 88, 0, 0), (7, 88, 0, 0), (5, 89, 0, 0), (6, 89, 0, 0), (7, 89, 0, 0), (5, 90, 0, 0), (6, 90, 0, 0), (7, 90, 0, 0), (5, 91, 0, 0), (6, 91, 0, 0), (7, 91, 0, 0), (5, 92, 0, 0), (6, 92, 0, 0), (7, 92, 0, 0), (5, 93, 0, 0), (6, 93, 0, 0), (7, 93, 0, 0), (5, 94, 0, 0), (6, 94, 0, 0), (7, 94, 0, 0), (5, 95, 0, 0), (6, 95, 0, 0), (7, 95, 0, 0), (5, 96, 0, 0), (6, 96, 0, 0), (7, 96, 0, 0), (5, 97, 0, 0), (6, 97, 0, 0), (7, 97, 0, 0), (5, 98, 0, 0), (6, 98, 0, 0), (7, 98, 0, 0), (5, 99, 0, 0)]
def am_WP17 : List Nat := [604, 629, 627, 628, 724, 722, 723, 506, 504, 505, 514, 512, 513, 546, 545, 9, 554, 553, 11, 518, 517, 2, 522, 521, 3, 526, 525, 4, 530, 529, 5, 534, 533, 6, 538, 537, 7, 542, 541, 8, 561, 560, 12, 565, 564, 13, 550, 549, 10, 764]
set_option maxRecDepth 20000 in
theorem am_wr17 : am_WC17.map am_word = am_WP17.filterMap (fun i => lw_tbl[i]?) := rfl
def am_WC18 : List (Nat × Nat × Nat × Nat) := [(6, 99, 0, 0), (7, 99, 0, 0), (5, 100, 0, 0), (6, 100, 0, 0), (7, 100, 0, 0), (5, 101, 0, 0), (6, 101, 0, 0), (7, 101, 0, 0), (5, 102, 0, 0), (6, 102, 0, 0), (7, 102, 0, 0), (5, 103, 0, 0), (6, 103, 0, 0), (7, 103, 0, 0), (5, 104, 0, 0), (6, 104, 0, 0), (7, 104, 0, 0), (5, 105, 0, 0), (6, 105, 0, 0), (7, 105, 0, 0), (5, 106, 0, 0), (6, 106, 0, 0), (7, 106, 0, 0), (5, 107, 0, 0), (6, 107, 0, 0), (7, 107, 0, 0), (5, 108, 0, 0), (6, 108, 0, 0), (7, 108, 0, 0), (5, 109, 0, 0), (6, 109, 0, 0), (7, 109, 0, 0), (5, 110, 0, 0), (6, 110, 0, 0), (7, 110, 0, 0), (5, 111, 0, 0), (6, 111, 0, 0), (7, 111, 0, 0), (5, 112, 0, 0), (6, 112, 0, 0), (7, 112, 0, 0), (5, 113, 0, 0), (6, 113, 0, 0), (7, 113, 0, 0), (5, 114, 0, 0), (6, 114, 0, 0), (7, 114, 0, 0), (5, 115, 0, 0), (6, 115, 0, 0), (7, 115, 0, 0)]
def am_WP18 : List Nat := [762, 763, 943, 941, 942, 768, 766, 767, 808, 806, 807, 772, 771, 17, 778, 777, 18, 841, 839, 840, 932, 930, 931, 430, 428, 429, 441, 439, 440, 460, 458, 459, 497, 495, 496, 502, 500, 501, 510, 508, 509, 573, 571, 572, 600, 598, 599, 619, 617, 618]
set_option maxRecDepth 20000 in
theorem am_wr18 : am_WC18.map am_word = am_WP18.filterMap (fun i => lw_tbl[i]?) := rfl
def am_WC19 : List (Nat × Nat × Nat × Nat) := [(5, 116, 0, 0), (6, 116, 0, 0), (7, 116, 0, 0), (5, 117, 0, 0), (6, 117, 0, 0), (7, 117, 0, 0), (5, 118, 0, 0), (6, 118, 0, 0), (7, 118, 0, 0), (5, 119, 0, 0), (6, 119, 0, 0), (7, 119, 0, 0), (5, 120, 0, 0), (6, 120, 0, 0), (7, 120, 0, 0), (5, 121, 0, 0), (6, 121, 0, 0), (7, 121, 0, 0), (5, 122, 0, 0), (6, 122, 0, 0), (7, 122, 0, 0), (5, 123, 0, 0), (6, 123, 0, 0), (7, 123, 0, 0), (5, 124, 0, 0), (6, 124, 0, 0), (7, 124, 0, 0), (5, 125, 0, 0), (6, 125, 0, 0), (7, 125, 0, 0), (5, 126, 0, 0), (6, 126, 0, 0), (7, 126, 0, 0), (5, 127, 0, 0), (6, 127, 0, 0), (7, 127, 0, 0), (5, 128, 0, 0), (6, 128, 0, 0), (7, 128, 0, 0), (5, 129, 0, 0), (6, 129, 0, 0), (7, 129, 0, 0), (5, 130, 0, 0), (6, 130, 0, 0), (7, 130, 0, 0), (5, 131, 0, 0), (6, 131, 0, 0), (7, 131, 0, 0), (5, 132, 0, 0), (6, 132, 0, 0)]
def am_WP19 : List Nat := [633, 631, 632, 644, 642, 643, 660, 658, 659, 674, 672, 673, 682, 680, 681, 691, 689, 690, 716, 714, 715, 728, 726, 727, 744, 742, 743, 753, 751, 752, 813, 811, 812, 825, 823, 824, 833, 831, 832, 849, 847, 848, 868, 866, 867, 876, 874, 875, 880, 878]
set_option maxRecDepth 20000 in
theorem am_wr19 : am_WC19.map am_word = am_WP19.filterMap (fun i => lw_tbl[i]?) := rfl
def am_WC20 : List (Nat × Nat × Nat × Nat) := [(7, 132, 0, 0), (5, 133, 0, 0), (6, 133, 0, 0), (7, 133, 0, 0), (5, 134, 0, 0), (6, 134, 0, 0), (7, 134, 0, 0), (5, 135, 0, 0), (6, 135, 0, 0), (7, 135, 0, 0), (5, 136, 0, 0), (6, 136, 0, 0), (7, 136, 0, 0), (5, 137, 0, 0), (6, 137, 0, 0), (7, 137, 0, 0), (5, 138, 0, 0), (6, 138, 0, 0), (7, 138, 0, 0), (5, 139, 0, 0), (6, 139, 0, 0), (7, 139, 0, 0), (5, 140, 0, 0), (6, 140, 0, 0), (7, 140, 0, 0), (5, 141, 0, 0), (6, 141, 0, 0), (7, 141, 0, 0), (5, 142, 0, 0), (6, 142, 0, 0), (7, 142, 0, 0), (5, 143, 0, 0), (6, 143, 0, 0), (7, 143, 0, 0), (5, 144, 0, 0), (6, 144, 0, 0), (7, 144, 0, 0), (5, 145, 0, 0), (6, 145, 0, 0), (7, 145, 0, 0), (5, 146, 0, 0), (6, 146, 0, 0), (7, 146, 0, 0), (5, 147, 0, 0), (6, 147, 0, 0), (7, 147, 0, 0), (5, 148, 0, 0), (6, 148, 0, 0), (7, 148, 0, 0), (5, 149, 0, 0)]
def am_WP20 : List Nat := [879, 892, 890, 891, 903, 901, 902, 918, 916, 917, 937, 935, 936, 947, 945, 946, 952, 950, 951, 956, 954, 955, 964, 962, 963, 972, 970, 971, 976, 974, 975, 980, 978, 979, 991, 989, 990, 1043, 1041, 1042, 1047, 1045, 1046, 1060, 1058, 1059, 1071, 1069, 1070, 1082]
set_option maxRecDepth 20000 in
theorem am_wr20 : am_WC20.map am_word = am_WP20.filterMap (fun i => lw_tbl[i]?) := rfl
def am_WC21 : List (Nat × Nat × Nat × Nat) := [(6, 149, 0, 0), (7, 149, 0, 0), (5, 150, 0, 0), (6, 150, 0, 0), (7, 150, 0, 0), (5, 151, 0, 0), (6, 151, 0, 0), (7, 151, 0, 0), (5, 152, 0, 0), (6, 152, 0, 0), (7, 152, 0, 0), (5, 153, 0, 0), (9, 153, 0, 0), (5, 154, 0, 0), (9, 154, 0, 0), (5, 155, 0, 0), (9, 155, 0, 0), (5, 156, 0, 0), (9, 156, 0, 0), (5, 157, 0, 0), (6, 157, 0, 0), (7, 157, 0, 0), (5, 158, 0, 0), (6, 158, 0, 0), (7, 158, 0, 0), (5, 159, 0, 0), (9, 159, 0, 0), (5, 160, 0, 0), (9, 160, 0, 0), (5, 161, 0, 0), (6, 161, 0, 0), (7, 161, 0, 0), (5, 162, 0, 0), (6, 162, 0, 0), (7, 162, 0, 0), (5, 163, 0, 0), (6, 163, 0, 0), (7, 163, 0, 0), (5, 164, 0, 0), (6, 164, 0, 0), (7, 164, 0, 0), (5, 165, 0, 0), (6, 165, 0, 0), (7, 165, 0, 0), (5, 166, 0, 0), (9, 166, 0, 0), (5, 167, 0, 0), (6, 167, 0, 0), (7, 167, 0, 0), (5, 168, 0, 0)]
def am_WP21 : List Nat := [1080, 1081, 1086, 1084, 1085, 1101, 1099, 1100, 1112, 1110, 1111, 576, 575, 580, 579, 636, 635, 756, 755, 456, 455, 0, 872, 871, 22, 1255, 1254, 1405, 1404, 1295, 1294, 39, 1240, 1238, 1239, 1244, 1242, 1243, 1281, 1280, 36, 1285, 1284, 37, 1251, 1250, 1260, 1259, 34, 1248]
set_option maxRecDepth 20000 in
theorem am_wr21 : am_WC21.map am_word = am_WP21.filterMap (fun i => lw_tbl[i]?) := rfl
def am_WC22 : List (Nat × Nat × Nat × Nat) := [(6, 168, 0, 0), (7, 168, 0, 0), (5, 169, 0, 0), (6, 169, 0, 0), (7, 169, 0, 0), (5, 170, 0, 0), (6, 170, 0, 0), (7, 170, 0, 0), (5, 171, 0, 0), (6, 171, 0, 0), (7, 171, 0, 0), (5, 172, 0, 0), (6, 172, 0, 0), (7, 172, 0, 0), (5, 173, 0, 0), (6, 173, 0, 0), (7, 173, 0, 0), (5, 174, 0, 0), (6, 174, 0, 0), (7, 174, 0, 0), (5, 175, 0, 0), (6, 175, 0, 0), (7, 175, 0, 0), (5, 176, 0, 0), (6, 176, 0, 0), (7, 176, 0, 0), (5, 177, 0, 0), (6, 177, 0, 0), (7, 177, 0, 0), (5, 178, 0, 0), (6, 178, 0, 0), (7, 178, 0, 0), (5, 179, 0, 0), (6, 179, 0, 0), (7, 179, 0, 0), (5, 180, 0, 0), (6, 180, 0, 0), (7, 180, 0, 0), (5, 181, 0, 0), (6, 181, 0, 0), (7, 181, 0, 0), (5, 182, 0, 0), (6, 182, 0, 0), (7, 182, 0, 0), (5, 183, 0, 0), (9, 183, 0, 0), (5, 184, 0, 0), (6, 184, 0, 0), (7, 184, 0, 0), (5, 185, 0, 0)]
def am_WP22 : List Nat := [1246, 1247, 1264, 1262, 1263, 1277, 1276, 35, 1289, 1288, 38, 1273, 1271, 1272, 1300, 1298, 1299, 1304, 1302, 1303, 1341, 1340, 47, 1345, 1344, 48, 1349, 1348, 49, 1317, 1316, 41, 1321, 1320, 42, 1325, 1324, 43, 1329, 1328, 44, 1333, 1332, 45, 1352, 1351, 1337, 1336, 46, 1313]
set_option maxRecDepth 20000 in
theorem am_wr22 : am_WC22.map am_word = am_WP22.filterMap (fun i => lw_tbl[i]?) := rfl
def am_WC23 : List (Nat × Nat × Nat × Nat) := [(6, 185, 0, 0), (7, 185, 0, 0), (5, 186, 0, 0), (6, 186, 0, 0), (7, 186, 0, 0), (5, 187, 0, 0), (9, 187, 0, 0), (5, 188, 0, 0), (6, 188, 0, 0), (7, 188, 0, 0), (5, 189, 0, 0), (6, 189, 0, 0), (7, 189, 0, 0), (5, 190, 0, 0), (9, 190, 0, 0), (5, 191, 0, 0), (6, 191, 0, 0), (7, 191, 0, 0), (5, 192, 0, 0), (6, 192, 0, 0), (7, 192, 0, 0), (5, 193, 0, 0), (6, 193, 0, 0), (7, 193, 0, 0), (5, 194, 0, 0), (6, 194, 0, 0), (7, 194, 0, 0), (5, 195, 0, 0), (6, 195, 0, 0), (7, 195, 0, 0), (5, 196, 0, 0), (6, 196, 0, 0), (7, 196, 0, 0), (5, 197, 0, 0), (9, 197, 0, 0), (5, 198, 0, 0), (6, 198, 0, 0), (7, 198, 0, 0), (5, 199, 0, 0), (6, 199, 0, 0), (7, 199, 0, 0), (5, 200, 0, 0), (6, 200, 0, 0), (7, 200, 0, 0), (5, 201, 0, 0), (6, 201, 0, 0), (7, 201, 0, 0), (5, 202, 0, 0), (6, 202, 0, 0), (7, 202, 0, 0)]
def am_WP23 : List Nat := [1312, 40, 1309, 1307, 1308, 1359, 1358, 1364, 1363, 50, 1368, 1367, 51, 1379, 1378, 1376, 1375, 52, 1383, 1382, 53, 1356, 1354, 1355, 1372, 1370, 1371, 1387, 1385, 1386, 1392, 1390, 1391, 1408, 1407, 1401, 1400, 54, 1397, 1395, 1396, 1412, 1410, 1411, 1421, 1420, 55, 1417, 1415, 1416]
set_option maxRecDepth 20000 in
theorem am_wr23 : am_WC23.map am_word = am_WP23.filterMap (fun i => lw_tbl[i]?) := rfl
def am_WC24 : List (Nat × Nat × Nat × Nat) := [(5, 203, 0, 0), (6, 203, 0, 0), (7, 203, 0, 0), (5, 204, 0, 0), (6, 204, 0, 0), (7, 204, 0, 0), (5, 205, 0, 0), (6, 205, 0, 0), (7, 205, 0, 0), (5, 206, 0, 0), (6, 206, 0, 0), (7, 206, 0, 0), (5, 207, 0, 0), (6, 207, 0, 0), (7, 207, 0, 0), (5, 208, 0, 0), (6, 208, 0, 0), (7, 208, 0, 0), (5, 209, 0, 0), (6, 209, 0, 0), (7, 209, 0, 0), (5, 210, 0, 0), (6, 210, 0, 0), (7, 210, 0, 0), (5, 211, 0, 0), (6, 211, 0, 0), (7, 211, 0, 0), (5, 212, 0, 0), (6, 212, 0, 0), (7, 212, 0, 0), (5, 213, 0, 0), (6, 213, 0, 0), (7, 213, 0, 0), (5, 214, 0, 0), (6, 214, 0, 0), (7, 214, 0, 0), (5, 215, 0, 0), (6, 215, 0, 0), (7, 215, 0, 0), (5, 216, 0, 0), (6, 216, 0, 0), (7, 216, 0, 0), (5, 217, 0, 0), (6, 217, 0, 0), (7, 217, 0, 0), (5, 218, 0, 0), (9, 218, 0, 0), (5, 219, 0, 0), (6, 219, 0, 0), (7, 219, 0, 0)]
def am_WP24 : List Nat := [1425, 1423, 1424, 1434, 1433, 56, 1430, 1428, 1429, 1442, 1441, 57, 1438, 1436, 1437, 1446, 1444, 1445, 1454, 1453, 58, 1450, 1448, 1449, 1470, 1469, 60, 1482, 1481, 63, 1478, 1477, 62, 1549, 1548, 69, 1486, 1485, 64, 1474, 1473, 61, 1466, 1465, 59, 1461, 1460, 1458, 1456, 1457]
set_option maxRecDepth 20000 in
theorem am_wr24 : am_WC24.map am_word = am_WP24.filterMap (fun i => lw_tbl[i]?) := rfl
def am_WC25 : List (Nat × Nat × Nat × Nat) := [(5, 220, 0, 0), (6, 220, 0, 0), (7, 220, 0, 0), (5, 221, 0, 0), (6, 221, 0, 0), (7, 221, 0, 0), (5, 222, 0, 0), (6, 222, 0, 0), (7, 222, 0, 0), (5, 223, 0, 0), (6, 223, 0, 0), (7, 223, 0, 0), (5, 224, 0, 0), (6, 224, 0, 0), (7, 224, 0, 0), (5, 225, 0, 0), (6, 225, 0, 0), (7, 225, 0, 0), (5, 226, 0, 0), (6, 226, 0, 0), (7, 226, 0, 0), (5, 227, 0, 0), (6, 227, 0, 0), (7, 227, 0, 0), (5, 228, 0, 0), (6, 228, 0, 0), (7, 228, 0, 0), (5, 229, 0, 0), (6, 229, 0, 0), (7, 229, 0, 0), (5, 230, 0, 0), (6, 230, 0, 0), (7, 230, 0, 0), (5, 231, 0, 0), (6, 231, 0, 0), (7, 231, 0, 0), (5, 232, 0, 0), (6, 232, 0, 0), (7, 232, 0, 0), (5, 233, 0, 0), (6, 233, 0, 0), (7, 233, 0, 0), (5, 234, 0, 0), (6, 234, 0, 0), (7, 234, 0, 0), (5, 235, 0, 0), (6, 235, 0, 0), (7, 235, 0, 0), (5, 236, 0, 0), (6, 236, 0, 0)]
def am_WP25 : List Nat := [1490, 1488, 1489, 1494, 1492, 1493, 1502, 1501, 65, 1498, 1496, 1497, 1510, 1509, 66, 1514, 1513, 67, 1506, 1504, 1505, 1518, 1516, 1517, 1522, 1520, 1521, 1526, 1524, 1525, 1531, 1529, 1530, 1539, 1538, 68, 1535, 1533, 1534, 1543, 1541, 1542, 1554, 1552, 1553, 1558, 1556, 1557, 1562, 1560]
set_option maxRecDepth 20000 in
theorem am_wr25 : am_WC25.map am_word = am_WP25.filterMap (fun i => lw_tbl[i]?) := rfl
def am_WC26 : List (Nat × Nat × Nat × Nat) := [(7, 236, 0, 0), (5, 237, 0, 0), (6, 237, 0, 0), (7, 237, 0, 0), (5, 238, 0, 0), (6, 238, 0, 0), (7, 238, 0, 0), (5, 239, 0, 0), (6, 239, 0, 0), (7, 239, 0, 0), (5, 240, 0, 0), (6, 240, 0, 0), (7, 240, 0, 0), (5, 241, 0, 0), (6, 241, 0, 0), (7, 241, 0, 0), (5, 242, 0, 0), (9, 242, 0, 0), (5, 243, 0, 0), (6, 243, 0, 0), (7, 243, 0, 0), (5, 244, 0, 0), (6, 244, 0, 0), (7, 244, 0, 0), (5, 245, 0, 0), (6, 245, 0, 0), (7, 245, 0, 0), (5, 246, 0, 0), (6, 246, 0, 0), (7, 246, 0, 0), (5, 247, 0, 0), (6, 247, 0, 0), (7, 247, 0, 0), (5, 248, 0, 0), (6, 248, 0, 0), (7, 248, 0, 0), (5, 249, 0, 0), (6, 249, 0, 0), (7, 249, 0, 0), (5, 250, 0, 0), (9, 250, 0, 0), (5, 251, 0, 0), (6, 251, 0, 0), (7, 251, 0, 0), (5, 252, 0, 0), (6, 252, 0, 0), (7, 252, 0, 0), (5, 253, 0, 0), (6, 253, 0, 0), (7, 253, 0, 0)]
def am_WP26 : List Nat := [1561, 1567, 1565, 1566, 1571, 1569, 1570, 1584, 1583, 70, 1644, 1643, 77, 1575, 1573, 1574, 1647, 1646, 1592, 1591, 72, 1588, 1587, 71, 1596, 1595, 73, 1600, 1599, 74, 1604, 1603, 75, 1580, 1578, 1579, 1608, 1606, 1607, 1267, 1266, 1612, 1610, 1611, 1616, 1614, 1615, 1625, 1624, 76]
set_option maxRecDepth 20000 in
theorem am_wr26 : am_WC26.map am_word = am_WP26.filterMap (fun i => lw_tbl[i]?) := rfl
def am_WC27 : List (Nat × Nat × Nat × Nat) := [(5, 254, 0, 0), (9, 254, 0, 0), (5, 255, 0, 0), (6, 255, 0, 0), (7, 255, 0, 0), (5, 256, 0, 0), (6, 256, 0, 0), (7, 256, 0, 0), (5, 257, 0, 0), (6, 257, 0, 0), (7, 257, 0, 0), (5, 258, 0, 0), (6, 258, 0, 0), (7, 258, 0, 0), (5, 259, 0, 0), (6, 259, 0, 0), (7, 259, 0, 0), (5, 260, 0, 0), (9, 260, 0, 0), (5, 261, 0, 0), (9, 261, 0, 0), (5, 262, 0, 0), (9, 262, 0, 0)]
def am_WP27 : List Nat := [1628, 1627, 1621, 1619, 1620, 1632, 1630, 1631, 1636, 1634, 1635, 1640, 1638, 1639, 1651, 1649, 1650, 896, 895, 587, 586, 1067, 1066]
set_option maxRecDepth 20000 in
theorem am_wr27 : am_WC27.map am_word = am_WP27.filterMap (fun i => lw_tbl[i]?) := rfl
def am_WC : List (Nat × Nat × Nat × Nat) := am_WC0 ++ (am_WC1 ++ (am_WC2 ++ (am_WC3 ++ (am_WC4 ++ (am_WC5 ++ (am_WC6 ++ (am_WC7 ++ (am_WC8 ++ (am_WC9 ++ (am_WC10 ++ (am_WC11 ++ (am_WC12 ++ (am_WC13 ++ (am_WC14 ++ (am_WC15 ++ (am_WC16 ++ (am_WC17 ++ (am_WC18 ++ (am_WC19 ++ (am_WC20 ++ (am_WC21 ++ (am_WC22 ++ (am_WC23 ++ (am_WC24 ++ (am_WC25 ++ (am_WC26 ++ (am_WC27)))))))))))))))))))))))))))
def am_WP : List Nat := am_WP0 ++ (am_WP1 ++ (am_WP2 ++ (am_WP3 ++ (am_WP4 ++ (am_WP5 ++ (am_WP6 ++ (am_WP7 ++ (am_WP8 ++ (am_WP9 ++ (am_WP10 ++ (am_WP11 ++ (am_WP12 ++ (am_WP13 ++ (am_WP14 ++ (am_WP15 ++ (am_WP16 ++ (am_WP17 ++ (am_WP18 ++ (am_WP19 ++ (am_WP20 ++ (am_WP21 ++ (am_WP22 ++ (am_WP23 ++ (am_WP24 ++ (am_WP25 ++ (am_WP26 ++ (am_WP27)))))))))))))))))))))))))))
theorem am_wr_app {a b : List (Nat × Nat × Nat × Nat)} {c d : List Nat} (h : a.map am_word = c.filterMap (fun i => lw_tbl[i]?)) (h2 : b.map am_word = d.filterMap (fun i => lw_tbl[i]?)) : (a ++ b).map am_word = (c ++ d).filterMap (fun i => lw_tbl[i]?) := by
  rw [List.map_append, List.filterMap_append, h, h2]
theorem am_wr : am_WC.map am_word = am_WP.filterMap (fun i => lw_tbl[i]?) := am_wr_app am_wr0 (am_wr_app am_wr1 (am_wr_app am_wr2 (am_wr_app am_wr3 (am_wr_app am_wr4 (am_wr_app am_wr5 (am_wr_app am_wr6 (am_wr_app am_wr7 (am_wr_app am_wr8 (am_wr_app am_wr9 (am_wr_app am_wr10 (am_wr_app am_wr11 (am_wr_app am_wr12 (am_wr_app am_wr13 (am_wr_app am_wr14 (am_wr_app am_wr15 (am_wr_app am_wr16 (am_wr_app am_wr17 (am_wr_app am_wr18 (am_wr_app am_wr19 (am_wr_app am_wr20 (am_wr_app am_wr21 (am_wr_app am_wr22 (am_wr_app am_wr23 (am_wr_app am_wr24 (am_wr_app am_wr25 (am_wr_app am_wr26 am_wr27))))))))))))))))))))))))))
def am_TB : List Cond := am_WC.map am_word
theorem am_TB_in : ∀ w ∈ am_TB, w ∈ lw_tbl := by
  intro w hw
  unfold am_TB at hw
  rw [am_wr] at hw
  obtain ⟨i, -, hi⟩ := List.mem_filterMap.mp hw
  exact List.mem_of_getElem? hi
theorem am_word_good (e : Nat × Nat × Nat × Nat) : ((am_word e).onTables && (am_word e).keeps) = true := by
  unfold am_word
  split <;> first | rfl | (unfold u_lay; split <;> rfl)
theorem am_TB_good : ∀ w ∈ am_TB, (w.onTables && w.keeps) = true := by
  intro w hw
  obtain ⟨e, -, rfl⟩ := List.mem_map.mp hw
  exact am_word_good e
def am_wq (p : Nat) (e : Nat × Nat × Nat × Nat) : Bool := decide (am_WC[p]? = some e)
theorem am_wd_in {p : Nat} {e : Nat × Nat × Nat × Nat} (h : am_wq p e = true) : am_word e ∈ am_TB := List.mem_map_of_mem (List.mem_of_getElem? (of_decide_eq_true h))
end
section
/-! THE ABSTRACT MACHINE: cells by number, values of Int32/Int64, one step an instruction; and that the JVM does what it does -/
abbrev Am_M : Type := (Nat → Nat → Int32) × (Nat → Nat → Int64)
abbrev Am_C : Type := Nat → List Value → Am_M → Option Value → Am_M → Prop
def am_upI (M : Am_M) (k i : Nat) (x : Int32) : Am_M := (fun k' i' => if k' = k ∧ i' = i then x else M.1 k' i', M.2)
def am_upL (M : Am_M) (k i : Nat) (x : Int64) : Am_M := (M.1, fun k' i' => if k' = k ∧ i' = i then x else M.2 k' i')
def am_cpL (M : Am_M) (a0 a sp dp n : Nat) : Am_M := (M.1, fun k' => if k' = a then va_cpy (M.2 a0) (M.2 a) sp dp n else M.2 k')
/-! values and cells -/
def am_cv (ad : Nat → Nat) : Value → Value
  | .ref k => .ref (ad k)
  | v => v
theorem am_cv_cat (ad : Nat → Nat) (v : Value) : (am_cv ad v).category = v.category := by cases v <;> rfl
theorem am_cv_null {ad : Nat → Nat} {v : Value} (h : v ≠ .null) : am_cv ad v ≠ .null := by cases v <;> first | (intro q; cases q; done) | exact absurd rfl h
def am_shp (q : Nat) : Nat × Nat := am_cellL.getD q (9, 0)
/-- what a field or a place of an array of arrays points at: 0: it is an int; t + 1: cell t -/
def am_rt (q k : Nat) : Nat := (am_rtL.getD q []).getD k 0
def am_rb (q : Nat) : Nat := (am_rtL.getD q []).getD 0 0
def am_fv (q k : Nat) (M : Am_M) : Value := if am_rt q k = 0 then .int (M.1 q k) else .ref (am_rt q k - 1)
def am_e (ad : Nat → Nat) (cA : Nat → ClassId) (q : Nat) (M : Am_M) : va_E :=
  match am_shp q with
  | (0, n) => .inl (cA 0, n, .inl (M.1 q))
  | (1, n) => .inl (cA 1, n, .inr (.inl (M.2 q)))
  | (2, n) => .inl (cA 2, n, .inr (.inr (.inr (.inr (fun i => if i < n then some (ad (am_rb q + i)) else none)))))
  | (3, ci) => .inr (ci, (List.range (am_nf ci)).map (fun k => am_cv ad (am_fv q k M)))
  | (_, n) => .inl (cA 3, n, .inr (.inr (.inr (.inr (fun i => if i < n then some (ad (am_rb q + i)) else none)))))
theorem am_e_congr {ad : Nat → Nat} {cA : Nat → ClassId} {q : Nat} {M M' : Am_M} (h1 : M'.1 q = M.1 q) (h2 : M'.2 q = M.2 q) : am_e ad cA q M' = am_e ad cA q M := by
  unfold am_e
  split <;> first | rw [h1] | rw [h2] | rfl | skip
  congr 1
  congr 1
  apply List.map_congr_left
  intro k _
  unfold am_fv
  rw [h1]
def am_ws (ad : Nat → Nat) (cA : Nat → ClassId) (M : Am_M) : va_W := (List.range am_K).map (fun q => (ad q, am_e ad cA q M))
theorem am_ws_get {ad : Nat → Nat} {cA : Nat → ClassId} {M : Am_M} {q : Nat} (h : q < am_K) : (am_ws ad cA M)[q]? = some (ad q, am_e ad cA q M) := by
  simp [am_ws, h]
theorem am_ws_set {ad : Nat → Nat} {cA : Nat → ClassId} {M M' : Am_M} {q : Nat} (h : ∀ k, k ≠ q → M'.1 k = M.1 k ∧ M'.2 k = M.2 k) : (am_ws ad cA M).set q (ad q, am_e ad cA q M') = am_ws ad cA M' := by
  apply List.ext_getElem?
  intro k
  by_cases hk : k < am_K
  · by_cases e : k = q
    · subst e
      rw [List.getElem?_set_self (by simp [am_ws, hk]), am_ws_get hk]
    · rw [List.getElem?_set_ne (Ne.symm e), am_ws_get hk, am_ws_get hk, am_e_congr (h k e).1 (h k e).2]
  · rw [List.getElem?_eq_none (by simp [am_ws]; omega), List.getElem?_eq_none (by simp [am_ws]; omega)]
def am_tys (cA : Nat → ClassId) : List (ClassId × FieldType) := [(cA 0, .int), (cA 1, .long), (cA 2, .array .int), (cA 3, .array .long)]
/-- all that is fixed: addresses, the arrays' classes, classes, slots, where the new cells begin, the script -/
abbrev Am_G : Type := (Nat → Nat) × (Nat → ClassId) × (Nat → ClassId) × (Nat → Nat → Nat) × Nat × Nat × (Nat → Int32)
abbrev am_ad (G : Am_G) : Nat → Nat := G.1
abbrev am_cA (G : Am_G) : Nat → ClassId := G.2.1
abbrev am_D (G : Am_G) : va_G := (G.2.2.1, G.2.2.2.1)
abbrev am_lo (G : Am_G) : Nat := G.2.2.2.2.1
abbrev am_sL (G : Am_G) : Nat := G.2.2.2.2.2.1
abbrev am_xs (G : Am_G) : Nat → Int32 := G.2.2.2.2.2.2
abbrev am_A (G : Am_G) : Nat → Prop := fun q => am_lo G ≤ q
abbrev am_W (G : Am_G) (M : Am_M) : va_W := am_ws (am_ad G) (am_cA G) M
def am_fA (k : Nat) : Int32 := ([-1, 0, 0, 2, 1, 3, 0, 4] : List Int32).getD k 0
def am_fO (k : Nat) : Int32 := ([1, 10, 11, 2, 20, 0, 0, 0, 0, 30, 0, 0, 0, 41, 40, 0, 0, 0, 50, 0, 0, 0, 0, 60, 70, 0, 0, 0, 0, 80, 0, 81] : List Int32).getD k 0
/-- what nobody writes: the two static rows, the script -/
def am_St (G : Am_G) (U : State) (H : Heap) : Prop :=
  va_Z "OrbitsWed$Moods" "ABOVE" "[I" (.ref (am_ad G 901)) (am_A G) U H ∧ va_T .int (am_ad G 901) 8 (fun k => .int (am_fA k)) (am_A G) U H ∧
  va_Z "OrbitsWed$Moods" "OWN" "[I" (.ref (am_ad G 902)) (am_A G) U H ∧ va_T .int (am_ad G 902) 32 (fun k => .int (am_fO k)) (am_A G) U H ∧
  va_X (am_ad G 900) (am_sL G) (am_xs G) U H ∧ am_ad G 900 < am_lo G ∧ am_lo G ≤ H.size
theorem am_St.moved {G : Am_G} {u U : State} {H : Heap} (hvm : u.vm.Alike U.vm) (h : am_St G u H) : am_St G U H :=
  ⟨h.1.moved hvm, h.2.1.moved hvm, h.2.2.1.moved hvm, h.2.2.2.1.moved hvm, h.2.2.2.2.1.moved hvm, h.2.2.2.2.2⟩
theorem am_St.kept {G : Am_G} {U : State} {H H1 : Heap} (h : am_St G U H) (hz : H.size ≤ H1.size) (hq : ∀ a : Nat, a < H.size → ¬ am_A G a → H1[a]? = H[a]?) : am_St G U H1 :=
  ⟨h.1.kept hq, h.2.1.kept hq, h.2.2.1.kept hq, h.2.2.2.1.kept hq, h.2.2.2.2.1.kept (hq _ (Nat.lt_of_lt_of_le h.2.2.2.2.2.1 h.2.2.2.2.2.2) (Nat.not_le.mpr h.2.2.2.2.2.1)), h.2.2.2.2.2.1, Nat.le_trans h.2.2.2.2.2.2 hz⟩
/-- the world -/
def am_Wd (G : Am_G) (M : Am_M) (U : State) : Prop := va_P (am_D G) vwCl (am_W G M) U.heap ∧ va_K (am_D G) vwCl (am_tys (am_cA G)) U ∧ va_D (am_A G) (am_W G M) ∧ am_St G U U.heap
/-! locals -/
def am_prs (ad : Nat → Nat) : Nat → List Value → List (Nat × Value)
  | _, [] => []
  | i, v :: r => (if v = .null then [] else [(i, am_cv ad v)]) ++ am_prs ad (i + 1) r
theorem am_prs_mem {ad : Nat → Nat} {x : Nat × Value} : ∀ (l : List Value) (i : Nat), x ∈ am_prs ad i l ↔ ∃ (j : Nat) (v : Value), l[j]? = some v ∧ v ≠ .null ∧ x = (i + j, am_cv ad v)
  | [], i => by simp [am_prs]
  | u :: r, i => by
    simp only [am_prs, List.mem_append]
    rw [am_prs_mem r (i + 1)]
    constructor
    · rintro (h | ⟨j, v, h1, h2, h3⟩)
      · by_cases hu : u = .null
        · simp [hu] at h
        · rw [if_neg hu] at h
          exact ⟨0, u, rfl, hu, by simpa using h⟩
      · exact ⟨j + 1, v, by simpa using h1, h2, by rw [h3]; congr 1; omega⟩
    · rintro ⟨j, v, h1, h2, h3⟩
      cases j with
      | zero =>
        simp at h1
        subst h1
        left
        rw [if_neg h2]
        simpa using h3
      | succ j => exact Or.inr ⟨j, v, by simpa using h1, h2, by rw [h3]; congr 1; omega⟩
def am_st (i : Nat) (v : Value) : Nat → List Value → List Value
  | _, [] => []
  | j, u :: r => (if j = i then v else if (j + 1 = i ∧ u.category = 2) ∨ (v.category = 2 ∧ j = i + 1) then .null else u) :: am_st i v (j + 1) r
theorem am_st_len (i : Nat) (v : Value) : ∀ (l : List Value) (j : Nat), (am_st i v j l).length = l.length
  | [], _ => rfl
  | _ :: r, j => by simp [am_st, am_st_len i v r (j + 1)]
theorem am_st_get (i : Nat) (v : Value) : ∀ (l : List Value) (j k : Nat), (am_st i v j l)[k]? = (l[k]?).map (fun u => if j + k = i then v else if (j + k + 1 = i ∧ u.category = 2) ∨ (v.category = 2 ∧ j + k = i + 1) then .null else u)
  | [], _, _ => by simp [am_st]
  | u :: r, j, k => by
    cases k with
    | zero => simp [am_st]
    | succ k =>
      simp only [am_st, List.getElem?_cons_succ]
      rw [am_st_get i v r (j + 1) k, show j + 1 + k = j + (k + 1) by omega]
def am_lv (ad : Nat → Nat) (ls : Array Slot) (nL : Nat) (lv : List Value) : Prop := lv.length = nL ∧ lv_has ls nL (am_prs ad 0 lv)
theorem am_lv_at {ad : Nat → Nat} {ls : Array Slot} {nL : Nat} {lv : List Value} (h : am_lv ad ls nL lv) {k : Nat} {v : Value} (hk : lv[k]? = some v) (hv : v ≠ .null) : ls[k]? = some (.val (am_cv ad v)) :=
  h.2.2.2 (k, am_cv ad v) ((am_prs_mem lv 0).mpr ⟨k, v, hk, hv, by rw [Nat.zero_add]⟩)
theorem am_lv_set {ad : Nat → Nat} {ls : Array Slot} {nL : Nat} {lv : List Value} {l' : List (Nat × Value)} {i : Nat} {v : Value} (h0 : lv.length = nL) (h : lv_has ls nL l')
    (hin : ∀ x, x ∈ am_prs ad 0 (am_st i v 0 lv) → x ∈ l') : am_lv ad ls nL (am_st i v 0 lv) := ⟨by rw [am_st_len]; exact h0, h.1, h.2.1, fun q hq => h.2.2 q (hin q hq)⟩
theorem am_in1 {ad : Nat → Nat} {lv : List Value} {i : Nat} {v : Value} (hv : v ≠ .null) (hc : v.category = 1) : ∀ x, x ∈ am_prs ad 0 (am_st i v 0 lv) → x ∈ (i, am_cv ad v) :: (am_prs ad 0 lv).filter (fun q => !(q.1 == i) && !(q.1 + 1 == i && q.2.category == 2)) := by
  intro x hx
  obtain ⟨k, w, h1, h2, h3⟩ := (am_prs_mem _ 0).mp hx
  rw [am_st_get, Nat.zero_add] at h1
  obtain ⟨u, hu, hw⟩ := Option.map_eq_some_iff.mp h1
  rw [Nat.zero_add] at h3
  by_cases e : k = i
  · subst e
    rw [if_pos rfl] at hw
    subst hw
    rw [h3]
    exact List.mem_cons_self
  · rw [if_neg e] at hw
    by_cases e2 : (k + 1 = i ∧ u.category = 2) ∨ (v.category = 2 ∧ k = i + 1)
    · rw [if_pos e2] at hw
      exact absurd hw.symm h2
    · rw [if_neg e2] at hw
      subst hw
      refine List.mem_cons_of_mem _ (List.mem_filter.mpr ⟨(am_prs_mem lv 0).mpr ⟨k, u, hu, h2, by rw [h3, Nat.zero_add]⟩, ?_⟩)
      rw [h3]
      have e3 : ¬ (k + 1 = i ∧ u.category = 2) := fun q => e2 (Or.inl q)
      have := am_cv_cat ad u
      simp only [Bool.and_eq_true, Bool.not_eq_true', beq_eq_false_iff_ne, ne_eq]
      refine ⟨e, ?_⟩
      simp only [this, Bool.and_eq_false_iff, beq_eq_false_iff_ne, ne_eq]
      by_cases q : k + 1 = i
      · exact Or.inr (fun z => e3 ⟨q, z⟩)
      · exact Or.inl q
theorem am_in2 {ad : Nat → Nat} {lv : List Value} {i : Nat} {v : Value} (hv : v ≠ .null) (hc : v.category = 2) : ∀ x, x ∈ am_prs ad 0 (am_st i v 0 lv) → x ∈ (i, am_cv ad v) :: (am_prs ad 0 lv).filter (fun q => !(q.1 == i) && (!(q.1 == i + 1) && !(q.1 + 1 == i && q.2.category == 2))) := by
  intro x hx
  obtain ⟨k, w, h1, h2, h3⟩ := (am_prs_mem _ 0).mp hx
  rw [am_st_get, Nat.zero_add] at h1
  obtain ⟨u, hu, hw⟩ := Option.map_eq_some_iff.mp h1
  rw [Nat.zero_add] at h3
  by_cases e : k = i
  · subst e
    rw [if_pos rfl] at hw
    subst hw
    rw [h3]
    exact List.mem_cons_self
  · rw [if_neg e] at hw
    by_cases e2 : (k + 1 = i ∧ u.category = 2) ∨ (v.category = 2 ∧ k = i + 1)
    · rw [if_pos e2] at hw
      exact absurd hw.symm h2
    · rw [if_neg e2] at hw
      subst hw
      refine List.mem_cons_of_mem _ (List.mem_filter.mpr ⟨(am_prs_mem lv 0).mpr ⟨k, u, hu, h2, by rw [h3, Nat.zero_add]⟩, ?_⟩)
      rw [h3]
      have e3 : ¬ (k + 1 = i ∧ u.category = 2) := fun q => e2 (Or.inl q)
      have e4 : ¬ k = i + 1 := fun q => e2 (Or.inr ⟨hc, q⟩)
      have := am_cv_cat ad u
      simp only [Bool.and_eq_true, Bool.not_eq_true', beq_eq_false_iff_ne, ne_eq]
      refine ⟨e, e4, ?_⟩
      simp only [this, Bool.and_eq_false_iff, beq_eq_false_iff_ne, ne_eq]
      by_cases q : k + 1 = i
      · exact Or.inr (fun z => e3 ⟨q, z⟩)
      · exact Or.inl q
/-- the locals with which a method begins -/
def am_en : List Value → List Value
  | [] => []
  | v :: r => if v.category = 2 then v :: .null :: am_en r else v :: am_en r
def am_ent (nL : Nat) (as : List Value) : List Value := am_en as ++ List.replicate (nL - (am_en as).length) .null
theorem am_en_len (ad : Nat → Nat) : ∀ as : List Value, (lg_sl (as.map (am_cv ad))).length = (am_en as).length
  | [] => rfl
  | v :: r => by
    have ih := am_en_len ad r
    simp only [lg_sl] at ih
    by_cases h : v.category = 2
    · simp [lg_sl, am_en, am_cv_cat, h, ih]
    · simp [lg_sl, am_en, am_cv_cat, h, ih]
theorem am_en_args {ad : Nat → Nat} : ∀ (as : List Value) (i j : Nat) (v : Value), (am_en as)[j]? = some v → v ≠ .null → (i + j, am_cv ad v) ∈ lv_args i (as.map (am_cv ad))
  | [], i, j, v, h, _ => by simp [am_en] at h
  | u :: r, i, j, v, h, hv => by
    by_cases hc : u.category = 2
    · simp only [am_en, hc, if_true] at h
      simp only [List.map_cons, lv_args, am_cv_cat, hc, if_true]
      match j, h with
      | 0, h => simp at h; subst h; exact List.mem_cons_self
      | 1, h => simp at h; exact absurd h.symm hv
      | j + 2, h =>
        have := am_en_args (ad := ad) r (i + 2) j v (by simpa using h) hv
        rw [show i + 2 + j = i + (j + 2) by omega] at this
        exact List.mem_cons_of_mem _ this
    · simp only [am_en, hc, if_false] at h
      simp only [List.map_cons, lv_args, am_cv_cat, hc, if_false]
      match j, h with
      | 0, h => simp at h; subst h; exact List.mem_cons_self
      | j + 1, h =>
        have := am_en_args (ad := ad) r (i + 1) j v (by simpa using h) hv
        rw [show i + 1 + j = i + (j + 1) by omega] at this
        exact List.mem_cons_of_mem _ this
theorem am_lv_entry {ad : Nat → Nat} {nL : Nat} {as : List Value} (h : (am_en as).length ≤ nL) : am_lv ad ((lg_sl (as.map (am_cv ad)) ++ List.replicate (nL - (lg_sl (as.map (am_cv ad))).length) Slot.unset).toArray) nL (am_ent nL as) := by
  have h0 := lv_entry (as.map (am_cv ad)) (n := nL) (by rw [am_en_len]; exact h)
  refine ⟨by simp [am_ent]; omega, h0.1, h0.2.1, fun q hq => h0.2.2 q ?_⟩
  obtain ⟨j, v, h1, h2, h3⟩ := (am_prs_mem _ 0).mp hq
  rw [h3]
  unfold am_ent at h1
  by_cases hj : j < (am_en as).length
  · rw [List.getElem?_append_left hj] at h1
    exact am_en_args as 0 j v h1 h2
  · rw [List.getElem?_append_right (by omega)] at h1
    exact absurd (List.eq_of_mem_replicate (List.mem_of_getElem? h1)) h2
end
section
/-! one step; a run; that it is sound -/
def am_i1 (st : List Value) (f : Int32 → List Value → Prop) : Prop := match st with
  | .int x :: r => f x r
  | _ => False
def am_i2 (st : List Value) (f : Int32 → Int32 → List Value → Prop) : Prop := match st with
  | .int y :: .int x :: r => f x y r
  | _ => False
def am_l1 (st : List Value) (f : Int64 → List Value → Prop) : Prop := match st with
  | .long x :: r => f x r
  | _ => False
def am_l2 (st : List Value) (f : Int64 → Int64 → List Value → Prop) : Prop := match st with
  | .long y :: .long x :: r => f x y r
  | _ => False
def am_li (st : List Value) (f : Int64 → Int32 → List Value → Prop) : Prop := match st with
  | .int y :: .long x :: r => f x y r
  | _ => False
def am_r1 (st : List Value) (f : Nat → List Value → Prop) : Prop := match st with
  | .ref q :: r => f q r
  | _ => False
def am_ri (st : List Value) (f : Nat → Int32 → List Value → Prop) : Prop := match st with
  | .int i :: .ref q :: r => f q i r
  | _ => False
def am_rii (st : List Value) (f : Nat → Int32 → Int32 → List Value → Prop) : Prop := match st with
  | .int x :: .int i :: .ref q :: r => f q i x r
  | _ => False
def am_ril (st : List Value) (f : Nat → Int32 → Int64 → List Value → Prop) : Prop := match st with
  | .long x :: .int i :: .ref q :: r => f q i x r
  | _ => False
def am_ipr (st : List Value) (f : Nat → Int32 → List Value → Prop) : Prop := match st with
  | .int x :: .ref q :: r => f q x r
  | _ => False
def am_acp (st : List Value) (f : Nat → Int32 → Nat → Int32 → Int32 → List Value → Prop) : Prop := match st with
  | .int n :: .int dp :: .ref a :: .int sp :: .ref a0 :: r => f a0 sp a dp n r
  | _ => False
def am_gi (lv : List Value) (k : Nat) (f : Int32 → Prop) : Prop := match lv[k]? with
  | some (.int x) => f x
  | _ => False
def am_gl (lv : List Value) (k : Nat) (f : Int64 → Prop) : Prop := match lv[k]? with
  | some (.long x) => f x
  | _ => False
def am_gr (lv : List Value) (k : Nat) (f : Nat → Prop) : Prop := match lv[k]? with
  | some (.ref x) => f x
  | _ => False
theorem am_i1_e {st : List Value} {f : Int32 → List Value → Prop} (h : am_i1 st f) : ∃ x r, st = .int x :: r ∧ f x r := by
  unfold am_i1 at h; split at h <;> first | exact ⟨_, _, rfl, h⟩ | exact h.elim
theorem am_i2_e {st : List Value} {f : Int32 → Int32 → List Value → Prop} (h : am_i2 st f) : ∃ x y r, st = .int y :: .int x :: r ∧ f x y r := by
  unfold am_i2 at h; split at h <;> first | exact ⟨_, _, _, rfl, h⟩ | exact h.elim
theorem am_l1_e {st : List Value} {f : Int64 → List Value → Prop} (h : am_l1 st f) : ∃ x r, st = .long x :: r ∧ f x r := by
  unfold am_l1 at h; split at h <;> first | exact ⟨_, _, rfl, h⟩ | exact h.elim
theorem am_l2_e {st : List Value} {f : Int64 → Int64 → List Value → Prop} (h : am_l2 st f) : ∃ x y r, st = .long y :: .long x :: r ∧ f x y r := by
  unfold am_l2 at h; split at h <;> first | exact ⟨_, _, _, rfl, h⟩ | exact h.elim
theorem am_li_e {st : List Value} {f : Int64 → Int32 → List Value → Prop} (h : am_li st f) : ∃ x y r, st = .int y :: .long x :: r ∧ f x y r := by
  unfold am_li at h; split at h <;> first | exact ⟨_, _, _, rfl, h⟩ | exact h.elim
theorem am_r1_e {st : List Value} {f : Nat → List Value → Prop} (h : am_r1 st f) : ∃ x r, st = .ref x :: r ∧ f x r := by
  unfold am_r1 at h; split at h <;> first | exact ⟨_, _, rfl, h⟩ | exact h.elim
theorem am_ri_e {st : List Value} {f : Nat → Int32 → List Value → Prop} (h : am_ri st f) : ∃ q i r, st = .int i :: .ref q :: r ∧ f q i r := by
  unfold am_ri at h; split at h <;> first | exact ⟨_, _, _, rfl, h⟩ | exact h.elim
theorem am_rii_e {st : List Value} {f : Nat → Int32 → Int32 → List Value → Prop} (h : am_rii st f) : ∃ q i x r, st = .int x :: .int i :: .ref q :: r ∧ f q i x r := by
  unfold am_rii at h; split at h <;> first | exact ⟨_, _, _, _, rfl, h⟩ | exact h.elim
theorem am_ril_e {st : List Value} {f : Nat → Int32 → Int64 → List Value → Prop} (h : am_ril st f) : ∃ q i x r, st = .long x :: .int i :: .ref q :: r ∧ f q i x r := by
  unfold am_ril at h; split at h <;> first | exact ⟨_, _, _, _, rfl, h⟩ | exact h.elim
theorem am_ipr_e {st : List Value} {f : Nat → Int32 → List Value → Prop} (h : am_ipr st f) : ∃ q x r, st = .int x :: .ref q :: r ∧ f q x r := by
  unfold am_ipr at h; split at h <;> first | exact ⟨_, _, _, rfl, h⟩ | exact h.elim
theorem am_acp_e {st : List Value} {f : Nat → Int32 → Nat → Int32 → Int32 → List Value → Prop} (h : am_acp st f) : ∃ a0 sp a dp n r, st = .int n :: .int dp :: .ref a :: .int sp :: .ref a0 :: r ∧ f a0 sp a dp n r := by
  unfold am_acp at h; split at h <;> first | exact ⟨_, _, _, _, _, _, rfl, h⟩ | exact h.elim
theorem am_gi_e {lv : List Value} {k : Nat} {f : Int32 → Prop} (h : am_gi lv k f) : ∃ x, lv[k]? = some (.int x) ∧ f x := by
  unfold am_gi at h; split at h <;> first | exact ⟨_, by assumption, h⟩ | exact h.elim
theorem am_gl_e {lv : List Value} {k : Nat} {f : Int64 → Prop} (h : am_gl lv k f) : ∃ x, lv[k]? = some (.long x) ∧ f x := by
  unfold am_gl at h; split at h <;> first | exact ⟨_, by assumption, h⟩ | exact h.elim
theorem am_gr_e {lv : List Value} {k : Nat} {f : Nat → Prop} (h : am_gr lv k f) : ∃ x, lv[k]? = some (.ref x) ∧ f x := by
  unfold am_gr at h; split at h <;> first | exact ⟨_, by assumption, h⟩ | exact h.elim
def am_cnd (c : ClassFile.Cond) (x y : Int32) : Prop := match c with
  | .eq => x = y
  | .ne => ¬ x = y
  | .lt => x < y
  | .ge => y ≤ x
  | .gt => y < x
  | .le => x ≤ y
def am_sw (ps : List (Int × Int)) (d x : Int) : Int := match ps with
  | [] => d
  | (a, o) :: r => if x = a then o else am_sw r d x
def am_cat (st : List Value) : Nat := (st.map fun v => v.category).sum
def am_i4 (n : Nat) (q : Nat) (i : Int32) (sL : Nat) (xs : Nat → Int32) (M : Am_M) (f : Int32 → Prop) : Prop :=
  if q = 900 then vp_in i sL ∧ f (xs i.toNatClampNeg)
  else if q = 901 then vp_in i 8 ∧ f (am_fA i.toNatClampNeg)
  else if q = 902 then vp_in i 32 ∧ f (am_fO i.toNatClampNeg)
  else (am_shp q).1 = 0 ∧ q < n ∧ vp_in i (am_shp q).2 ∧ f (M.1 q i.toNatClampNeg)
def am_stp (mt : Nat → Am_m) (C : Am_C) (sL : Nat) (xs : Nat → Int32) (rt : Nat) (rv : Option Value) (rM : Am_M) (i : Instr) (pn : Nat) (lv st : List Value) (M : Am_M) (K : Nat → List Value → List Value → Am_M → Prop) : Prop :=
  match i with
  | .iconst n => K pn lv (.int (Int32.ofInt n) :: st) M
  | .ldc2_w n => K pn lv (.long (Int64.ofNat n) :: st) M
  | .iload k => am_gi lv k fun x => K pn lv (.int x :: st) M
  | .lload k => am_gl lv k fun x => K pn lv (.long x :: st) M
  | .aload k => am_gr lv k fun q => K pn lv (.ref q :: st) M
  | .istore k => am_i1 st fun x r => k < lv.length ∧ K pn (am_st k (.int x) 0 lv) r M
  | .lstore k => am_l1 st fun x r => k + 1 < lv.length ∧ K pn (am_st k (.long x) 0 lv) r M
  | .astore k => am_r1 st fun q r => k < lv.length ∧ K pn (am_st k (.ref q) 0 lv) r M
  | .iinc k n => am_gi lv k fun x => K pn (am_st k (.int (x + Int32.ofInt n)) 0 lv) st M
  | .iadd => am_i2 st fun x y r => K pn lv (.int (x + y) :: r) M
  | .isub => am_i2 st fun x y r => K pn lv (.int (x - y) :: r) M
  | .imul => am_i2 st fun x y r => K pn lv (.int (x * y) :: r) M
  | .iand => am_i2 st fun x y r => K pn lv (.int (x &&& y) :: r) M
  | .ior => am_i2 st fun x y r => K pn lv (.int (x ||| y) :: r) M
  | .ixor => am_i2 st fun x y r => K pn lv (.int (x ^^^ y) :: r) M
  | .idiv => am_i2 st fun x y r => ¬ y = 0 ∧ K pn lv (.int (x / y) :: r) M
  | .irem => am_i2 st fun x y r => ¬ y = 0 ∧ K pn lv (.int (x - x / y * y) :: r) M
  | .ineg => am_i1 st fun x r => K pn lv (.int (-x) :: r) M
  | .ishl => am_i2 st fun x y r => K pn lv (.int (x <<< (y &&& 31)) :: r) M
  | .ishr => am_i2 st fun x y r => K pn lv (.int (x >>> (y &&& 31)) :: r) M
  | .iushr => am_i2 st fun x y r => K pn lv (.int (x.toUInt32 >>> (y.toUInt32 &&& Int32.toUInt32 31)).toInt32 :: r) M
  | .ladd => am_l2 st fun x y r => K pn lv (.long (x + y) :: r) M
  | .lsub => am_l2 st fun x y r => K pn lv (.long (x - y) :: r) M
  | .lmul => am_l2 st fun x y r => K pn lv (.long (x * y) :: r) M
  | .land => am_l2 st fun x y r => K pn lv (.long (x &&& y) :: r) M
  | .lor => am_l2 st fun x y r => K pn lv (.long (x ||| y) :: r) M
  | .ldiv => am_l2 st fun x y r => ¬ y = 0 ∧ K pn lv (.long (x / y) :: r) M
  | .lrem => am_l2 st fun x y r => ¬ y = 0 ∧ K pn lv (.long (x - x / y * y) :: r) M
  | .lshl => am_li st fun x y r => K pn lv (.long (x <<< (y.toInt64 &&& 63)) :: r) M
  | .lcmp => am_l2 st fun x y r => K pn lv (.int (lg_cmp x y) :: r) M
  | .i2l => am_i1 st fun x r => K pn lv (.long x.toInt64 :: r) M
  | .l2i => am_l1 st fun x r => K pn lv (.int x.toInt32 :: r) M
  | .i2b => am_i1 st fun x r => K pn lv (.int x.toInt8.toInt32 :: r) M
  | .i2s => am_i1 st fun x r => K pn lv (.int x.toInt16.toInt32 :: r) M
  | .dup => match st with
    | v :: r => v.category = 1 ∧ K pn lv (v :: v :: r) M
    | _ => False
  | .dup2 => match st with
    | v :: w :: r => v.category = 1 ∧ w.category = 1 ∧ K pn lv (v :: w :: v :: w :: r) M
    | _ => False
  | .ifCond c t => am_i1 st fun x r => (am_cnd c x 0 → K t.toNat lv r M) ∧ (¬ am_cnd c x 0 → K pn lv r M)
  | .if_icmp c t => am_i2 st fun x y r => (am_cnd c x y → K t.toNat lv r M) ∧ (¬ am_cnd c x y → K pn lv r M)
  | .goto t => K t.toNat lv st M
  | .tableswitch d lo hi offs => am_i1 st fun x r => K (if x.toInt < lo ∨ hi < x.toInt then d else offs.toList.getD (x.toInt - lo).toNat 0).toNat lv r M
  | .lookupswitch d ps => am_i1 st fun x r => K (am_sw ps.toList d x.toInt).toNat lv r M
  | .getfield e => am_r1 st fun q r => am_shp q = (3, e / 64) ∧ q < am_K ∧ K pn lv (am_fv q (e % 64) M :: r) M
  | .putfield e => am_ipr st fun q x r => am_shp q = (3, e / 64) ∧ q < am_K ∧ am_rt q (e % 64) = 0 ∧ (am_tyq (e / 64) (e % 64) = .boolean → x = 0 ∨ x = 1) ∧ K pn lv r (am_upI M q (e % 64) x)
  | .getstatic e => K pn lv (.ref e :: st) M
  | .iaload => am_ri st fun q i r => am_i4 am_K q i sL xs M fun x => K pn lv (.int x :: r) M
  | .laload => am_ri st fun q i r => (am_shp q).1 = 1 ∧ q < am_K ∧ vp_in i (am_shp q).2 ∧ K pn lv (.long (M.2 q i.toNatClampNeg) :: r) M
  | .aaload => am_ri st fun q i r => ((am_shp q).1 = 2 ∨ (am_shp q).1 = 4) ∧ q < am_K ∧ vp_in i (am_shp q).2 ∧ K pn lv (.ref (am_rb q + i.toNatClampNeg) :: r) M
  | .iastore => am_rii st fun q i x r => (am_shp q).1 = 0 ∧ q < am_K ∧ vp_in i (am_shp q).2 ∧ K pn lv r (am_upI M q i.toNatClampNeg x)
  | .lastore => am_ril st fun q i x r => (am_shp q).1 = 1 ∧ q < am_K ∧ vp_in i (am_shp q).2 ∧ K pn lv r (am_upL M q i.toNatClampNeg x)
  | .arraylength => am_r1 st fun q r => if q = 900 then K pn lv (.int (Int32.ofNat sL) :: r) M else (am_shp q).1 = 0 ∧ q < am_K ∧ K pn lv (.int (Int32.ofNat (am_shp q).2) :: r) M
  | .invokevirtual j => match st.drop (mt j).2.2.2.2.2.2.1 with
    | .ref q :: r => am_shp q = (3, (mt j).1) ∧ q < am_K ∧ (mt j).2.2.2.2.2.2.1 ≤ st.length ∧ am_cat r ≤ 8 ∧ ∃ v M', C j (.ref q :: (st.take (mt j).2.2.2.2.2.2.1).reverse) M v M' ∧ K pn lv (v.toList ++ r) M'
    | _ => False
  | .invokestatic j => (mt j).2.2.2.2.2.2.1 ≤ st.length ∧ am_cat (st.drop (mt j).2.2.2.2.2.2.1) ≤ 8 ∧ ∃ v M', C j (st.take (mt j).2.2.2.2.2.2.1).reverse M v M' ∧ K pn lv (v.toList ++ st.drop (mt j).2.2.2.2.2.2.1) M'
  | .invokespecial 0 => am_i1 st fun x r => am_cat r ≤ 8 ∧ K pn lv (.int (if 0 ≤ x then x else 0 - x) :: r) M
  | .invokespecial 1 => am_i2 st fun x y r => am_cat r ≤ 8 ∧ K pn lv (.int (if y < x then y else x) :: r) M
  | .invokespecial 2 => am_i2 st fun x y r => am_cat r ≤ 8 ∧ K pn lv (.int (if x < y then y else x) :: r) M
  | .invokespecial 3 => am_l2 st fun x y r => am_cat r ≤ 8 ∧ K pn lv (.long (if y < x then y else x) :: r) M
  | .invokespecial 4 => am_acp st fun a0 sp a dp n r => (am_shp a0).1 = 1 ∧ a0 < am_K ∧ (am_shp a).1 = 1 ∧ a < am_K ∧ ¬ sp < 0 ∧ ¬ dp < 0 ∧ ¬ n < 0 ∧ sp.toNatClampNeg + n.toNatClampNeg ≤ (am_shp a0).2 ∧ dp.toNatClampNeg + n.toNatClampNeg ≤ (am_shp a).2 ∧ am_cat r ≤ 8 ∧ K pn lv r (am_cpL M a0 a sp.toNatClampNeg dp.toNatClampNeg n.toNatClampNeg)
  | .ireturn => match st with
    | [.int x] => (rt = 1 ∨ (rt = 2 ∧ (x = 0 ∨ x = 1))) ∧ rv = some (.int x) ∧ rM = M
    | _ => False
  | .lreturn => match st with
    | [.long x] => rt = 3 ∧ rv = some (.long x) ∧ rM = M
    | _ => False
  | .return_ => match st with
    | [] => rt = 0 ∧ rv = none ∧ rM = M
    | _ => False
  | _ => False
def am_run (mt : Nat → Am_m) (C : Am_C) (sL : Nat) (xs : Nat → Int32) (P : Nat → Option (Instr × Nat)) (rt : Nat) (rv : Option Value) (rM : Am_M) : Nat → Nat → List Value → List Value → Am_M → Prop
  | 0, _, _, _, _ => False
  | n + 1, pc, lv, st, M => match P pc with
    | none => False
    | some (i, len) => am_stp mt C sL xs rt rv rM i (pc + len) lv st M (am_run mt C sL xs P rt rv rM n)
/-- a program: place, length, the step, the instruction as it is decoded, the place of the instruction's word -/
abbrev Am_p : Type := List (Nat × Nat × Instr × Instr × Nat)
def am_lk (P : Am_p) (pc : Nat) : Option (Instr × Nat) := match P with
  | [] => none
  | e :: r => if pc = e.1 then some (e.2.2.1, e.2.1) else am_lk r pc
/-- the owner's name, the step against the instruction -/
def am_pair (o pc : Nat) (i r : Instr) (len w : Nat) : Bool :=
  match i with
  | .iconst b => match r with
    | .iconst a => decide (a = b) && decide (len = 1)
    | .bipush a => decide (len = 2) && decide ((Int8.ofInt a).toInt32 = Int32.ofInt b)
    | .sipush a => decide (len = 3) && decide ((Int16.ofInt a).toInt32 = Int32.ofInt b)
    | .ldc k => decide (len = 2) && am_wq w (3, o, k, (b % 4294967296).toNat) && decide (Int32.ofNat (b % 4294967296).toNat = Int32.ofInt b)
    | .ldc_w k => decide (len = 3) && am_wq w (3, o, k, (b % 4294967296).toNat) && decide (Int32.ofNat (b % 4294967296).toNat = Int32.ofInt b)
    | _ => false
  | .ldc2_w b => match r with
    | .lconst a => decide (len = 1) && decide (Int64.ofNat (a : Nat) = Int64.ofNat b)
    | .ldc2_w k => decide (len = 3) && am_wq w (4, o, k, b)
    | _ => false
  | .iload b => (match r with | .iload_n a => decide ((a : Nat) = b) && decide (len = 1) | .iload a => decide (a = b) && decide (len = 2) | _ => false)
  | .lload b => (match r with | .lload_n a => decide ((a : Nat) = b) && decide (len = 1) | .lload a => decide (a = b) && decide (len = 2) | _ => false)
  | .aload b => (match r with | .aload_n a => decide ((a : Nat) = b) && decide (len = 1) | .aload a => decide (a = b) && decide (len = 2) | _ => false)
  | .istore b => (match r with | .istore_n a => decide ((a : Nat) = b) && decide (len = 1) | .istore a => decide (a = b) && decide (len = 2) | _ => false)
  | .lstore b => (match r with | .lstore_n a => decide ((a : Nat) = b) && decide (len = 1) | .lstore a => decide (a = b) && decide (len = 2) | _ => false)
  | .astore b => (match r with | .astore_n a => decide ((a : Nat) = b) && decide (len = 1) | .astore a => decide (a = b) && decide (len = 2) | _ => false)
  | .iinc k n => decide (r = .iinc k n) && decide (len = 3)
  | .ifCond c t => (match r with | .ifCond c' o => decide (c = c') && decide (len = 3) && decide ((pc : Int) + o = t) && decide (0 ≤ t) | _ => false)
  | .if_icmp c t => (match r with | .if_icmp c' o => decide (c = c') && decide (len = 3) && decide ((pc : Int) + o = t) && decide (0 ≤ t) | _ => false)
  | .goto t => (match r with | .goto o => decide (len = 3) && decide ((pc : Int) + o = t) && decide (0 ≤ t) | _ => false)
  | .tableswitch d lo hi offs => (match r with | .tableswitch d' lo' hi' offs' => decide (lo = lo') && decide (hi = hi') && decide ((pc : Int) + d' = d) && decide (0 ≤ d) && decide (offs.toList = offs'.toList.map (fun o => (pc : Int) + o)) && offs.toList.all (fun o => decide (0 ≤ o)) && decide ((offs'.toList.length : Int) = hi - lo + 1) | _ => false)
  | .lookupswitch d ps => (match r with | .lookupswitch d' ps' => decide ((pc : Int) + d' = d) && decide (0 ≤ d) && decide (ps.toList = ps'.toList.map (fun q => (q.1, (pc : Int) + q.2))) && ps.toList.all (fun q => decide (0 ≤ q.2)) && (ps'.toList.zip (ps'.toList.drop 1)).all (fun (a, next) => a.1 < next.1) | _ => false)
  | .getfield e => (match r with | .getfield k => decide (len = 3) && decide (e / 64 < 12) && decide (e % 64 < am_nf (e / 64)) && am_wq w (0, o, k, e) | _ => false)
  | .putfield e => (match r with | .putfield k => decide (len = 3) && decide (e / 64 < 12) && decide (e % 64 < am_nf (e / 64)) && decide ((am_T (e / 64) (e % 64)).2.2.2 = false) && am_iz e && am_wq w (0, o, k, e) | _ => false)
  | .getstatic e => (match r with | .getstatic k => decide (len = 3) && ((decide (e = 901) && am_wq w (10, o, k, 0)) || (decide (e = 902) && am_wq w (10, o, k, 1))) | _ => false)
  | .invokevirtual j => (match r with | .invokevirtual k => decide (len = 3) && decide ((am_mt j).2.2.2.2.2.1 = false) && am_wq w (1, o, k, j) | _ => false)
  | .invokestatic j => (match r with | .invokestatic k => decide (len = 3) && decide ((am_mt j).2.2.2.2.2.1 = true) && am_wq w (1, o, k, j) | _ => false)
  | .invokespecial t => (match r with | .invokestatic k => decide (len = 3) && am_wq w (2, o, k, t) | _ => false)
  | .iadd => decide (r = .iadd) && decide (len = 1)
  | .isub => decide (r = .isub) && decide (len = 1)
  | .imul => decide (r = .imul) && decide (len = 1)
  | .iand => decide (r = .iand) && decide (len = 1)
  | .ior => decide (r = .ior) && decide (len = 1)
  | .ixor => decide (r = .ixor) && decide (len = 1)
  | .idiv => decide (r = .idiv) && decide (len = 1)
  | .irem => decide (r = .irem) && decide (len = 1)
  | .ineg => decide (r = .ineg) && decide (len = 1)
  | .ishl => decide (r = .ishl) && decide (len = 1)
  | .ishr => decide (r = .ishr) && decide (len = 1)
  | .iushr => decide (r = .iushr) && decide (len = 1)
  | .ladd => decide (r = .ladd) && decide (len = 1)
  | .lsub => decide (r = .lsub) && decide (len = 1)
  | .lmul => decide (r = .lmul) && decide (len = 1)
  | .land => decide (r = .land) && decide (len = 1)
  | .lor => decide (r = .lor) && decide (len = 1)
  | .ldiv => decide (r = .ldiv) && decide (len = 1)
  | .lrem => decide (r = .lrem) && decide (len = 1)
  | .lshl => decide (r = .lshl) && decide (len = 1)
  | .lcmp => decide (r = .lcmp) && decide (len = 1)
  | .i2l => decide (r = .i2l) && decide (len = 1)
  | .l2i => decide (r = .l2i) && decide (len = 1)
  | .i2b => decide (r = .i2b) && decide (len = 1)
  | .i2s => decide (r = .i2s) && decide (len = 1)
  | .dup => decide (r = .dup) && decide (len = 1)
  | .dup2 => decide (r = .dup2) && decide (len = 1)
  | .iaload => decide (r = .iaload) && decide (len = 1)
  | .laload => decide (r = .laload) && decide (len = 1)
  | .aaload => decide (r = .aaload) && decide (len = 1)
  | .iastore => decide (r = .iastore) && decide (len = 1)
  | .lastore => decide (r = .lastore) && decide (len = 1)
  | .arraylength => decide (r = .arraylength) && decide (len = 1)
  | .ireturn => decide (r = .ireturn) && decide (len = 1)
  | .lreturn => decide (r = .lreturn) && decide (len = 1)
  | .return_ => decide (r = .return_) && decide (len = 1)
  | _ => false
def am_chk (o : Nat) (cc : ByteArray) (P : Am_p) : Bool := P.all fun e => decide (decode cc e.1 = .ok (e.2.2.2.1, e.2.1)) && am_pair o e.1 e.2.2.1 e.2.2.2.1 e.2.1 e.2.2.2.2
theorem am_chk_at {o : Nat} {cc : ByteArray} : ∀ {P : Am_p}, am_chk o cc P = true → ∀ {pc : Nat} {i : Instr} {len : Nat}, am_lk P pc = some (i, len) → ∃ (r : Instr) (w : Nat), decode cc pc = .ok (r, len) ∧ am_pair o pc i r len w = true
  | [], _, pc, i, len, h => by simp [am_lk] at h
  | e :: P, hc, pc, i, len, h => by
    have hc' : (decide (decode cc e.1 = .ok (e.2.2.2.1, e.2.1)) && am_pair o e.1 e.2.2.1 e.2.2.2.1 e.2.1 e.2.2.2.2) = true ∧ am_chk o cc P = true := by
      have := hc
      unfold am_chk at this
      rw [List.all_cons, Bool.and_eq_true] at this
      exact this
    unfold am_lk at h
    by_cases e1 : pc = e.1
    · rw [if_pos e1] at h
      cases h
      have h2 := hc'.1
      rw [Bool.and_eq_true, decide_eq_true_eq] at h2
      subst e1
      exact ⟨_, _, h2.1, h2.2⟩
    · rw [if_neg e1] at h
      exact am_chk_at hc'.2 h
end
section
/-! the JVM does what the abstract machine does: one step -/
theorem am_lays : ∀ ci, ci < 12 → ∀ w ∈ u_ws (am_R ci) (am_T ci) (am_nf ci), w ∈ am_TB := by
  intro ci hci w hw
  obtain ⟨k, hk, rfl⟩ := List.mem_map.mp hw
  have h : ∀ ci, ci < 12 → ∀ k, k < am_nf ci → am_WC.any (fun e => decide (e = (11, ci, k, 0))) = true := by decide +kernel
  obtain ⟨e, he, h2⟩ := List.any_eq_true.mp (h ci hci k (List.mem_range.mp hk))
  rw [of_decide_eq_true h2] at he
  exact List.mem_map.mpr ⟨(11, ci, k, 0), he, rfl⟩
theorem am_ty_ok : ∀ ci, ci < 12 → ∀ k, k < am_nf ci → parseFieldDescriptor (am_T ci k).2.2.1 = some (am_tyq ci k) := by decide +kernel
theorem am_nm_ok : ∀ ci, ci < 12 → ∀ a, a < am_nf ci → ∀ b, b < am_nf ci → a ≠ b → (am_T ci a).2.1 ≠ (am_T ci b).2.1 := by
  intro ci hci
  rcases (show ci = 0 ∨ ci = 1 ∨ ci = 2 ∨ ci = 3 ∨ ci = 4 ∨ ci = 5 ∨ ci = 6 ∨ ci = 7 ∨ ci = 8 ∨ ci = 9 ∨ ci = 10 ∨ ci = 11 by omega) with rfl | rfl | rfl | rfl | rfl | rfl | rfl | rfl | rfl | rfl | rfl | rfl
  · exact nmX0
  · exact nmX1
  · exact nmX2
  · exact nmX3
  · exact nmX4
  · exact nmX5
  · exact nmX6
  · exact nmX7
  · exact nmX8
  · exact nmX9
  · exact nmX10
  · exact nmX11
theorem am_wm {e : Nat × Nat × Nat × Nat} (h : e ∈ am_WC) : am_word e ∈ am_TB := List.mem_map_of_mem h
theorem am_math : (Cond.static Lib.Math.abs.name ∈ am_TB ∧ Cond.static Lib.Math.min.name ∈ am_TB ∧ Cond.static Lib.Math.max.name ∈ am_TB ∧ Cond.static Lib.MathLoose.min_long.x ∈ am_TB ∧ Cond.static arraycopyName ∈ am_TB) ∧ Cond.native arraycopyName ∈ am_TB ∧ Cond.initialized "java/lang/Math" ∈ am_TB ∧ Cond.initialized "java/lang/System" ∈ am_TB :=
  ⟨⟨am_wm (e := (12, 0, 0, 0)) (by decide +kernel), am_wm (e := (12, 1, 0, 0)) (by decide +kernel), am_wm (e := (12, 2, 0, 0)) (by decide +kernel), am_wm (e := (12, 3, 0, 0)) (by decide +kernel), am_wm (e := (12, 4, 0, 0)) (by decide +kernel)⟩, am_wm (e := (13, 0, 0, 0)) (by decide +kernel), am_wm (e := (8, 13, 0, 0)) (by decide +kernel), am_wm (e := (8, 16, 0, 0)) (by decide +kernel)⟩
theorem am_mcode : Cond.code Lib.Math.abs.name Lib.Math.abs.code 1 (some .int) ∈ am_TB ∧ Cond.code Lib.Math.min.name Lib.Math.min.code 2 (some .int) ∈ am_TB ∧ Cond.code Lib.Math.max.name Lib.Math.max.code 2 (some .int) ∈ am_TB ∧ Cond.code Lib.MathLoose.min_long.x Lib.MathLoose.min_long.code 4 (some .long) ∈ am_TB :=
  ⟨am_wm (e := (15, 0, 0, 0)) (by decide +kernel), am_wm (e := (15, 1, 0, 0)) (by decide +kernel), am_wm (e := (15, 2, 0, 0)) (by decide +kernel), am_wm (e := (15, 3, 0, 0)) (by decide +kernel)⟩
theorem am_sw_eq (d x : Int) : ∀ ps : List (Int × Int), Op.lookupswitch.offset ps d x = am_sw ps d x
  | [] => rfl
  | (a, o) :: r => by
    rw [Op.lookupswitch.offset_cons, am_sw_eq d x r]
    simp only [am_sw, eq_comm]
theorem am_sw_shift (c d x : Int) : ∀ ps : List (Int × Int), am_sw (ps.map (fun q => (q.1, c + q.2))) (c + d) x = c + am_sw ps d x
  | [] => rfl
  | (a, o) :: r => by
    simp only [List.map_cons, am_sw]
    split
    · rfl
    · exact am_sw_shift c d x r
theorem am_sw_pos {d x : Int} (hd : 0 ≤ d) : ∀ ps : List (Int × Int), (∀ q ∈ ps, 0 ≤ q.2) → 0 ≤ am_sw ps d x
  | [], _ => hd
  | (a, o) :: r, h => by
    simp only [am_sw]
    split
    · exact h (a, o) List.mem_cons_self
    · exact am_sw_pos hd r (fun q hq => h q (List.mem_cons_of_mem _ hq))
section SND
variable {p : Program} {l : Launch} {e : Env} {R : Room} {s : State} {m : MethodId} {args : Array Value} {below : List Frame} {meth : Method} {c : Code} {Q0 : State → Prop} {G : Am_G} {cells slots nL : Nat} {cc : ByteArray} {o : Nat}
/-- from this place of the abstract machine the JVM comes to Q0 -/
def am_V (p : Program) (l : Launch) (e : Env) (R : Room) (s : State) (m : MethodId) (args : Array Value) (below : List Frame) (meth : Method) (c : Code) (Q0 : State → Prop) (G : Am_G) (cells slots nL : Nat) (pc : Nat) (lv st : List Value) (M : Am_M) : Prop :=
  ∀ (H : Heap) (locs : List Loc) (ls : Array Slot), am_lv (am_ad G) ls nL lv → va_P (am_D G) vwCl (am_W G M) H → va_D (am_A G) (am_W G M) → va_S (am_A G) s.heap H locs → W p l e R s m args below meth c H locs cells slots Q0 (F0 m pc ls (st.map (am_cv (am_ad G))))
/-- what holds of a frame -/
def am_Fr (p : Program) (s : State) (m : MethodId) (args : Array Value) (c : Code) (cc : ByteArray) (o : Nat) (G : Am_G) (nL : Nat) : Prop :=
  p.tables.exec = Jvm.exec ∧ c.code = cc ∧ c.maxLocals = nL ∧ s.vm.findClass (am_own o) = some m.cls ∧ (∀ w ∈ am_TB, w.before args s = true) ∧ va_K (am_D G) vwCl (am_tys (am_cA G)) s ∧ am_St G s s.heap
def am_mok (j : Nat) : Prop :=
  ((am_mt j).2.2.2.2.2.1 = false → Cond.instanceMethod (am_mt j).2.1 ∈ am_TB ∧ Cond.selects (am_mt j).2.1.cls (am_mt j).2.1 (am_mt j).2.1 ∈ am_TB ∧ (am_mt j).1 < 12 ∧ (am_mt j).2.1.cls = am_R (am_mt j).1) ∧ ((am_mt j).2.2.2.2.2.1 = true → Cond.static (am_mt j).2.1 ∈ am_TB) ∧
  Cond.initialized (am_mt j).2.1.cls ∈ am_TB ∧ Cond.code (am_mt j).2.1 (am_mt j).2.2.1 (am_mt j).2.2.2.1 (am_mt j).2.2.2.2.1 ∈ am_TB ∧ ((am_mt j).2.1.cls ≠ "java/lang/invoke/MethodHandle" ∧ (am_mt j).2.1.cls ≠ "java/lang/invoke/VarHandle") ∧
  (parseMethodDescriptor (am_mt j).2.1.desc).map (fun d => d.parameters.length) = some (am_mt j).2.2.2.2.2.2.1 ∧ (am_mt j).2.2.2.1 ≤ 20 ∧ plainName (am_mt j).2.1.cls = true
def am_wsm (j : Nat) : List Cond := Cond.code (am_mt j).2.1 (am_mt j).2.2.1 (am_mt j).2.2.2.1 (am_mt j).2.2.2.2.1 :: am_TB
theorem am_wsm_good {j : Nat} (h : am_mok j) : GoodIn am_TB (am_wsm j) := by
  intro w hw
  have hm : w ∈ am_TB := by
    rcases List.mem_cons.mp hw with e | e
    · rw [e]; exact h.2.2.2.1
    · exact e
  exact ⟨hm, Or.inl (am_TB_good w hm)⟩
def am_Qc (G : Am_G) (v : Option Value) (M' : Am_M) : Array Value → State → Outcome → State → Prop := fun _ st oc t => (oc = .returned (v.map (am_cv (am_ad G))) ∧ am_Wd G M' t) ∧ va_F (am_A G) st t
def am_Mt (l : Launch) (G : Am_G) (rm : Room) (j : Nat) (as : List Value) (M : Am_M) (v : Option Value) (M' : Am_M) : Prop :=
  Met l (am_mt j).2.1 (am_wsm j) rm (va_Pc (as.map (am_cv (am_ad G))) (am_Wd G M)) (am_Qc G v M') 0 0 (am_A G)
theorem am_callg {v0 : Option Value} {M' : Am_M} {a : Array Value} {H : Heap} {locs : List Loc} {pc : Nat} {ls : Array Slot} {st0 rest : List Value} (hr : va_Run p l e R s m args below meth c H locs cells slots 0 0 (F0 m pc ls st0) rest (am_Qc G v0 M' a) (am_A G)) (hS : va_S (am_A G) s.heap H locs)
    (kk : ∀ (H1 : Heap) (locs1 : List Loc), va_P (am_D G) vwCl (am_W G M') H1 → va_D (am_A G) (am_W G M') → va_S (am_A G) s.heap H1 locs1 → W p l e R s m args below meth c H1 locs1 cells slots Q0 (F0 m (pc + 3) ls ((v0.map (am_cv (am_ad G))).toList ++ rest))) : W p l e R s m args below meth c H locs cells slots Q0 (F0 m pc ls st0) := by
  intro T hT X
  obtain ⟨v, st₀, t, T', L, h0, X', hL, e1, e2, ⟨⟨hv, hP, -, hD, -⟩, hz, hk⟩, st⟩ := hr T hT X
  cases hv
  rw [h0] at hz hk
  obtain ⟨t2, a1, b1⟩ := kk T'.heap (locs ++ L) (by rw [e1]; exact hP) hD
    ⟨Nat.le_trans hS.1 (by rw [e1]; exact hz), fun q h1 h2 => by rw [e1, hk q (Nat.lt_of_lt_of_le h1 hS.1) h2]; exact hS.2.1 q h1 h2, fun q hq => by
      rcases List.mem_append.mp hq with h | h
      · exact hS.2.2 q h
      · exact hL q h⟩ T' rfl X'
  exact ⟨t2, st t2 a1, b1⟩
theorem am_Wd_blind {G : Am_G} {av : List Value} {M : Am_M} : FrameBlind (va_Pc av (am_Wd G M)) := fun _ U _ _ q => ⟨q.1, q.2.1, va_K.moved (u := U) (Vm.Alike.refl U.vm) q.2.2.1, q.2.2.2.1, am_St.moved (u := U) (Vm.Alike.refl U.vm) q.2.2.2.2⟩
theorem am_Wd_at {M : Am_M} {H : Heap} {locs : List Loc} {U : State} (hK : va_K (am_D G) vwCl (am_tys (am_cA G)) s) (hSt : am_St G s s.heap) (hP : va_P (am_D G) vwCl (am_W G M) H) (hD : va_D (am_A G) (am_W G M)) (hS : va_S (am_A G) s.heap H locs) (hU : U.heap = H) (hW : s.WarmedH U.vm) : am_Wd G M U := by
  refine ⟨by rw [hU]; exact hP, va_K.moved hW.alike hK, hD, ?_⟩
  rw [hU]
  exact (hSt.moved hW.alike).kept hS.1 hS.2.1
theorem am_obj {q ci : Nat} {M : Am_M} (h : am_shp q = (3, ci)) (hq : q < am_K) : (am_W G M)[q]? = some (am_ad G q, .inr (ci, (List.range (am_nf ci)).map (fun k => am_cv (am_ad G) (am_fv q k M)))) := by
  have := am_ws_get (ad := am_ad G) (cA := am_cA G) (M := M) hq
  unfold am_e at this
  rw [h] at this
  exact this
theorem am_ari {q n : Nat} {M : Am_M} (h : am_shp q = (0, n)) (hq : q < am_K) : (am_W G M)[q]? = some (am_ad G q, .inl (am_cA G 0, n, .inl (M.1 q))) := by
  have := am_ws_get (ad := am_ad G) (cA := am_cA G) (M := M) hq
  unfold am_e at this
  rw [h] at this
  exact this
theorem am_arl {q n : Nat} {M : Am_M} (h : am_shp q = (1, n)) (hq : q < am_K) : (am_W G M)[q]? = some (am_ad G q, .inl (am_cA G 1, n, .inr (.inl (M.2 q)))) := by
  have := am_ws_get (ad := am_ad G) (cA := am_cA G) (M := M) hq
  unfold am_e at this
  rw [h] at this
  exact this
theorem am_arr2 {q n : Nat} {M : Am_M} (h : am_shp q = (2, n)) (hq : q < am_K) : (am_W G M)[q]? = some (am_ad G q, .inl (am_cA G 2, n, .inr (.inr (.inr (.inr (fun i => if i < n then some (am_ad G (am_rb q + i)) else none)))))) := by
  have := am_ws_get (ad := am_ad G) (cA := am_cA G) (M := M) hq
  unfold am_e at this
  rw [h] at this
  exact this
theorem am_arr4 {q n : Nat} {M : Am_M} (h : am_shp q = (4, n)) (hq : q < am_K) : (am_W G M)[q]? = some (am_ad G q, .inl (am_cA G 3, n, .inr (.inr (.inr (.inr (fun i => if i < n then some (am_ad G (am_rb q + i)) else none)))))) := by
  have := am_ws_get (ad := am_ad G) (cA := am_cA G) (M := M) hq
  unfold am_e at this
  rw [h] at this
  exact this
theorem am_shp_e {q a : Nat} (h : (am_shp q).1 = a) : am_shp q = (a, (am_shp q).2) := by rw [← h]
theorem am_W_putI {q n i : Nat} {x : Int32} {M : Am_M} (h : am_shp q = (0, n)) : (am_W G M).set q (am_ad G q, .inl (am_cA G 0, n, .inl (upd (M.1 q) i x))) = am_W G (am_upI M q i x) := by
  have h2 : am_e (am_ad G) (am_cA G) q (am_upI M q i x) = .inl (am_cA G 0, n, .inl (upd (M.1 q) i x)) := by
    unfold am_e
    rw [h]
    show (Sum.inl (am_cA G 0, n, .inl ((am_upI M q i x).1 q)) : va_E) = _
    congr 4
    funext j
    simp [am_upI, upd]
  rw [← h2]
  exact am_ws_set (fun k hk => ⟨by funext j; simp [am_upI, hk], rfl⟩)
theorem am_W_putL {q n i : Nat} {x : Int64} {M : Am_M} (h : am_shp q = (1, n)) : (am_W G M).set q (am_ad G q, .inl (am_cA G 1, n, .inr (.inl (vp_updL (M.2 q) i x)))) = am_W G (am_upL M q i x) := by
  have h2 : am_e (am_ad G) (am_cA G) q (am_upL M q i x) = .inl (am_cA G 1, n, .inr (.inl (vp_updL (M.2 q) i x))) := by
    unfold am_e
    rw [h]
    show (Sum.inl (am_cA G 1, n, .inr (.inl ((am_upL M q i x).2 q))) : va_E) = _
    congr 5
    funext j
    simp [am_upL, vp_updL]
  rw [← h2]
  exact am_ws_set (fun k hk => ⟨rfl, by funext j; simp [am_upL, hk]⟩)
theorem am_W_cpL {q n q0 sp dp k : Nat} {M : Am_M} (h : am_shp q = (1, n)) : (am_W G M).set q (am_ad G q, .inl (am_cA G 1, n, .inr (.inl (va_cpy (M.2 q0) (M.2 q) sp dp k)))) = am_W G (am_cpL M q0 q sp dp k) := by
  have h2 : am_e (am_ad G) (am_cA G) q (am_cpL M q0 q sp dp k) = .inl (am_cA G 1, n, .inr (.inl (va_cpy (M.2 q0) (M.2 q) sp dp k))) := by
    unfold am_e
    rw [h]
    show (Sum.inl (am_cA G 1, n, .inr (.inl ((am_cpL M q0 q sp dp k).2 q))) : va_E) = _
    simp [am_cpL]
  rw [← h2]
  exact am_ws_set (fun j hj => ⟨rfl, by simp [am_cpL, hj]⟩)
theorem am_W_putF {q ci f : Nat} {x : Int32} {M : Am_M} (h : am_shp q = (3, ci)) (hr : am_rt q f = 0) (hf : f < am_nf ci) : (am_W G M).set q (am_ad G q, .inr (ci, ((List.range (am_nf ci)).map (fun k => am_cv (am_ad G) (am_fv q k M))).set f (.int x))) = am_W G (am_upI M q f x) := by
  have h2 : am_e (am_ad G) (am_cA G) q (am_upI M q f x) = .inr (ci, ((List.range (am_nf ci)).map (fun k => am_cv (am_ad G) (am_fv q k M))).set f (.int x)) := by
    unfold am_e
    rw [h]
    show (Sum.inr (ci, (List.range (am_nf ci)).map (fun k => am_cv (am_ad G) (am_fv q k (am_upI M q f x)))) : va_E) = _
    congr 2
    apply List.ext_getElem?
    intro j
    by_cases hj : j < am_nf ci
    · by_cases e : j = f
      · subst e
        rw [List.getElem?_set_self (by simpa using hj)]
        simp [hj, am_fv, hr, am_upI, am_cv]
      · rw [List.getElem?_set_ne (Ne.symm e)]
        simp [hj, am_fv, am_upI, e]
    · rw [List.getElem?_eq_none (by simp; omega), List.getElem?_eq_none (by simp; omega)]
  rw [← h2]
  exact am_ws_set (fun k hk => ⟨by funext j; simp [am_upI, hk], rfl⟩)
theorem am_parse_I {ty : FieldType} {x : Int32} (h : ty = .int ∨ ty = .boolean) (hz : ty = .boolean → x = 0 ∨ x = 1) : narrow ty (.int x) = .int x ∧ fits ty (.int x) = true := by
  rcases h with rfl | rfl
  · exact ⟨rfl, rfl⟩
  · rcases hz rfl with rfl | rfl <;> exact ⟨by decide +kernel, by decide +kernel⟩
end SND
end
section
section STP
variable {p : Program} {l : Launch} {e : Env} {R : Room} {s : State} {m : MethodId} {args : Array Value} {below : List Frame} {meth : Method} {c : Code} {Q0 : State → Prop} {G : Am_G} {cells slots nL : Nat} {cc : ByteArray} {o : Nat}
/-- what stands at the end of a method -/
def am_fin (rt : Nat) (rv : Option Value) (i : Instr) (st : List Value) : Prop := match i with
  | .ireturn => ∃ x, st = [.int x] ∧ rv = some (.int x) ∧ (rt = 1 ∨ (rt = 2 ∧ (x = 0 ∨ x = 1)))
  | .lreturn => ∃ x, st = [.long x] ∧ rv = some (.long x) ∧ rt = 3
  | .return_ => st = [] ∧ rv = none ∧ rt = 0
  | _ => False
def am_Hfin (p : Program) (l : Launch) (e : Env) (R : Room) (s : State) (m : MethodId) (args : Array Value) (below : List Frame) (meth : Method) (c : Code) (cc : ByteArray) (Q0 : State → Prop) (G : Am_G) (cells slots : Nat) (rt : Nat) (rv : Option Value) (rM : Am_M) : Prop :=
  ∀ (H : Heap) (locs : List Loc) (ls : Array Slot) (pc : Nat) (i : Instr) (st : List Value), decode cc pc = .ok (i, 1) → am_fin rt rv i st → va_P (am_D G) vwCl (am_W G rM) H → va_D (am_A G) (am_W G rM) → va_S (am_A G) s.heap H locs → W p l e R s m args below meth c H locs cells slots Q0 (F0 m pc ls st)
set_option maxHeartbeats 4000000 in
set_option maxRecDepth 100000 in
theorem am_step {C : Am_C} {rm : Room} {rt : Nat} {rv : Option Value} {rM : Am_M} (F : am_Fr p s m args c cc o G nL)
    (hR : rm.cells = 0 ∧ rm.slots = 0 ∧ rm.frames + 1 ≤ R.frames ∧ 31 + 8 + rm.locals ≤ R.locals) (hcs : cells ≤ R.cells ∧ slots ≤ R.slots)
    (hC : ∀ j as M v M', C j as M v M' → am_mok j ∧ am_Mt l G rm j as M v M')
    (hfin : am_Hfin p l e R s m args below meth c cc Q0 G cells slots rt rv rM)
    {pc len w : Nat} {i r : Instr} (hd : decode cc pc = .ok (r, len)) (hp : am_pair o pc i r len w = true)
    {lv st : List Value} {M : Am_M} {K : Nat → List Value → List Value → Am_M → Prop}
    (ih : ∀ pc lv st M, K pc lv st M → am_V p l e R s m args below meth c Q0 G cells slots nL pc lv st M)
    (h : am_stp am_mt C (am_sL G) (am_xs G) rt rv rM i (pc + len) lv st M K) : am_V p l e R s m args below meth c Q0 G cells slots nL pc lv st M := by
  obtain ⟨hx, hb, hml, hown, hts, hK, hSt⟩ := F
  intro H locs ls hl hP hD hS
  have hml2 : c.maxLocals = ls.size := by rw [hml]; exact hl.2.1.symm
  have hfr1 : 1 ≤ R.frames := by omega
  have hcode0 : ∀ {x : Cond}, x ∈ am_TB → x.before args s = true := fun {x} h => hts x h
  cases i with
  | iconst b =>
    have h : K (pc + len) lv (.int (Int32.ofInt b) :: st) M := h
    unfold am_pair at hp
    dsimp only at hp
    split at hp
    · simp only [Bool.and_eq_true, decide_eq_true_eq] at hp
      obtain ⟨rfl, rfl⟩ := hp
      exact lv_iconst hx hb hd rfl (ih _ _ _ _ h H locs ls hl hP hD hS)
    · simp only [Bool.and_eq_true, decide_eq_true_eq] at hp
      obtain ⟨rfl, e2⟩ := hp
      exact lv_bipush hx hb hd e2 (ih _ _ _ _ h H locs ls hl hP hD hS)
    · simp only [Bool.and_eq_true, decide_eq_true_eq] at hp
      obtain ⟨rfl, e2⟩ := hp
      exact lv_sipush hx hb hd e2 (ih _ _ _ _ h H locs ls hl hP hD hS)
    · simp only [Bool.and_eq_true, decide_eq_true_eq] at hp
      obtain ⟨⟨rfl, e2⟩, e3⟩ := hp
      have e2 := am_wd_in e2
      simp only [am_word, e3] at e2
      exact lv_ldc hx hb hown (hcode0 e2) hd (ih _ _ _ _ h H locs ls hl hP hD hS)
    · simp only [Bool.and_eq_true, decide_eq_true_eq] at hp
      obtain ⟨⟨rfl, e2⟩, e3⟩ := hp
      have e2 := am_wd_in e2
      simp only [am_word, e3] at e2
      exact lv_ldcw hx hb hown (hcode0 e2) hd (ih _ _ _ _ h H locs ls hl hP hD hS)
    · cases hp
  | ldc2_w b =>
    have h : K (pc + len) lv (.long (Int64.ofNat b) :: st) M := h
    unfold am_pair at hp
    dsimp only at hp
    split at hp
    · simp only [Bool.and_eq_true, decide_eq_true_eq] at hp
      obtain ⟨rfl, e2⟩ := hp
      exact lv_lconst hx hb hd e2 (ih _ _ _ _ h H locs ls hl hP hD hS)
    · simp only [Bool.and_eq_true, decide_eq_true_eq] at hp
      obtain ⟨rfl, e2⟩ := hp
      exact lv_ldc2 hx hb hown (hcode0 (am_wd_in e2)) hd (ih _ _ _ _ h H locs ls hl hP hD hS)
    · cases hp
  | iload b =>
    replace h := am_gi_e h
    obtain ⟨x, hk, h⟩ := h
    have hv := am_lv_at hl hk (by intro q; cases q)
    unfold am_pair at hp
    dsimp only at hp
    split at hp
    · simp only [Bool.and_eq_true, decide_eq_true_eq] at hp
      obtain ⟨e1, rfl⟩ := hp
      exact lv_iload_n hx hb hd e1 hv (ih _ _ _ _ h H locs ls hl hP hD hS)
    · simp only [Bool.and_eq_true, decide_eq_true_eq] at hp
      obtain ⟨rfl, rfl⟩ := hp
      exact lv_iload hx hb hd hv (ih _ _ _ _ h H locs ls hl hP hD hS)
    · cases hp
  | lload b =>
    replace h := am_gl_e h
    obtain ⟨x, hk, h⟩ := h
    have hv := am_lv_at hl hk (by intro q; cases q)
    unfold am_pair at hp
    dsimp only at hp
    split at hp
    · simp only [Bool.and_eq_true, decide_eq_true_eq] at hp
      obtain ⟨e1, rfl⟩ := hp
      exact lv_lload_n hx hb hd e1 hv (ih _ _ _ _ h H locs ls hl hP hD hS)
    · simp only [Bool.and_eq_true, decide_eq_true_eq] at hp
      obtain ⟨rfl, rfl⟩ := hp
      exact lv_lload hx hb hd hv (ih _ _ _ _ h H locs ls hl hP hD hS)
    · cases hp
  | aload b =>
    replace h := am_gr_e h
    obtain ⟨x, hk, h⟩ := h
    have hv := am_lv_at hl hk (by intro q; cases q)
    unfold am_pair at hp
    dsimp only at hp
    split at hp
    · simp only [Bool.and_eq_true, decide_eq_true_eq] at hp
      obtain ⟨e1, rfl⟩ := hp
      exact lv_aload_n hx hb hd e1 hv (ih _ _ _ _ h H locs ls hl hP hD hS)
    · simp only [Bool.and_eq_true, decide_eq_true_eq] at hp
      obtain ⟨rfl, rfl⟩ := hp
      exact lv_aload hx hb hd hv (ih _ _ _ _ h H locs ls hl hP hD hS)
    · cases hp
  | istore b =>
    replace h := am_i1_e h
    obtain ⟨x, r2, rfl, hlt, h⟩ := h
    rw [hl.1] at hlt
    unfold am_pair at hp
    dsimp only at hp
    split at hp
    · simp only [Bool.and_eq_true, decide_eq_true_eq] at hp
      obtain ⟨e1, rfl⟩ := hp
      exact lv_istore_n hx hb hd e1 hl.2 hlt rfl (fun ls' hl' => ih _ _ _ _ h H locs ls' (am_lv_set hl.1 hl' (am_in1 (by intro q; cases q) rfl)) hP hD hS)
    · simp only [Bool.and_eq_true, decide_eq_true_eq] at hp
      obtain ⟨rfl, rfl⟩ := hp
      exact lv_istore hx hb hd hl.2 hlt rfl (fun ls' hl' => ih _ _ _ _ h H locs ls' (am_lv_set hl.1 hl' (am_in1 (by intro q; cases q) rfl)) hP hD hS)
    · cases hp
  | lstore b =>
    replace h := am_l1_e h
    obtain ⟨x, r2, rfl, hlt, h⟩ := h
    rw [hl.1] at hlt
    unfold am_pair at hp
    dsimp only at hp
    split at hp
    · simp only [Bool.and_eq_true, decide_eq_true_eq] at hp
      obtain ⟨e1, rfl⟩ := hp
      exact lv_lstore_n hx hb hd e1 hl.2 hlt rfl (fun ls' hl' => ih _ _ _ _ h H locs ls' (am_lv_set hl.1 hl' (am_in2 (by intro q; cases q) rfl)) hP hD hS)
    · simp only [Bool.and_eq_true, decide_eq_true_eq] at hp
      obtain ⟨rfl, rfl⟩ := hp
      exact lv_lstore hx hb hd hl.2 hlt rfl (fun ls' hl' => ih _ _ _ _ h H locs ls' (am_lv_set hl.1 hl' (am_in2 (by intro q; cases q) rfl)) hP hD hS)
    · cases hp
  | astore b =>
    replace h := am_r1_e h
    obtain ⟨x, r2, rfl, hlt, h⟩ := h
    rw [hl.1] at hlt
    unfold am_pair at hp
    dsimp only at hp
    split at hp
    · simp only [Bool.and_eq_true, decide_eq_true_eq] at hp
      obtain ⟨e1, rfl⟩ := hp
      exact lv_astore_n hx hb hd e1 hl.2 hlt rfl (fun ls' hl' => ih _ _ _ _ h H locs ls' (am_lv_set hl.1 hl' (am_in1 (by intro q; cases q) rfl)) hP hD hS)
    · simp only [Bool.and_eq_true, decide_eq_true_eq] at hp
      obtain ⟨rfl, rfl⟩ := hp
      exact lv_astore hx hb hd hl.2 hlt rfl (fun ls' hl' => ih _ _ _ _ h H locs ls' (am_lv_set hl.1 hl' (am_in1 (by intro q; cases q) rfl)) hP hD hS)
    · cases hp
  | iinc b n =>
    replace h := am_gi_e h
    obtain ⟨x, hk, h⟩ := h
    simp only [am_pair, Bool.and_eq_true, decide_eq_true_eq] at hp
    obtain ⟨rfl, rfl⟩ := hp
    have hm := (am_prs_mem (ad := am_ad G) lv 0).mpr ⟨b, .int x, hk, (by intro q; cases q), rfl⟩
    rw [Nat.zero_add] at hm
    obtain ⟨k, hk2⟩ := List.getElem?_of_mem hm
    have hlt : b < nL := by rw [← hl.1]; exact (List.getElem?_eq_some_iff.mp hk).1
    exact lv_iinc hx hb hd hl.2 hk2 rfl hlt rfl (fun ls' hl' => ih _ _ _ _ h H locs ls' (am_lv_set hl.1 hl' (am_in1 (v := .int (x + Int32.ofInt n)) (by intro q; cases q) rfl)) hP hD hS)
  | iadd =>
    replace h := am_i2_e h
    obtain ⟨x, y, r2, rfl, h⟩ := h
    simp only [am_pair, Bool.and_eq_true, decide_eq_true_eq] at hp
    obtain ⟨rfl, rfl⟩ := hp
    exact lv_iadd hx hb hd (ih _ _ _ _ h H locs ls hl hP hD hS)
  | isub =>
    replace h := am_i2_e h
    obtain ⟨x, y, r2, rfl, h⟩ := h
    simp only [am_pair, Bool.and_eq_true, decide_eq_true_eq] at hp
    obtain ⟨rfl, rfl⟩ := hp
    exact lv_isub hx hb hd (ih _ _ _ _ h H locs ls hl hP hD hS)
  | imul =>
    replace h := am_i2_e h
    obtain ⟨x, y, r2, rfl, h⟩ := h
    simp only [am_pair, Bool.and_eq_true, decide_eq_true_eq] at hp
    obtain ⟨rfl, rfl⟩ := hp
    exact lv_imul hx hb hd (ih _ _ _ _ h H locs ls hl hP hD hS)
  | iand =>
    replace h := am_i2_e h
    obtain ⟨x, y, r2, rfl, h⟩ := h
    simp only [am_pair, Bool.and_eq_true, decide_eq_true_eq] at hp
    obtain ⟨rfl, rfl⟩ := hp
    exact lv_iand hx hb hd (ih _ _ _ _ h H locs ls hl hP hD hS)
  | ior =>
    replace h := am_i2_e h
    obtain ⟨x, y, r2, rfl, h⟩ := h
    simp only [am_pair, Bool.and_eq_true, decide_eq_true_eq] at hp
    obtain ⟨rfl, rfl⟩ := hp
    exact lv_ior hx hb hd (ih _ _ _ _ h H locs ls hl hP hD hS)
  | ixor =>
    replace h := am_i2_e h
    obtain ⟨x, y, r2, rfl, h⟩ := h
    simp only [am_pair, Bool.and_eq_true, decide_eq_true_eq] at hp
    obtain ⟨rfl, rfl⟩ := hp
    exact lv_ixor hx hb hd (ih _ _ _ _ h H locs ls hl hP hD hS)
  | idiv =>
    replace h := am_i2_e h
    obtain ⟨x, y, r2, rfl, h0, h⟩ := h
    simp only [am_pair, Bool.and_eq_true, decide_eq_true_eq] at hp
    obtain ⟨rfl, rfl⟩ := hp
    exact lv_idiv hx hb hd h0 (ih _ _ _ _ h H locs ls hl hP hD hS)
  | irem =>
    replace h := am_i2_e h
    obtain ⟨x, y, r2, rfl, h0, h⟩ := h
    simp only [am_pair, Bool.and_eq_true, decide_eq_true_eq] at hp
    obtain ⟨rfl, rfl⟩ := hp
    exact lv_irem hx hb hd h0 (ih _ _ _ _ h H locs ls hl hP hD hS)
  | ineg =>
    replace h := am_i1_e h
    obtain ⟨x, r2, rfl, h⟩ := h
    simp only [am_pair, Bool.and_eq_true, decide_eq_true_eq] at hp
    obtain ⟨rfl, rfl⟩ := hp
    exact lv_ineg hx hb hd (ih _ _ _ _ h H locs ls hl hP hD hS)
  | ishl =>
    replace h := am_i2_e h
    obtain ⟨x, y, r2, rfl, h⟩ := h
    simp only [am_pair, Bool.and_eq_true, decide_eq_true_eq] at hp
    obtain ⟨rfl, rfl⟩ := hp
    exact lv_ishl hx hb hd (ih _ _ _ _ h H locs ls hl hP hD hS)
  | ishr =>
    replace h := am_i2_e h
    obtain ⟨x, y, r2, rfl, h⟩ := h
    simp only [am_pair, Bool.and_eq_true, decide_eq_true_eq] at hp
    obtain ⟨rfl, rfl⟩ := hp
    exact lv_ishr hx hb hd (ih _ _ _ _ h H locs ls hl hP hD hS)
  | iushr =>
    replace h := am_i2_e h
    obtain ⟨x, y, r2, rfl, h⟩ := h
    simp only [am_pair, Bool.and_eq_true, decide_eq_true_eq] at hp
    obtain ⟨rfl, rfl⟩ := hp
    exact lv_iushr hx hb hd rfl (ih _ _ _ _ h H locs ls hl hP hD hS)
  | ladd =>
    replace h := am_l2_e h
    obtain ⟨x, y, r2, rfl, h⟩ := h
    simp only [am_pair, Bool.and_eq_true, decide_eq_true_eq] at hp
    obtain ⟨rfl, rfl⟩ := hp
    exact lv_ladd hx hb hd (ih _ _ _ _ h H locs ls hl hP hD hS)
  | lsub =>
    replace h := am_l2_e h
    obtain ⟨x, y, r2, rfl, h⟩ := h
    simp only [am_pair, Bool.and_eq_true, decide_eq_true_eq] at hp
    obtain ⟨rfl, rfl⟩ := hp
    exact lv_lsub hx hb hd (ih _ _ _ _ h H locs ls hl hP hD hS)
  | lmul =>
    replace h := am_l2_e h
    obtain ⟨x, y, r2, rfl, h⟩ := h
    simp only [am_pair, Bool.and_eq_true, decide_eq_true_eq] at hp
    obtain ⟨rfl, rfl⟩ := hp
    exact lv_lmul hx hb hd (ih _ _ _ _ h H locs ls hl hP hD hS)
  | land =>
    replace h := am_l2_e h
    obtain ⟨x, y, r2, rfl, h⟩ := h
    simp only [am_pair, Bool.and_eq_true, decide_eq_true_eq] at hp
    obtain ⟨rfl, rfl⟩ := hp
    exact lv_land hx hb hd (ih _ _ _ _ h H locs ls hl hP hD hS)
  | lor =>
    replace h := am_l2_e h
    obtain ⟨x, y, r2, rfl, h⟩ := h
    simp only [am_pair, Bool.and_eq_true, decide_eq_true_eq] at hp
    obtain ⟨rfl, rfl⟩ := hp
    exact lv_lor hx hb hd (ih _ _ _ _ h H locs ls hl hP hD hS)
  | ldiv =>
    replace h := am_l2_e h
    obtain ⟨x, y, r2, rfl, h0, h⟩ := h
    simp only [am_pair, Bool.and_eq_true, decide_eq_true_eq] at hp
    obtain ⟨rfl, rfl⟩ := hp
    exact lv_ldiv hx hb hd h0 (ih _ _ _ _ h H locs ls hl hP hD hS)
  | lrem =>
    replace h := am_l2_e h
    obtain ⟨x, y, r2, rfl, h0, h⟩ := h
    simp only [am_pair, Bool.and_eq_true, decide_eq_true_eq] at hp
    obtain ⟨rfl, rfl⟩ := hp
    exact lv_lrem hx hb hd h0 (ih _ _ _ _ h H locs ls hl hP hD hS)
  | lshl =>
    replace h := am_li_e h
    obtain ⟨x, y, r2, rfl, h⟩ := h
    simp only [am_pair, Bool.and_eq_true, decide_eq_true_eq] at hp
    obtain ⟨rfl, rfl⟩ := hp
    exact lv_lshl hx hb hd rfl (ih _ _ _ _ h H locs ls hl hP hD hS)
  | lcmp =>
    replace h := am_l2_e h
    obtain ⟨x, y, r2, rfl, h⟩ := h
    simp only [am_pair, Bool.and_eq_true, decide_eq_true_eq] at hp
    obtain ⟨rfl, rfl⟩ := hp
    exact W.lcmp hx hb hd (ih _ _ _ _ h H locs ls hl hP hD hS)
  | i2l =>
    replace h := am_i1_e h
    obtain ⟨x, r2, rfl, h⟩ := h
    simp only [am_pair, Bool.and_eq_true, decide_eq_true_eq] at hp
    obtain ⟨rfl, rfl⟩ := hp
    exact lv_i2l hx hb hd rfl (ih _ _ _ _ h H locs ls hl hP hD hS)
  | l2i =>
    replace h := am_l1_e h
    obtain ⟨x, r2, rfl, h⟩ := h
    simp only [am_pair, Bool.and_eq_true, decide_eq_true_eq] at hp
    obtain ⟨rfl, rfl⟩ := hp
    exact lv_l2i hx hb hd rfl (ih _ _ _ _ h H locs ls hl hP hD hS)
  | i2b =>
    replace h := am_i1_e h
    obtain ⟨x, r2, rfl, h⟩ := h
    simp only [am_pair, Bool.and_eq_true, decide_eq_true_eq] at hp
    obtain ⟨rfl, rfl⟩ := hp
    exact lv_i2b hx hb hd rfl (ih _ _ _ _ h H locs ls hl hP hD hS)
  | i2s =>
    replace h := am_i1_e h
    obtain ⟨x, r2, rfl, h⟩ := h
    simp only [am_pair, Bool.and_eq_true, decide_eq_true_eq] at hp
    obtain ⟨rfl, rfl⟩ := hp
    exact lv_i2s hx hb hd rfl (ih _ _ _ _ h H locs ls hl hP hD hS)
  | dup =>
    simp only [am_pair, Bool.and_eq_true, decide_eq_true_eq] at hp
    obtain ⟨rfl, rfl⟩ := hp
    unfold am_stp at h
    dsimp only at h
    split at h
    · exact lv_dup hx hb hd (by rw [am_cv_cat]; exact h.1) (ih _ _ _ _ h.2 H locs ls hl hP hD hS)
    · exact h.elim
  | dup2 =>
    simp only [am_pair, Bool.and_eq_true, decide_eq_true_eq] at hp
    obtain ⟨rfl, rfl⟩ := hp
    unfold am_stp at h
    dsimp only at h
    split at h
    · exact lv_dup2_11 hx hb hd (by rw [am_cv_cat]; exact h.1) (by rw [am_cv_cat]; exact h.2.1) (ih _ _ _ _ h.2.2 H locs ls hl hP hD hS)
    · exact h.elim
  | ifCond k t =>
    replace h := am_i1_e h
    obtain ⟨x, r2, rfl, h1, h2⟩ := h
    unfold am_pair at hp
    dsimp only at hp
    split at hp
    · rename_i c' o
      simp only [Bool.and_eq_true, decide_eq_true_eq] at hp
      obtain ⟨⟨⟨rfl, rfl⟩, ht⟩, h0⟩ := hp
      have ht : (pc : Int) + o = (t.toNat : Int) := by rw [ht]; omega
      have k1 : am_cnd k x 0 → W p l e R s m args below meth c H locs cells slots Q0 (F0 m t.toNat ls (r2.map (am_cv (am_ad G)))) := fun q => ih _ _ _ _ (h1 q) H locs ls hl hP hD hS
      have k2 : ¬ am_cnd k x 0 → W p l e R s m args below meth c H locs cells slots Q0 (F0 m (pc + 3) ls (r2.map (am_cv (am_ad G)))) := fun q => ih _ _ _ _ (h2 q) H locs ls hl hP hD hS
      cases k with
      | eq => exact lv_if_eq hx hb hd ht k1 k2
      | ne => exact lv_if_ne hx hb hd ht k1 (fun q => k2 (fun z => z q))
      | lt => exact lv_if_lt hx hb hd ht k1 k2
      | ge => exact lv_if_ge hx hb hd ht k1 k2
      | gt => exact lv_if_gt hx hb hd ht k1 k2
      | le => exact lv_if_le hx hb hd ht k1 k2
    · cases hp
  | if_icmp k t =>
    replace h := am_i2_e h
    obtain ⟨x, y, r2, rfl, h1, h2⟩ := h
    unfold am_pair at hp
    dsimp only at hp
    split at hp
    · rename_i c' o
      simp only [Bool.and_eq_true, decide_eq_true_eq] at hp
      obtain ⟨⟨⟨rfl, rfl⟩, ht⟩, h0⟩ := hp
      have ht : (pc : Int) + o = (t.toNat : Int) := by rw [ht]; omega
      have k1 : am_cnd k x y → W p l e R s m args below meth c H locs cells slots Q0 (F0 m t.toNat ls (r2.map (am_cv (am_ad G)))) := fun q => ih _ _ _ _ (h1 q) H locs ls hl hP hD hS
      have k2 : ¬ am_cnd k x y → W p l e R s m args below meth c H locs cells slots Q0 (F0 m (pc + 3) ls (r2.map (am_cv (am_ad G)))) := fun q => ih _ _ _ _ (h2 q) H locs ls hl hP hD hS
      cases k with
      | eq => exact lv_icmp_eq hx hb hd ht k1 k2
      | ne => exact lv_icmp_ne hx hb hd ht k1 (fun q => k2 (fun z => z q))
      | lt => exact lv_icmp_lt hx hb hd ht k1 k2
      | ge => exact lv_icmp_ge hx hb hd ht k1 k2
      | gt => exact lv_icmp_gt hx hb hd ht k1 k2
      | le => exact lv_icmp_le hx hb hd ht k1 k2
    · cases hp
  | goto t =>
    have h : K t.toNat lv st M := h
    unfold am_pair at hp
    dsimp only at hp
    split at hp
    · simp only [Bool.and_eq_true, decide_eq_true_eq] at hp
      obtain ⟨⟨rfl, ht⟩, h0⟩ := hp
      exact lv_goto hx hb hd (by rw [ht]; omega) (ih _ _ _ _ h H locs ls hl hP hD hS)
    · cases hp
  | tableswitch d lo hi offs =>
    replace h := am_i1_e h
    obtain ⟨x, r2, rfl, h⟩ := h
    unfold am_pair at hp
    dsimp only at hp
    split at hp
    · rename_i d' lo' hi' offs'
      simp only [Bool.and_eq_true, decide_eq_true_eq, List.all_eq_true] at hp
      obtain ⟨⟨⟨⟨⟨⟨rfl, rfl⟩, hd1⟩, hd0⟩, ho⟩, hpos⟩, hlen⟩ := hp
      by_cases ho1 : x.toInt < lo ∨ hi < x.toInt
      · rw [if_pos ho1] at h
        exact lv_tableOut hx hb hd ho1 (by rw [hd1]; omega) (ih _ _ _ _ h H locs ls hl hP hD hS)
      · rw [if_neg ho1] at h
        have hk : (x.toInt - lo).toNat < offs'.toList.length := by omega
        have e1 : offs.toList.getD (x.toInt - lo).toNat 0 = (pc : Int) + offs'.toList[(x.toInt - lo).toNat] := by
          rw [ho, List.getD_eq_getElem?_getD, List.getElem?_map, List.getElem?_eq_getElem hk]
          rfl
        have e0 : 0 ≤ offs.toList.getD (x.toInt - lo).toNat 0 := by
          have hm : offs.toList.getD (x.toInt - lo).toNat 0 ∈ offs.toList := by
            rw [List.getD_eq_getElem?_getD, List.getElem?_eq_getElem (show (x.toInt - lo).toNat < offs.toList.length by rw [ho, List.length_map]; exact hk)]
            exact List.getElem_mem _
          exact hpos _ hm
        exact lv_tableIn hx hb hd (fun q => ho1 (Or.inl q)) (fun q => ho1 (Or.inr q)) (off := offs'.toList[(x.toInt - lo).toNat]) (by rw [← Array.getElem?_toList, List.getElem?_eq_getElem hk]) (by rw [← e1]; omega) (ih _ _ _ _ h H locs ls hl hP hD hS)
    · cases hp
  | lookupswitch d ps =>
    replace h := am_i1_e h
    obtain ⟨x, r2, rfl, h⟩ := h
    unfold am_pair at hp
    dsimp only at hp
    split at hp
    · rename_i d' ps'
      simp only [Bool.and_eq_true, decide_eq_true_eq] at hp
      obtain ⟨⟨⟨⟨hd1, hd0⟩, ho⟩, hpos⟩, hinc⟩ := hp
      have hpos' : ∀ q ∈ ps.toList, 0 ≤ q.2 := fun q hq => of_decide_eq_true (List.all_eq_true.mp hpos q hq)
      have e1 : am_sw ps.toList d x.toInt = (pc : Int) + am_sw ps'.toList d' x.toInt := by rw [ho, ← hd1, am_sw_shift]
      have e0 := am_sw_pos (x := x.toInt) hd0 ps.toList hpos'
      exact lv_lookup hx hb hd hinc (am_sw_eq _ _ _) (by rw [← e1]; omega) (ih _ _ _ _ h H locs ls hl hP hD hS)
    · cases hp
  | getfield n =>
    replace h := am_r1_e h
    obtain ⟨q, r2, rfl, hq, hqK, h⟩ := h
    unfold am_pair at hp
    dsimp only at hp
    split at hp
    · simp only [Bool.and_eq_true, decide_eq_true_eq] at hp
      obtain ⟨⟨⟨rfl, hci⟩, hk⟩, hw⟩ := hp
      exact va_get (D := am_D G) hx hb hts (am_lays _ hci) hown hK hP q (am_obj hq hqK) (am_cl hci) (n % 64) hk (hcode0 (am_wd_in hw)) (fun _ z => z) (v := am_cv (am_ad G) (am_fv q (n % 64) M)) (by simp [hk]) hd (ih _ _ _ _ h H locs ls hl hP hD hS)
    · cases hp
  | putfield n =>
    replace h := am_ipr_e h
    obtain ⟨q, x, r2, rfl, hq, hqK, hr0, hz, h⟩ := h
    unfold am_pair at hp
    dsimp only at hp
    split at hp
    · simp only [Bool.and_eq_true, decide_eq_true_eq] at hp
      obtain ⟨⟨⟨⟨⟨rfl, hci⟩, hk⟩, hfi⟩, hty⟩, hw⟩ := hp
      obtain ⟨n1, n2⟩ := am_parse_I (am_iz_e hty) hz
      refine va_put (D := am_D G) (v := .int x) hx hb hts (am_lays _ hci) (am_tyq (n / 64)) (am_ty_ok _ hci) (am_nm_ok _ hci) hown hK hP hD hS q (am_obj hq hqK) (am_cl hci) (n % 64) hk (hcode0 (am_wd_in hw)) (fun _ z => z) hfi (am_ty_ok _ hci _ hk) n1 n2 (by simpa using hk) hd (fun H1 locs1 hP1 hD1 hS1 => ?_)
      rw [am_W_putF hq hr0 hk] at hP1 hD1
      exact ih _ _ _ _ h H1 locs1 ls hl hP1 hD1 hS1
    · cases hp
  | getstatic n =>
    have h : K (pc + len) lv (.ref n :: st) M := h
    unfold am_pair at hp
    dsimp only at hp
    split at hp
    · simp only [Bool.and_eq_true, Bool.or_eq_true, decide_eq_true_eq] at hp
      obtain ⟨rfl, hw⟩ := hp
      rcases hw with ⟨rfl, hw⟩ | ⟨rfl, hw⟩
      · exact va_gets hx hb hSt.1 hS hown (hcode0 (am_wd_in hw)) (fun _ z => z) hd (ih _ _ _ _ h H locs ls hl hP hD hS)
      · exact va_gets hx hb hSt.2.2.1 hS hown (hcode0 (am_wd_in hw)) (fun _ z => z) hd (ih _ _ _ _ h H locs ls hl hP hD hS)
    · cases hp
  | iaload =>
    replace h := am_ri_e h
    obtain ⟨q, i, r2, rfl, h⟩ := h
    simp only [am_pair, Bool.and_eq_true, decide_eq_true_eq] at hp
    obtain ⟨rfl, rfl⟩ := hp
    unfold am_i4 at h
    by_cases q1 : q = 900
    · subst q1
      rw [if_pos rfl] at h
      exact va_sld hx hb hSt.2.2.2.2.1 (Nat.lt_of_lt_of_le hSt.2.2.2.2.2.1 hSt.2.2.2.2.2.2) (Nat.not_le.mpr hSt.2.2.2.2.2.1) hS h.1 hd (ih _ _ _ _ h.2 H locs ls hl hP hD hS)
    · rw [if_neg q1] at h
      by_cases q2 : q = 901
      · subst q2
        rw [if_pos rfl] at h
        exact va_ti hx hb hSt.2.1 hS h.1 rfl hd (ih _ _ _ _ h.2 H locs ls hl hP hD hS)
      · rw [if_neg q2] at h
        by_cases q3 : q = 902
        · subst q3
          rw [if_pos rfl] at h
          exact va_ti hx hb hSt.2.2.2.1 hS h.1 rfl hd (ih _ _ _ _ h.2 H locs ls hl hP hD hS)
        · rw [if_neg q3] at h
          exact va_iald (D := am_D G) hx hb hK hP q 0 (am_ari (am_shp_e h.1) h.2.1) rfl h.2.2.1 hd (ih _ _ _ _ h.2.2.2 H locs ls hl hP hD hS)
  | laload =>
    replace h := am_ri_e h
    obtain ⟨q, i, r2, rfl, h1, h2, h3, h⟩ := h
    simp only [am_pair, Bool.and_eq_true, decide_eq_true_eq] at hp
    obtain ⟨rfl, rfl⟩ := hp
    exact va_lald (D := am_D G) hx hb hK hP q 1 (am_arl (am_shp_e h1) h2) rfl h3 hd (ih _ _ _ _ h H locs ls hl hP hD hS)
  | aaload =>
    replace h := am_ri_e h
    obtain ⟨q, i, r2, rfl, h1, h2, h3, h⟩ := h
    simp only [am_pair, Bool.and_eq_true, decide_eq_true_eq] at hp
    obtain ⟨rfl, rfl⟩ := hp
    have hlt : i.toNatClampNeg < (am_shp q).2 := Nat.not_le.mp fun z => h3 (Or.inr z)
    have k1 := ih _ _ _ _ h H locs ls hl hP hD hS
    rcases h1 with h1 | h1
    · exact W.aald (v := va_rf (if i.toNatClampNeg < (am_shp q).2 then some (am_ad G (am_rb q + i.toNatClampNeg)) else none)) (ty := .array .int) hx hb (hP q _ (am_arr2 (am_shp_e h1) h2)) ((hK.2 2 _ rfl).1 (am_shp q).2 (fun j => va_rf (if j < (am_shp q).2 then some (am_ad G (am_rb q + j)) else none))) rfl (fun z => by cases z) (by show ¬ (i < 0 ∨ (arrV _ _ _).slots.size ≤ _); rw [arrV_size]; exact h3) (by show (arrV _ _ _).slots[_]? = _; rw [arrV_read _ _ hlt]) rfl rfl hd (by rw [if_pos hlt]; exact k1)
    · exact W.aald (v := va_rf (if i.toNatClampNeg < (am_shp q).2 then some (am_ad G (am_rb q + i.toNatClampNeg)) else none)) (ty := .array .long) hx hb (hP q _ (am_arr4 (am_shp_e h1) h2)) ((hK.2 3 _ rfl).1 (am_shp q).2 (fun j => va_rf (if j < (am_shp q).2 then some (am_ad G (am_rb q + j)) else none))) rfl (fun z => by cases z) (by show ¬ (i < 0 ∨ (arrV _ _ _).slots.size ≤ _); rw [arrV_size]; exact h3) (by show (arrV _ _ _).slots[_]? = _; rw [arrV_read _ _ hlt]) rfl rfl hd (by rw [if_pos hlt]; exact k1)
  | iastore =>
    replace h := am_rii_e h
    obtain ⟨q, i, x, r2, rfl, h1, h2, h3, h⟩ := h
    simp only [am_pair, Bool.and_eq_true, decide_eq_true_eq] at hp
    obtain ⟨rfl, rfl⟩ := hp
    refine va_iast (D := am_D G) hx hb hK hP hD hS q 0 (am_ari (am_shp_e h1) h2) rfl h3 hd (fun H1 locs1 hP1 hD1 hS1 => ?_)
    rw [am_W_putI (am_shp_e h1)] at hP1 hD1
    exact ih _ _ _ _ h H1 locs1 ls hl hP1 hD1 hS1
  | lastore =>
    replace h := am_ril_e h
    obtain ⟨q, i, x, r2, rfl, h1, h2, h3, h⟩ := h
    simp only [am_pair, Bool.and_eq_true, decide_eq_true_eq] at hp
    obtain ⟨rfl, rfl⟩ := hp
    refine va_last (D := am_D G) hx hb hK hP hD hS q 1 (am_arl (am_shp_e h1) h2) rfl h3 hd (fun H1 locs1 hP1 hD1 hS1 => ?_)
    rw [am_W_putL (am_shp_e h1)] at hP1 hD1
    exact ih _ _ _ _ h H1 locs1 ls hl hP1 hD1 hS1
  | arraylength =>
    replace h := am_r1_e h
    obtain ⟨q, r2, rfl, h⟩ := h
    simp only [am_pair, Bool.and_eq_true, decide_eq_true_eq] at hp
    obtain ⟨rfl, rfl⟩ := hp
    by_cases q1 : q = 900
    · subst q1
      rw [if_pos rfl] at h
      exact va_slen hx hb hSt.2.2.2.2.1 (Nat.lt_of_lt_of_le hSt.2.2.2.2.2.1 hSt.2.2.2.2.2.2) (Nat.not_le.mpr hSt.2.2.2.2.2.1) hS hd (ih _ _ _ _ h H locs ls hl hP hD hS)
    · rw [if_neg q1] at h
      exact va_alen (D := am_D G) hx hb hK hP q 0 (am_ari (am_shp_e h.1) h.2.1) rfl rfl hd (ih _ _ _ _ h.2.2 H locs ls hl hP hD hS)
  | invokevirtual j =>
    unfold am_stp at h
    dsimp only at h
    split at h
    · rename_i q r2 hst
      obtain ⟨h1, h2, h3, h4, v, M', hCj, h⟩ := h
      unfold am_pair at hp
      dsimp only at hp
      split at hp
      · simp only [Bool.and_eq_true, decide_eq_true_eq] at hp
        obtain ⟨⟨rfl, hst0⟩, hw⟩ := hp
        obtain ⟨hok, hM⟩ := hC _ _ _ _ _ hCj
        obtain ⟨o1, o2, o3, o4, o5, o6, o7, o8⟩ := id hok
        obtain ⟨o11, o12, o13, o14⟩ := o1 hst0
        have hG := am_wsm_good hok
        have est : st = (st.take (am_mt j).2.2.2.2.2.2.1).reverse.reverse ++ .ref q :: r2 := by rw [List.reverse_reverse, ← hst, List.take_append_drop]
        have eM : (st.map (am_cv (am_ad G))) = (((st.take (am_mt j).2.2.2.2.2.2.1).reverse).map (am_cv (am_ad G))).reverse ++ .ref (am_ad G q) :: r2.map (am_cv (am_ad G)) := by
          conv => lhs; rw [est]
          simp [am_cv]
        rw [eM]
        refine am_callg (va_runV (C := am_R (am_mt j).1) (As := ((st.take (am_mt j).2.2.2.2.2.2.1).reverse).map (am_cv (am_ad G))) (rest := r2.map (am_cv (am_ad G))) ⟨hx, hb, hml, hown, hts⟩ hM ⟨callB_of (am_mt j).2.2.2.2.2.2.1 hts hG rfl hR.1 hR.2.1 (hcode0 o3) (hcode0 (am_wd_in hw)) ⟨o5.1, o5.2, o6⟩ ⟨hR.2.2.1, by omega⟩, hcode0 o11, by rw [← o14]; exact hcode0 o12⟩ ⟨am_Wd_blind, va_recv hK hP (am_cl o13) (am_obj h1 h2), fun U hU hW => ⟨rfl, am_Wd_at hK hSt hP hD hS hU hW⟩⟩ rfl (by simp; omega) hl.2.1 rfl (lv_room (by simp only [List.map_map]; have : ((fun v : Value => v.category) ∘ am_cv (am_ad G)) = fun v => v.category := funext fun v => am_cv_cat _ v; rw [this]; exact h4)) hd ⟨by omega, by omega⟩) hS (fun H1 locs1 hP1 hD1 hS1 => ?_)
        have k1 := ih _ _ _ _ h H1 locs1 ls hl hP1 hD1 hS1
        rw [List.map_append] at k1
        cases v <;> exact k1
      · cases hp
    · exact h.elim
  | invokestatic j =>
    obtain ⟨h3, h4, v, M', hCj, h⟩ := h
    unfold am_pair at hp
    dsimp only at hp
    split at hp
    · simp only [Bool.and_eq_true, decide_eq_true_eq] at hp
      obtain ⟨⟨rfl, hst0⟩, hw⟩ := hp
      obtain ⟨hok, hM⟩ := hC _ _ _ _ _ hCj
      obtain ⟨o1, o2, o3, o4, o5, o6, o7, o8⟩ := id hok
      have hG := am_wsm_good hok
      have eM : (st.map (am_cv (am_ad G))) = (((st.take (am_mt j).2.2.2.2.2.2.1).reverse).map (am_cv (am_ad G))).reverse ++ (st.drop (am_mt j).2.2.2.2.2.2.1).map (am_cv (am_ad G)) := by
        rw [List.map_reverse, List.reverse_reverse, ← List.map_append, List.take_append_drop]
      rw [eM]
      refine am_callg (va_runS (As := ((st.take (am_mt j).2.2.2.2.2.2.1).reverse).map (am_cv (am_ad G))) (rest := (st.drop (am_mt j).2.2.2.2.2.2.1).map (am_cv (am_ad G))) ⟨hx, hb, hml, hown, hts⟩ hM ⟨callB_of (am_mt j).2.2.2.2.2.2.1 hts hG rfl hR.1 hR.2.1 (hcode0 o3) (hcode0 (am_wd_in hw)) ⟨o5.1, o5.2, o6⟩ ⟨hR.2.2.1, by omega⟩, hcode0 (o2 hst0)⟩ ⟨am_Wd_blind, fun U hU hW => ⟨rfl, am_Wd_at hK hSt hP hD hS hU hW⟩⟩ rfl (by simp; omega) hl.2.1 rfl (lv_room (by simp only [List.map_map]; have : ((fun v : Value => v.category) ∘ am_cv (am_ad G)) = fun v => v.category := funext fun v => am_cv_cat _ v; rw [this]; exact h4)) hd ⟨by omega, by omega⟩) hS (fun H1 locs1 hP1 hD1 hS1 => ?_)
      have k1 := ih _ _ _ _ h H1 locs1 ls hl hP1 hD1 hS1
      rw [List.map_append] at k1
      cases v <;> exact k1
    · cases hp
  | invokespecial t =>
    have hcat : ∀ r2 : List Value, am_cat r2 ≤ 8 → ((r2.map (am_cv (am_ad G))).map fun v => v.category).sum ≤ 8 := fun r2 hr => by
      simp only [List.map_map]
      have : ((fun v : Value => v.category) ∘ am_cv (am_ad G)) = fun v => v.category := funext fun v => am_cv_cat _ v
      rw [this]; exact hr
    unfold am_pair at hp
    dsimp only at hp
    split at hp
    · simp only [Bool.and_eq_true, decide_eq_true_eq] at hp
      obtain ⟨rfl, hw⟩ := hp
      have hw := hcode0 (am_wd_in hw)
      match t, hw, h with
      | 0, hw, h =>
        replace h := am_i1_e h
        obtain ⟨x, r2, rfl, h1, h⟩ := h
        have := hcat r2 h1
        exact va_mabs hx hb hml2 hown hw (hcode0 am_math.1.1) (hcode0 am_math.2.2.1) (hcode0 am_mcode.1) hfr1 (by omega) hcs.1 hcs.2 hd (ih _ _ _ _ h H locs ls hl hP hD hS)
      | 1, hw, h =>
        replace h := am_i2_e h
        obtain ⟨x, y, r2, rfl, h1, h⟩ := h
        have := hcat r2 h1
        exact va_mmin hx hb hml2 hown hw (hcode0 am_math.1.2.1) (hcode0 am_math.2.2.1) (hcode0 am_mcode.2.1) hfr1 (by omega) hcs.1 hcs.2 hd (ih _ _ _ _ h H locs ls hl hP hD hS)
      | 2, hw, h =>
        replace h := am_i2_e h
        obtain ⟨x, y, r2, rfl, h1, h⟩ := h
        have := hcat r2 h1
        exact va_mmax hx hb hml2 hown hw (hcode0 am_math.1.2.2.1) (hcode0 am_math.2.2.1) (hcode0 am_mcode.2.2.1) hfr1 (by omega) hcs.1 hcs.2 hd (ih _ _ _ _ h H locs ls hl hP hD hS)
      | 3, hw, h =>
        replace h := am_l2_e h
        obtain ⟨x, y, r2, rfl, h1, h⟩ := h
        have := hcat r2 h1
        exact va_mmin_long hx hb hml2 hown hw (hcode0 am_math.1.2.2.2.1) (hcode0 am_math.2.2.1) (hcode0 am_mcode.2.2.2) hfr1 (by omega) hcs.1 hcs.2 hd (ih _ _ _ _ h H locs ls hl hP hD hS)
      | 4, hw, h =>
        replace h := am_acp_e h
        obtain ⟨a0, sp, a, dp, n, r2, rfl, h1, h2, h3, h4, h5, h6, h7, h8, h9, h10, h⟩ := h
        have := hcat r2 h10
        have e7 : nativeFrameWords "java/lang/System" "arraycopy" 5 = 7 := by decide +kernel
        refine va_copyl (D := am_D G) hx hb hml2 hown hw (hcode0 am_math.2.1) (hcode0 am_math.1.2.2.2.2) (hcode0 am_math.2.2.2) hK hP hD hS a0 a 1 1 (am_arl (am_shp_e h1) h2) (am_arl (am_shp_e h3) h4) rfl rfl rfl h5 h6 h7 h8 h9 (fun i _ => rfl) hfr1 (by rw [e7]; omega) hd (fun H1 locs1 hP1 hD1 hS1 => ?_)
        rw [am_W_cpL (am_shp_e h3)] at hP1 hD1
        exact ih _ _ _ _ h H1 locs1 ls hl hP1 hD1 hS1
      | n + 5, hw, h => exact h.elim
    · cases hp
  | ireturn =>
    simp only [am_pair, Bool.and_eq_true, decide_eq_true_eq] at hp
    obtain ⟨rfl, rfl⟩ := hp
    unfold am_stp at h
    dsimp only at h
    split at h
    · rename_i x
      obtain ⟨h1, h2, rfl⟩ := h
      exact hfin H locs ls pc .ireturn [.int x] hd ⟨x, rfl, h2, h1⟩ hP hD hS
    · exact h.elim
  | lreturn =>
    simp only [am_pair, Bool.and_eq_true, decide_eq_true_eq] at hp
    obtain ⟨rfl, rfl⟩ := hp
    unfold am_stp at h
    dsimp only at h
    split at h
    · rename_i x
      obtain ⟨h1, h2, rfl⟩ := h
      exact hfin H locs ls pc .lreturn [.long x] hd ⟨x, rfl, h2, h1⟩ hP hD hS
    · exact h.elim
  | return_ =>
    simp only [am_pair, Bool.and_eq_true, decide_eq_true_eq] at hp
    obtain ⟨rfl, rfl⟩ := hp
    unfold am_stp at h
    dsimp only at h
    split at h
    · obtain ⟨h1, h2, rfl⟩ := h
      exact hfin H locs ls pc .return_ [] hd ⟨rfl, h2, h1⟩ hP hD hS
    · exact h.elim
  | _ => exact h.elim
end STP
end
section
/-! a run, a call of any depth: the JVM does what the abstract machine does -/
section RUN
variable {p : Program} {l : Launch} {e : Env} {R : Room} {s : State} {m : MethodId} {args : Array Value} {below : List Frame} {meth : Method} {c : Code} {Q0 : State → Prop} {G : Am_G} {cells slots nL : Nat} {cc : ByteArray} {o : Nat}
theorem am_run_ok {C : Am_C} {rm : Room} {rt : Nat} {rv : Option Value} {rM : Am_M} (F : am_Fr p s m args c cc o G nL)
    (hR : rm.cells = 0 ∧ rm.slots = 0 ∧ rm.frames + 1 ≤ R.frames ∧ 31 + 8 + rm.locals ≤ R.locals) (hcs : cells ≤ R.cells ∧ slots ≤ R.slots)
    (hC : ∀ j as M v M', C j as M v M' → am_mok j ∧ am_Mt l G rm j as M v M')
    (hfin : am_Hfin p l e R s m args below meth c cc Q0 G cells slots rt rv rM) {P : Am_p} (hck : am_chk o cc P = true) :
    ∀ (n pc : Nat) (lv st : List Value) (M : Am_M), am_run am_mt C (am_sL G) (am_xs G) (am_lk P) rt rv rM n pc lv st M → am_V p l e R s m args below meth c Q0 G cells slots nL pc lv st M := by
  intro n
  induction n with
  | zero => intro pc lv st M h; exact h.elim
  | succ n ih =>
    intro pc lv st M h
    unfold am_run at h
    split at h
    · exact h.elim
    · rename_i i len hlk
      obtain ⟨r, w, hd, hp⟩ := am_chk_at hck hlk
      exact am_step F hR hcs hC hfin hd hp ih h
end RUN
def am_rtc (ret : Option FieldType) : Nat := match ret with
  | none => 0
  | some .int => 1
  | some .boolean => 2
  | some .long => 3
  | _ => 9
/-- method j with these arguments from M gives v and M', at most d calls deep -/
def am_big (pg : Nat → Am_p) (NM sL : Nat) (xs : Nat → Int32) : Nat → Am_C
  | 0, _, _, _, _, _ => False
  | d + 1, j, as, M, v, M' => j < NM ∧ (am_en as).length ≤ (am_mt j).2.2.2.1 ∧ ∃ n, am_run am_mt (am_big pg NM sL xs d) sL xs (am_lk (pg j)) (am_rtc (am_mt j).2.2.2.2.1) v M' n 0 (am_ent (am_mt j).2.2.2.1 as) [] M
def am_room (d : Nat) : Room := { frames := d, cells := 0, slots := 0, locals := 40 * d }
theorem am_big_ok {l : Launch} {G : Am_G} {pg : Nat → Am_p} {NM : Nat} (hmok : ∀ j, j < NM → am_mok j) (hpg : ∀ j, j < NM → am_chk (am_mt j).1 (am_mt j).2.2.1 (pg j) = true) (hcl : ∀ j, j < NM → (am_mt j).2.1.cls = am_own (am_mt j).1) :
    ∀ (d j : Nat) (as : List Value) (M : Am_M) (v : Option Value) (M' : Am_M), am_big pg NM (am_sL G) (am_xs G) d j as M v M' → am_mok j ∧ am_Mt l G (am_room d) j as M v M' := by
  intro d
  induction d with
  | zero => intro j as M v M' h; exact h.elim
  | succ d ih =>
    intro j as M v M' h
    obtain ⟨hj, hlen, n, h⟩ := h
    refine ⟨hmok j hj, ?_⟩
    refine Met.ofW (cc := (am_mt j).2.2.1) (maxL := (am_mt j).2.2.2.1) (ret := (am_mt j).2.2.2.2.1) (hmok j hj).2.2.2.2.2.2.2 rfl ?_
    intro p e s m args below meth c s₁ B hml hv
    obtain ⟨rfl, hP, hK, hD, hSt⟩ := hv
    have hts := atoms_spec (ws := am_wsm j) B.pre
    have hts' : ∀ w ∈ am_TB, w.before ((as.map (am_cv (am_ad G))).toArray) s = true := fun w hw => hts w (List.mem_cons_of_mem _ hw)
    have hown : s.vm.findClass (am_own (am_mt j).1) = some m.cls := by rw [← hcl j hj]; exact findClass_of_methodNamed B.named
    have hlocks := B.notSynchronized
    have hr := B.returns
    rw [lg_entry_eq]
    refine am_run_ok (cells := 0) (slots := 0) (R := am_room (d + 1)) (rm := am_room d) ⟨B.exec, B.bytes, hml, hown, hts', hK, hSt⟩ ⟨rfl, rfl, Nat.le_refl _, by simp only [am_room]; omega⟩ ⟨Nat.zero_le _, Nat.zero_le _⟩ ih ?_ (hpg j hj) n 0 _ [] M h s.heap [] _ (am_lv_entry hlen) hP hD va_S.rf
    intro H locs ls pc i st hd hf hP1 hD1 hS1
    have hW : ∀ t : State, t.heap = H → s.WarmedH t.vm → am_Wd G M' t ∧ va_F (am_A G) s t := fun t ht hw => ⟨am_Wd_at hK hSt hP1 hD1 hS1 ht hw, hS1.F ht⟩
    unfold am_fin at hf
    split at hf
    · obtain ⟨x, rfl, rfl, hrt⟩ := hf
      generalize (am_mt j).2.2.2.2.1 = ret at hr hrt
      unfold am_rtc at hrt
      split at hrt
      · omega
      · exact W.iret B.exec B.bytes hr (fun t ht hw => ⟨⟨rfl, (hW t ht hw).1⟩, (hW t ht hw).2⟩) hS1.2.2 hd
      · refine W.zret B.exec B.bytes hr ?_ (fun t ht hw => ⟨⟨rfl, (hW t ht hw).1⟩, (hW t ht hw).2⟩) hS1.2.2 hd
        rcases hrt with hrt | ⟨-, hrt⟩
        · omega
        · rcases hrt with rfl | rfl <;> decide +kernel
      · omega
      · omega
    · obtain ⟨x, rfl, rfl, hrt⟩ := hf
      generalize (am_mt j).2.2.2.2.1 = ret at hr hrt
      unfold am_rtc at hrt
      split at hrt
      · omega
      · omega
      · omega
      · exact W.lret B.exec B.bytes hr (fun t ht hw => ⟨⟨rfl, (hW t ht hw).1⟩, (hW t ht hw).2⟩) hS1.2.2 hd
      · omega
    · obtain ⟨rfl, rfl, hrt⟩ := hf
      generalize (am_mt j).2.2.2.2.1 = ret at hr hrt
      unfold am_rtc at hrt
      split at hrt
      · exact W.vret B.exec B.bytes hr (fun t ht hw => ⟨⟨rfl, (hW t ht hw).1⟩, (hW t ht hw).2⟩) hS1.2.2 hd
      · omega
      · omega
      · omega
      · omega
    · exact hf.elim
end
