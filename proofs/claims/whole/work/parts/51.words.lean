/-! THE CONSTRUCTORS' WORDS -/
def am_TC0_0 : List Cond := [.code yX0_init cX0_init 1 none, .methodLink RX0 1 objectInit, .instanceMethod objectInit, .code objectInit ⟨#[0xb1]⟩ 1 none, .arrayClass .int, .fieldLink RX0 9 "OrbitsWed$Changes" "numbers" "[I", .fieldLink RX0 13 "OrbitsWed$Changes" "whats" "[I", .fieldLink RX0 16 "OrbitsWed$Changes" "olds" "[I", .fieldLink RX0 19 "OrbitsWed$Changes" "news" "[I", .code yX1_init cX1_init 2 none, .methodLink RX1 3 objectInit, .fieldLink RX1 9 "OrbitsWed$Clock" "sky" "LOrbitsWed$Sky;", .code yX2_init cX2_init 2 none, .methodLink RX2 3 objectInit, .fieldLink RX2 9 "OrbitsWed$Deeds" "sky" "LOrbitsWed$Sky;", .fieldLink RX2 15 "OrbitsWed$Deeds" "imagePlaces" "[I", .code yX3_init cX3_init 3 none, .methodLink RX3 3 objectInit, .fieldLink RX3 9 "OrbitsWed$Foresight" "sky" "LOrbitsWed$Sky;", .fieldLink RX3 15 "OrbitsWed$Foresight" "walk" "LOrbitsWed$Walk;", .arrayClass .long, .fieldLink RX3 19 "OrbitsWed$Foresight" "seen" "[J", .code yX4_init cX4_init 1 none, .methodLink RX4 3 objectInit, .fieldLink RX4 11 "OrbitsWed$Law" "steps" "[I", .fieldLink RX4 15 "OrbitsWed$Law" "values" "[I", .fieldLink RX4 18 "OrbitsWed$Law" "named" "[I", .fieldLink RX4 21 "OrbitsWed$Law" "stack" "[I", .code yX5_init cX5_init 1 none, .methodLink RX5 3 objectInit, .fieldLink RX5 11 "OrbitsWed$Moods" "kinds" "[I", .fieldLink RX5 15 "OrbitsWed$Moods" "traced" "[I", .code yX6_init cX6_init 1 none, .methodLink RX6 3 objectInit, .fieldLink RX6 11 "OrbitsWed$Shelves" "holds" "[I", .fieldLink RX6 15 "OrbitsWed$Shelves" "held" "[I", .fieldLink RX6 18 "OrbitsWed$Shelves" "sorts" "[I", .fieldLink RX6 21 "OrbitsWed$Shelves" "lengths" "[I", .classLink RX6 24 "[[J", .fieldLink RX6 26 "OrbitsWed$Shelves" "values" "[[J"]
set_option maxRecDepth 20000 in
theorem am_TC0_0_in : am_TC0_0 = ([318, 319, 101, 102, 150, 320, 322, 324, 326, 155, 156, 157, 270, 271, 272, 283, 253, 254, 255, 256, 265, 257, 195, 196, 197, 198, 200, 201, 377, 378, 379, 383, 349, 350, 353, 354, 356, 358, 351, 360] : List Nat).filterMap (fun i => lw_tbl[i]?) := rfl
theorem am_TC0_0_good : am_TC0_0.all goodWord = true := by decide +kernel
def am_TC0_1 : List Cond := [.code yX7_init cX7_init 1 none, .methodLink RX7 3 objectInit, .fieldLink RX7 9 "OrbitsWed$Sky" "rounds" "[I", .fieldLink RX7 21 "OrbitsWed$Sky" "places" "[I", .fieldLink RX7 24 "OrbitsWed$Sky" "weights" "[I", .classLink RX7 27 "[[I", .fieldLink RX7 29 "OrbitsWed$Sky" "likes" "[[I", .fieldLink RX7 32 "OrbitsWed$Sky" "near" "I", .methodLink RX7 15 yJ7_fill_53178, .static yJ7_fill_53178, .initialized RJ7, .code yJ7_fill_53178 cJ7_fill_53178 4 none, .code yX8_init cX8_init 1 none, .methodLink RX8 3 objectInit, .fieldLink RX8 11 "OrbitsWed$Tape" "bytes" "[I", .fieldLink RX8 17 "OrbitsWed$Tape" "steps" "[I", .fieldLink RX8 20 "OrbitsWed$Tape" "values" "[I", .code yX9_init cX9_init 3 none, .methodLink RX9 3 objectInit, .fieldLink RX9 9 "OrbitsWed$Walk" "sky" "LOrbitsWed$Sky;", .fieldLink RX9 15 "OrbitsWed$Walk" "law" "LOrbitsWed$Law;", .fieldLink RX9 19 "OrbitsWed$Walk" "places" "[I", .fieldLink RX9 23 "OrbitsWed$Walk" "degrees" "[I", .fieldLink RX9 26 "OrbitsWed$Walk" "sums" "[I", .fieldLink RX9 29 "OrbitsWed$Walk" "metBits" "[I", .code yX10_init cX10_init 1 none, .methodLink RX10 1 objectInit, .classLink RX10 7 RX7, .instantiable RX7 6, .initialized RX7, .fieldLink RX10 10 "OrbitsWed" "sky" "LOrbitsWed$Sky;", .classLink RX10 16 RX1, .instantiable RX1 1, .initialized RX1, .fieldLink RX10 21 "OrbitsWed" "clock" "LOrbitsWed$Clock;", .classLink RX10 25 RX8, .instantiable RX8 6, .initialized RX8, .fieldLink RX10 28 "OrbitsWed" "tape" "LOrbitsWed$Tape;", .classLink RX10 32 RX4]
set_option maxRecDepth 20000 in
theorem am_TC0_1_in : am_TC0_1 = ([107, 108, 114, 118, 123, 112, 125, 128, 109, 110, 81, 111, 165, 166, 167, 172, 174, 217, 218, 219, 220, 221, 223, 224, 225, 99, 100, 103, 104, 80, 396, 151, 152, 82, 397, 161, 162, 83, 398, 191] : List Nat).filterMap (fun i => lw_tbl[i]?) := rfl
theorem am_TC0_1_good : am_TC0_1.all goodWord = true := by decide +kernel
def am_TC0_2 : List Cond := [.instantiable RX4 5, .initialized RX4, .fieldLink RX10 35 "OrbitsWed" "law" "LOrbitsWed$Law;", .classLink RX10 39 RX9, .instantiable RX9 8, .initialized RX9, .fieldLink RX10 44 "OrbitsWed" "walk" "LOrbitsWed$Walk;", .classLink RX10 48 RX3, .instantiable RX3 3, .initialized RX3, .fieldLink RX10 53 "OrbitsWed" "foresight" "LOrbitsWed$Foresight;", .classLink RX10 57 RX2, .instantiable RX2 12, .initialized RX2, .fieldLink RX10 60 "OrbitsWed" "deeds" "LOrbitsWed$Deeds;", .classLink RX10 64 RX0, .instantiable RX0 6, .initialized RX0, .fieldLink RX10 67 "OrbitsWed" "changes" "LOrbitsWed$Changes;", .classLink RX10 71 RX6, .instantiable RX6 5, .initialized RX6, .fieldLink RX10 74 "OrbitsWed" "shelves" "LOrbitsWed$Shelves;", .classLink RX10 78 RX5, .instantiable RX5 4, .initialized RX5, .fieldLink RX10 81 "OrbitsWed" "moods" "LOrbitsWed$Moods;", .methodLink RX10 9 yX7_init, .instanceMethod yX7_init, .methodLink RX10 18 yX1_init, .instanceMethod yX1_init, .methodLink RX10 27 yX8_init, .instanceMethod yX8_init, .methodLink RX10 34 yX4_init, .instanceMethod yX4_init, .methodLink RX10 41 yX9_init, .instanceMethod yX9_init, .methodLink RX10 50 yX3_init, .instanceMethod yX3_init, .methodLink RX10 59 yX2_init]
set_option maxRecDepth 20000 in
theorem am_TC0_2_in : am_TC0_2 = ([192, 84, 399, 213, 214, 85, 400, 249, 250, 86, 401, 266, 267, 87, 402, 314, 315, 88, 403, 345, 346, 89, 404, 373, 374, 90, 405, 105, 106, 153, 154, 163, 164, 193, 194, 215, 216, 251, 252, 268] : List Nat).filterMap (fun i => lw_tbl[i]?) := rfl
theorem am_TC0_2_good : am_TC0_2.all goodWord = true := by decide +kernel
def am_TC0_3 : List Cond := [.instanceMethod yX2_init, .methodLink RX10 66 yX0_init, .instanceMethod yX0_init, .methodLink RX10 73 yX6_init, .instanceMethod yX6_init, .methodLink RX10 80 yX5_init, .instanceMethod yX5_init, .code yX11_init cX11_init 2 none, .methodLink RX11 3 objectInit, .fieldLink RX11 9 "OrbitsWedModel" "may" "[I", .fieldLink RX11 13 "OrbitsWedModel" "changeAt" "[I", .fieldLink RX11 16 "OrbitsWedModel" "changeWas" "[I", .fieldLink RX11 19 "OrbitsWedModel" "changeIs" "[I", .fieldLink RX11 22 "OrbitsWedModel" "round" "[I", .fieldLink RX11 25 "OrbitsWedModel" "tape" "[I", .fieldLink RX11 28 "OrbitsWedModel" "text" "[I", .fieldLink RX11 31 "OrbitsWedModel" "names" "[I", .fieldLink RX11 34 "OrbitsWedModel" "place" "[I", .fieldLink RX11 37 "OrbitsWedModel" "on" "[I", .fieldLink RX11 40 "OrbitsWedModel" "stood" "[I", .fieldLink RX11 43 "OrbitsWedModel" "whether" "[I", .fieldLink RX11 46 "OrbitsWedModel" "ledNow" "[I", .fieldLink RX11 49 "OrbitsWedModel" "imagePlace" "[I", .fieldLink RX11 52 "OrbitsWedModel" "imageLed" "[I", .fieldLink RX11 55 "OrbitsWedModel" "bodyKind" "[I", .fieldLink RX11 58 "OrbitsWedModel" "trace" "[I", .fieldLink RX11 61 "OrbitsWedModel" "shelf" "[I", .fieldLink RX11 64 "OrbitsWedModel" "many" "[I", .fieldLink RX11 67 "OrbitsWedModel" "items" "[J", .fieldLink RX11 71 "OrbitsWedModel" "carried" "[J", .fieldLink RX11 74 "OrbitsWedModel" "textMany" "I", .classLink RL 7 RX10, .instantiable RX10 10, .initialized RX10, .classLink RL 10 RX11, .instantiable RX11 39, .initialized RX11, .methodLink RL 9 yX10_init, .methodLink RL 12 yX11_init, .instanceMethod yX10_init]
set_option maxRecDepth 20000 in
theorem am_TC0_3_in : am_TC0_3 = ([269, 316, 317, 347, 348, 375, 376, 1117, 1118, 1119, 1120, 1121, 1122, 1126, 1127, 1129, 1136, 1137, 1140, 1141, 1142, 1143, 1146, 1147, 1149, 1150, 1154, 1155, 1156, 1157, 1130, 95, 96, 79, 1113, 1114, 91, 97, 1115, 98] : List Nat).filterMap (fun i => lw_tbl[i]?) := rfl
theorem am_TC0_3_good : am_TC0_3.all goodWord = true := by decide +kernel
def am_TC0_4 : List Cond := [.instanceMethod yX11_init]
set_option maxRecDepth 20000 in
theorem am_TC0_4_in : am_TC0_4 = ([1116] : List Nat).filterMap (fun i => lw_tbl[i]?) := rfl
theorem am_TC0_4_good : am_TC0_4.all goodWord = true := by decide +kernel
def am_TC0 : List Cond := am_TC0_0 ++ (am_TC0_1 ++ (am_TC0_2 ++ (am_TC0_3 ++ (am_TC0_4))))
def am_TC : List Cond := am_TC0 ++ am_TB
theorem am_TC_row {a : List Cond} {is : List Nat} (h : a = is.filterMap (fun i => lw_tbl[i]?)) : ∀ w ∈ a, w ∈ lw_tbl := by
  intro w hw
  rw [h] at hw
  obtain ⟨i, -, hi⟩ := List.mem_filterMap.mp hw
  exact List.mem_of_getElem? hi
theorem am_TC_in : ∀ w ∈ am_TC, w ∈ lw_tbl := by
  intro w hw
  rcases List.mem_append.mp hw with hw | hw
  · unfold am_TC0 at hw
    simp only [List.mem_append] at hw
    rcases hw with hw | hw | hw | hw | hw
    · exact am_TC_row am_TC0_0_in w hw
    · exact am_TC_row am_TC0_1_in w hw
    · exact am_TC_row am_TC0_2_in w hw
    · exact am_TC_row am_TC0_3_in w hw
    · exact am_TC_row am_TC0_4_in w hw
  · exact am_TB_in w hw
theorem am_TC_good : GoodIn am_TC am_TC := by
  intro w hw
  refine ⟨hw, ?_⟩
  rcases List.mem_append.mp hw with hw | hw
  · unfold am_TC0 at hw
    simp only [List.mem_append] at hw
    rcases hw with hw | hw | hw | hw | hw
    · exact good_of_word (List.all_eq_true.mp am_TC0_0_good w hw)
    · exact good_of_word (List.all_eq_true.mp am_TC0_1_good w hw)
    · exact good_of_word (List.all_eq_true.mp am_TC0_2_good w hw)
    · exact good_of_word (List.all_eq_true.mp am_TC0_3_good w hw)
    · exact good_of_word (List.all_eq_true.mp am_TC0_4_good w hw)
  · exact Or.inl (am_TB_good w hw)
theorem kc_in {w : Cond} (i : Nat) (h : am_TC0[i]? = some w) : w ∈ am_TC := List.mem_append_left _ (List.mem_of_getElem? h)
def am_wsk (y : MethodName) (cc : ByteArray) (mL : Nat) : List Cond := .code y cc mL none :: am_TC
theorem am_wsk_good {y : MethodName} {cc : ByteArray} {mL : Nat} (h : Cond.code y cc mL none ∈ am_TC) : GoodIn am_TC (am_wsk y cc mL) := by
  intro w hw
  rcases List.mem_cons.mp hw with e | e
  · rw [e]; exact am_TC_good _ h
  · exact am_TC_good w e
theorem kc_lay (ci : Nat) (hci : ci < 12) : ∀ w ∈ u_ws (am_R ci) (am_T ci) (am_nf ci), w ∈ am_TC := fun w h => List.mem_append_right _ (am_lays ci hci w h)
theorem kc_I {D : va_G} {cl : List vw_C} {cA : Nat → ClassId} {cB : ClassId} {U : State} (h : va_K D cl (am_tys cA ++ [(cB, .int)]) U) : cA 0 = cB := Option.some.inj ((h.2 0 (cA 0, .int) rfl).2.symm.trans (h.2 4 (cB, .int) rfl).2)
theorem kc_L {D : va_G} {cl : List vw_C} {cA : Nat → ClassId} {cB : ClassId} {U : State} (h : va_K D cl (am_tys cA ++ [(cB, .long)]) U) : cA 1 = cB := Option.some.inj ((h.2 1 (cA 1, .long) rfl).2.symm.trans (h.2 4 (cB, .long) rfl).2)
theorem kc_AI {D : va_G} {cl : List vw_C} {cA : Nat → ClassId} {cB : ClassId} {U : State} (h : va_K D cl (am_tys cA ++ [(cB, .array .int)]) U) : cA 2 = cB := Option.some.inj ((h.2 2 (cA 2, .array .int) rfl).2.symm.trans (h.2 4 (cB, .array .int) rfl).2)
theorem kc_AL {D : va_G} {cl : List vw_C} {cA : Nat → ClassId} {cB : ClassId} {U : State} (h : va_K D cl (am_tys cA ++ [(cB, .array .long)]) U) : cA 3 = cB := Option.some.inj ((h.2 3 (cA 3, .array .long) rfl).2.symm.trans (h.2 4 (cB, .array .long) rfl).2)
theorem kc_pl (l : List Nat) (f : Nat → va_E) (e : va_E) : va_pl ([] ++ l) (vr_up f l e) = l.map (fun a => (a, e)) := by
  rw [List.nil_append]
  unfold va_pl
  exact List.map_congr_left (fun a ha => by rw [vr_up_in ha])
set_option maxRecDepth 20000 in
theorem lw_AOI : (Cond.arrayOver (.array .int)) ∈ lw_tbl := List.mem_of_getElem? (i := 113) rfl
set_option maxRecDepth 20000 in
theorem lw_AOL : (Cond.arrayOver (.array .long)) ∈ lw_tbl := List.mem_of_getElem? (i := 352) rfl
set_option maxRecDepth 20000 in
theorem lw_LSA : (Cond.laysStatic "OrbitsWed$Moods" "ABOVE" "[I") ∈ lw_tbl := List.mem_of_getElem? (i := 1015) rfl
set_option maxRecDepth 20000 in
theorem lw_LSO : (Cond.laysStatic "OrbitsWed$Moods" "OWN" "[I") ∈ lw_tbl := List.mem_of_getElem? (i := 1013) rfl
set_option maxRecDepth 20000 in
theorem lw_ini5 : (Cond.initialized RX5) ∈ lw_tbl := List.mem_of_getElem? (i := 90) rfl
theorem kc_vin {i : Int32} {n : Nat} (h : ¬ (i < 0 ∨ n ≤ i.toNatClampNeg)) : vp_in i n := h
def kc_AO (t : FieldType) (U : State) : Prop := (Cond.arrayOver (.array t)).before #[] U = true
theorem kc_AO.of {t : FieldType} {args : Array Value} {U : State} (h : (Cond.arrayOver (.array t)).before args U = true) : kc_AO t U := Jvm.Stand.arrayOver_alikeB (Vm.Alike.refl U.vm) h
theorem kc_AO.use {t : FieldType} {args : Array Value} {U : State} (h : kc_AO t U) : (Cond.arrayOver (.array t)).before args U = true := Jvm.Stand.arrayOver_alikeB (Vm.Alike.refl U.vm) h
theorem kc_AO.moved {t : FieldType} {u U : State} (hvm : u.vm.Alike U.vm) (h : kc_AO t u) : kc_AO t U := Jvm.Stand.arrayOver_alikeB hvm h
/-! a constructor's start and end; its call -/
def kc_Pre (D : va_G) (cA : Nat → ClassId) (av : List Value) (wc : va_W) (sz : Nat) : Array Value → State → Prop := va_Pc av (fun U => U.heap.size = sz ∧ va_P D vwCl wc U.heap ∧ va_K D vwCl (am_tys cA) U ∧ va_D (fun _ => True) wc ∧ kc_AO .int U ∧ kc_AO .long U)
def kc_Post (D : va_G) (cA : Nat → ClassId) (A : Nat → Prop) (B : va_W → Prop) : Array Value → State → Outcome → State → Prop := va_Qv (fun _ : Unit => True) (fun _ t => ∃ w, B w ∧ va_P D vwCl w t.heap ∧ va_K D vwCl (am_tys cA) t ∧ va_D A w) A
theorem kc_blind {D : va_G} {cA : Nat → ClassId} {av : List Value} {wc : va_W} {sz : Nat} : FrameBlind (kc_Pre D cA av wc sz) := fun a U g mk q => by
  obtain ⟨q0, q1, qP, qK, qD, qO, qL⟩ := q
  exact ⟨q0, q1, qP, va_K.moved (u := U) (U := U.calling g mk a) (Vm.Alike.refl U.vm) qK, qD, kc_AO.moved (u := U) (U := U.calling g mk a) (Vm.Alike.refl U.vm) qO, kc_AO.moved (u := U) (U := U.calling g mk a) (Vm.Alike.refl U.vm) qL⟩
section KC
variable {p : Program} {l : Launch} {e : Env} {R : Room} {s : State} {m : MethodId} {args : Array Value} {below : List Frame} {meth : Method} {c : Code} {H : Heap} {locs : List Loc} {cells slots : Nat} {Q : State → Prop}
variable {cc : ByteArray} {pc nL : Nat} {ls : Array Slot} {rest As : List Value} {D : va_G} {cA : Nat → ClassId} {A0 : Nat → Prop} {ws wr wc : va_W} {y : MethodName} {bytes : ByteArray} {mL mc ms n index : Nat} {own : String} {rm : Room} {b : Nat} {B : va_W → Prop}
theorem kc_call (S : CallFix p m c cc nL s args am_TC own) (hM : Met l y (am_wsk y bytes mL) rm (kc_Pre D cA (.ref b :: As) wc H.size) (kc_Post D cA (va_A wc H.size) B) mc ms (va_A wc H.size))
    (cw : CallB R s args own index y bytes mL none (am_wsk y bytes mL) rm mc ms n ∧ y.name = "<init>" ∧ (Cond.instanceMethod y).before args s = true) (hn : As.length = n) (hsize : ls.size = nL) (hW : (rest.map fun v => v.category).sum ≤ 8) (hdg : decode cc pc = .ok (.invokespecial index, 3)) (hf : cells + mc ≤ R.cells ∧ slots + ms ≤ R.slots)
    (hK : va_K D vwCl (am_tys cA) s) (hO : kc_AO .int s ∧ kc_AO .long s) (hP : va_P D vwCl ws H) (hD : va_D A0 ws) (hS : va_S A0 s.heap H locs) (hA : ∀ q, s.heap.size ≤ q → A0 q) (isC isR : List Nat) (hC : isC.map (fun i => ws[i]?) = wc.map some) (hC2 : isC.filterMap (fun i => ws[i]?) = wc) (hR : isR.map (fun i => ws[i]?) = wr.map some) (hndC : va_nd isC = true) (hnd : va_nd isR = true) (hdis : ∀ i ∈ isR, i ∉ isC)
    (kk : ∀ (w1 : va_W) (H1 : Heap) (locs1 : List Loc), B w1 → va_P D vwCl (wr ++ w1) H1 → va_D A0 (wr ++ w1) → va_S A0 s.heap H1 locs1 → W p l e R s m args below meth c H1 locs1 (cells + mc) (slots + ms) Q (F0 m (pc + 3) ls rest)) :
    W p l e R s m args below meth c H locs cells slots Q (F0 m pc ls (As.reverse ++ .ref b :: rest)) := by
  have hPc : va_P D vwCl wc H := hP.sub isC hC2
  have hDc := hD.sub isC hndC hC
  have hFc := va_free (wc := wc) hD hS hA isC hC
  refine va_callv (va_runI S hM cw ⟨kc_blind, fun U hU hW => ⟨rfl, by rw [hU], by rw [hU]; exact hPc, va_K.moved hW.alike hK, hDc.weaken (fun _ _ _ _ => trivial), hO.1.moved hW.alike, hO.2.moved hW.alike⟩⟩ rfl hn hsize rfl (lv_room hW) hdg hf) hS (fun q _ h => hFc q h) hFc (fun u t H1 locs1 ht hvm hw hB hz1 hk1 hS1 => ?_)
  obtain ⟨w1, hB1, hP1, hK1, hD1⟩ := hB
  rw [ht] at hP1
  obtain ⟨hP2, hD2⟩ := va_join hP hD isC isR hC hR hnd hdis hk1 hFc hP1 hD1
  exact kk w1 H1 locs1 hB1 hP2 hD2 hS1
theorem kc_callS (S : CallFix p m c cc nL s args am_TC own) (hM : Met l y (am_wsk y bytes mL) rm (kc_Pre D cA As wc H.size) (kc_Post D cA (va_A wc H.size) B) mc ms (va_A wc H.size))
    (cw : CallB R s args own index y bytes mL none (am_wsk y bytes mL) rm mc ms n ∧ (Cond.static y).before args s = true) (hn : As.length = n) (hsize : ls.size = nL) (hW : (rest.map fun v => v.category).sum ≤ 8) (hdg : decode cc pc = .ok (.invokestatic index, 3)) (hf : cells + mc ≤ R.cells ∧ slots + ms ≤ R.slots)
    (hK : va_K D vwCl (am_tys cA) s) (hO : kc_AO .int s ∧ kc_AO .long s) (hP : va_P D vwCl ws H) (hD : va_D A0 ws) (hS : va_S A0 s.heap H locs) (hA : ∀ q, s.heap.size ≤ q → A0 q) (isC isR : List Nat) (hC : isC.map (fun i => ws[i]?) = wc.map some) (hC2 : isC.filterMap (fun i => ws[i]?) = wc) (hR : isR.map (fun i => ws[i]?) = wr.map some) (hndC : va_nd isC = true) (hnd : va_nd isR = true) (hdis : ∀ i ∈ isR, i ∉ isC)
    (kk : ∀ (w1 : va_W) (H1 : Heap) (locs1 : List Loc), B w1 → va_P D vwCl (wr ++ w1) H1 → va_D A0 (wr ++ w1) → va_S A0 s.heap H1 locs1 → W p l e R s m args below meth c H1 locs1 (cells + mc) (slots + ms) Q (F0 m (pc + 3) ls rest)) :
    W p l e R s m args below meth c H locs cells slots Q (F0 m pc ls (As.reverse ++ rest)) := by
  have hPc : va_P D vwCl wc H := hP.sub isC hC2
  have hDc := hD.sub isC hndC hC
  have hFc := va_free (wc := wc) hD hS hA isC hC
  refine va_callv (va_runS S hM cw ⟨kc_blind, fun U hU hW => ⟨rfl, by rw [hU], by rw [hU]; exact hPc, va_K.moved hW.alike hK, hDc.weaken (fun _ _ _ _ => trivial), hO.1.moved hW.alike, hO.2.moved hW.alike⟩⟩ rfl hn hsize rfl (lv_room hW) hdg hf) hS (fun q _ h => hFc q h) hFc (fun u t H1 locs1 ht hvm hw hB hz1 hk1 hS1 => ?_)
  obtain ⟨w1, hB1, hP1, hK1, hD1⟩ := hB
  rw [ht] at hP1
  obtain ⟨hP2, hD2⟩ := va_join hP hD isC isR hC hR hnd hdis hk1 hFc hP1 hD1
  exact kk w1 H1 locs1 hB1 hP2 hD2 hS1
end KC
