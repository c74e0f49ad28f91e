/-! A CONSTRUCTOR -/
theorem dX7_init_0 : decode cX7_init 0 = .ok (.aload_n 0, 1) := by decide +kernel
theorem dX7_init_1 : decode cX7_init 1 = .ok (.invokespecial 3, 3) := by decide +kernel
theorem dX7_init_4 : decode cX7_init 4 = .ok (.aload_n 0, 1) := by decide +kernel
theorem dX7_init_5 : decode cX7_init 5 = .ok (.bipush 8, 2) := by decide +kernel
theorem dX7_init_7 : decode cX7_init 7 = .ok (.newarray .int, 2) := by decide +kernel
theorem dX7_init_9 : decode cX7_init 9 = .ok (.putfield 9, 3) := by decide +kernel
theorem dX7_init_12 : decode cX7_init 12 = .ok (.aload_n 0, 1) := by decide +kernel
theorem dX7_init_13 : decode cX7_init 13 = .ok (.getfield 9, 3) := by decide +kernel
theorem dX7_init_16 : decode cX7_init 16 = .ok (.iconst 1, 1) := by decide +kernel
theorem dX7_init_17 : decode cX7_init 17 = .ok (.invokestatic 15, 3) := by decide +kernel
theorem dX7_init_20 : decode cX7_init 20 = .ok (.aload_n 0, 1) := by decide +kernel
theorem dX7_init_21 : decode cX7_init 21 = .ok (.bipush 8, 2) := by decide +kernel
theorem dX7_init_23 : decode cX7_init 23 = .ok (.newarray .int, 2) := by decide +kernel
theorem dX7_init_25 : decode cX7_init 25 = .ok (.putfield 21, 3) := by decide +kernel
theorem dX7_init_28 : decode cX7_init 28 = .ok (.aload_n 0, 1) := by decide +kernel
theorem dX7_init_29 : decode cX7_init 29 = .ok (.bipush 8, 2) := by decide +kernel
theorem dX7_init_31 : decode cX7_init 31 = .ok (.newarray .int, 2) := by decide +kernel
theorem dX7_init_33 : decode cX7_init 33 = .ok (.putfield 24, 3) := by decide +kernel
theorem dX7_init_36 : decode cX7_init 36 = .ok (.aload_n 0, 1) := by decide +kernel
theorem dX7_init_37 : decode cX7_init 37 = .ok (.bipush 8, 2) := by decide +kernel
theorem dX7_init_39 : decode cX7_init 39 = .ok (.bipush 8, 2) := by decide +kernel
theorem dX7_init_41 : decode cX7_init 41 = .ok (.multianewarray 27 2, 4) := by decide +kernel
theorem dX7_init_45 : decode cX7_init 45 = .ok (.putfield 29, 3) := by decide +kernel
theorem dX7_init_48 : decode cX7_init 48 = .ok (.aload_n 0, 1) := by decide +kernel
theorem dX7_init_49 : decode cX7_init 49 = .ok (.bipush 10, 2) := by decide +kernel
theorem dX7_init_51 : decode cX7_init 51 = .ok (.putfield 32, 3) := by decide +kernel
theorem dX7_init_54 : decode cX7_init 54 = .ok (.return_, 1) := by decide +kernel
def kB_X7 (cA : Nat → ClassId) (h0 : Nat) (w : va_W) : Prop := ∃ (q7_1 : Nat) (f17 : Nat → Int32) (q23_2 : Nat) (q31_3 : Nat) (q41_4 : Nat) (r41_4 : Nat → Nat), w = [(h0, .inr (7, [.ref q7_1, .ref q23_2, .ref q31_3, .ref q41_4, .int 10, .int 0])), (q7_1, .inl (cA 0, 8, .inl f17)), (q23_2, .inl (cA 0, 8, .inl (fun _ => 0))), (q31_3, .inl (cA 0, 8, .inl (fun _ => 0))), (q41_4, .inl (cA 2, 8, .inr (.inr (.inr (.inr (fun i => if i < 8 then some (r41_4 i) else none)))))), (r41_4 0, .inl (cA 0, 8, .inl (fun _ => 0))), (r41_4 1, .inl (cA 0, 8, .inl (fun _ => 0))), (r41_4 2, .inl (cA 0, 8, .inl (fun _ => 0))), (r41_4 3, .inl (cA 0, 8, .inl (fun _ => 0))), (r41_4 4, .inl (cA 0, 8, .inl (fun _ => 0))), (r41_4 5, .inl (cA 0, 8, .inl (fun _ => 0))), (r41_4 6, .inl (cA 0, 8, .inl (fun _ => 0))), (r41_4 7, .inl (cA 0, 8, .inl (fun _ => 0)))]
set_option maxHeartbeats 8000000 in
set_option maxRecDepth 100000 in
theorem k_X7 (l : Launch) (D : va_G) (cA : Nat → ClassId) (h0 sz : Nat) : Met l yX7_init (am_wsk yX7_init cX7_init 1) { frames := 2, cells := 12, slots := 96, locals := 70 } (kc_Pre D cA [.ref h0] [(h0, .inr (7, [.null, .null, .null, .null, .int 0, .int 0]))] sz) (kc_Post D cA (va_A [(h0, .inr (7, [.null, .null, .null, .null, .int 0, .int 0]))] sz) (kB_X7 cA h0)) 12 96 (va_A [(h0, .inr (7, [.null, .null, .null, .null, .int 0, .int 0]))] sz) := by
  refine Met.ofW (cc := cX7_init) (maxL := 1) (ret := none) (by decide +kernel) rfl ?_
  intro p e s m args below meth c s₁ B hml hv
  obtain ⟨rfl, hsz, hP, hK, hD0, hO⟩ := hv
  have hx := B.exec
  have hb := B.bytes
  have hr := B.returns
  have hts0 := atoms_spec (ws := am_wsk yX7_init cX7_init 1) B.pre
  have hts : ∀ w ∈ am_TC, w.before ([.ref h0] : List Value).toArray s = true := fun w hw => hts0 w (List.mem_cons_of_mem _ hw)
  have hown : s.vm.findClass RX7 = some m.cls := findClass_of_methodNamed B.named
  have hlocks := B.notSynchronized
  have hin : meth.name = "<init>" := (name_of_methodNamed B.named B.method).1
  subst hsz
  have hD := hD0.self (sz := s.heap.size)
  generalize hAe : va_A [(h0, .inr (7, [.null, .null, .null, .null, .int 0, .int 0]))] s.heap.size = A at hD ⊢
  have hA : ∀ q : Nat, s.heap.size ≤ q → A q := fun q h => by rw [← hAe]; exact Or.inr h
  have hS : va_S A s.heap s.heap [] := va_S.rf
  have hP : va_P D vwCl [(h0, .inr (7, [.null, .null, .null, .null, .int 0, .int 0]))] s.heap := hP
  have hl := lv_entry ([.ref h0]) (n := 1) (Nat.le_of_ble_eq_true rfl)
  rw [lg_entry_eq]
  generalize (lg_sl ([.ref h0]) ++ List.replicate (1 - (lg_sl ([.ref h0])).length) Slot.unset).toArray = ls at hl ⊢
  have hl : lv_has ls 1 [(0, .ref h0)] := hl
  refine lv_aload_n hx hb dX7_init_0 rfl (lv_at hl 0 rfl) ?_
  refine W.objInit hx hb hown (hts (.methodLink RX7 3 objectInit) (kc_in 41 rfl)) (hts (.instanceMethod objectInit) (kc_in 2 rfl)) (hts (.code objectInit ⟨#[0xb1]⟩ 1 none) (kc_in 3 rfl)) rfl (by rw [hml]; exact hl.1) rfl dX7_init_1 (Nat.le_of_ble_eq_true rfl) (Nat.le_of_ble_eq_true rfl) ?_
  refine W.eq (g2 := F0 m 4 ls []) rfl ?_
  refine lv_aload_n hx hb dX7_init_4 rfl (lv_at hl 0 rfl) ?_
  refine lv_bipush (v := 8) hx hb dX7_init_5 (by decide) ?_
  refine va_newa (atype := .int) (ty := .int) (N' := 8) (a0 := (8, .inl (fun _ => 0))) hx hb (hts (.arrayClass .int) (kc_in 4 rfl)) rfl hK hP hD hS hA (fun c => vp_cell_i c 8 _) (by decide) (by decide) (by decide) (Nat.le_of_ble_eq_true rfl) (Nat.le_of_ble_eq_true rfl) dX7_init_7 (fun q7_1 cB H hK2 hP hD hS => ?_)
  obtain rfl := kc_I hK2
  clear hK2
  have hP : va_P D vwCl [(h0, .inr (7, [.null, .null, .null, .null, .int 0, .int 0])), (q7_1, .inl (cA 0, 8, .inl (fun _ => 0)))] H := hP
  have hD : va_D A [(h0, .inr (7, [.null, .null, .null, .null, .int 0, .int 0])), (q7_1, .inl (cA 0, 8, .inl (fun _ => 0)))] := hD
  refine W.widen (k := 1) (n := 8) (by omega) (by omega) ?_
  refine va_putF (D := D) (ci := 7) (v := .ref q7_1) (ty := .array .int) (C := RX7) (T := TX7) (N := 6) hx hb hts (kc_lay 7 (by decide)) tyX7 tyX7_ok nmX7 hown hK hP hD hS 0 rfl rfl 0 (by decide) (hts (.fieldLink RX7 9 "OrbitsWed$Sky" "rounds" "[I") (kc_in 42 rfl)) (fun _ h9 => h9) rfl hin rfl (by decide +kernel) rfl rfl (Nat.le_of_ble_eq_true rfl) dX7_init_9 (fun H locs hP hD hS => ?_)
  have hP : va_P D vwCl [(h0, .inr (7, [.ref q7_1, .null, .null, .null, .int 0, .int 0])), (q7_1, .inl (cA 0, 8, .inl (fun _ => 0)))] H := hP
  have hD : va_D A [(h0, .inr (7, [.ref q7_1, .null, .null, .null, .int 0, .int 0])), (q7_1, .inl (cA 0, 8, .inl (fun _ => 0)))] := hD
  refine lv_aload_n hx hb dX7_init_12 rfl (lv_at hl 0 rfl) ?_
  refine va_get (D := D) (ci := 7) (C := RX7) (T := TX7) (N := 6) (v := .ref q7_1) hx hb hts (kc_lay 7 (by decide)) hown hK hP 0 rfl rfl 0 (by decide) (hts (.fieldLink RX7 9 "OrbitsWed$Sky" "rounds" "[I") (kc_in 42 rfl)) (fun _ h9 => h9) rfl dX7_init_13 ?_
  refine lv_iconst (v := 1) hx hb dX7_init_16 (by decide) ?_
  refine kc_callS (D := D) (cA := cA) (As := [.ref q7_1, .int 1]) (rest := []) (wr := [(h0, .inr (7, [.ref q7_1, .null, .null, .null, .int 0, .int 0]))]) (wc := [(q7_1, .inl (cA 0, 8, .inl (fun _ => 0)))]) ⟨hx, hb, hml, hown, hts⟩ (k_fill l D cA q7_1 H.size (fun _ => 0) 1) (va_cwS 2 hts (kc_wsS (kc_in 48 rfl) (kc_in 49 rfl) (kc_in 50 rfl) (kc_in 51 rfl)) rfl rfl rfl (by decide +kernel) ⟨Nat.le_of_ble_eq_true rfl, Nat.le_of_ble_eq_true rfl⟩) rfl hl.1 (Nat.le_of_ble_eq_true rfl) dX7_init_17 ⟨Nat.le_of_ble_eq_true rfl, Nat.le_of_ble_eq_true rfl⟩ hK hO hP hD hS hA [1] [0] rfl rfl rfl (by decide +kernel) (by decide +kernel) (by decide +kernel) (fun w1 H locs hB hP hD hS => ?_)
  obtain ⟨f17, rfl⟩ := hB
  have hP : va_P D vwCl [(h0, .inr (7, [.ref q7_1, .null, .null, .null, .int 0, .int 0])), (q7_1, .inl (cA 0, 8, .inl f17))] H := hP
  have hD : va_D A [(h0, .inr (7, [.ref q7_1, .null, .null, .null, .int 0, .int 0])), (q7_1, .inl (cA 0, 8, .inl f17))] := hD
  have hP := hP.sub (ws' := [(h0, .inr (7, [.ref q7_1, .null, .null, .null, .int 0, .int 0])), (q7_1, .inl (cA 0, 8, .inl f17))]) [0, 1] rfl
  have hD := hD.sub (ws' := [(h0, .inr (7, [.ref q7_1, .null, .null, .null, .int 0, .int 0])), (q7_1, .inl (cA 0, 8, .inl f17))]) [0, 1] (by decide +kernel) rfl
  refine lv_aload_n hx hb dX7_init_20 rfl (lv_at hl 0 rfl) ?_
  refine lv_bipush (v := 8) hx hb dX7_init_21 (by decide) ?_
  refine va_newa (atype := .int) (ty := .int) (N' := 8) (a0 := (8, .inl (fun _ => 0))) hx hb (hts (.arrayClass .int) (kc_in 4 rfl)) rfl hK hP hD hS hA (fun c => vp_cell_i c 8 _) (by decide) (by decide) (by decide) (Nat.le_of_ble_eq_true rfl) (Nat.le_of_ble_eq_true rfl) dX7_init_23 (fun q23_2 cB H hK2 hP hD hS => ?_)
  obtain rfl := kc_I hK2
  clear hK2
  have hP : va_P D vwCl [(h0, .inr (7, [.ref q7_1, .null, .null, .null, .int 0, .int 0])), (q7_1, .inl (cA 0, 8, .inl f17)), (q23_2, .inl (cA 0, 8, .inl (fun _ => 0)))] H := hP
  have hD : va_D A [(h0, .inr (7, [.ref q7_1, .null, .null, .null, .int 0, .int 0])), (q7_1, .inl (cA 0, 8, .inl f17)), (q23_2, .inl (cA 0, 8, .inl (fun _ => 0)))] := hD
  refine W.widen (k := 2) (n := 16) (by omega) (by omega) ?_
  refine va_putF (D := D) (ci := 7) (v := .ref q23_2) (ty := .array .int) (C := RX7) (T := TX7) (N := 6) hx hb hts (kc_lay 7 (by decide)) tyX7 tyX7_ok nmX7 hown hK hP hD hS 0 rfl rfl 1 (by decide) (hts (.fieldLink RX7 21 "OrbitsWed$Sky" "places" "[I") (kc_in 43 rfl)) (fun _ h9 => h9) rfl hin rfl (by decide +kernel) rfl rfl (Nat.le_of_ble_eq_true rfl) dX7_init_25 (fun H locs hP hD hS => ?_)
  have hP : va_P D vwCl [(h0, .inr (7, [.ref q7_1, .ref q23_2, .null, .null, .int 0, .int 0])), (q7_1, .inl (cA 0, 8, .inl f17)), (q23_2, .inl (cA 0, 8, .inl (fun _ => 0)))] H := hP
  have hD : va_D A [(h0, .inr (7, [.ref q7_1, .ref q23_2, .null, .null, .int 0, .int 0])), (q7_1, .inl (cA 0, 8, .inl f17)), (q23_2, .inl (cA 0, 8, .inl (fun _ => 0)))] := hD
  refine lv_aload_n hx hb dX7_init_28 rfl (lv_at hl 0 rfl) ?_
  refine lv_bipush (v := 8) hx hb dX7_init_29 (by decide) ?_
  refine va_newa (atype := .int) (ty := .int) (N' := 8) (a0 := (8, .inl (fun _ => 0))) hx hb (hts (.arrayClass .int) (kc_in 4 rfl)) rfl hK hP hD hS hA (fun c => vp_cell_i c 8 _) (by decide) (by decide) (by decide) (Nat.le_of_ble_eq_true rfl) (Nat.le_of_ble_eq_true rfl) dX7_init_31 (fun q31_3 cB H hK2 hP hD hS => ?_)
  obtain rfl := kc_I hK2
  clear hK2
  have hP : va_P D vwCl [(h0, .inr (7, [.ref q7_1, .ref q23_2, .null, .null, .int 0, .int 0])), (q7_1, .inl (cA 0, 8, .inl f17)), (q23_2, .inl (cA 0, 8, .inl (fun _ => 0))), (q31_3, .inl (cA 0, 8, .inl (fun _ => 0)))] H := hP
  have hD : va_D A [(h0, .inr (7, [.ref q7_1, .ref q23_2, .null, .null, .int 0, .int 0])), (q7_1, .inl (cA 0, 8, .inl f17)), (q23_2, .inl (cA 0, 8, .inl (fun _ => 0))), (q31_3, .inl (cA 0, 8, .inl (fun _ => 0)))] := hD
  refine W.widen (k := 3) (n := 24) (by omega) (by omega) ?_
  refine va_putF (D := D) (ci := 7) (v := .ref q31_3) (ty := .array .int) (C := RX7) (T := TX7) (N := 6) hx hb hts (kc_lay 7 (by decide)) tyX7 tyX7_ok nmX7 hown hK hP hD hS 0 rfl rfl 2 (by decide) (hts (.fieldLink RX7 24 "OrbitsWed$Sky" "weights" "[I") (kc_in 44 rfl)) (fun _ h9 => h9) rfl hin rfl (by decide +kernel) rfl rfl (Nat.le_of_ble_eq_true rfl) dX7_init_33 (fun H locs hP hD hS => ?_)
  have hP : va_P D vwCl [(h0, .inr (7, [.ref q7_1, .ref q23_2, .ref q31_3, .null, .int 0, .int 0])), (q7_1, .inl (cA 0, 8, .inl f17)), (q23_2, .inl (cA 0, 8, .inl (fun _ => 0))), (q31_3, .inl (cA 0, 8, .inl (fun _ => 0)))] H := hP
  have hD : va_D A [(h0, .inr (7, [.ref q7_1, .ref q23_2, .ref q31_3, .null, .int 0, .int 0])), (q7_1, .inl (cA 0, 8, .inl f17)), (q23_2, .inl (cA 0, 8, .inl (fun _ => 0))), (q31_3, .inl (cA 0, 8, .inl (fun _ => 0)))] := hD
  refine lv_aload_n hx hb dX7_init_36 rfl (lv_at hl 0 rfl) ?_
  refine lv_bipush (v := 8) hx hb dX7_init_37 (by decide) ?_
  refine lv_bipush (v := 8) hx hb dX7_init_39 (by decide) ?_
  refine va_mna (X := [(h0, .inr (7, [.ref q7_1, .ref q23_2, .ref q31_3, .null, .int 0, .int 0])), (q7_1, .inl (cA 0, 8, .inl f17)), (q23_2, .inl (cA 0, 8, .inl (fun _ => 0))), (q31_3, .inl (cA 0, 8, .inl (fun _ => 0)))]) (L := []) (f := fun _ => .inl (cA 0, 0, .inl (fun _ => 0))) (ty := .int) (N' := 8) (K' := 8) (z := (8, .inl (fun _ => 0))) hx hb hown (hts (.classLink RX7 27 "[[I") (kc_in 45 rfl)) (kc_AO.use hO.1) (hts (.arrayClass .int) (kc_in 4 rfl)) (hK.2 0 _ rfl).2 hK hP hD hS hA (by decide) (by decide) (by decide) (by decide) (by decide) (by decide) (by decide) rfl rfl (Nat.le_of_ble_eq_true rfl) (Nat.le_of_ble_eq_true rfl) (fun c => arrV_new c 8 _) dX7_init_41 (fun q41_4 r41_4 cB H _ _ hK2 hP hD hS => ?_)
  obtain rfl := kc_AI hK2
  clear hK2
  rw [kc_pl] at hP hD
  have hP : va_P D vwCl [(h0, .inr (7, [.ref q7_1, .ref q23_2, .ref q31_3, .null, .int 0, .int 0])), (q7_1, .inl (cA 0, 8, .inl f17)), (q23_2, .inl (cA 0, 8, .inl (fun _ => 0))), (q31_3, .inl (cA 0, 8, .inl (fun _ => 0))), (q41_4, .inl (cA 2, 8, .inr (.inr (.inr (.inr (fun i => if i < 8 then some (r41_4 i) else none)))))), (r41_4 0, .inl (cA 0, 8, .inl (fun _ => 0))), (r41_4 1, .inl (cA 0, 8, .inl (fun _ => 0))), (r41_4 2, .inl (cA 0, 8, .inl (fun _ => 0))), (r41_4 3, .inl (cA 0, 8, .inl (fun _ => 0))), (r41_4 4, .inl (cA 0, 8, .inl (fun _ => 0))), (r41_4 5, .inl (cA 0, 8, .inl (fun _ => 0))), (r41_4 6, .inl (cA 0, 8, .inl (fun _ => 0))), (r41_4 7, .inl (cA 0, 8, .inl (fun _ => 0)))] H := hP
  have hD : va_D A [(h0, .inr (7, [.ref q7_1, .ref q23_2, .ref q31_3, .null, .int 0, .int 0])), (q7_1, .inl (cA 0, 8, .inl f17)), (q23_2, .inl (cA 0, 8, .inl (fun _ => 0))), (q31_3, .inl (cA 0, 8, .inl (fun _ => 0))), (q41_4, .inl (cA 2, 8, .inr (.inr (.inr (.inr (fun i => if i < 8 then some (r41_4 i) else none)))))), (r41_4 0, .inl (cA 0, 8, .inl (fun _ => 0))), (r41_4 1, .inl (cA 0, 8, .inl (fun _ => 0))), (r41_4 2, .inl (cA 0, 8, .inl (fun _ => 0))), (r41_4 3, .inl (cA 0, 8, .inl (fun _ => 0))), (r41_4 4, .inl (cA 0, 8, .inl (fun _ => 0))), (r41_4 5, .inl (cA 0, 8, .inl (fun _ => 0))), (r41_4 6, .inl (cA 0, 8, .inl (fun _ => 0))), (r41_4 7, .inl (cA 0, 8, .inl (fun _ => 0)))] := hD
  refine W.widen (k := 12) (n := 96) (by omega) (by omega) ?_
  refine va_putF (D := D) (ci := 7) (v := .ref q41_4) (ty := .array (.array .int)) (C := RX7) (T := TX7) (N := 6) hx hb hts (kc_lay 7 (by decide)) tyX7 tyX7_ok nmX7 hown hK hP hD hS 0 rfl rfl 3 (by decide) (hts (.fieldLink RX7 29 "OrbitsWed$Sky" "likes" "[[I") (kc_in 46 rfl)) (fun _ h9 => h9) rfl hin rfl (by decide +kernel) rfl rfl (Nat.le_of_ble_eq_true rfl) dX7_init_45 (fun H locs hP hD hS => ?_)
  have hP : va_P D vwCl [(h0, .inr (7, [.ref q7_1, .ref q23_2, .ref q31_3, .ref q41_4, .int 0, .int 0])), (q7_1, .inl (cA 0, 8, .inl f17)), (q23_2, .inl (cA 0, 8, .inl (fun _ => 0))), (q31_3, .inl (cA 0, 8, .inl (fun _ => 0))), (q41_4, .inl (cA 2, 8, .inr (.inr (.inr (.inr (fun i => if i < 8 then some (r41_4 i) else none)))))), (r41_4 0, .inl (cA 0, 8, .inl (fun _ => 0))), (r41_4 1, .inl (cA 0, 8, .inl (fun _ => 0))), (r41_4 2, .inl (cA 0, 8, .inl (fun _ => 0))), (r41_4 3, .inl (cA 0, 8, .inl (fun _ => 0))), (r41_4 4, .inl (cA 0, 8, .inl (fun _ => 0))), (r41_4 5, .inl (cA 0, 8, .inl (fun _ => 0))), (r41_4 6, .inl (cA 0, 8, .inl (fun _ => 0))), (r41_4 7, .inl (cA 0, 8, .inl (fun _ => 0)))] H := hP
  have hD : va_D A [(h0, .inr (7, [.ref q7_1, .ref q23_2, .ref q31_3, .ref q41_4, .int 0, .int 0])), (q7_1, .inl (cA 0, 8, .inl f17)), (q23_2, .inl (cA 0, 8, .inl (fun _ => 0))), (q31_3, .inl (cA 0, 8, .inl (fun _ => 0))), (q41_4, .inl (cA 2, 8, .inr (.inr (.inr (.inr (fun i => if i < 8 then some (r41_4 i) else none)))))), (r41_4 0, .inl (cA 0, 8, .inl (fun _ => 0))), (r41_4 1, .inl (cA 0, 8, .inl (fun _ => 0))), (r41_4 2, .inl (cA 0, 8, .inl (fun _ => 0))), (r41_4 3, .inl (cA 0, 8, .inl (fun _ => 0))), (r41_4 4, .inl (cA 0, 8, .inl (fun _ => 0))), (r41_4 5, .inl (cA 0, 8, .inl (fun _ => 0))), (r41_4 6, .inl (cA 0, 8, .inl (fun _ => 0))), (r41_4 7, .inl (cA 0, 8, .inl (fun _ => 0)))] := hD
  refine lv_aload_n hx hb dX7_init_48 rfl (lv_at hl 0 rfl) ?_
  refine lv_bipush (v := 10) hx hb dX7_init_49 (by decide) ?_
  refine va_put (D := D) (ci := 7) (v := .int 10) (ty := .int) (C := RX7) (T := TX7) (N := 6) hx hb hts (kc_lay 7 (by decide)) tyX7 tyX7_ok nmX7 hown hK hP hD hS 0 rfl rfl 4 (by decide) (hts (.fieldLink RX7 32 "OrbitsWed$Sky" "near" "I") (kc_in 47 rfl)) (fun _ h9 => h9) rfl rfl rfl rfl (Nat.le_of_ble_eq_true rfl) dX7_init_51 (fun H locs hP hD hS => ?_)
  have hP : va_P D vwCl [(h0, .inr (7, [.ref q7_1, .ref q23_2, .ref q31_3, .ref q41_4, .int 10, .int 0])), (q7_1, .inl (cA 0, 8, .inl f17)), (q23_2, .inl (cA 0, 8, .inl (fun _ => 0))), (q31_3, .inl (cA 0, 8, .inl (fun _ => 0))), (q41_4, .inl (cA 2, 8, .inr (.inr (.inr (.inr (fun i => if i < 8 then some (r41_4 i) else none)))))), (r41_4 0, .inl (cA 0, 8, .inl (fun _ => 0))), (r41_4 1, .inl (cA 0, 8, .inl (fun _ => 0))), (r41_4 2, .inl (cA 0, 8, .inl (fun _ => 0))), (r41_4 3, .inl (cA 0, 8, .inl (fun _ => 0))), (r41_4 4, .inl (cA 0, 8, .inl (fun _ => 0))), (r41_4 5, .inl (cA 0, 8, .inl (fun _ => 0))), (r41_4 6, .inl (cA 0, 8, .inl (fun _ => 0))), (r41_4 7, .inl (cA 0, 8, .inl (fun _ => 0)))] H := hP
  have hD : va_D A [(h0, .inr (7, [.ref q7_1, .ref q23_2, .ref q31_3, .ref q41_4, .int 10, .int 0])), (q7_1, .inl (cA 0, 8, .inl f17)), (q23_2, .inl (cA 0, 8, .inl (fun _ => 0))), (q31_3, .inl (cA 0, 8, .inl (fun _ => 0))), (q41_4, .inl (cA 2, 8, .inr (.inr (.inr (.inr (fun i => if i < 8 then some (r41_4 i) else none)))))), (r41_4 0, .inl (cA 0, 8, .inl (fun _ => 0))), (r41_4 1, .inl (cA 0, 8, .inl (fun _ => 0))), (r41_4 2, .inl (cA 0, 8, .inl (fun _ => 0))), (r41_4 3, .inl (cA 0, 8, .inl (fun _ => 0))), (r41_4 4, .inl (cA 0, 8, .inl (fun _ => 0))), (r41_4 5, .inl (cA 0, 8, .inl (fun _ => 0))), (r41_4 6, .inl (cA 0, 8, .inl (fun _ => 0))), (r41_4 7, .inl (cA 0, 8, .inl (fun _ => 0)))] := hD
  exact W.vret hx hb hr (fun t ht hW => ⟨⟨(), rfl, trivial, _, ⟨q7_1, f17, q23_2, q31_3, q41_4, r41_4, rfl⟩, by rw [ht]; exact hP, va_K.moved hW.alike hK, hD⟩, hS.F ht⟩) hS.2.2 dX7_init_54
