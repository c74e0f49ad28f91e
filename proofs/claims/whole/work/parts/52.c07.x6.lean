/-! A CONSTRUCTOR -/
theorem dX6_init_0 : decode cX6_init 0 = .ok (.aload_n 0, 1) := by decide +kernel
theorem dX6_init_1 : decode cX6_init 1 = .ok (.invokespecial 3, 3) := by decide +kernel
theorem dX6_init_4 : decode cX6_init 4 = .ok (.aload_n 0, 1) := by decide +kernel
theorem dX6_init_5 : decode cX6_init 5 = .ok (.bipush 6, 2) := by decide +kernel
theorem dX6_init_7 : decode cX6_init 7 = .ok (.newarray .int, 2) := by decide +kernel
theorem dX6_init_9 : decode cX6_init 9 = .ok (.putfield 11, 3) := by decide +kernel
theorem dX6_init_12 : decode cX6_init 12 = .ok (.aload_n 0, 1) := by decide +kernel
theorem dX6_init_13 : decode cX6_init 13 = .ok (.bipush 6, 2) := by decide +kernel
theorem dX6_init_15 : decode cX6_init 15 = .ok (.newarray .int, 2) := by decide +kernel
theorem dX6_init_17 : decode cX6_init 17 = .ok (.putfield 15, 3) := by decide +kernel
theorem dX6_init_20 : decode cX6_init 20 = .ok (.aload_n 0, 1) := by decide +kernel
theorem dX6_init_21 : decode cX6_init 21 = .ok (.bipush 6, 2) := by decide +kernel
theorem dX6_init_23 : decode cX6_init 23 = .ok (.newarray .int, 2) := by decide +kernel
theorem dX6_init_25 : decode cX6_init 25 = .ok (.putfield 18, 3) := by decide +kernel
theorem dX6_init_28 : decode cX6_init 28 = .ok (.aload_n 0, 1) := by decide +kernel
theorem dX6_init_29 : decode cX6_init 29 = .ok (.bipush 6, 2) := by decide +kernel
theorem dX6_init_31 : decode cX6_init 31 = .ok (.newarray .int, 2) := by decide +kernel
theorem dX6_init_33 : decode cX6_init 33 = .ok (.putfield 21, 3) := by decide +kernel
theorem dX6_init_36 : decode cX6_init 36 = .ok (.aload_n 0, 1) := by decide +kernel
theorem dX6_init_37 : decode cX6_init 37 = .ok (.bipush 6, 2) := by decide +kernel
theorem dX6_init_39 : decode cX6_init 39 = .ok (.bipush 60, 2) := by decide +kernel
theorem dX6_init_41 : decode cX6_init 41 = .ok (.multianewarray 24 2, 4) := by decide +kernel
theorem dX6_init_45 : decode cX6_init 45 = .ok (.putfield 26, 3) := by decide +kernel
theorem dX6_init_48 : decode cX6_init 48 = .ok (.return_, 1) := by decide +kernel
def kB_X6 (cA : Nat → ClassId) (h0 : Nat) (w : va_W) : Prop := ∃ (q7_1 : Nat) (q15_2 : Nat) (q23_3 : Nat) (q31_4 : Nat) (q41_5 : Nat) (r41_5 : Nat → Nat), w = [(h0, .inr (6, [.ref q7_1, .ref q15_2, .ref q23_3, .ref q31_4, .ref q41_5])), (q7_1, .inl (cA 0, 6, .inl (fun _ => 0))), (q15_2, .inl (cA 0, 6, .inl (fun _ => 0))), (q23_3, .inl (cA 0, 6, .inl (fun _ => 0))), (q31_4, .inl (cA 0, 6, .inl (fun _ => 0))), (q41_5, .inl (cA 3, 6, .inr (.inr (.inr (.inr (fun i => if i < 6 then some (r41_5 i) else none)))))), (r41_5 0, .inl (cA 1, 60, .inr (.inl (fun _ => 0)))), (r41_5 1, .inl (cA 1, 60, .inr (.inl (fun _ => 0)))), (r41_5 2, .inl (cA 1, 60, .inr (.inl (fun _ => 0)))), (r41_5 3, .inl (cA 1, 60, .inr (.inl (fun _ => 0)))), (r41_5 4, .inl (cA 1, 60, .inr (.inl (fun _ => 0)))), (r41_5 5, .inl (cA 1, 60, .inr (.inl (fun _ => 0))))]
set_option maxHeartbeats 8000000 in
set_option maxRecDepth 100000 in
theorem k_X6 (l : Launch) (D : va_G) (cA : Nat → ClassId) (h0 sz : Nat) : Met l yX6_init (am_wsk yX6_init cX6_init 1) { frames := 1, cells := 11, slots := 390, locals := 40 } (kc_Pre D cA [.ref h0] [(h0, .inr (6, [.null, .null, .null, .null, .null]))] sz) (kc_Post D cA (va_A [(h0, .inr (6, [.null, .null, .null, .null, .null]))] sz) (kB_X6 cA h0)) 11 390 (va_A [(h0, .inr (6, [.null, .null, .null, .null, .null]))] sz) := by
  refine Met.ofW (cc := cX6_init) (maxL := 1) (ret := none) (by decide +kernel) rfl ?_
  intro p e s m args below meth c s₁ B hml hv
  obtain ⟨rfl, hsz, hP, hK, hD0, hO⟩ := hv
  have hx := B.exec
  have hb := B.bytes
  have hr := B.returns
  have hts0 := atoms_spec (ws := am_wsk yX6_init cX6_init 1) B.pre
  have hts : ∀ w ∈ am_TC, w.before ([.ref h0] : List Value).toArray s = true := fun w hw => hts0 w (List.mem_cons_of_mem _ hw)
  have hown : s.vm.findClass RX6 = some m.cls := findClass_of_methodNamed B.named
  have hlocks := B.notSynchronized
  have hin : meth.name = "<init>" := (name_of_methodNamed B.named B.method).1
  subst hsz
  have hD := hD0.self (sz := s.heap.size)
  generalize hAe : va_A [(h0, .inr (6, [.null, .null, .null, .null, .null]))] s.heap.size = A at hD ⊢
  have hA : ∀ q : Nat, s.heap.size ≤ q → A q := fun q h => by rw [← hAe]; exact Or.inr h
  have hS : va_S A s.heap s.heap [] := va_S.rf
  have hP : va_P D vwCl [(h0, .inr (6, [.null, .null, .null, .null, .null]))] s.heap := hP
  have hl := lv_entry ([.ref h0]) (n := 1) (Nat.le_of_ble_eq_true rfl)
  rw [lg_entry_eq]
  generalize (lg_sl ([.ref h0]) ++ List.replicate (1 - (lg_sl ([.ref h0])).length) Slot.unset).toArray = ls at hl ⊢
  have hl : lv_has ls 1 [(0, .ref h0)] := hl
  refine lv_aload_n hx hb dX6_init_0 rfl (lv_at hl 0 rfl) ?_
  refine W.objInit hx hb hown (hts (.methodLink RX6 3 objectInit) (kc_in 33 rfl)) (hts (.instanceMethod objectInit) (kc_in 2 rfl)) (hts (.code objectInit ⟨#[0xb1]⟩ 1 none) (kc_in 3 rfl)) rfl (by rw [hml]; exact hl.1) rfl dX6_init_1 (Nat.le_of_ble_eq_true rfl) (Nat.le_of_ble_eq_true rfl) ?_
  refine W.eq (g2 := F0 m 4 ls []) rfl ?_
  refine lv_aload_n hx hb dX6_init_4 rfl (lv_at hl 0 rfl) ?_
  refine lv_bipush (v := 6) hx hb dX6_init_5 (by decide) ?_
  refine va_newa (atype := .int) (ty := .int) (N' := 6) (a0 := (6, .inl (fun _ => 0))) hx hb (hts (.arrayClass .int) (kc_in 4 rfl)) rfl hK hP hD hS hA (fun c => vp_cell_i c 6 _) (by decide) (by decide) (by decide) (Nat.le_of_ble_eq_true rfl) (Nat.le_of_ble_eq_true rfl) dX6_init_7 (fun q7_1 cB H hK2 hP hD hS => ?_)
  obtain rfl := kc_I hK2
  clear hK2
  have hP : va_P D vwCl [(h0, .inr (6, [.null, .null, .null, .null, .null])), (q7_1, .inl (cA 0, 6, .inl (fun _ => 0)))] H := hP
  have hD : va_D A [(h0, .inr (6, [.null, .null, .null, .null, .null])), (q7_1, .inl (cA 0, 6, .inl (fun _ => 0)))] := hD
  refine W.widen (k := 1) (n := 6) (by omega) (by omega) ?_
  refine va_putF (D := D) (ci := 6) (v := .ref q7_1) (ty := .array .int) (C := RX6) (T := TX6) (N := 5) hx hb hts (kc_lay 6 (by decide)) tyX6 tyX6_ok nmX6 hown hK hP hD hS 0 rfl rfl 0 (by decide) (hts (.fieldLink RX6 11 "OrbitsWed$Shelves" "holds" "[I") (kc_in 34 rfl)) (fun _ h9 => h9) rfl hin rfl (by decide +kernel) rfl rfl (Nat.le_of_ble_eq_true rfl) dX6_init_9 (fun H locs hP hD hS => ?_)
  have hP : va_P D vwCl [(h0, .inr (6, [.ref q7_1, .null, .null, .null, .null])), (q7_1, .inl (cA 0, 6, .inl (fun _ => 0)))] H := hP
  have hD : va_D A [(h0, .inr (6, [.ref q7_1, .null, .null, .null, .null])), (q7_1, .inl (cA 0, 6, .inl (fun _ => 0)))] := hD
  refine lv_aload_n hx hb dX6_init_12 rfl (lv_at hl 0 rfl) ?_
  refine lv_bipush (v := 6) hx hb dX6_init_13 (by decide) ?_
  refine va_newa (atype := .int) (ty := .int) (N' := 6) (a0 := (6, .inl (fun _ => 0))) hx hb (hts (.arrayClass .int) (kc_in 4 rfl)) rfl hK hP hD hS hA (fun c => vp_cell_i c 6 _) (by decide) (by decide) (by decide) (Nat.le_of_ble_eq_true rfl) (Nat.le_of_ble_eq_true rfl) dX6_init_15 (fun q15_2 cB H hK2 hP hD hS => ?_)
  obtain rfl := kc_I hK2
  clear hK2
  have hP : va_P D vwCl [(h0, .inr (6, [.ref q7_1, .null, .null, .null, .null])), (q7_1, .inl (cA 0, 6, .inl (fun _ => 0))), (q15_2, .inl (cA 0, 6, .inl (fun _ => 0)))] H := hP
  have hD : va_D A [(h0, .inr (6, [.ref q7_1, .null, .null, .null, .null])), (q7_1, .inl (cA 0, 6, .inl (fun _ => 0))), (q15_2, .inl (cA 0, 6, .inl (fun _ => 0)))] := hD
  refine W.widen (k := 2) (n := 12) (by omega) (by omega) ?_
  refine va_putF (D := D) (ci := 6) (v := .ref q15_2) (ty := .array .int) (C := RX6) (T := TX6) (N := 5) hx hb hts (kc_lay 6 (by decide)) tyX6 tyX6_ok nmX6 hown hK hP hD hS 0 rfl rfl 1 (by decide) (hts (.fieldLink RX6 15 "OrbitsWed$Shelves" "held" "[I") (kc_in 35 rfl)) (fun _ h9 => h9) rfl hin rfl (by decide +kernel) rfl rfl (Nat.le_of_ble_eq_true rfl) dX6_init_17 (fun H locs hP hD hS => ?_)
  have hP : va_P D vwCl [(h0, .inr (6, [.ref q7_1, .ref q15_2, .null, .null, .null])), (q7_1, .inl (cA 0, 6, .inl (fun _ => 0))), (q15_2, .inl (cA 0, 6, .inl (fun _ => 0)))] H := hP
  have hD : va_D A [(h0, .inr (6, [.ref q7_1, .ref q15_2, .null, .null, .null])), (q7_1, .inl (cA 0, 6, .inl (fun _ => 0))), (q15_2, .inl (cA 0, 6, .inl (fun _ => 0)))] := hD
  refine lv_aload_n hx hb dX6_init_20 rfl (lv_at hl 0 rfl) ?_
  refine lv_bipush (v := 6) hx hb dX6_init_21 (by decide) ?_
  refine va_newa (atype := .int) (ty := .int) (N' := 6) (a0 := (6, .inl (fun _ => 0))) hx hb (hts (.arrayClass .int) (kc_in 4 rfl)) rfl hK hP hD hS hA (fun c => vp_cell_i c 6 _) (by decide) (by decide) (by decide) (Nat.le_of_ble_eq_true rfl) (Nat.le_of_ble_eq_true rfl) dX6_init_23 (fun q23_3 cB H hK2 hP hD hS => ?_)
  obtain rfl := kc_I hK2
  clear hK2
  have hP : va_P D vwCl [(h0, .inr (6, [.ref q7_1, .ref q15_2, .null, .null, .null])), (q7_1, .inl (cA 0, 6, .inl (fun _ => 0))), (q15_2, .inl (cA 0, 6, .inl (fun _ => 0))), (q23_3, .inl (cA 0, 6, .inl (fun _ => 0)))] H := hP
  have hD : va_D A [(h0, .inr (6, [.ref q7_1, .ref q15_2, .null, .null, .null])), (q7_1, .inl (cA 0, 6, .inl (fun _ => 0))), (q15_2, .inl (cA 0, 6, .inl (fun _ => 0))), (q23_3, .inl (cA 0, 6, .inl (fun _ => 0)))] := hD
  refine W.widen (k := 3) (n := 18) (by omega) (by omega) ?_
  refine va_putF (D := D) (ci := 6) (v := .ref q23_3) (ty := .array .int) (C := RX6) (T := TX6) (N := 5) hx hb hts (kc_lay 6 (by decide)) tyX6 tyX6_ok nmX6 hown hK hP hD hS 0 rfl rfl 2 (by decide) (hts (.fieldLink RX6 18 "OrbitsWed$Shelves" "sorts" "[I") (kc_in 36 rfl)) (fun _ h9 => h9) rfl hin rfl (by decide +kernel) rfl rfl (Nat.le_of_ble_eq_true rfl) dX6_init_25 (fun H locs hP hD hS => ?_)
  have hP : va_P D vwCl [(h0, .inr (6, [.ref q7_1, .ref q15_2, .ref q23_3, .null, .null])), (q7_1, .inl (cA 0, 6, .inl (fun _ => 0))), (q15_2, .inl (cA 0, 6, .inl (fun _ => 0))), (q23_3, .inl (cA 0, 6, .inl (fun _ => 0)))] H := hP
  have hD : va_D A [(h0, .inr (6, [.ref q7_1, .ref q15_2, .ref q23_3, .null, .null])), (q7_1, .inl (cA 0, 6, .inl (fun _ => 0))), (q15_2, .inl (cA 0, 6, .inl (fun _ => 0))), (q23_3, .inl (cA 0, 6, .inl (fun _ => 0)))] := hD
  refine lv_aload_n hx hb dX6_init_28 rfl (lv_at hl 0 rfl) ?_
  refine lv_bipush (v := 6) hx hb dX6_init_29 (by decide) ?_
  refine va_newa (atype := .int) (ty := .int) (N' := 6) (a0 := (6, .inl (fun _ => 0))) hx hb (hts (.arrayClass .int) (kc_in 4 rfl)) rfl hK hP hD hS hA (fun c => vp_cell_i c 6 _) (by decide) (by decide) (by decide) (Nat.le_of_ble_eq_true rfl) (Nat.le_of_ble_eq_true rfl) dX6_init_31 (fun q31_4 cB H hK2 hP hD hS => ?_)
  obtain rfl := kc_I hK2
  clear hK2
  have hP : va_P D vwCl [(h0, .inr (6, [.ref q7_1, .ref q15_2, .ref q23_3, .null, .null])), (q7_1, .inl (cA 0, 6, .inl (fun _ => 0))), (q15_2, .inl (cA 0, 6, .inl (fun _ => 0))), (q23_3, .inl (cA 0, 6, .inl (fun _ => 0))), (q31_4, .inl (cA 0, 6, .inl (fun _ => 0)))] H := hP
  have hD : va_D A [(h0, .inr (6, [.ref q7_1, .ref q15_2, .ref q23_3, .null, .null])), (q7_1, .inl (cA 0, 6, .inl (fun _ => 0))), (q15_2, .inl (cA 0, 6, .inl (fun _ => 0))), (q23_3, .inl (cA 0, 6, .inl (fun _ => 0))), (q31_4, .inl (cA 0, 6, .inl (fun _ => 0)))] := hD
  refine W.widen (k := 4) (n := 24) (by omega) (by omega) ?_
  refine va_putF (D := D) (ci := 6) (v := .ref q31_4) (ty := .array .int) (C := RX6) (T := TX6) (N := 5) hx hb hts (kc_lay 6 (by decide)) tyX6 tyX6_ok nmX6 hown hK hP hD hS 0 rfl rfl 3 (by decide) (hts (.fieldLink RX6 21 "OrbitsWed$Shelves" "lengths" "[I") (kc_in 37 rfl)) (fun _ h9 => h9) rfl hin rfl (by decide +kernel) rfl rfl (Nat.le_of_ble_eq_true rfl) dX6_init_33 (fun H locs hP hD hS => ?_)
  have hP : va_P D vwCl [(h0, .inr (6, [.ref q7_1, .ref q15_2, .ref q23_3, .ref q31_4, .null])), (q7_1, .inl (cA 0, 6, .inl (fun _ => 0))), (q15_2, .inl (cA 0, 6, .inl (fun _ => 0))), (q23_3, .inl (cA 0, 6, .inl (fun _ => 0))), (q31_4, .inl (cA 0, 6, .inl (fun _ => 0)))] H := hP
  have hD : va_D A [(h0, .inr (6, [.ref q7_1, .ref q15_2, .ref q23_3, .ref q31_4, .null])), (q7_1, .inl (cA 0, 6, .inl (fun _ => 0))), (q15_2, .inl (cA 0, 6, .inl (fun _ => 0))), (q23_3, .inl (cA 0, 6, .inl (fun _ => 0))), (q31_4, .inl (cA 0, 6, .inl (fun _ => 0)))] := hD
  refine lv_aload_n hx hb dX6_init_36 rfl (lv_at hl 0 rfl) ?_
  refine lv_bipush (v := 6) hx hb dX6_init_37 (by decide) ?_
  refine lv_bipush (v := 60) hx hb dX6_init_39 (by decide) ?_
  refine va_mna (X := [(h0, .inr (6, [.ref q7_1, .ref q15_2, .ref q23_3, .ref q31_4, .null])), (q7_1, .inl (cA 0, 6, .inl (fun _ => 0))), (q15_2, .inl (cA 0, 6, .inl (fun _ => 0))), (q23_3, .inl (cA 0, 6, .inl (fun _ => 0))), (q31_4, .inl (cA 0, 6, .inl (fun _ => 0)))]) (L := []) (f := fun _ => .inl (cA 0, 0, .inl (fun _ => 0))) (ty := .long) (N' := 6) (K' := 60) (z := (60, .inr (.inl (fun _ => 0)))) hx hb hown (hts (.classLink RX6 24 "[[J") (kc_in 38 rfl)) (kc_AO.use hO.2) (hts (.arrayClass .long) (kc_in 20 rfl)) (hK.2 1 _ rfl).2 hK hP hD hS hA (by decide) (by decide) (by decide) (by decide) (by decide) (by decide) (by decide) rfl rfl (Nat.le_of_ble_eq_true rfl) (Nat.le_of_ble_eq_true rfl) (fun c => arrV_new c 60 _) dX6_init_41 (fun q41_5 r41_5 cB H _ _ hK2 hP hD hS => ?_)
  obtain rfl := kc_AL hK2
  clear hK2
  rw [kc_pl] at hP hD
  have hP : va_P D vwCl [(h0, .inr (6, [.ref q7_1, .ref q15_2, .ref q23_3, .ref q31_4, .null])), (q7_1, .inl (cA 0, 6, .inl (fun _ => 0))), (q15_2, .inl (cA 0, 6, .inl (fun _ => 0))), (q23_3, .inl (cA 0, 6, .inl (fun _ => 0))), (q31_4, .inl (cA 0, 6, .inl (fun _ => 0))), (q41_5, .inl (cA 3, 6, .inr (.inr (.inr (.inr (fun i => if i < 6 then some (r41_5 i) else none)))))), (r41_5 0, .inl (cA 1, 60, .inr (.inl (fun _ => 0)))), (r41_5 1, .inl (cA 1, 60, .inr (.inl (fun _ => 0)))), (r41_5 2, .inl (cA 1, 60, .inr (.inl (fun _ => 0)))), (r41_5 3, .inl (cA 1, 60, .inr (.inl (fun _ => 0)))), (r41_5 4, .inl (cA 1, 60, .inr (.inl (fun _ => 0)))), (r41_5 5, .inl (cA 1, 60, .inr (.inl (fun _ => 0))))] H := hP
  have hD : va_D A [(h0, .inr (6, [.ref q7_1, .ref q15_2, .ref q23_3, .ref q31_4, .null])), (q7_1, .inl (cA 0, 6, .inl (fun _ => 0))), (q15_2, .inl (cA 0, 6, .inl (fun _ => 0))), (q23_3, .inl (cA 0, 6, .inl (fun _ => 0))), (q31_4, .inl (cA 0, 6, .inl (fun _ => 0))), (q41_5, .inl (cA 3, 6, .inr (.inr (.inr (.inr (fun i => if i < 6 then some (r41_5 i) else none)))))), (r41_5 0, .inl (cA 1, 60, .inr (.inl (fun _ => 0)))), (r41_5 1, .inl (cA 1, 60, .inr (.inl (fun _ => 0)))), (r41_5 2, .inl (cA 1, 60, .inr (.inl (fun _ => 0)))), (r41_5 3, .inl (cA 1, 60, .inr (.inl (fun _ => 0)))), (r41_5 4, .inl (cA 1, 60, .inr (.inl (fun _ => 0)))), (r41_5 5, .inl (cA 1, 60, .inr (.inl (fun _ => 0))))] := hD
  refine W.widen (k := 11) (n := 390) (by omega) (by omega) ?_
  refine va_putF (D := D) (ci := 6) (v := .ref q41_5) (ty := .array (.array .long)) (C := RX6) (T := TX6) (N := 5) hx hb hts (kc_lay 6 (by decide)) tyX6 tyX6_ok nmX6 hown hK hP hD hS 0 rfl rfl 4 (by decide) (hts (.fieldLink RX6 26 "OrbitsWed$Shelves" "values" "[[J") (kc_in 39 rfl)) (fun _ h9 => h9) rfl hin rfl (by decide +kernel) rfl rfl (Nat.le_of_ble_eq_true rfl) dX6_init_45 (fun H locs hP hD hS => ?_)
  have hP : va_P D vwCl [(h0, .inr (6, [.ref q7_1, .ref q15_2, .ref q23_3, .ref q31_4, .ref q41_5])), (q7_1, .inl (cA 0, 6, .inl (fun _ => 0))), (q15_2, .inl (cA 0, 6, .inl (fun _ => 0))), (q23_3, .inl (cA 0, 6, .inl (fun _ => 0))), (q31_4, .inl (cA 0, 6, .inl (fun _ => 0))), (q41_5, .inl (cA 3, 6, .inr (.inr (.inr (.inr (fun i => if i < 6 then some (r41_5 i) else none)))))), (r41_5 0, .inl (cA 1, 60, .inr (.inl (fun _ => 0)))), (r41_5 1, .inl (cA 1, 60, .inr (.inl (fun _ => 0)))), (r41_5 2, .inl (cA 1, 60, .inr (.inl (fun _ => 0)))), (r41_5 3, .inl (cA 1, 60, .inr (.inl (fun _ => 0)))), (r41_5 4, .inl (cA 1, 60, .inr (.inl (fun _ => 0)))), (r41_5 5, .inl (cA 1, 60, .inr (.inl (fun _ => 0))))] H := hP
  have hD : va_D A [(h0, .inr (6, [.ref q7_1, .ref q15_2, .ref q23_3, .ref q31_4, .ref q41_5])), (q7_1, .inl (cA 0, 6, .inl (fun _ => 0))), (q15_2, .inl (cA 0, 6, .inl (fun _ => 0))), (q23_3, .inl (cA 0, 6, .inl (fun _ => 0))), (q31_4, .inl (cA 0, 6, .inl (fun _ => 0))), (q41_5, .inl (cA 3, 6, .inr (.inr (.inr (.inr (fun i => if i < 6 then some (r41_5 i) else none)))))), (r41_5 0, .inl (cA 1, 60, .inr (.inl (fun _ => 0)))), (r41_5 1, .inl (cA 1, 60, .inr (.inl (fun _ => 0)))), (r41_5 2, .inl (cA 1, 60, .inr (.inl (fun _ => 0)))), (r41_5 3, .inl (cA 1, 60, .inr (.inl (fun _ => 0)))), (r41_5 4, .inl (cA 1, 60, .inr (.inl (fun _ => 0)))), (r41_5 5, .inl (cA 1, 60, .inr (.inl (fun _ => 0))))] := hD
  exact W.vret hx hb hr (fun t ht hW => ⟨⟨(), rfl, trivial, _, ⟨q7_1, q15_2, q23_3, q31_4, q41_5, r41_5, rfl⟩, by rw [ht]; exact hP, va_K.moved hW.alike hK, hD⟩, hS.F ht⟩) hS.2.2 dX6_init_48
