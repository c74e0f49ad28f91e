/-! A CONSTRUCTOR -/
theorem dX4_init_0 : decode cX4_init 0 = .ok (.aload_n 0, 1) := by decide +kernel
theorem dX4_init_1 : decode cX4_init 1 = .ok (.invokespecial 3, 3) := by decide +kernel
theorem dX4_init_4 : decode cX4_init 4 = .ok (.aload_n 0, 1) := by decide +kernel
theorem dX4_init_5 : decode cX4_init 5 = .ok (.bipush 121, 2) := by decide +kernel
theorem dX4_init_7 : decode cX4_init 7 = .ok (.newarray .int, 2) := by decide +kernel
theorem dX4_init_9 : decode cX4_init 9 = .ok (.putfield 11, 3) := by decide +kernel
theorem dX4_init_12 : decode cX4_init 12 = .ok (.aload_n 0, 1) := by decide +kernel
theorem dX4_init_13 : decode cX4_init 13 = .ok (.bipush 121, 2) := by decide +kernel
theorem dX4_init_15 : decode cX4_init 15 = .ok (.newarray .int, 2) := by decide +kernel
theorem dX4_init_17 : decode cX4_init 17 = .ok (.putfield 15, 3) := by decide +kernel
theorem dX4_init_20 : decode cX4_init 20 = .ok (.aload_n 0, 1) := by decide +kernel
theorem dX4_init_21 : decode cX4_init 21 = .ok (.bipush 6, 2) := by decide +kernel
theorem dX4_init_23 : decode cX4_init 23 = .ok (.newarray .int, 2) := by decide +kernel
theorem dX4_init_25 : decode cX4_init 25 = .ok (.putfield 18, 3) := by decide +kernel
theorem dX4_init_28 : decode cX4_init 28 = .ok (.aload_n 0, 1) := by decide +kernel
theorem dX4_init_29 : decode cX4_init 29 = .ok (.bipush 121, 2) := by decide +kernel
theorem dX4_init_31 : decode cX4_init 31 = .ok (.newarray .int, 2) := by decide +kernel
theorem dX4_init_33 : decode cX4_init 33 = .ok (.putfield 21, 3) := by decide +kernel
theorem dX4_init_36 : decode cX4_init 36 = .ok (.return_, 1) := by decide +kernel
def kB_X4 (cA : Nat → ClassId) (h0 : Nat) (w : va_W) : Prop := ∃ (q7_1 : Nat) (q15_2 : Nat) (q23_3 : Nat) (q31_4 : Nat), w = [(h0, .inr (4, [.ref q7_1, .ref q15_2, .int 0, .ref q23_3, .ref q31_4])), (q7_1, .inl (cA 0, 121, .inl (fun _ => 0))), (q15_2, .inl (cA 0, 121, .inl (fun _ => 0))), (q23_3, .inl (cA 0, 6, .inl (fun _ => 0))), (q31_4, .inl (cA 0, 121, .inl (fun _ => 0)))]
set_option maxHeartbeats 8000000 in
set_option maxRecDepth 100000 in
theorem k_X4 (l : Launch) (D : va_G) (cA : Nat → ClassId) (h0 sz : Nat) : Met l yX4_init (am_wsk yX4_init cX4_init 1) { frames := 1, cells := 4, slots := 369, locals := 40 } (kc_Pre D cA [.ref h0] [(h0, .inr (4, [.null, .null, .int 0, .null, .null]))] sz) (kc_Post D cA (va_A [(h0, .inr (4, [.null, .null, .int 0, .null, .null]))] sz) (kB_X4 cA h0)) 4 369 (va_A [(h0, .inr (4, [.null, .null, .int 0, .null, .null]))] sz) := by
  refine Met.ofW (cc := cX4_init) (maxL := 1) (ret := none) (by decide +kernel) rfl ?_
  intro p e s m args below meth c s₁ B hml hv
  obtain ⟨rfl, hsz, hP, hK, hD0, hO⟩ := hv
  have hx := B.exec
  have hb := B.bytes
  have hr := B.returns
  have hts0 := atoms_spec (ws := am_wsk yX4_init cX4_init 1) B.pre
  have hts : ∀ w ∈ am_TC, w.before ([.ref h0] : List Value).toArray s = true := fun w hw => hts0 w (List.mem_cons_of_mem _ hw)
  have hown : s.vm.findClass RX4 = some m.cls := findClass_of_methodNamed B.named
  have hlocks := B.notSynchronized
  have hin : meth.name = "<init>" := (name_of_methodNamed B.named B.method).1
  subst hsz
  have hD := hD0.self (sz := s.heap.size)
  generalize hAe : va_A [(h0, .inr (4, [.null, .null, .int 0, .null, .null]))] s.heap.size = A at hD ⊢
  have hA : ∀ q : Nat, s.heap.size ≤ q → A q := fun q h => by rw [← hAe]; exact Or.inr h
  have hS : va_S A s.heap s.heap [] := va_S.rf
  have hP : va_P D vwCl [(h0, .inr (4, [.null, .null, .int 0, .null, .null]))] s.heap := hP
  have hl := lv_entry ([.ref h0]) (n := 1) (Nat.le_of_ble_eq_true rfl)
  rw [lg_entry_eq]
  generalize (lg_sl ([.ref h0]) ++ List.replicate (1 - (lg_sl ([.ref h0])).length) Slot.unset).toArray = ls at hl ⊢
  have hl : lv_has ls 1 [(0, .ref h0)] := hl
  refine lv_aload_n hx hb dX4_init_0 rfl (lv_at hl 0 rfl) ?_
  refine W.objInit hx hb hown (hts (.methodLink RX4 3 objectInit) (kc_in 23 rfl)) (hts (.instanceMethod objectInit) (kc_in 2 rfl)) (hts (.code objectInit ⟨#[0xb1]⟩ 1 none) (kc_in 3 rfl)) rfl (by rw [hml]; exact hl.1) rfl dX4_init_1 (Nat.le_of_ble_eq_true rfl) (Nat.le_of_ble_eq_true rfl) ?_
  refine W.eq (g2 := F0 m 4 ls []) rfl ?_
  refine lv_aload_n hx hb dX4_init_4 rfl (lv_at hl 0 rfl) ?_
  refine lv_bipush (v := 121) hx hb dX4_init_5 (by decide) ?_
  refine va_newa (atype := .int) (ty := .int) (N' := 121) (a0 := (121, .inl (fun _ => 0))) hx hb (hts (.arrayClass .int) (kc_in 4 rfl)) rfl hK hP hD hS hA (fun c => vp_cell_i c 121 _) (by decide) (by decide) (by decide) (Nat.le_of_ble_eq_true rfl) (Nat.le_of_ble_eq_true rfl) dX4_init_7 (fun q7_1 cB H hK2 hP hD hS => ?_)
  obtain rfl := kc_I hK2
  clear hK2
  have hP : va_P D vwCl [(h0, .inr (4, [.null, .null, .int 0, .null, .null])), (q7_1, .inl (cA 0, 121, .inl (fun _ => 0)))] H := hP
  have hD : va_D A [(h0, .inr (4, [.null, .null, .int 0, .null, .null])), (q7_1, .inl (cA 0, 121, .inl (fun _ => 0)))] := hD
  refine W.widen (k := 1) (n := 121) (by omega) (by omega) ?_
  refine va_putF (D := D) (ci := 4) (v := .ref q7_1) (ty := .array .int) (C := RX4) (T := TX4) (N := 5) hx hb hts (kc_lay 4 (by decide)) tyX4 tyX4_ok nmX4 hown hK hP hD hS 0 rfl rfl 0 (by decide) (hts (.fieldLink RX4 11 "OrbitsWed$Law" "steps" "[I") (kc_in 24 rfl)) (fun _ h9 => h9) rfl hin rfl (by decide +kernel) rfl rfl (Nat.le_of_ble_eq_true rfl) dX4_init_9 (fun H locs hP hD hS => ?_)
  have hP : va_P D vwCl [(h0, .inr (4, [.ref q7_1, .null, .int 0, .null, .null])), (q7_1, .inl (cA 0, 121, .inl (fun _ => 0)))] H := hP
  have hD : va_D A [(h0, .inr (4, [.ref q7_1, .null, .int 0, .null, .null])), (q7_1, .inl (cA 0, 121, .inl (fun _ => 0)))] := hD
  refine lv_aload_n hx hb dX4_init_12 rfl (lv_at hl 0 rfl) ?_
  refine lv_bipush (v := 121) hx hb dX4_init_13 (by decide) ?_
  refine va_newa (atype := .int) (ty := .int) (N' := 121) (a0 := (121, .inl (fun _ => 0))) hx hb (hts (.arrayClass .int) (kc_in 4 rfl)) rfl hK hP hD hS hA (fun c => vp_cell_i c 121 _) (by decide) (by decide) (by decide) (Nat.le_of_ble_eq_true rfl) (Nat.le_of_ble_eq_true rfl) dX4_init_15 (fun q15_2 cB H hK2 hP hD hS => ?_)
  obtain rfl := kc_I hK2
  clear hK2
  have hP : va_P D vwCl [(h0, .inr (4, [.ref q7_1, .null, .int 0, .null, .null])), (q7_1, .inl (cA 0, 121, .inl (fun _ => 0))), (q15_2, .inl (cA 0, 121, .inl (fun _ => 0)))] H := hP
  have hD : va_D A [(h0, .inr (4, [.ref q7_1, .null, .int 0, .null, .null])), (q7_1, .inl (cA 0, 121, .inl (fun _ => 0))), (q15_2, .inl (cA 0, 121, .inl (fun _ => 0)))] := hD
  refine W.widen (k := 2) (n := 242) (by omega) (by omega) ?_
  refine va_putF (D := D) (ci := 4) (v := .ref q15_2) (ty := .array .int) (C := RX4) (T := TX4) (N := 5) hx hb hts (kc_lay 4 (by decide)) tyX4 tyX4_ok nmX4 hown hK hP hD hS 0 rfl rfl 1 (by decide) (hts (.fieldLink RX4 15 "OrbitsWed$Law" "values" "[I") (kc_in 25 rfl)) (fun _ h9 => h9) rfl hin rfl (by decide +kernel) rfl rfl (Nat.le_of_ble_eq_true rfl) dX4_init_17 (fun H locs hP hD hS => ?_)
  have hP : va_P D vwCl [(h0, .inr (4, [.ref q7_1, .ref q15_2, .int 0, .null, .null])), (q7_1, .inl (cA 0, 121, .inl (fun _ => 0))), (q15_2, .inl (cA 0, 121, .inl (fun _ => 0)))] H := hP
  have hD : va_D A [(h0, .inr (4, [.ref q7_1, .ref q15_2, .int 0, .null, .null])), (q7_1, .inl (cA 0, 121, .inl (fun _ => 0))), (q15_2, .inl (cA 0, 121, .inl (fun _ => 0)))] := hD
  refine lv_aload_n hx hb dX4_init_20 rfl (lv_at hl 0 rfl) ?_
  refine lv_bipush (v := 6) hx hb dX4_init_21 (by decide) ?_
  refine va_newa (atype := .int) (ty := .int) (N' := 6) (a0 := (6, .inl (fun _ => 0))) hx hb (hts (.arrayClass .int) (kc_in 4 rfl)) rfl hK hP hD hS hA (fun c => vp_cell_i c 6 _) (by decide) (by decide) (by decide) (Nat.le_of_ble_eq_true rfl) (Nat.le_of_ble_eq_true rfl) dX4_init_23 (fun q23_3 cB H hK2 hP hD hS => ?_)
  obtain rfl := kc_I hK2
  clear hK2
  have hP : va_P D vwCl [(h0, .inr (4, [.ref q7_1, .ref q15_2, .int 0, .null, .null])), (q7_1, .inl (cA 0, 121, .inl (fun _ => 0))), (q15_2, .inl (cA 0, 121, .inl (fun _ => 0))), (q23_3, .inl (cA 0, 6, .inl (fun _ => 0)))] H := hP
  have hD : va_D A [(h0, .inr (4, [.ref q7_1, .ref q15_2, .int 0, .null, .null])), (q7_1, .inl (cA 0, 121, .inl (fun _ => 0))), (q15_2, .inl (cA 0, 121, .inl (fun _ => 0))), (q23_3, .inl (cA 0, 6, .inl (fun _ => 0)))] := hD
  refine W.widen (k := 3) (n := 248) (by omega) (by omega) ?_
  refine va_putF (D := D) (ci := 4) (v := .ref q23_3) (ty := .array .int) (C := RX4) (T := TX4) (N := 5) hx hb hts (kc_lay 4 (by decide)) tyX4 tyX4_ok nmX4 hown hK hP hD hS 0 rfl rfl 3 (by decide) (hts (.fieldLink RX4 18 "OrbitsWed$Law" "named" "[I") (kc_in 26 rfl)) (fun _ h9 => h9) rfl hin rfl (by decide +kernel) rfl rfl (Nat.le_of_ble_eq_true rfl) dX4_init_25 (fun H locs hP hD hS => ?_)
  have hP : va_P D vwCl [(h0, .inr (4, [.ref q7_1, .ref q15_2, .int 0, .ref q23_3, .null])), (q7_1, .inl (cA 0, 121, .inl (fun _ => 0))), (q15_2, .inl (cA 0, 121, .inl (fun _ => 0))), (q23_3, .inl (cA 0, 6, .inl (fun _ => 0)))] H := hP
  have hD : va_D A [(h0, .inr (4, [.ref q7_1, .ref q15_2, .int 0, .ref q23_3, .null])), (q7_1, .inl (cA 0, 121, .inl (fun _ => 0))), (q15_2, .inl (cA 0, 121, .inl (fun _ => 0))), (q23_3, .inl (cA 0, 6, .inl (fun _ => 0)))] := hD
  refine lv_aload_n hx hb dX4_init_28 rfl (lv_at hl 0 rfl) ?_
  refine lv_bipush (v := 121) hx hb dX4_init_29 (by decide) ?_
  refine va_newa (atype := .int) (ty := .int) (N' := 121) (a0 := (121, .inl (fun _ => 0))) hx hb (hts (.arrayClass .int) (kc_in 4 rfl)) rfl hK hP hD hS hA (fun c => vp_cell_i c 121 _) (by decide) (by decide) (by decide) (Nat.le_of_ble_eq_true rfl) (Nat.le_of_ble_eq_true rfl) dX4_init_31 (fun q31_4 cB H hK2 hP hD hS => ?_)
  obtain rfl := kc_I hK2
  clear hK2
  have hP : va_P D vwCl [(h0, .inr (4, [.ref q7_1, .ref q15_2, .int 0, .ref q23_3, .null])), (q7_1, .inl (cA 0, 121, .inl (fun _ => 0))), (q15_2, .inl (cA 0, 121, .inl (fun _ => 0))), (q23_3, .inl (cA 0, 6, .inl (fun _ => 0))), (q31_4, .inl (cA 0, 121, .inl (fun _ => 0)))] H := hP
  have hD : va_D A [(h0, .inr (4, [.ref q7_1, .ref q15_2, .int 0, .ref q23_3, .null])), (q7_1, .inl (cA 0, 121, .inl (fun _ => 0))), (q15_2, .inl (cA 0, 121, .inl (fun _ => 0))), (q23_3, .inl (cA 0, 6, .inl (fun _ => 0))), (q31_4, .inl (cA 0, 121, .inl (fun _ => 0)))] := hD
  refine W.widen (k := 4) (n := 369) (by omega) (by omega) ?_
  refine va_putF (D := D) (ci := 4) (v := .ref q31_4) (ty := .array .int) (C := RX4) (T := TX4) (N := 5) hx hb hts (kc_lay 4 (by decide)) tyX4 tyX4_ok nmX4 hown hK hP hD hS 0 rfl rfl 4 (by decide) (hts (.fieldLink RX4 21 "OrbitsWed$Law" "stack" "[I") (kc_in 27 rfl)) (fun _ h9 => h9) rfl hin rfl (by decide +kernel) rfl rfl (Nat.le_of_ble_eq_true rfl) dX4_init_33 (fun H locs hP hD hS => ?_)
  have hP : va_P D vwCl [(h0, .inr (4, [.ref q7_1, .ref q15_2, .int 0, .ref q23_3, .ref q31_4])), (q7_1, .inl (cA 0, 121, .inl (fun _ => 0))), (q15_2, .inl (cA 0, 121, .inl (fun _ => 0))), (q23_3, .inl (cA 0, 6, .inl (fun _ => 0))), (q31_4, .inl (cA 0, 121, .inl (fun _ => 0)))] H := hP
  have hD : va_D A [(h0, .inr (4, [.ref q7_1, .ref q15_2, .int 0, .ref q23_3, .ref q31_4])), (q7_1, .inl (cA 0, 121, .inl (fun _ => 0))), (q15_2, .inl (cA 0, 121, .inl (fun _ => 0))), (q23_3, .inl (cA 0, 6, .inl (fun _ => 0))), (q31_4, .inl (cA 0, 121, .inl (fun _ => 0)))] := hD
  exact W.vret hx hb hr (fun t ht hW => ⟨⟨(), rfl, trivial, _, ⟨q7_1, q15_2, q23_3, q31_4, rfl⟩, by rw [ht]; exact hP, va_K.moved hW.alike hK, hD⟩, hS.F ht⟩) hS.2.2 dX4_init_36
