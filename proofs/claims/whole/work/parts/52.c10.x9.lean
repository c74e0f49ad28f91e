/-! A CONSTRUCTOR -/
theorem dX9_init_0 : decode cX9_init 0 = .ok (.aload_n 0, 1) := by decide +kernel
theorem dX9_init_1 : decode cX9_init 1 = .ok (.invokespecial 3, 3) := by decide +kernel
theorem dX9_init_4 : decode cX9_init 4 = .ok (.aload_n 0, 1) := by decide +kernel
theorem dX9_init_5 : decode cX9_init 5 = .ok (.aload_n 1, 1) := by decide +kernel
theorem dX9_init_6 : decode cX9_init 6 = .ok (.putfield 9, 3) := by decide +kernel
theorem dX9_init_9 : decode cX9_init 9 = .ok (.aload_n 0, 1) := by decide +kernel
theorem dX9_init_10 : decode cX9_init 10 = .ok (.aload_n 2, 1) := by decide +kernel
theorem dX9_init_11 : decode cX9_init 11 = .ok (.putfield 15, 3) := by decide +kernel
theorem dX9_init_14 : decode cX9_init 14 = .ok (.aload_n 0, 1) := by decide +kernel
theorem dX9_init_15 : decode cX9_init 15 = .ok (.bipush 8, 2) := by decide +kernel
theorem dX9_init_17 : decode cX9_init 17 = .ok (.newarray .int, 2) := by decide +kernel
theorem dX9_init_19 : decode cX9_init 19 = .ok (.putfield 19, 3) := by decide +kernel
theorem dX9_init_22 : decode cX9_init 22 = .ok (.aload_n 0, 1) := by decide +kernel
theorem dX9_init_23 : decode cX9_init 23 = .ok (.bipush 8, 2) := by decide +kernel
theorem dX9_init_25 : decode cX9_init 25 = .ok (.newarray .int, 2) := by decide +kernel
theorem dX9_init_27 : decode cX9_init 27 = .ok (.putfield 23, 3) := by decide +kernel
theorem dX9_init_30 : decode cX9_init 30 = .ok (.aload_n 0, 1) := by decide +kernel
theorem dX9_init_31 : decode cX9_init 31 = .ok (.bipush 8, 2) := by decide +kernel
theorem dX9_init_33 : decode cX9_init 33 = .ok (.newarray .int, 2) := by decide +kernel
theorem dX9_init_35 : decode cX9_init 35 = .ok (.putfield 26, 3) := by decide +kernel
theorem dX9_init_38 : decode cX9_init 38 = .ok (.aload_n 0, 1) := by decide +kernel
theorem dX9_init_39 : decode cX9_init 39 = .ok (.bipush 8, 2) := by decide +kernel
theorem dX9_init_41 : decode cX9_init 41 = .ok (.newarray .int, 2) := by decide +kernel
theorem dX9_init_43 : decode cX9_init 43 = .ok (.putfield 29, 3) := by decide +kernel
theorem dX9_init_46 : decode cX9_init 46 = .ok (.return_, 1) := by decide +kernel
def kB_X9 (cA : Nat → ClassId) (h0 a1 a2 : Nat) (w : va_W) : Prop := ∃ (q17_1 : Nat) (q25_2 : Nat) (q33_3 : Nat) (q41_4 : Nat), w = [(h0, .inr (9, [.ref a1, .ref a2, .ref q17_1, .ref q25_2, .ref q33_3, .ref q41_4, .int 0, .int 0])), (q17_1, .inl (cA 0, 8, .inl (fun _ => 0))), (q25_2, .inl (cA 0, 8, .inl (fun _ => 0))), (q33_3, .inl (cA 0, 8, .inl (fun _ => 0))), (q41_4, .inl (cA 0, 8, .inl (fun _ => 0)))]
set_option maxHeartbeats 8000000 in
set_option maxRecDepth 100000 in
theorem k_X9 (l : Launch) (D : va_G) (cA : Nat → ClassId) (h0 sz a1 a2 : Nat) : Met l yX9_init (am_wsk yX9_init cX9_init 3) { frames := 1, cells := 4, slots := 32, locals := 40 } (kc_Pre D cA [.ref h0, .ref a1, .ref a2] [(h0, .inr (9, [.null, .null, .null, .null, .null, .null, .int 0, .int 0]))] sz) (kc_Post D cA (va_A [(h0, .inr (9, [.null, .null, .null, .null, .null, .null, .int 0, .int 0]))] sz) (kB_X9 cA h0 a1 a2)) 4 32 (va_A [(h0, .inr (9, [.null, .null, .null, .null, .null, .null, .int 0, .int 0]))] sz) := by
  refine Met.ofW (cc := cX9_init) (maxL := 3) (ret := none) (by decide +kernel) rfl ?_
  intro p e s m args below meth c s₁ B hml hv
  obtain ⟨rfl, hsz, hP, hK, hD0, hO⟩ := hv
  have hx := B.exec
  have hb := B.bytes
  have hr := B.returns
  have hts0 := atoms_spec (ws := am_wsk yX9_init cX9_init 3) B.pre
  have hts : ∀ w ∈ am_TC, w.before ([.ref h0, .ref a1, .ref a2] : List Value).toArray s = true := fun w hw => hts0 w (List.mem_cons_of_mem _ hw)
  have hown : s.vm.findClass RX9 = some m.cls := findClass_of_methodNamed B.named
  have hlocks := B.notSynchronized
  have hin : meth.name = "<init>" := (name_of_methodNamed B.named B.method).1
  subst hsz
  have hD := hD0.self (sz := s.heap.size)
  generalize hAe : va_A [(h0, .inr (9, [.null, .null, .null, .null, .null, .null, .int 0, .int 0]))] s.heap.size = A at hD ⊢
  have hA : ∀ q : Nat, s.heap.size ≤ q → A q := fun q h => by rw [← hAe]; exact Or.inr h
  have hS : va_S A s.heap s.heap [] := va_S.rf
  have hP : va_P D vwCl [(h0, .inr (9, [.null, .null, .null, .null, .null, .null, .int 0, .int 0]))] s.heap := hP
  have hl := lv_entry ([.ref h0, .ref a1, .ref a2]) (n := 3) (Nat.le_of_ble_eq_true rfl)
  rw [lg_entry_eq]
  generalize (lg_sl ([.ref h0, .ref a1, .ref a2]) ++ List.replicate (3 - (lg_sl ([.ref h0, .ref a1, .ref a2])).length) Slot.unset).toArray = ls at hl ⊢
  have hl : lv_has ls 3 [(0, .ref h0), (1, .ref a1), (2, .ref a2)] := hl
  refine lv_aload_n hx hb dX9_init_0 rfl (lv_at hl 0 rfl) ?_
  refine W.objInit hx hb hown (hts (.methodLink RX9 3 objectInit) (kc_in 58 rfl)) (hts (.instanceMethod objectInit) (kc_in 2 rfl)) (hts (.code objectInit ⟨#[0xb1]⟩ 1 none) (kc_in 3 rfl)) rfl (by rw [hml]; exact hl.1) rfl dX9_init_1 (Nat.le_of_ble_eq_true rfl) (Nat.le_of_ble_eq_true rfl) ?_
  refine W.eq (g2 := F0 m 4 ls []) rfl ?_
  refine lv_aload_n hx hb dX9_init_4 rfl (lv_at hl 0 rfl) ?_
  refine lv_aload_n hx hb dX9_init_5 rfl (lv_at hl 1 rfl) ?_
  refine va_putF (D := D) (ci := 9) (v := .ref a1) (ty := .object "OrbitsWed$Sky") (C := RX9) (T := TX9) (N := 8) hx hb hts (kc_lay 9 (by decide)) tyX9 tyX9_ok nmX9 hown hK hP hD hS 0 rfl rfl 0 (by decide) (hts (.fieldLink RX9 9 "OrbitsWed$Walk" "sky" "LOrbitsWed$Sky;") (kc_in 59 rfl)) (fun _ h9 => h9) rfl hin rfl (by decide +kernel) rfl rfl (Nat.le_of_ble_eq_true rfl) dX9_init_6 (fun H locs hP hD hS => ?_)
  have hP : va_P D vwCl [(h0, .inr (9, [.ref a1, .null, .null, .null, .null, .null, .int 0, .int 0]))] H := hP
  have hD : va_D A [(h0, .inr (9, [.ref a1, .null, .null, .null, .null, .null, .int 0, .int 0]))] := hD
  refine lv_aload_n hx hb dX9_init_9 rfl (lv_at hl 0 rfl) ?_
  refine lv_aload_n hx hb dX9_init_10 rfl (lv_at hl 2 rfl) ?_
  refine va_putF (D := D) (ci := 9) (v := .ref a2) (ty := .object "OrbitsWed$Law") (C := RX9) (T := TX9) (N := 8) hx hb hts (kc_lay 9 (by decide)) tyX9 tyX9_ok nmX9 hown hK hP hD hS 0 rfl rfl 1 (by decide) (hts (.fieldLink RX9 15 "OrbitsWed$Walk" "law" "LOrbitsWed$Law;") (kc_in 60 rfl)) (fun _ h9 => h9) rfl hin rfl (by decide +kernel) rfl rfl (Nat.le_of_ble_eq_true rfl) dX9_init_11 (fun H locs hP hD hS => ?_)
  have hP : va_P D vwCl [(h0, .inr (9, [.ref a1, .ref a2, .null, .null, .null, .null, .int 0, .int 0]))] H := hP
  have hD : va_D A [(h0, .inr (9, [.ref a1, .ref a2, .null, .null, .null, .null, .int 0, .int 0]))] := hD
  refine lv_aload_n hx hb dX9_init_14 rfl (lv_at hl 0 rfl) ?_
  refine lv_bipush (v := 8) hx hb dX9_init_15 (by decide) ?_
  refine va_newa (atype := .int) (ty := .int) (N' := 8) (a0 := (8, .inl (fun _ => 0))) hx hb (hts (.arrayClass .int) (kc_in 4 rfl)) rfl hK hP hD hS hA (fun c => vp_cell_i c 8 _) (by decide) (by decide) (by decide) (Nat.le_of_ble_eq_true rfl) (Nat.le_of_ble_eq_true rfl) dX9_init_17 (fun q17_1 cB H hK2 hP hD hS => ?_)
  obtain rfl := kc_I hK2
  clear hK2
  have hP : va_P D vwCl [(h0, .inr (9, [.ref a1, .ref a2, .null, .null, .null, .null, .int 0, .int 0])), (q17_1, .inl (cA 0, 8, .inl (fun _ => 0)))] H := hP
  have hD : va_D A [(h0, .inr (9, [.ref a1, .ref a2, .null, .null, .null, .null, .int 0, .int 0])), (q17_1, .inl (cA 0, 8, .inl (fun _ => 0)))] := hD
  refine W.widen (k := 1) (n := 8) (by omega) (by omega) ?_
  refine va_putF (D := D) (ci := 9) (v := .ref q17_1) (ty := .array .int) (C := RX9) (T := TX9) (N := 8) hx hb hts (kc_lay 9 (by decide)) tyX9 tyX9_ok nmX9 hown hK hP hD hS 0 rfl rfl 2 (by decide) (hts (.fieldLink RX9 19 "OrbitsWed$Walk" "places" "[I") (kc_in 61 rfl)) (fun _ h9 => h9) rfl hin rfl (by decide +kernel) rfl rfl (Nat.le_of_ble_eq_true rfl) dX9_init_19 (fun H locs hP hD hS => ?_)
  have hP : va_P D vwCl [(h0, .inr (9, [.ref a1, .ref a2, .ref q17_1, .null, .null, .null, .int 0, .int 0])), (q17_1, .inl (cA 0, 8, .inl (fun _ => 0)))] H := hP
  have hD : va_D A [(h0, .inr (9, [.ref a1, .ref a2, .ref q17_1, .null, .null, .null, .int 0, .int 0])), (q17_1, .inl (cA 0, 8, .inl (fun _ => 0)))] := hD
  refine lv_aload_n hx hb dX9_init_22 rfl (lv_at hl 0 rfl) ?_
  refine lv_bipush (v := 8) hx hb dX9_init_23 (by decide) ?_
  refine va_newa (atype := .int) (ty := .int) (N' := 8) (a0 := (8, .inl (fun _ => 0))) hx hb (hts (.arrayClass .int) (kc_in 4 rfl)) rfl hK hP hD hS hA (fun c => vp_cell_i c 8 _) (by decide) (by decide) (by decide) (Nat.le_of_ble_eq_true rfl) (Nat.le_of_ble_eq_true rfl) dX9_init_25 (fun q25_2 cB H hK2 hP hD hS => ?_)
  obtain rfl := kc_I hK2
  clear hK2
  have hP : va_P D vwCl [(h0, .inr (9, [.ref a1, .ref a2, .ref q17_1, .null, .null, .null, .int 0, .int 0])), (q17_1, .inl (cA 0, 8, .inl (fun _ => 0))), (q25_2, .inl (cA 0, 8, .inl (fun _ => 0)))] H := hP
  have hD : va_D A [(h0, .inr (9, [.ref a1, .ref a2, .ref q17_1, .null, .null, .null, .int 0, .int 0])), (q17_1, .inl (cA 0, 8, .inl (fun _ => 0))), (q25_2, .inl (cA 0, 8, .inl (fun _ => 0)))] := hD
  refine W.widen (k := 2) (n := 16) (by omega) (by omega) ?_
  refine va_putF (D := D) (ci := 9) (v := .ref q25_2) (ty := .array .int) (C := RX9) (T := TX9) (N := 8) hx hb hts (kc_lay 9 (by decide)) tyX9 tyX9_ok nmX9 hown hK hP hD hS 0 rfl rfl 3 (by decide) (hts (.fieldLink RX9 23 "OrbitsWed$Walk" "degrees" "[I") (kc_in 62 rfl)) (fun _ h9 => h9) rfl hin rfl (by decide +kernel) rfl rfl (Nat.le_of_ble_eq_true rfl) dX9_init_27 (fun H locs hP hD hS => ?_)
  have hP : va_P D vwCl [(h0, .inr (9, [.ref a1, .ref a2, .ref q17_1, .ref q25_2, .null, .null, .int 0, .int 0])), (q17_1, .inl (cA 0, 8, .inl (fun _ => 0))), (q25_2, .inl (cA 0, 8, .inl (fun _ => 0)))] H := hP
  have hD : va_D A [(h0, .inr (9, [.ref a1, .ref a2, .ref q17_1, .ref q25_2, .null, .null, .int 0, .int 0])), (q17_1, .inl (cA 0, 8, .inl (fun _ => 0))), (q25_2, .inl (cA 0, 8, .inl (fun _ => 0)))] := hD
  refine lv_aload_n hx hb dX9_init_30 rfl (lv_at hl 0 rfl) ?_
  refine lv_bipush (v := 8) hx hb dX9_init_31 (by decide) ?_
  refine va_newa (atype := .int) (ty := .int) (N' := 8) (a0 := (8, .inl (fun _ => 0))) hx hb (hts (.arrayClass .int) (kc_in 4 rfl)) rfl hK hP hD hS hA (fun c => vp_cell_i c 8 _) (by decide) (by decide) (by decide) (Nat.le_of_ble_eq_true rfl) (Nat.le_of_ble_eq_true rfl) dX9_init_33 (fun q33_3 cB H hK2 hP hD hS => ?_)
  obtain rfl := kc_I hK2
  clear hK2
  have hP : va_P D vwCl [(h0, .inr (9, [.ref a1, .ref a2, .ref q17_1, .ref q25_2, .null, .null, .int 0, .int 0])), (q17_1, .inl (cA 0, 8, .inl (fun _ => 0))), (q25_2, .inl (cA 0, 8, .inl (fun _ => 0))), (q33_3, .inl (cA 0, 8, .inl (fun _ => 0)))] H := hP
  have hD : va_D A [(h0, .inr (9, [.ref a1, .ref a2, .ref q17_1, .ref q25_2, .null, .null, .int 0, .int 0])), (q17_1, .inl (cA 0, 8, .inl (fun _ => 0))), (q25_2, .inl (cA 0, 8, .inl (fun _ => 0))), (q33_3, .inl (cA 0, 8, .inl (fun _ => 0)))] := hD
  refine W.widen (k := 3) (n := 24) (by omega) (by omega) ?_
  refine va_putF (D := D) (ci := 9) (v := .ref q33_3) (ty := .array .int) (C := RX9) (T := TX9) (N := 8) hx hb hts (kc_lay 9 (by decide)) tyX9 tyX9_ok nmX9 hown hK hP hD hS 0 rfl rfl 4 (by decide) (hts (.fieldLink RX9 26 "OrbitsWed$Walk" "sums" "[I") (kc_in 63 rfl)) (fun _ h9 => h9) rfl hin rfl (by decide +kernel) rfl rfl (Nat.le_of_ble_eq_true rfl) dX9_init_35 (fun H locs hP hD hS => ?_)
  have hP : va_P D vwCl [(h0, .inr (9, [.ref a1, .ref a2, .ref q17_1, .ref q25_2, .ref q33_3, .null, .int 0, .int 0])), (q17_1, .inl (cA 0, 8, .inl (fun _ => 0))), (q25_2, .inl (cA 0, 8, .inl (fun _ => 0))), (q33_3, .inl (cA 0, 8, .inl (fun _ => 0)))] H := hP
  have hD : va_D A [(h0, .inr (9, [.ref a1, .ref a2, .ref q17_1, .ref q25_2, .ref q33_3, .null, .int 0, .int 0])), (q17_1, .inl (cA 0, 8, .inl (fun _ => 0))), (q25_2, .inl (cA 0, 8, .inl (fun _ => 0))), (q33_3, .inl (cA 0, 8, .inl (fun _ => 0)))] := hD
  refine lv_aload_n hx hb dX9_init_38 rfl (lv_at hl 0 rfl) ?_
  refine lv_bipush (v := 8) hx hb dX9_init_39 (by decide) ?_
  refine va_newa (atype := .int) (ty := .int) (N' := 8) (a0 := (8, .inl (fun _ => 0))) hx hb (hts (.arrayClass .int) (kc_in 4 rfl)) rfl hK hP hD hS hA (fun c => vp_cell_i c 8 _) (by decide) (by decide) (by decide) (Nat.le_of_ble_eq_true rfl) (Nat.le_of_ble_eq_true rfl) dX9_init_41 (fun q41_4 cB H hK2 hP hD hS => ?_)
  obtain rfl := kc_I hK2
  clear hK2
  have hP : va_P D vwCl [(h0, .inr (9, [.ref a1, .ref a2, .ref q17_1, .ref q25_2, .ref q33_3, .null, .int 0, .int 0])), (q17_1, .inl (cA 0, 8, .inl (fun _ => 0))), (q25_2, .inl (cA 0, 8, .inl (fun _ => 0))), (q33_3, .inl (cA 0, 8, .inl (fun _ => 0))), (q41_4, .inl (cA 0, 8, .inl (fun _ => 0)))] H := hP
  have hD : va_D A [(h0, .inr (9, [.ref a1, .ref a2, .ref q17_1, .ref q25_2, .ref q33_3, .null, .int 0, .int 0])), (q17_1, .inl (cA 0, 8, .inl (fun _ => 0))), (q25_2, .inl (cA 0, 8, .inl (fun _ => 0))), (q33_3, .inl (cA 0, 8, .inl (fun _ => 0))), (q41_4, .inl (cA 0, 8, .inl (fun _ => 0)))] := hD
  refine W.widen (k := 4) (n := 32) (by omega) (by omega) ?_
  refine va_putF (D := D) (ci := 9) (v := .ref q41_4) (ty := .array .int) (C := RX9) (T := TX9) (N := 8) hx hb hts (kc_lay 9 (by decide)) tyX9 tyX9_ok nmX9 hown hK hP hD hS 0 rfl rfl 5 (by decide) (hts (.fieldLink RX9 29 "OrbitsWed$Walk" "metBits" "[I") (kc_in 64 rfl)) (fun _ h9 => h9) rfl hin rfl (by decide +kernel) rfl rfl (Nat.le_of_ble_eq_true rfl) dX9_init_43 (fun H locs hP hD hS => ?_)
  have hP : va_P D vwCl [(h0, .inr (9, [.ref a1, .ref a2, .ref q17_1, .ref q25_2, .ref q33_3, .ref q41_4, .int 0, .int 0])), (q17_1, .inl (cA 0, 8, .inl (fun _ => 0))), (q25_2, .inl (cA 0, 8, .inl (fun _ => 0))), (q33_3, .inl (cA 0, 8, .inl (fun _ => 0))), (q41_4, .inl (cA 0, 8, .inl (fun _ => 0)))] H := hP
  have hD : va_D A [(h0, .inr (9, [.ref a1, .ref a2, .ref q17_1, .ref q25_2, .ref q33_3, .ref q41_4, .int 0, .int 0])), (q17_1, .inl (cA 0, 8, .inl (fun _ => 0))), (q25_2, .inl (cA 0, 8, .inl (fun _ => 0))), (q33_3, .inl (cA 0, 8, .inl (fun _ => 0))), (q41_4, .inl (cA 0, 8, .inl (fun _ => 0)))] := hD
  exact W.vret hx hb hr (fun t ht hW => ⟨⟨(), rfl, trivial, _, ⟨q17_1, q25_2, q33_3, q41_4, rfl⟩, by rw [ht]; exact hP, va_K.moved hW.alike hK, hD⟩, hS.F ht⟩) hS.2.2 dX9_init_46
