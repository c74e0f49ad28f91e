/-! A CONSTRUCTOR -/
theorem dX3_init_0 : decode cX3_init 0 = .ok (.aload_n 0, 1) := by decide +kernel
theorem dX3_init_1 : decode cX3_init 1 = .ok (.invokespecial 3, 3) := by decide +kernel
theorem dX3_init_4 : decode cX3_init 4 = .ok (.aload_n 0, 1) := by decide +kernel
theorem dX3_init_5 : decode cX3_init 5 = .ok (.aload_n 1, 1) := by decide +kernel
theorem dX3_init_6 : decode cX3_init 6 = .ok (.putfield 9, 3) := by decide +kernel
theorem dX3_init_9 : decode cX3_init 9 = .ok (.aload_n 0, 1) := by decide +kernel
theorem dX3_init_10 : decode cX3_init 10 = .ok (.aload_n 2, 1) := by decide +kernel
theorem dX3_init_11 : decode cX3_init 11 = .ok (.putfield 15, 3) := by decide +kernel
theorem dX3_init_14 : decode cX3_init 14 = .ok (.aload_n 0, 1) := by decide +kernel
theorem dX3_init_15 : decode cX3_init 15 = .ok (.sipush 301, 3) := by decide +kernel
theorem dX3_init_18 : decode cX3_init 18 = .ok (.newarray .long, 2) := by decide +kernel
theorem dX3_init_20 : decode cX3_init 20 = .ok (.putfield 19, 3) := by decide +kernel
theorem dX3_init_23 : decode cX3_init 23 = .ok (.return_, 1) := by decide +kernel
def kB_X3 (cA : Nat → ClassId) (h0 a1 a2 : Nat) (w : va_W) : Prop := ∃ (q18_1 : Nat), w = [(h0, .inr (3, [.ref a1, .ref a2, .ref q18_1])), (q18_1, .inl (cA 1, 301, .inr (.inl (fun _ => 0))))]
set_option maxHeartbeats 8000000 in
set_option maxRecDepth 100000 in
theorem k_X3 (l : Launch) (D : va_G) (cA : Nat → ClassId) (h0 sz a1 a2 : Nat) : Met l yX3_init (am_wsk yX3_init cX3_init 3) { frames := 1, cells := 1, slots := 301, locals := 40 } (kc_Pre D cA [.ref h0, .ref a1, .ref a2] [(h0, .inr (3, [.null, .null, .null]))] sz) (kc_Post D cA (va_A [(h0, .inr (3, [.null, .null, .null]))] sz) (kB_X3 cA h0 a1 a2)) 1 301 (va_A [(h0, .inr (3, [.null, .null, .null]))] sz) := by
  refine Met.ofW (cc := cX3_init) (maxL := 3) (ret := none) (by decide +kernel) rfl ?_
  intro p e s m args below meth c s₁ B hml hv
  obtain ⟨rfl, hsz, hP, hK, hD0, hO⟩ := hv
  have hx := B.exec
  have hb := B.bytes
  have hr := B.returns
  have hts0 := atoms_spec (ws := am_wsk yX3_init cX3_init 3) B.pre
  have hts : ∀ w ∈ am_TC, w.before ([.ref h0, .ref a1, .ref a2] : List Value).toArray s = true := fun w hw => hts0 w (List.mem_cons_of_mem _ hw)
  have hown : s.vm.findClass RX3 = some m.cls := findClass_of_methodNamed B.named
  have hlocks := B.notSynchronized
  have hin : meth.name = "<init>" := (name_of_methodNamed B.named B.method).1
  subst hsz
  have hD := hD0.self (sz := s.heap.size)
  generalize hAe : va_A [(h0, .inr (3, [.null, .null, .null]))] s.heap.size = A at hD ⊢
  have hA : ∀ q : Nat, s.heap.size ≤ q → A q := fun q h => by rw [← hAe]; exact Or.inr h
  have hS : va_S A s.heap s.heap [] := va_S.rf
  have hP : va_P D vwCl [(h0, .inr (3, [.null, .null, .null]))] s.heap := hP
  have hl := lv_entry ([.ref h0, .ref a1, .ref a2]) (n := 3) (Nat.le_of_ble_eq_true rfl)
  rw [lg_entry_eq]
  generalize (lg_sl ([.ref h0, .ref a1, .ref a2]) ++ List.replicate (3 - (lg_sl ([.ref h0, .ref a1, .ref a2])).length) Slot.unset).toArray = ls at hl ⊢
  have hl : lv_has ls 3 [(0, .ref h0), (1, .ref a1), (2, .ref a2)] := hl
  refine lv_aload_n hx hb dX3_init_0 rfl (lv_at hl 0 rfl) ?_
  refine W.objInit hx hb hown (hts (.methodLink RX3 3 objectInit) (kc_in 17 rfl)) (hts (.instanceMethod objectInit) (kc_in 2 rfl)) (hts (.code objectInit ⟨#[0xb1]⟩ 1 none) (kc_in 3 rfl)) rfl (by rw [hml]; exact hl.1) rfl dX3_init_1 (Nat.le_of_ble_eq_true rfl) (Nat.le_of_ble_eq_true rfl) ?_
  refine W.eq (g2 := F0 m 4 ls []) rfl ?_
  refine lv_aload_n hx hb dX3_init_4 rfl (lv_at hl 0 rfl) ?_
  refine lv_aload_n hx hb dX3_init_5 rfl (lv_at hl 1 rfl) ?_
  refine va_putF (D := D) (ci := 3) (v := .ref a1) (ty := .object "OrbitsWed$Sky") (C := RX3) (T := TX3) (N := 3) hx hb hts (kc_lay 3 (by decide)) tyX3 tyX3_ok nmX3 hown hK hP hD hS 0 rfl rfl 0 (by decide) (hts (.fieldLink RX3 9 "OrbitsWed$Foresight" "sky" "LOrbitsWed$Sky;") (kc_in 18 rfl)) (fun _ h9 => h9) rfl hin rfl (by decide +kernel) rfl rfl (Nat.le_of_ble_eq_true rfl) dX3_init_6 (fun H locs hP hD hS => ?_)
  have hP : va_P D vwCl [(h0, .inr (3, [.ref a1, .null, .null]))] H := hP
  have hD : va_D A [(h0, .inr (3, [.ref a1, .null, .null]))] := hD
  refine lv_aload_n hx hb dX3_init_9 rfl (lv_at hl 0 rfl) ?_
  refine lv_aload_n hx hb dX3_init_10 rfl (lv_at hl 2 rfl) ?_
  refine va_putF (D := D) (ci := 3) (v := .ref a2) (ty := .object "OrbitsWed$Walk") (C := RX3) (T := TX3) (N := 3) hx hb hts (kc_lay 3 (by decide)) tyX3 tyX3_ok nmX3 hown hK hP hD hS 0 rfl rfl 1 (by decide) (hts (.fieldLink RX3 15 "OrbitsWed$Foresight" "walk" "LOrbitsWed$Walk;") (kc_in 19 rfl)) (fun _ h9 => h9) rfl hin rfl (by decide +kernel) rfl rfl (Nat.le_of_ble_eq_true rfl) dX3_init_11 (fun H locs hP hD hS => ?_)
  have hP : va_P D vwCl [(h0, .inr (3, [.ref a1, .ref a2, .null]))] H := hP
  have hD : va_D A [(h0, .inr (3, [.ref a1, .ref a2, .null]))] := hD
  refine lv_aload_n hx hb dX3_init_14 rfl (lv_at hl 0 rfl) ?_
  refine lv_sipush (v := 301) hx hb dX3_init_15 (by decide) ?_
  refine va_newa (atype := .long) (ty := .long) (N' := 301) (a0 := (301, .inr (.inl (fun _ => 0)))) hx hb (hts (.arrayClass .long) (kc_in 20 rfl)) rfl hK hP hD hS hA (fun c => vp_cell_l c 301 _) (by decide) (by decide) (by decide) (Nat.le_of_ble_eq_true rfl) (Nat.le_of_ble_eq_true rfl) dX3_init_18 (fun q18_1 cB H hK2 hP hD hS => ?_)
  obtain rfl := kc_L hK2
  clear hK2
  have hP : va_P D vwCl [(h0, .inr (3, [.ref a1, .ref a2, .null])), (q18_1, .inl (cA 1, 301, .inr (.inl (fun _ => 0))))] H := hP
  have hD : va_D A [(h0, .inr (3, [.ref a1, .ref a2, .null])), (q18_1, .inl (cA 1, 301, .inr (.inl (fun _ => 0))))] := hD
  refine W.widen (k := 1) (n := 301) (by omega) (by omega) ?_
  refine va_putF (D := D) (ci := 3) (v := .ref q18_1) (ty := .array .long) (C := RX3) (T := TX3) (N := 3) hx hb hts (kc_lay 3 (by decide)) tyX3 tyX3_ok nmX3 hown hK hP hD hS 0 rfl rfl 2 (by decide) (hts (.fieldLink RX3 19 "OrbitsWed$Foresight" "seen" "[J") (kc_in 21 rfl)) (fun _ h9 => h9) rfl hin rfl (by decide +kernel) rfl rfl (Nat.le_of_ble_eq_true rfl) dX3_init_20 (fun H locs hP hD hS => ?_)
  have hP : va_P D vwCl [(h0, .inr (3, [.ref a1, .ref a2, .ref q18_1])), (q18_1, .inl (cA 1, 301, .inr (.inl (fun _ => 0))))] H := hP
  have hD : va_D A [(h0, .inr (3, [.ref a1, .ref a2, .ref q18_1])), (q18_1, .inl (cA 1, 301, .inr (.inl (fun _ => 0))))] := hD
  exact W.vret hx hb hr (fun t ht hW => ⟨⟨(), rfl, trivial, _, ⟨q18_1, rfl⟩, by rw [ht]; exact hP, va_K.moved hW.alike hK, hD⟩, hS.F ht⟩) hS.2.2 dX3_init_23
