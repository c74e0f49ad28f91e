/-! THE CONSTRUCTORS: small classes -/
theorem dJ7_fill_53178_0 : decode cJ7_fill_53178 0 = .ok (.iconst 0, 1) := by decide +kernel
theorem dJ7_fill_53178_1 : decode cJ7_fill_53178 1 = .ok (.istore_n 2, 1) := by decide +kernel
theorem dJ7_fill_53178_2 : decode cJ7_fill_53178 2 = .ok (.aload_n 0, 1) := by decide +kernel
theorem dJ7_fill_53178_3 : decode cJ7_fill_53178 3 = .ok (.arraylength, 1) := by decide +kernel
theorem dJ7_fill_53178_4 : decode cJ7_fill_53178 4 = .ok (.istore_n 3, 1) := by decide +kernel
theorem dJ7_fill_53178_5 : decode cJ7_fill_53178 5 = .ok (.iload_n 2, 1) := by decide +kernel
theorem dJ7_fill_53178_6 : decode cJ7_fill_53178 6 = .ok (.iload_n 3, 1) := by decide +kernel
theorem dJ7_fill_53178_7 : decode cJ7_fill_53178 7 = .ok (.if_icmp .ge 13, 3) := by decide +kernel
theorem dJ7_fill_53178_10 : decode cJ7_fill_53178 10 = .ok (.aload_n 0, 1) := by decide +kernel
theorem dJ7_fill_53178_11 : decode cJ7_fill_53178 11 = .ok (.iload_n 2, 1) := by decide +kernel
theorem dJ7_fill_53178_12 : decode cJ7_fill_53178 12 = .ok (.iload_n 1, 1) := by decide +kernel
theorem dJ7_fill_53178_13 : decode cJ7_fill_53178 13 = .ok (.iastore, 1) := by decide +kernel
theorem dJ7_fill_53178_14 : decode cJ7_fill_53178 14 = .ok (.iinc 2 1, 3) := by decide +kernel
theorem dJ7_fill_53178_17 : decode cJ7_fill_53178 17 = .ok (.goto (-12), 3) := by decide +kernel
theorem dJ7_fill_53178_20 : decode cJ7_fill_53178 20 = .ok (.return_, 1) := by decide +kernel
def kB_fill (cA : Nat → ClassId) (a0 : Nat) (w : va_W) : Prop := ∃ f : Nat → Int32, w = [(a0, .inl (cA 0, 8, .inl f))]
set_option maxHeartbeats 8000000 in
set_option maxRecDepth 100000 in
theorem k_fill (l : Launch) (D : va_G) (cA : Nat → ClassId) (a0 sz : Nat) (f : Nat → Int32) (x : Int32) : Met l yJ7_fill_53178 (am_wsk yJ7_fill_53178 cJ7_fill_53178 4) { frames := 1, cells := 0, slots := 0, locals := 10 } (kc_Pre D cA [.ref a0, .int x] [(a0, .inl (cA 0, 8, .inl f))] sz) (kc_Post D cA (va_A [(a0, .inl (cA 0, 8, .inl f))] sz) (kB_fill cA a0)) 0 0 (va_A [(a0, .inl (cA 0, 8, .inl f))] sz) := by
  refine Met.ofW (cc := cJ7_fill_53178) (maxL := 4) (ret := none) (by decide +kernel) rfl ?_
  intro p e s m args below meth c s₁ B hml hv
  obtain ⟨rfl, hsz, hP, hK, hD0, hO⟩ := hv
  have hx := B.exec
  have hb := B.bytes
  have hr := B.returns
  have hlocks := B.notSynchronized
  subst hsz
  have hD := hD0.self (sz := s.heap.size)
  generalize hAe : va_A [(a0, .inl (cA 0, 8, .inl f))] s.heap.size = A at hD ⊢
  have hS : va_S A s.heap s.heap [] := va_S.rf
  have hP : va_P D vwCl [(a0, .inl (cA 0, 8, .inl f))] s.heap := hP
  have hl := lv_entry ([.ref a0, .int x]) (n := 4) (Nat.le_of_ble_eq_true rfl)
  rw [lg_entry_eq]
  generalize (lg_sl ([.ref a0, .int x]) ++ List.replicate (4 - (lg_sl ([.ref a0, .int x])).length) Slot.unset).toArray = ls at hl ⊢
  have hl : lv_has ls 4 [(0, .ref a0), (1, .int x)] := hl
  refine lv_iconst (v := 0) hx hb dJ7_fill_53178_0 (by decide) ?_
  refine lv_istore_n (lv' := [(2, .int 0), (0, .ref a0), (1, .int x)]) hx hb dJ7_fill_53178_1 rfl hl (by decide) rfl (fun ls hl => ?_)
  refine lv_aload_n hx hb dJ7_fill_53178_2 rfl (lv_at hl 1 rfl) ?_
  refine va_alen (D := D) (v := 8) hx hb hK hP 0 0 rfl rfl rfl dJ7_fill_53178_3 ?_
  refine lv_istore_n (lv' := [(3, .int 8), (2, .int 0), (0, .ref a0), (1, .int x)]) hx hb dJ7_fill_53178_4 rfl hl (by decide) rfl (fun ls hl => ?_)
  refine lv_iload_n hx hb dJ7_fill_53178_5 rfl (lv_at hl 1 rfl) ?_
  refine lv_iload_n hx hb dJ7_fill_53178_6 rfl (lv_at hl 0 rfl) ?_
  refine lv_icmp_ge (tgt := 20) hx hb dJ7_fill_53178_7 (by decide) (fun q => absurd q (by decide)) (fun _ => ?_)
  refine lv_aload_n hx hb dJ7_fill_53178_10 rfl (lv_at hl 2 rfl) ?_
  refine lv_iload_n hx hb dJ7_fill_53178_11 rfl (lv_at hl 1 rfl) ?_
  refine lv_iload_n hx hb dJ7_fill_53178_12 rfl (lv_at hl 3 rfl) ?_
  refine va_iast (D := D) hx hb hK hP hD hS 0 0 rfl rfl (i := 0) (x := x) (by decide) dJ7_fill_53178_13 (fun H locs hP hD hS => ?_)
  have hP : va_P D vwCl [(a0, .inl (cA 0, 8, .inl (upd f 0 x)))] H := hP
  have hD : va_D A [(a0, .inl (cA 0, 8, .inl (upd f 0 x)))] := hD
  refine lv_iinc (lv' := [(2, .int 1), (3, .int 8), (0, .ref a0), (1, .int x)]) (v := 1) hx hb dJ7_fill_53178_14 hl (k := 1) rfl (by decide) (by decide) rfl (fun ls hl => ?_)
  refine lv_goto (tgt := 5) hx hb dJ7_fill_53178_17 (by decide) ?_
  refine lv_iload_n hx hb dJ7_fill_53178_5 rfl (lv_at hl 0 rfl) ?_
  refine lv_iload_n hx hb dJ7_fill_53178_6 rfl (lv_at hl 1 rfl) ?_
  refine lv_icmp_ge (tgt := 20) hx hb dJ7_fill_53178_7 (by decide) (fun q => absurd q (by decide)) (fun _ => ?_)
  refine lv_aload_n hx hb dJ7_fill_53178_10 rfl (lv_at hl 2 rfl) ?_
  refine lv_iload_n hx hb dJ7_fill_53178_11 rfl (lv_at hl 0 rfl) ?_
  refine lv_iload_n hx hb dJ7_fill_53178_12 rfl (lv_at hl 3 rfl) ?_
  refine va_iast (D := D) hx hb hK hP hD hS 0 0 rfl rfl (i := 1) (x := x) (by decide) dJ7_fill_53178_13 (fun H locs hP hD hS => ?_)
  have hP : va_P D vwCl [(a0, .inl (cA 0, 8, .inl (upd (upd f 0 x) 1 x)))] H := hP
  have hD : va_D A [(a0, .inl (cA 0, 8, .inl (upd (upd f 0 x) 1 x)))] := hD
  refine lv_iinc (lv' := [(2, .int 2), (3, .int 8), (0, .ref a0), (1, .int x)]) (v := 2) hx hb dJ7_fill_53178_14 hl (k := 0) rfl (by decide) (by decide) rfl (fun ls hl => ?_)
  refine lv_goto (tgt := 5) hx hb dJ7_fill_53178_17 (by decide) ?_
  refine lv_iload_n hx hb dJ7_fill_53178_5 rfl (lv_at hl 0 rfl) ?_
  refine lv_iload_n hx hb dJ7_fill_53178_6 rfl (lv_at hl 1 rfl) ?_
  refine lv_icmp_ge (tgt := 20) hx hb dJ7_fill_53178_7 (by decide) (fun q => absurd q (by decide)) (fun _ => ?_)
  refine lv_aload_n hx hb dJ7_fill_53178_10 rfl (lv_at hl 2 rfl) ?_
  refine lv_iload_n hx hb dJ7_fill_53178_11 rfl (lv_at hl 0 rfl) ?_
  refine lv_iload_n hx hb dJ7_fill_53178_12 rfl (lv_at hl 3 rfl) ?_
  refine va_iast (D := D) hx hb hK hP hD hS 0 0 rfl rfl (i := 2) (x := x) (by decide) dJ7_fill_53178_13 (fun H locs hP hD hS => ?_)
  have hP : va_P D vwCl [(a0, .inl (cA 0, 8, .inl (upd (upd (upd f 0 x) 1 x) 2 x)))] H := hP
  have hD : va_D A [(a0, .inl (cA 0, 8, .inl (upd (upd (upd f 0 x) 1 x) 2 x)))] := hD
  refine lv_iinc (lv' := [(2, .int 3), (3, .int 8), (0, .ref a0), (1, .int x)]) (v := 3) hx hb dJ7_fill_53178_14 hl (k := 0) rfl (by decide) (by decide) rfl (fun ls hl => ?_)
  refine lv_goto (tgt := 5) hx hb dJ7_fill_53178_17 (by decide) ?_
  refine lv_iload_n hx hb dJ7_fill_53178_5 rfl (lv_at hl 0 rfl) ?_
  refine lv_iload_n hx hb dJ7_fill_53178_6 rfl (lv_at hl 1 rfl) ?_
  refine lv_icmp_ge (tgt := 20) hx hb dJ7_fill_53178_7 (by decide) (fun q => absurd q (by decide)) (fun _ => ?_)
  refine lv_aload_n hx hb dJ7_fill_53178_10 rfl (lv_at hl 2 rfl) ?_
  refine lv_iload_n hx hb dJ7_fill_53178_11 rfl (lv_at hl 0 rfl) ?_
  refine lv_iload_n hx hb dJ7_fill_53178_12 rfl (lv_at hl 3 rfl) ?_
  refine va_iast (D := D) hx hb hK hP hD hS 0 0 rfl rfl (i := 3) (x := x) (by decide) dJ7_fill_53178_13 (fun H locs hP hD hS => ?_)
  have hP : va_P D vwCl [(a0, .inl (cA 0, 8, .inl (upd (upd (upd (upd f 0 x) 1 x) 2 x) 3 x)))] H := hP
  have hD : va_D A [(a0, .inl (cA 0, 8, .inl (upd (upd (upd (upd f 0 x) 1 x) 2 x) 3 x)))] := hD
  refine lv_iinc (lv' := [(2, .int 4), (3, .int 8), (0, .ref a0), (1, .int x)]) (v := 4) hx hb dJ7_fill_53178_14 hl (k := 0) rfl (by decide) (by decide) rfl (fun ls hl => ?_)
  refine lv_goto (tgt := 5) hx hb dJ7_fill_53178_17 (by decide) ?_
  refine lv_iload_n hx hb dJ7_fill_53178_5 rfl (lv_at hl 0 rfl) ?_
  refine lv_iload_n hx hb dJ7_fill_53178_6 rfl (lv_at hl 1 rfl) ?_
  refine lv_icmp_ge (tgt := 20) hx hb dJ7_fill_53178_7 (by decide) (fun q => absurd q (by decide)) (fun _ => ?_)
  refine lv_aload_n hx hb dJ7_fill_53178_10 rfl (lv_at hl 2 rfl) ?_
  refine lv_iload_n hx hb dJ7_fill_53178_11 rfl (lv_at hl 0 rfl) ?_
  refine lv_iload_n hx hb dJ7_fill_53178_12 rfl (lv_at hl 3 rfl) ?_
  refine va_iast (D := D) hx hb hK hP hD hS 0 0 rfl rfl (i := 4) (x := x) (by decide) dJ7_fill_53178_13 (fun H locs hP hD hS => ?_)
  have hP : va_P D vwCl [(a0, .inl (cA 0, 8, .inl (upd (upd (upd (upd (upd f 0 x) 1 x) 2 x) 3 x) 4 x)))] H := hP
  have hD : va_D A [(a0, .inl (cA 0, 8, .inl (upd (upd (upd (upd (upd f 0 x) 1 x) 2 x) 3 x) 4 x)))] := hD
  refine lv_iinc (lv' := [(2, .int 5), (3, .int 8), (0, .ref a0), (1, .int x)]) (v := 5) hx hb dJ7_fill_53178_14 hl (k := 0) rfl (by decide) (by decide) rfl (fun ls hl => ?_)
  refine lv_goto (tgt := 5) hx hb dJ7_fill_53178_17 (by decide) ?_
  refine lv_iload_n hx hb dJ7_fill_53178_5 rfl (lv_at hl 0 rfl) ?_
  refine lv_iload_n hx hb dJ7_fill_53178_6 rfl (lv_at hl 1 rfl) ?_
  refine lv_icmp_ge (tgt := 20) hx hb dJ7_fill_53178_7 (by decide) (fun q => absurd q (by decide)) (fun _ => ?_)
  refine lv_aload_n hx hb dJ7_fill_53178_10 rfl (lv_at hl 2 rfl) ?_
  refine lv_iload_n hx hb dJ7_fill_53178_11 rfl (lv_at hl 0 rfl) ?_
  refine lv_iload_n hx hb dJ7_fill_53178_12 rfl (lv_at hl 3 rfl) ?_
  refine va_iast (D := D) hx hb hK hP hD hS 0 0 rfl rfl (i := 5) (x := x) (by decide) dJ7_fill_53178_13 (fun H locs hP hD hS => ?_)
  have hP : va_P D vwCl [(a0, .inl (cA 0, 8, .inl (upd (upd (upd (upd (upd (upd f 0 x) 1 x) 2 x) 3 x) 4 x) 5 x)))] H := hP
  have hD : va_D A [(a0, .inl (cA 0, 8, .inl (upd (upd (upd (upd (upd (upd f 0 x) 1 x) 2 x) 3 x) 4 x) 5 x)))] := hD
  refine lv_iinc (lv' := [(2, .int 6), (3, .int 8), (0, .ref a0), (1, .int x)]) (v := 6) hx hb dJ7_fill_53178_14 hl (k := 0) rfl (by decide) (by decide) rfl (fun ls hl => ?_)
  refine lv_goto (tgt := 5) hx hb dJ7_fill_53178_17 (by decide) ?_
  refine lv_iload_n hx hb dJ7_fill_53178_5 rfl (lv_at hl 0 rfl) ?_
  refine lv_iload_n hx hb dJ7_fill_53178_6 rfl (lv_at hl 1 rfl) ?_
  refine lv_icmp_ge (tgt := 20) hx hb dJ7_fill_53178_7 (by decide) (fun q => absurd q (by decide)) (fun _ => ?_)
  refine lv_aload_n hx hb dJ7_fill_53178_10 rfl (lv_at hl 2 rfl) ?_
  refine lv_iload_n hx hb dJ7_fill_53178_11 rfl (lv_at hl 0 rfl) ?_
  refine lv_iload_n hx hb dJ7_fill_53178_12 rfl (lv_at hl 3 rfl) ?_
  refine va_iast (D := D) hx hb hK hP hD hS 0 0 rfl rfl (i := 6) (x := x) (by decide) dJ7_fill_53178_13 (fun H locs hP hD hS => ?_)
  have hP : va_P D vwCl [(a0, .inl (cA 0, 8, .inl (upd (upd (upd (upd (upd (upd (upd f 0 x) 1 x) 2 x) 3 x) 4 x) 5 x) 6 x)))] H := hP
  have hD : va_D A [(a0, .inl (cA 0, 8, .inl (upd (upd (upd (upd (upd (upd (upd f 0 x) 1 x) 2 x) 3 x) 4 x) 5 x) 6 x)))] := hD
  refine lv_iinc (lv' := [(2, .int 7), (3, .int 8), (0, .ref a0), (1, .int x)]) (v := 7) hx hb dJ7_fill_53178_14 hl (k := 0) rfl (by decide) (by decide) rfl (fun ls hl => ?_)
  refine lv_goto (tgt := 5) hx hb dJ7_fill_53178_17 (by decide) ?_
  refine lv_iload_n hx hb dJ7_fill_53178_5 rfl (lv_at hl 0 rfl) ?_
  refine lv_iload_n hx hb dJ7_fill_53178_6 rfl (lv_at hl 1 rfl) ?_
  refine lv_icmp_ge (tgt := 20) hx hb dJ7_fill_53178_7 (by decide) (fun q => absurd q (by decide)) (fun _ => ?_)
  refine lv_aload_n hx hb dJ7_fill_53178_10 rfl (lv_at hl 2 rfl) ?_
  refine lv_iload_n hx hb dJ7_fill_53178_11 rfl (lv_at hl 0 rfl) ?_
  refine lv_iload_n hx hb dJ7_fill_53178_12 rfl (lv_at hl 3 rfl) ?_
  refine va_iast (D := D) hx hb hK hP hD hS 0 0 rfl rfl (i := 7) (x := x) (by decide) dJ7_fill_53178_13 (fun H locs hP hD hS => ?_)
  have hP : va_P D vwCl [(a0, .inl (cA 0, 8, .inl (upd (upd (upd (upd (upd (upd (upd (upd f 0 x) 1 x) 2 x) 3 x) 4 x) 5 x) 6 x) 7 x)))] H := hP
  have hD : va_D A [(a0, .inl (cA 0, 8, .inl (upd (upd (upd (upd (upd (upd (upd (upd f 0 x) 1 x) 2 x) 3 x) 4 x) 5 x) 6 x) 7 x)))] := hD
  refine lv_iinc (lv' := [(2, .int 8), (3, .int 8), (0, .ref a0), (1, .int x)]) (v := 8) hx hb dJ7_fill_53178_14 hl (k := 0) rfl (by decide) (by decide) rfl (fun ls hl => ?_)
  refine lv_goto (tgt := 5) hx hb dJ7_fill_53178_17 (by decide) ?_
  refine lv_iload_n hx hb dJ7_fill_53178_5 rfl (lv_at hl 0 rfl) ?_
  refine lv_iload_n hx hb dJ7_fill_53178_6 rfl (lv_at hl 1 rfl) ?_
  refine lv_icmp_ge (tgt := 20) hx hb dJ7_fill_53178_7 (by decide) (fun _ => ?_) (fun q => absurd (by decide) q)
  exact W.vret hx hb hr (fun t ht hW => ⟨⟨(), rfl, trivial, _, ⟨_, rfl⟩, by rw [ht]; exact hP, va_K.moved hW.alike hK, hD⟩, hS.F ht⟩) hS.2.2 dJ7_fill_53178_20
theorem dX7_init_0 : decode cX7_init 0 = .ok (.aload_n 0, 1) := by decide +kernel
theorem dX7_init_1 : decode cX7_init 1 = .ok (.invokespecial 3, 3) := by decide +kernel
theorem dX7_init_4 : decode cX7_init 4 = .ok (.aload_n 0, 1) := by decide +kernel
theorem dX7_init_5 : decode cX7_init 5 = .ok (.bipush 8, 2) := by decide +kernel
theorem dX7_init_7 : decode cX7_init 7 = .ok (.newarray .int, 2) := by decide +kernel
theorem dX7_init_9 : decode cX7_init 9 = .ok (.putfield 9, 3) := by decide +kernel
theorem dX7_init_12 : decode cX7_init 12 = .ok (.aload_n 0, 1) := by decide +kernel
theorem dX7_init_13 : decode cX7_init 13 = .ok (.getfield 9, 3) := by decide +kernel
theorem dX7_init_16 : decode cX7_init 16 = .ok (.iconst 1, 1) := by decide +kernel
theorem dX7_init_17 : decode cX7_init 17 = .ok (.invokestatic 15, 3) := by decide +kernel
theorem dX7_init_20 : decode cX7_init 20 = .ok (.aload_n 0, 1) := by decide +kernel
theorem dX7_init_21 : decode cX7_init 21 = .ok (.bipush 8, 2) := by decide +kernel
theorem dX7_init_23 : decode cX7_init 23 = .ok (.newarray .int, 2) := by decide +kernel
theorem dX7_init_25 : decode cX7_init 25 = .ok (.putfield 21, 3) := by decide +kernel
theorem dX7_init_28 : decode cX7_init 28 = .ok (.aload_n 0, 1) := by decide +kernel
theorem dX7_init_29 : decode cX7_init 29 = .ok (.bipush 8, 2) := by decide +kernel
theorem dX7_init_31 : decode cX7_init 31 = .ok (.newarray .int, 2) := by decide +kernel
theorem dX7_init_33 : decode cX7_init 33 = .ok (.putfield 24, 3) := by decide +kernel
theorem dX7_init_36 : decode cX7_init 36 = .ok (.aload_n 0, 1) := by decide +kernel
theorem dX7_init_37 : decode cX7_init 37 = .ok (.bipush 8, 2) := by decide +kernel
theorem dX7_init_39 : decode cX7_init 39 = .ok (.bipush 8, 2) := by decide +kernel
theorem dX7_init_41 : decode cX7_init 41 = .ok (.multianewarray 27 2, 4) := by decide +kernel
theorem dX7_init_45 : decode cX7_init 45 = .ok (.putfield 29, 3) := by decide +kernel
theorem dX7_init_48 : decode cX7_init 48 = .ok (.aload_n 0, 1) := by decide +kernel
theorem dX7_init_49 : decode cX7_init 49 = .ok (.bipush 10, 2) := by decide +kernel
theorem dX7_init_51 : decode cX7_init 51 = .ok (.putfield 32, 3) := by decide +kernel
theorem dX7_init_54 : decode cX7_init 54 = .ok (.return_, 1) := by decide +kernel
def kB_X7 (cA : Nat → ClassId) (h0 : Nat) (w : va_W) : Prop := ∃ (q7_1 : Nat) (f17 : Nat → Int32) (q23_2 : Nat) (q31_3 : Nat) (q41_4 : Nat) (r41_4 : Nat → Nat), w = [(h0, .inr (7, [.ref q7_1, .ref q23_2, .ref q31_3, .ref q41_4, .int 10, .int 0])), (q7_1, .inl (cA 0, 8, .inl f17)), (q23_2, .inl (cA 0, 8, .inl (fun _ => 0))), (q31_3, .inl (cA 0, 8, .inl (fun _ => 0))), (q41_4, .inl (cA 2, 8, .inr (.inr (.inr (.inr (fun i => if i < 8 then some (r41_4 i) else none)))))), (r41_4 0, .inl (cA 0, 8, .inl (fun _ => 0))), (r41_4 1, .inl (cA 0, 8, .inl (fun _ => 0))), (r41_4 2, .inl (cA 0, 8, .inl (fun _ => 0))), (r41_4 3, .inl (cA 0, 8, .inl (fun _ => 0))), (r41_4 4, .inl (cA 0, 8, .inl (fun _ => 0))), (r41_4 5, .inl (cA 0, 8, .inl (fun _ => 0))), (r41_4 6, .inl (cA 0, 8, .inl (fun _ => 0))), (r41_4 7, .inl (cA 0, 8, .inl (fun _ => 0)))]
set_option maxHeartbeats 8000000 in
set_option maxRecDepth 100000 in
theorem k_X7 (l : Launch) (D : va_G) (cA : Nat → ClassId) (h0 sz : Nat) : Met l yX7_init (am_wsk yX7_init cX7_init 1) { frames := 2, cells := 12, slots := 96, locals := 70 } (kc_Pre D cA [.ref h0] [(h0, .inr (7, [.null, .null, .null, .null, .int 0, .int 0]))] sz) (kc_Post D cA (va_A [(h0, .inr (7, [.null, .null, .null, .null, .int 0, .int 0]))] sz) (kB_X7 cA h0)) 12 96 (va_A [(h0, .inr (7, [.null, .null, .null, .null, .int 0, .int 0]))] sz) := by
  refine Met.ofW (cc := cX7_init) (maxL := 1) (ret := none) (by decide +kernel) rfl ?_
  intro p e s m args below meth c s₁ B hml hv
  obtain ⟨rfl, hsz, hP, hK, hD0, hO⟩ := hv
  have hx := B.exec
  have hb := B.bytes
  have hr := B.returns
  have hts0 := atoms_spec (ws := am_wsk yX7_init cX7_init 1) B.pre
  have hts : ∀ w ∈ am_TC, w.before ([.ref h0] : List Value).toArray s = true := fun w hw => hts0 w (List.mem_cons_of_mem _ hw)
  have hown : s.vm.findClass RX7 = some m.cls := findClass_of_methodNamed B.named
  have hlocks := B.notSynchronized
  have hin : meth.name = "<init>" := (name_of_methodNamed B.named B.method).1
  subst hsz
  have hD := hD0.self (sz := s.heap.size)
  generalize hAe : va_A [(h0, .inr (7, [.null, .null, .null, .null, .int 0, .int 0]))] s.heap.size = A at hD ⊢
  have hA : ∀ q : Nat, s.heap.size ≤ q → A q := fun q h => by rw [← hAe]; exact Or.inr h
  have hS : va_S A s.heap s.heap [] := va_S.rf
  have hP : va_P D vwCl [(h0, .inr (7, [.null, .null, .null, .null, .int 0, .int 0]))] s.heap := hP
  have hl := lv_entry ([.ref h0]) (n := 1) (Nat.le_of_ble_eq_true rfl)
  rw [lg_entry_eq]
  generalize (lg_sl ([.ref h0]) ++ List.replicate (1 - (lg_sl ([.ref h0])).length) Slot.unset).toArray = ls at hl ⊢
  have hl : lv_has ls 1 [(0, .ref h0)] := hl
  refine lv_aload_n hx hb dX7_init_0 rfl (lv_at hl 0 rfl) ?_
  refine W.objInit hx hb hown (hts (.methodLink RX7 3 objectInit) (kc_in 41 rfl)) (hts (.instanceMethod objectInit) (kc_in 2 rfl)) (hts (.code objectInit ⟨#[0xb1]⟩ 1 none) (kc_in 3 rfl)) rfl (by rw [hml]; exact hl.1) rfl dX7_init_1 (Nat.le_of_ble_eq_true rfl) (Nat.le_of_ble_eq_true rfl) ?_
  refine W.eq (g2 := F0 m 4 ls []) rfl ?_
  refine lv_aload_n hx hb dX7_init_4 rfl (lv_at hl 0 rfl) ?_
  refine lv_bipush (v := 8) hx hb dX7_init_5 (by decide) ?_
  refine va_newa (ty := .int) (N' := 8) (a0 := (8, .inl (fun _ => 0))) hx hb (hts (.arrayClass .int) (kc_in 4 rfl)) rfl hK hP hD hS hA (fun c => rfl) (by decide) (by decide) (by decide) (Nat.le_of_ble_eq_true rfl) (Nat.le_of_ble_eq_true rfl) dX7_init_7 (fun q7_1 cB H hK2 hP hD hS => ?_)
  obtain rfl := kc_I hK2
  clear hK2
  have hP : va_P D vwCl [(h0, .inr (7, [.null, .null, .null, .null, .int 0, .int 0])), (q7_1, .inl (cA 0, 8, .inl (fun _ => 0)))] H := hP
  have hD : va_D A [(h0, .inr (7, [.null, .null, .null, .null, .int 0, .int 0])), (q7_1, .inl (cA 0, 8, .inl (fun _ => 0)))] := hD
  refine W.widen (k := 1) (n := 8) (by omega) (by omega) ?_
  refine va_putF (D := D) (ci := 7) (v := .ref q7_1) (ty := .array .int) (C := RX7) (T := TX7) (N := 6) hx hb hts (kc_lay 7 (by decide)) tyX7 tyX7_ok nmX7 hown hK hP hD hS 0 rfl rfl 0 (by decide) (hts (.fieldLink RX7 9 "OrbitsWed$Sky" "rounds" "[I") (kc_in 42 rfl)) (fun _ h9 => h9) rfl hin rfl (by decide +kernel) rfl rfl (Nat.le_of_ble_eq_true rfl) dX7_init_9 (fun H locs hP hD hS => ?_)
  have hP : va_P D vwCl [(h0, .inr (7, [.ref q7_1, .null, .null, .null, .int 0, .int 0])), (q7_1, .inl (cA 0, 8, .inl (fun _ => 0)))] H := hP
  have hD : va_D A [(h0, .inr (7, [.ref q7_1, .null, .null, .null, .int 0, .int 0])), (q7_1, .inl (cA 0, 8, .inl (fun _ => 0)))] := hD
  refine lv_aload_n hx hb dX7_init_12 rfl (lv_at hl 0 rfl) ?_
  refine va_get (D := D) (ci := 7) (C := RX7) (T := TX7) (N := 6) (v := .ref q7_1) hx hb hts (kc_lay 7 (by decide)) hown hK hP 0 rfl rfl 0 (by decide) (hts (.fieldLink RX7 9 "OrbitsWed$Sky" "rounds" "[I") (kc_in 42 rfl)) (fun _ h9 => h9) rfl dX7_init_13 ?_
  refine lv_iconst (v := 1) hx hb dX7_init_16 (by decide) ?_
  refine kc_callS (D := D) (cA := cA) (As := [.ref q7_1, .int 1]) (rest := []) (wr := [(h0, .inr (7, [.ref q7_1, .null, .null, .null, .int 0, .int 0]))]) (wc := [(q7_1, .inl (cA 0, 8, .inl (fun _ => 0)))]) ⟨hx, hb, hml, hown, hts⟩ (k_fill l D cA q7_1 H.size (fun _ => 0) 1) (va_cwS 2 hts (fun w hw => by rcases List.mem_append.mp hw with h | h; · rcases List.mem_cons.mp h with rfl | h; · exact am_TC_good _ (kc_in 48 rfl); · rcases List.mem_cons.mp h with rfl | h; · exact am_TC_good _ (kc_in 49 rfl); · rcases List.mem_cons.mp h with rfl | h; · exact am_TC_good _ (kc_in 50 rfl); · cases h; · exact am_wsk_good (kc_in 51 rfl) w h) rfl rfl rfl (by decide +kernel) ⟨Nat.le_of_ble_eq_true rfl, Nat.le_of_ble_eq_true rfl⟩) rfl hl.1 (Nat.le_of_ble_eq_true rfl) dX7_init_17 ⟨Nat.le_of_ble_eq_true rfl, Nat.le_of_ble_eq_true rfl⟩ hK hO hP hD hS hA [1] [0] rfl rfl rfl (by decide) (by decide) (by decide) (fun w1 H locs hB hP hD hS => ?_)
  obtain ⟨f17, rfl⟩ := hB
  have hP : va_P D vwCl [(h0, .inr (7, [.ref q7_1, .null, .null, .null, .int 0, .int 0])), (q7_1, .inl (cA 0, 8, .inl f17))] H := hP
  have hD : va_D A [(h0, .inr (7, [.ref q7_1, .null, .null, .null, .int 0, .int 0])), (q7_1, .inl (cA 0, 8, .inl f17))] := hD
  have hP := hP.sub (ws' := [(h0, .inr (7, [.ref q7_1, .null, .null, .null, .int 0, .int 0])), (q7_1, .inl (cA 0, 8, .inl f17))]) [0, 1] rfl
  have hD := hD.sub (ws' := [(h0, .inr (7, [.ref q7_1, .null, .null, .null, .int 0, .int 0])), (q7_1, .inl (cA 0, 8, .inl f17))]) [0, 1] (by decide) rfl
  refine lv_aload_n hx hb dX7_init_20 rfl (lv_at hl 0 rfl) ?_
  refine lv_bipush (v := 8) hx hb dX7_init_21 (by decide) ?_
  refine va_newa (ty := .int) (N' := 8) (a0 := (8, .inl (fun _ => 0))) hx hb (hts (.arrayClass .int) (kc_in 4 rfl)) rfl hK hP hD hS hA (fun c => rfl) (by decide) (by decide) (by decide) (Nat.le_of_ble_eq_true rfl) (Nat.le_of_ble_eq_true rfl) dX7_init_23 (fun q23_2 cB H hK2 hP hD hS => ?_)
  obtain rfl := kc_I hK2
  clear hK2
  have hP : va_P D vwCl [(h0, .inr (7, [.ref q7_1, .null, .null, .null, .int 0, .int 0])), (q7_1, .inl (cA 0, 8, .inl f17)), (q23_2, .inl (cA 0, 8, .inl (fun _ => 0)))] H := hP
  have hD : va_D A [(h0, .inr (7, [.ref q7_1, .null, .null, .null, .int 0, .int 0])), (q7_1, .inl (cA 0, 8, .inl f17)), (q23_2, .inl (cA 0, 8, .inl (fun _ => 0)))] := hD
  refine W.widen (k := 2) (n := 16) (by omega) (by omega) ?_
  refine va_putF (D := D) (ci := 7) (v := .ref q23_2) (ty := .array .int) (C := RX7) (T := TX7) (N := 6) hx hb hts (kc_lay 7 (by decide)) tyX7 tyX7_ok nmX7 hown hK hP hD hS 0 rfl rfl 1 (by decide) (hts (.fieldLink RX7 21 "OrbitsWed$Sky" "places" "[I") (kc_in 43 rfl)) (fun _ h9 => h9) rfl hin rfl (by decide +kernel) rfl rfl (Nat.le_of_ble_eq_true rfl) dX7_init_25 (fun H locs hP hD hS => ?_)
  have hP : va_P D vwCl [(h0, .inr (7, [.ref q7_1, .ref q23_2, .null, .null, .int 0, .int 0])), (q7_1, .inl (cA 0, 8, .inl f17)), (q23_2, .inl (cA 0, 8, .inl (fun _ => 0)))] H := hP
  have hD : va_D A [(h0, .inr (7, [.ref q7_1, .ref q23_2, .null, .null, .int 0, .int 0])), (q7_1, .inl (cA 0, 8, .inl f17)), (q23_2, .inl (cA 0, 8, .inl (fun _ => 0)))] := hD
  refine lv_aload_n hx hb dX7_init_28 rfl (lv_at hl 0 rfl) ?_
  refine lv_bipush (v := 8) hx hb dX7_init_29 (by decide) ?_
  refine va_newa (ty := .int) (N' := 8) (a0 := (8, .inl (fun _ => 0))) hx hb (hts (.arrayClass .int) (kc_in 4 rfl)) rfl hK hP hD hS hA (fun c => rfl) (by decide) (by decide) (by decide) (Nat.le_of_ble_eq_true rfl) (Nat.le_of_ble_eq_true rfl) dX7_init_31 (fun q31_3 cB H hK2 hP hD hS => ?_)
  obtain rfl := kc_I hK2
  clear hK2
  have hP : va_P D vwCl [(h0, .inr (7, [.ref q7_1, .ref q23_2, .null, .null, .int 0, .int 0])), (q7_1, .inl (cA 0, 8, .inl f17)), (q23_2, .inl (cA 0, 8, .inl (fun _ => 0))), (q31_3, .inl (cA 0, 8, .inl (fun _ => 0)))] H := hP
  have hD : va_D A [(h0, .inr (7, [.ref q7_1, .ref q23_2, .null, .null, .int 0, .int 0])), (q7_1, .inl (cA 0, 8, .inl f17)), (q23_2, .inl (cA 0, 8, .inl (fun _ => 0))), (q31_3, .inl (cA 0, 8, .inl (fun _ => 0)))] := hD
  refine W.widen (k := 3) (n := 24) (by omega) (by omega) ?_
  refine va_putF (D := D) (ci := 7) (v := .ref q31_3) (ty := .array .int) (C := RX7) (T := TX7) (N := 6) hx hb hts (kc_lay 7 (by decide)) tyX7 tyX7_ok nmX7 hown hK hP hD hS 0 rfl rfl 2 (by decide) (hts (.fieldLink RX7 24 "OrbitsWed$Sky" "weights" "[I") (kc_in 44 rfl)) (fun _ h9 => h9) rfl hin rfl (by decide +kernel) rfl rfl (Nat.le_of_ble_eq_true rfl) dX7_init_33 (fun H locs hP hD hS => ?_)
  have hP : va_P D vwCl [(h0, .inr (7, [.ref q7_1, .ref q23_2, .ref q31_3, .null, .int 0, .int 0])), (q7_1, .inl (cA 0, 8, .inl f17)), (q23_2, .inl (cA 0, 8, .inl (fun _ => 0))), (q31_3, .inl (cA 0, 8, .inl (fun _ => 0)))] H := hP
  have hD : va_D A [(h0, .inr (7, [.ref q7_1, .ref q23_2, .ref q31_3, .null, .int 0, .int 0])), (q7_1, .inl (cA 0, 8, .inl f17)), (q23_2, .inl (cA 0, 8, .inl (fun _ => 0))), (q31_3, .inl (cA 0, 8, .inl (fun _ => 0)))] := hD
  refine lv_aload_n hx hb dX7_init_36 rfl (lv_at hl 0 rfl) ?_
  refine lv_bipush (v := 8) hx hb dX7_init_37 (by decide) ?_
  refine lv_bipush (v := 8) hx hb dX7_init_39 (by decide) ?_
  refine va_mna (X := [(h0, .inr (7, [.ref q7_1, .ref q23_2, .ref q31_3, .null, .int 0, .int 0])), (q7_1, .inl (cA 0, 8, .inl f17)), (q23_2, .inl (cA 0, 8, .inl (fun _ => 0))), (q31_3, .inl (cA 0, 8, .inl (fun _ => 0)))]) (L := []) (f := fun _ => .inl (cA 0, 0, .inl (fun _ => 0))) (ty := .int) (N' := 8) (K' := 8) (z := (8, .inl (fun _ => 0))) hx hb hown (hts (.classLink RX7 27 "[[I") (kc_in 45 rfl)) (kc_AO.use hO.1) (hts (.arrayClass .int) (kc_in 4 rfl)) (hK.2 0 _ rfl).2 hK hP hD hS hA (by decide) (by decide) (by decide) (by decide) (by decide) (by decide) (by decide) rfl rfl (Nat.le_of_ble_eq_true rfl) (Nat.le_of_ble_eq_true rfl) (fun c => arrV_new c 8 _) dX7_init_41 (fun q41_4 r41_4 cB H _ _ hK2 hP hD hS => ?_)
  obtain rfl := kc_AI hK2
  clear hK2
  rw [kc_pl] at hP hD
  have hP : va_P D vwCl [(h0, .inr (7, [.ref q7_1, .ref q23_2, .ref q31_3, .null, .int 0, .int 0])), (q7_1, .inl (cA 0, 8, .inl f17)), (q23_2, .inl (cA 0, 8, .inl (fun _ => 0))), (q31_3, .inl (cA 0, 8, .inl (fun _ => 0))), (q41_4, .inl (cA 2, 8, .inr (.inr (.inr (.inr (fun i => if i < 8 then some (r41_4 i) else none)))))), (r41_4 0, .inl (cA 0, 8, .inl (fun _ => 0))), (r41_4 1, .inl (cA 0, 8, .inl (fun _ => 0))), (r41_4 2, .inl (cA 0, 8, .inl (fun _ => 0))), (r41_4 3, .inl (cA 0, 8, .inl (fun _ => 0))), (r41_4 4, .inl (cA 0, 8, .inl (fun _ => 0))), (r41_4 5, .inl (cA 0, 8, .inl (fun _ => 0))), (r41_4 6, .inl (cA 0, 8, .inl (fun _ => 0))), (r41_4 7, .inl (cA 0, 8, .inl (fun _ => 0)))] H := hP
  have hD : va_D A [(h0, .inr (7, [.ref q7_1, .ref q23_2, .ref q31_3, .null, .int 0, .int 0])), (q7_1, .inl (cA 0, 8, .inl f17)), (q23_2, .inl (cA 0, 8, .inl (fun _ => 0))), (q31_3, .inl (cA 0, 8, .inl (fun _ => 0))), (q41_4, .inl (cA 2, 8, .inr (.inr (.inr (.inr (fun i => if i < 8 then some (r41_4 i) else none)))))), (r41_4 0, .inl (cA 0, 8, .inl (fun _ => 0))), (r41_4 1, .inl (cA 0, 8, .inl (fun _ => 0))), (r41_4 2, .inl (cA 0, 8, .inl (fun _ => 0))), (r41_4 3, .inl (cA 0, 8, .inl (fun _ => 0))), (r41_4 4, .inl (cA 0, 8, .inl (fun _ => 0))), (r41_4 5, .inl (cA 0, 8, .inl (fun _ => 0))), (r41_4 6, .inl (cA 0, 8, .inl (fun _ => 0))), (r41_4 7, .inl (cA 0, 8, .inl (fun _ => 0)))] := hD
  refine W.widen (k := 12) (n := 96) (by omega) (by omega) ?_
  refine va_putF (D := D) (ci := 7) (v := .ref q41_4) (ty := .array (.array .int)) (C := RX7) (T := TX7) (N := 6) hx hb hts (kc_lay 7 (by decide)) tyX7 tyX7_ok nmX7 hown hK hP hD hS 0 rfl rfl 3 (by decide) (hts (.fieldLink RX7 29 "OrbitsWed$Sky" "likes" "[[I") (kc_in 46 rfl)) (fun _ h9 => h9) rfl hin rfl (by decide +kernel) rfl rfl (Nat.le_of_ble_eq_true rfl) dX7_init_45 (fun H locs hP hD hS => ?_)
  have hP : va_P D vwCl [(h0, .inr (7, [.ref q7_1, .ref q23_2, .ref q31_3, .ref q41_4, .int 0, .int 0])), (q7_1, .inl (cA 0, 8, .inl f17)), (q23_2, .inl (cA 0, 8, .inl (fun _ => 0))), (q31_3, .inl (cA 0, 8, .inl (fun _ => 0))), (q41_4, .inl (cA 2, 8, .inr (.inr (.inr (.inr (fun i => if i < 8 then some (r41_4 i) else none)))))), (r41_4 0, .inl (cA 0, 8, .inl (fun _ => 0))), (r41_4 1, .inl (cA 0, 8, .inl (fun _ => 0))), (r41_4 2, .inl (cA 0, 8, .inl (fun _ => 0))), (r41_4 3, .inl (cA 0, 8, .inl (fun _ => 0))), (r41_4 4, .inl (cA 0, 8, .inl (fun _ => 0))), (r41_4 5, .inl (cA 0, 8, .inl (fun _ => 0))), (r41_4 6, .inl (cA 0, 8, .inl (fun _ => 0))), (r41_4 7, .inl (cA 0, 8, .inl (fun _ => 0)))] H := hP
  have hD : va_D A [(h0, .inr (7, [.ref q7_1, .ref q23_2, .ref q31_3, .ref q41_4, .int 0, .int 0])), (q7_1, .inl (cA 0, 8, .inl f17)), (q23_2, .inl (cA 0, 8, .inl (fun _ => 0))), (q31_3, .inl (cA 0, 8, .inl (fun _ => 0))), (q41_4, .inl (cA 2, 8, .inr (.inr (.inr (.inr (fun i => if i < 8 then some (r41_4 i) else none)))))), (r41_4 0, .inl (cA 0, 8, .inl (fun _ => 0))), (r41_4 1, .inl (cA 0, 8, .inl (fun _ => 0))), (r41_4 2, .inl (cA 0, 8, .inl (fun _ => 0))), (r41_4 3, .inl (cA 0, 8, .inl (fun _ => 0))), (r41_4 4, .inl (cA 0, 8, .inl (fun _ => 0))), (r41_4 5, .inl (cA 0, 8, .inl (fun _ => 0))), (r41_4 6, .inl (cA 0, 8, .inl (fun _ => 0))), (r41_4 7, .inl (cA 0, 8, .inl (fun _ => 0)))] := hD
  refine lv_aload_n hx hb dX7_init_48 rfl (lv_at hl 0 rfl) ?_
  refine lv_bipush (v := 10) hx hb dX7_init_49 (by decide) ?_
  refine va_put (D := D) (ci := 7) (v := .int 10) (ty := .int) (C := RX7) (T := TX7) (N := 6) hx hb hts (kc_lay 7 (by decide)) tyX7 tyX7_ok nmX7 hown hK hP hD hS 0 rfl rfl 4 (by decide) (hts (.fieldLink RX7 32 "OrbitsWed$Sky" "near" "I") (kc_in 47 rfl)) (fun _ h9 => h9) rfl rfl rfl rfl (Nat.le_of_ble_eq_true rfl) dX7_init_51 (fun H locs hP hD hS => ?_)
  have hP : va_P D vwCl [(h0, .inr (7, [.ref q7_1, .ref q23_2, .ref q31_3, .ref q41_4, .int 10, .int 0])), (q7_1, .inl (cA 0, 8, .inl f17)), (q23_2, .inl (cA 0, 8, .inl (fun _ => 0))), (q31_3, .inl (cA 0, 8, .inl (fun _ => 0))), (q41_4, .inl (cA 2, 8, .inr (.inr (.inr (.inr (fun i => if i < 8 then some (r41_4 i) else none)))))), (r41_4 0, .inl (cA 0, 8, .inl (fun _ => 0))), (r41_4 1, .inl (cA 0, 8, .inl (fun _ => 0))), (r41_4 2, .inl (cA 0, 8, .inl (fun _ => 0))), (r41_4 3, .inl (cA 0, 8, .inl (fun _ => 0))), (r41_4 4, .inl (cA 0, 8, .inl (fun _ => 0))), (r41_4 5, .inl (cA 0, 8, .inl (fun _ => 0))), (r41_4 6, .inl (cA 0, 8, .inl (fun _ => 0))), (r41_4 7, .inl (cA 0, 8, .inl (fun _ => 0)))] H := hP
  have hD : va_D A [(h0, .inr (7, [.ref q7_1, .ref q23_2, .ref q31_3, .ref q41_4, .int 10, .int 0])), (q7_1, .inl (cA 0, 8, .inl f17)), (q23_2, .inl (cA 0, 8, .inl (fun _ => 0))), (q31_3, .inl (cA 0, 8, .inl (fun _ => 0))), (q41_4, .inl (cA 2, 8, .inr (.inr (.inr (.inr (fun i => if i < 8 then some (r41_4 i) else none)))))), (r41_4 0, .inl (cA 0, 8, .inl (fun _ => 0))), (r41_4 1, .inl (cA 0, 8, .inl (fun _ => 0))), (r41_4 2, .inl (cA 0, 8, .inl (fun _ => 0))), (r41_4 3, .inl (cA 0, 8, .inl (fun _ => 0))), (r41_4 4, .inl (cA 0, 8, .inl (fun _ => 0))), (r41_4 5, .inl (cA 0, 8, .inl (fun _ => 0))), (r41_4 6, .inl (cA 0, 8, .inl (fun _ => 0))), (r41_4 7, .inl (cA 0, 8, .inl (fun _ => 0)))] := hD
  exact W.vret hx hb hr (fun t ht hW => ⟨⟨(), rfl, trivial, _, ⟨q7_1, f17, q23_2, q31_3, q41_4, r41_4, rfl⟩, by rw [ht]; exact hP, va_K.moved hW.alike hK, hD⟩, hS.F ht⟩) hS.2.2 dX7_init_54
theorem dX1_init_0 : decode cX1_init 0 = .ok (.aload_n 0, 1) := by decide +kernel
theorem dX1_init_1 : decode cX1_init 1 = .ok (.invokespecial 3, 3) := by decide +kernel
theorem dX1_init_4 : decode cX1_init 4 = .ok (.aload_n 0, 1) := by decide +kernel
theorem dX1_init_5 : decode cX1_init 5 = .ok (.aload_n 1, 1) := by decide +kernel
theorem dX1_init_6 : decode cX1_init 6 = .ok (.putfield 9, 3) := by decide +kernel
theorem dX1_init_9 : decode cX1_init 9 = .ok (.return_, 1) := by decide +kernel
def kB_X1 (cA : Nat → ClassId) (h0 a1 : Nat) (w : va_W) : Prop := w = [(h0, .inr (1, [.ref a1]))]
set_option maxHeartbeats 8000000 in
set_option maxRecDepth 100000 in
theorem k_X1 (l : Launch) (D : va_G) (cA : Nat → ClassId) (h0 sz a1 : Nat) : Met l yX1_init (am_wsk yX1_init cX1_init 2) { frames := 1, cells := 0, slots := 0, locals := 40 } (kc_Pre D cA [.ref h0, .ref a1] [(h0, .inr (1, [.null]))] sz) (kc_Post D cA (va_A [(h0, .inr (1, [.null]))] sz) (kB_X1 cA h0 a1)) 0 0 (va_A [(h0, .inr (1, [.null]))] sz) := by
  refine Met.ofW (cc := cX1_init) (maxL := 2) (ret := none) (by decide +kernel) rfl ?_
  intro p e s m args below meth c s₁ B hml hv
  obtain ⟨rfl, hsz, hP, hK, hD0, hO⟩ := hv
  have hx := B.exec
  have hb := B.bytes
  have hr := B.returns
  have hts0 := atoms_spec (ws := am_wsk yX1_init cX1_init 2) B.pre
  have hts : ∀ w ∈ am_TC, w.before ([.ref h0, .ref a1] : List Value).toArray s = true := fun w hw => hts0 w (List.mem_cons_of_mem _ hw)
  have hown : s.vm.findClass RX1 = some m.cls := findClass_of_methodNamed B.named
  have hlocks := B.notSynchronized
  have hin : meth.name = "<init>" := (name_of_methodNamed B.named B.method).1
  subst hsz
  have hD := hD0.self (sz := s.heap.size)
  generalize hAe : va_A [(h0, .inr (1, [.null]))] s.heap.size = A at hD ⊢
  have hA : ∀ q : Nat, s.heap.size ≤ q → A q := fun q h => by rw [← hAe]; exact Or.inr h
  have hS : va_S A s.heap s.heap [] := va_S.rf
  have hP : va_P D vwCl [(h0, .inr (1, [.null]))] s.heap := hP
  have hl := lv_entry ([.ref h0, .ref a1]) (n := 2) (Nat.le_of_ble_eq_true rfl)
  rw [lg_entry_eq]
  generalize (lg_sl ([.ref h0, .ref a1]) ++ List.replicate (2 - (lg_sl ([.ref h0, .ref a1])).length) Slot.unset).toArray = ls at hl ⊢
  have hl : lv_has ls 2 [(0, .ref h0), (1, .ref a1)] := hl
  refine lv_aload_n hx hb dX1_init_0 rfl (lv_at hl 0 rfl) ?_
  refine W.objInit hx hb hown (hts (.methodLink RX1 3 objectInit) (kc_in 10 rfl)) (hts (.instanceMethod objectInit) (kc_in 2 rfl)) (hts (.code objectInit ⟨#[0xb1]⟩ 1 none) (kc_in 3 rfl)) rfl (by rw [hml]; exact hl.1) rfl dX1_init_1 (Nat.le_of_ble_eq_true rfl) (Nat.le_of_ble_eq_true rfl) ?_
  refine W.eq (g2 := F0 m 4 ls []) rfl ?_
  refine lv_aload_n hx hb dX1_init_4 rfl (lv_at hl 0 rfl) ?_
  refine lv_aload_n hx hb dX1_init_5 rfl (lv_at hl 1 rfl) ?_
  refine va_putF (D := D) (ci := 1) (v := .ref a1) (ty := .object "OrbitsWed$Sky") (C := RX1) (T := TX1) (N := 1) hx hb hts (kc_lay 1 (by decide)) tyX1 tyX1_ok nmX1 hown hK hP hD hS 0 rfl rfl 0 (by decide) (hts (.fieldLink RX1 9 "OrbitsWed$Clock" "sky" "LOrbitsWed$Sky;") (kc_in 11 rfl)) (fun _ h9 => h9) rfl hin rfl (by decide +kernel) rfl rfl (Nat.le_of_ble_eq_true rfl) dX1_init_6 (fun H locs hP hD hS => ?_)
  have hP : va_P D vwCl [(h0, .inr (1, [.ref a1]))] H := hP
  have hD : va_D A [(h0, .inr (1, [.ref a1]))] := hD
  exact W.vret hx hb hr (fun t ht hW => ⟨⟨(), rfl, trivial, _, rfl, by rw [ht]; exact hP, va_K.moved hW.alike hK, hD⟩, hS.F ht⟩) hS.2.2 dX1_init_9
theorem dX8_init_0 : decode cX8_init 0 = .ok (.aload_n 0, 1) := by decide +kernel
theorem dX8_init_1 : decode cX8_init 1 = .ok (.invokespecial 3, 3) := by decide +kernel
theorem dX8_init_4 : decode cX8_init 4 = .ok (.aload_n 0, 1) := by decide +kernel
theorem dX8_init_5 : decode cX8_init 5 = .ok (.bipush 120, 2) := by decide +kernel
theorem dX8_init_7 : decode cX8_init 7 = .ok (.newarray .int, 2) := by decide +kernel
theorem dX8_init_9 : decode cX8_init 9 = .ok (.putfield 11, 3) := by decide +kernel
theorem dX8_init_12 : decode cX8_init 12 = .ok (.aload_n 0, 1) := by decide +kernel
theorem dX8_init_13 : decode cX8_init 13 = .ok (.bipush 121, 2) := by decide +kernel
theorem dX8_init_15 : decode cX8_init 15 = .ok (.newarray .int, 2) := by decide +kernel
theorem dX8_init_17 : decode cX8_init 17 = .ok (.putfield 17, 3) := by decide +kernel
theorem dX8_init_20 : decode cX8_init 20 = .ok (.aload_n 0, 1) := by decide +kernel
theorem dX8_init_21 : decode cX8_init 21 = .ok (.bipush 121, 2) := by decide +kernel
theorem dX8_init_23 : decode cX8_init 23 = .ok (.newarray .int, 2) := by decide +kernel
theorem dX8_init_25 : decode cX8_init 25 = .ok (.putfield 20, 3) := by decide +kernel
theorem dX8_init_28 : decode cX8_init 28 = .ok (.return_, 1) := by decide +kernel
def kB_X8 (cA : Nat → ClassId) (h0 : Nat) (w : va_W) : Prop := ∃ (q7_1 : Nat) (q15_2 : Nat) (q23_3 : Nat), w = [(h0, .inr (8, [.ref q7_1, .int 0, .int 0, .ref q15_2, .ref q23_3, .int 0])), (q7_1, .inl (cA 0, 120, .inl (fun _ => 0))), (q15_2, .inl (cA 0, 121, .inl (fun _ => 0))), (q23_3, .inl (cA 0, 121, .inl (fun _ => 0)))]
set_option maxHeartbeats 8000000 in
set_option maxRecDepth 100000 in
theorem k_X8 (l : Launch) (D : va_G) (cA : Nat → ClassId) (h0 sz : Nat) : Met l yX8_init (am_wsk yX8_init cX8_init 1) { frames := 1, cells := 3, slots := 362, locals := 40 } (kc_Pre D cA [.ref h0] [(h0, .inr (8, [.null, .int 0, .int 0, .null, .null, .int 0]))] sz) (kc_Post D cA (va_A [(h0, .inr (8, [.null, .int 0, .int 0, .null, .null, .int 0]))] sz) (kB_X8 cA h0)) 3 362 (va_A [(h0, .inr (8, [.null, .int 0, .int 0, .null, .null, .int 0]))] sz) := by
  refine Met.ofW (cc := cX8_init) (maxL := 1) (ret := none) (by decide +kernel) rfl ?_
  intro p e s m args below meth c s₁ B hml hv
  obtain ⟨rfl, hsz, hP, hK, hD0, hO⟩ := hv
  have hx := B.exec
  have hb := B.bytes
  have hr := B.returns
  have hts0 := atoms_spec (ws := am_wsk yX8_init cX8_init 1) B.pre
  have hts : ∀ w ∈ am_TC, w.before ([.ref h0] : List Value).toArray s = true := fun w hw => hts0 w (List.mem_cons_of_mem _ hw)
  have hown : s.vm.findClass RX8 = some m.cls := findClass_of_methodNamed B.named
  have hlocks := B.notSynchronized
  have hin : meth.name = "<init>" := (name_of_methodNamed B.named B.method).1
  subst hsz
  have hD := hD0.self (sz := s.heap.size)
  generalize hAe : va_A [(h0, .inr (8, [.null, .int 0, .int 0, .null, .null, .int 0]))] s.heap.size = A at hD ⊢
  have hA : ∀ q : Nat, s.heap.size ≤ q → A q := fun q h => by rw [← hAe]; exact Or.inr h
  have hS : va_S A s.heap s.heap [] := va_S.rf
  have hP : va_P D vwCl [(h0, .inr (8, [.null, .int 0, .int 0, .null, .null, .int 0]))] s.heap := hP
  have hl := lv_entry ([.ref h0]) (n := 1) (Nat.le_of_ble_eq_true rfl)
  rw [lg_entry_eq]
  generalize (lg_sl ([.ref h0]) ++ List.replicate (1 - (lg_sl ([.ref h0])).length) Slot.unset).toArray = ls at hl ⊢
  have hl : lv_has ls 1 [(0, .ref h0)] := hl
  refine lv_aload_n hx hb dX8_init_0 rfl (lv_at hl 0 rfl) ?_
  refine W.objInit hx hb hown (hts (.methodLink RX8 3 objectInit) (kc_in 53 rfl)) (hts (.instanceMethod objectInit) (kc_in 2 rfl)) (hts (.code objectInit ⟨#[0xb1]⟩ 1 none) (kc_in 3 rfl)) rfl (by rw [hml]; exact hl.1) rfl dX8_init_1 (Nat.le_of_ble_eq_true rfl) (Nat.le_of_ble_eq_true rfl) ?_
  refine W.eq (g2 := F0 m 4 ls []) rfl ?_
  refine lv_aload_n hx hb dX8_init_4 rfl (lv_at hl 0 rfl) ?_
  refine lv_bipush (v := 120) hx hb dX8_init_5 (by decide) ?_
  refine va_newa (ty := .int) (N' := 120) (a0 := (120, .inl (fun _ => 0))) hx hb (hts (.arrayClass .int) (kc_in 4 rfl)) rfl hK hP hD hS hA (fun c => rfl) (by decide) (by decide) (by decide) (Nat.le_of_ble_eq_true rfl) (Nat.le_of_ble_eq_true rfl) dX8_init_7 (fun q7_1 cB H hK2 hP hD hS => ?_)
  obtain rfl := kc_I hK2
  clear hK2
  have hP : va_P D vwCl [(h0, .inr (8, [.null, .int 0, .int 0, .null, .null, .int 0])), (q7_1, .inl (cA 0, 120, .inl (fun _ => 0)))] H := hP
  have hD : va_D A [(h0, .inr (8, [.null, .int 0, .int 0, .null, .null, .int 0])), (q7_1, .inl (cA 0, 120, .inl (fun _ => 0)))] := hD
  refine W.widen (k := 1) (n := 120) (by omega) (by omega) ?_
  refine va_putF (D := D) (ci := 8) (v := .ref q7_1) (ty := .array .int) (C := RX8) (T := TX8) (N := 6) hx hb hts (kc_lay 8 (by decide)) tyX8 tyX8_ok nmX8 hown hK hP hD hS 0 rfl rfl 0 (by decide) (hts (.fieldLink RX8 11 "OrbitsWed$Tape" "bytes" "[I") (kc_in 54 rfl)) (fun _ h9 => h9) rfl hin rfl (by decide +kernel) rfl rfl (Nat.le_of_ble_eq_true rfl) dX8_init_9 (fun H locs hP hD hS => ?_)
  have hP : va_P D vwCl [(h0, .inr (8, [.ref q7_1, .int 0, .int 0, .null, .null, .int 0])), (q7_1, .inl (cA 0, 120, .inl (fun _ => 0)))] H := hP
  have hD : va_D A [(h0, .inr (8, [.ref q7_1, .int 0, .int 0, .null, .null, .int 0])), (q7_1, .inl (cA 0, 120, .inl (fun _ => 0)))] := hD
  refine lv_aload_n hx hb dX8_init_12 rfl (lv_at hl 0 rfl) ?_
  refine lv_bipush (v := 121) hx hb dX8_init_13 (by decide) ?_
  refine va_newa (ty := .int) (N' := 121) (a0 := (121, .inl (fun _ => 0))) hx hb (hts (.arrayClass .int) (kc_in 4 rfl)) rfl hK hP hD hS hA (fun c => rfl) (by decide) (by decide) (by decide) (Nat.le_of_ble_eq_true rfl) (Nat.le_of_ble_eq_true rfl) dX8_init_15 (fun q15_2 cB H hK2 hP hD hS => ?_)
  obtain rfl := kc_I hK2
  clear hK2
  have hP : va_P D vwCl [(h0, .inr (8, [.ref q7_1, .int 0, .int 0, .null, .null, .int 0])), (q7_1, .inl (cA 0, 120, .inl (fun _ => 0))), (q15_2, .inl (cA 0, 121, .inl (fun _ => 0)))] H := hP
  have hD : va_D A [(h0, .inr (8, [.ref q7_1, .int 0, .int 0, .null, .null, .int 0])), (q7_1, .inl (cA 0, 120, .inl (fun _ => 0))), (q15_2, .inl (cA 0, 121, .inl (fun _ => 0)))] := hD
  refine W.widen (k := 2) (n := 241) (by omega) (by omega) ?_
  refine va_putF (D := D) (ci := 8) (v := .ref q15_2) (ty := .array .int) (C := RX8) (T := TX8) (N := 6) hx hb hts (kc_lay 8 (by decide)) tyX8 tyX8_ok nmX8 hown hK hP hD hS 0 rfl rfl 3 (by decide) (hts (.fieldLink RX8 17 "OrbitsWed$Tape" "steps" "[I") (kc_in 55 rfl)) (fun _ h9 => h9) rfl hin rfl (by decide +kernel) rfl rfl (Nat.le_of_ble_eq_true rfl) dX8_init_17 (fun H locs hP hD hS => ?_)
  have hP : va_P D vwCl [(h0, .inr (8, [.ref q7_1, .int 0, .int 0, .ref q15_2, .null, .int 0])), (q7_1, .inl (cA 0, 120, .inl (fun _ => 0))), (q15_2, .inl (cA 0, 121, .inl (fun _ => 0)))] H := hP
  have hD : va_D A [(h0, .inr (8, [.ref q7_1, .int 0, .int 0, .ref q15_2, .null, .int 0])), (q7_1, .inl (cA 0, 120, .inl (fun _ => 0))), (q15_2, .inl (cA 0, 121, .inl (fun _ => 0)))] := hD
  refine lv_aload_n hx hb dX8_init_20 rfl (lv_at hl 0 rfl) ?_
  refine lv_bipush (v := 121) hx hb dX8_init_21 (by decide) ?_
  refine va_newa (ty := .int) (N' := 121) (a0 := (121, .inl (fun _ => 0))) hx hb (hts (.arrayClass .int) (kc_in 4 rfl)) rfl hK hP hD hS hA (fun c => rfl) (by decide) (by decide) (by decide) (Nat.le_of_ble_eq_true rfl) (Nat.le_of_ble_eq_true rfl) dX8_init_23 (fun q23_3 cB H hK2 hP hD hS => ?_)
  obtain rfl := kc_I hK2
  clear hK2
  have hP : va_P D vwCl [(h0, .inr (8, [.ref q7_1, .int 0, .int 0, .ref q15_2, .null, .int 0])), (q7_1, .inl (cA 0, 120, .inl (fun _ => 0))), (q15_2, .inl (cA 0, 121, .inl (fun _ => 0))), (q23_3, .inl (cA 0, 121, .inl (fun _ => 0)))] H := hP
  have hD : va_D A [(h0, .inr (8, [.ref q7_1, .int 0, .int 0, .ref q15_2, .null, .int 0])), (q7_1, .inl (cA 0, 120, .inl (fun _ => 0))), (q15_2, .inl (cA 0, 121, .inl (fun _ => 0))), (q23_3, .inl (cA 0, 121, .inl (fun _ => 0)))] := hD
  refine W.widen (k := 3) (n := 362) (by omega) (by omega) ?_
  refine va_putF (D := D) (ci := 8) (v := .ref q23_3) (ty := .array .int) (C := RX8) (T := TX8) (N := 6) hx hb hts (kc_lay 8 (by decide)) tyX8 tyX8_ok nmX8 hown hK hP hD hS 0 rfl rfl 4 (by decide) (hts (.fieldLink RX8 20 "OrbitsWed$Tape" "values" "[I") (kc_in 56 rfl)) (fun _ h9 => h9) rfl hin rfl (by decide +kernel) rfl rfl (Nat.le_of_ble_eq_true rfl) dX8_init_25 (fun H locs hP hD hS => ?_)
  have hP : va_P D vwCl [(h0, .inr (8, [.ref q7_1, .int 0, .int 0, .ref q15_2, .ref q23_3, .int 0])), (q7_1, .inl (cA 0, 120, .inl (fun _ => 0))), (q15_2, .inl (cA 0, 121, .inl (fun _ => 0))), (q23_3, .inl (cA 0, 121, .inl (fun _ => 0)))] H := hP
  have hD : va_D A [(h0, .inr (8, [.ref q7_1, .int 0, .int 0, .ref q15_2, .ref q23_3, .int 0])), (q7_1, .inl (cA 0, 120, .inl (fun _ => 0))), (q15_2, .inl (cA 0, 121, .inl (fun _ => 0))), (q23_3, .inl (cA 0, 121, .inl (fun _ => 0)))] := hD
  exact W.vret hx hb hr (fun t ht hW => ⟨⟨(), rfl, trivial, _, ⟨q7_1, q15_2, q23_3, rfl⟩, by rw [ht]; exact hP, va_K.moved hW.alike hK, hD⟩, hS.F ht⟩) hS.2.2 dX8_init_28
theorem dX4_init_0 : decode cX4_init 0 = .ok (.aload_n 0, 1) := by decide +kernel
theorem dX4_init_1 : decode cX4_init 1 = .ok (.invokespecial 3, 3) := by decide +kernel
theorem dX4_init_4 : decode cX4_init 4 = .ok (.aload_n 0, 1) := by decide +kernel
theorem dX4_init_5 : decode cX4_init 5 = .ok (.bipush 121, 2) := by decide +kernel
theorem dX4_init_7 : decode cX4_init 7 = .ok (.newarray .int, 2) := by decide +kernel
theorem dX4_init_9 : decode cX4_init 9 = .ok (.putfield 11, 3) := by decide +kernel
theorem dX4_init_12 : decode cX4_init 12 = .ok (.aload_n 0, 1) := by decide +kernel
theorem dX4_init_13 : decode cX4_init 13 = .ok (.bipush 121, 2) := by decide +kernel
theorem dX4_init_15 : decode cX4_init 15 = .ok (.newarray .int, 2) := by decide +kernel
theorem dX4_init_17 : decode cX4_init 17 = .ok (.putfield 15, 3) := by decide +kernel
theorem dX4_init_20 : decode cX4_init 20 = .ok (.aload_n 0, 1) := by decide +kernel
theorem dX4_init_21 : decode cX4_init 21 = .ok (.bipush 6, 2) := by decide +kernel
theorem dX4_init_23 : decode cX4_init 23 = .ok (.newarray .int, 2) := by decide +kernel
theorem dX4_init_25 : decode cX4_init 25 = .ok (.putfield 18, 3) := by decide +kernel
theorem dX4_init_28 : decode cX4_init 28 = .ok (.aload_n 0, 1) := by decide +kernel
theorem dX4_init_29 : decode cX4_init 29 = .ok (.bipush 121, 2) := by decide +kernel
theorem dX4_init_31 : decode cX4_init 31 = .ok (.newarray .int, 2) := by decide +kernel
theorem dX4_init_33 : decode cX4_init 33 = .ok (.putfield 21, 3) := by decide +kernel
theorem dX4_init_36 : decode cX4_init 36 = .ok (.return_, 1) := by decide +kernel
def kB_X4 (cA : Nat → ClassId) (h0 : Nat) (w : va_W) : Prop := ∃ (q7_1 : Nat) (q15_2 : Nat) (q23_3 : Nat) (q31_4 : Nat), w = [(h0, .inr (4, [.ref q7_1, .ref q15_2, .int 0, .ref q23_3, .ref q31_4])), (q7_1, .inl (cA 0, 121, .inl (fun _ => 0))), (q15_2, .inl (cA 0, 121, .inl (fun _ => 0))), (q23_3, .inl (cA 0, 6, .inl (fun _ => 0))), (q31_4, .inl (cA 0, 121, .inl (fun _ => 0)))]
set_option maxHeartbeats 8000000 in
set_option maxRecDepth 100000 in
theorem k_X4 (l : Launch) (D : va_G) (cA : Nat → ClassId) (h0 sz : Nat) : Met l yX4_init (am_wsk yX4_init cX4_init 1) { frames := 1, cells := 4, slots := 369, locals := 40 } (kc_Pre D cA [.ref h0] [(h0, .inr (4, [.null, .null, .int 0, .null, .null]))] sz) (kc_Post D cA (va_A [(h0, .inr (4, [.null, .null, .int 0, .null, .null]))] sz) (kB_X4 cA h0)) 4 369 (va_A [(h0, .inr (4, [.null, .null, .int 0, .null, .null]))] sz) := by
  refine Met.ofW (cc := cX4_init) (maxL := 1) (ret := none) (by decide +kernel) rfl ?_
  intro p e s m args below meth c s₁ B hml hv
  obtain ⟨rfl, hsz, hP, hK, hD0, hO⟩ := hv
  have hx := B.exec
  have hb := B.bytes
  have hr := B.returns
  have hts0 := atoms_spec (ws := am_wsk yX4_init cX4_init 1) B.pre
  have hts : ∀ w ∈ am_TC, w.before ([.ref h0] : List Value).toArray s = true := fun w hw => hts0 w (List.mem_cons_of_mem _ hw)
  have hown : s.vm.findClass RX4 = some m.cls := findClass_of_methodNamed B.named
  have hlocks := B.notSynchronized
  have hin : meth.name = "<init>" := (name_of_methodNamed B.named B.method).1
  subst hsz
  have hD := hD0.self (sz := s.heap.size)
  generalize hAe : va_A [(h0, .inr (4, [.null, .null, .int 0, .null, .null]))] s.heap.size = A at hD ⊢
  have hA : ∀ q : Nat, s.heap.size ≤ q → A q := fun q h => by rw [← hAe]; exact Or.inr h
  have hS : va_S A s.heap s.heap [] := va_S.rf
  have hP : va_P D vwCl [(h0, .inr (4, [.null, .null, .int 0, .null, .null]))] s.heap := hP
  have hl := lv_entry ([.ref h0]) (n := 1) (Nat.le_of_ble_eq_true rfl)
  rw [lg_entry_eq]
  generalize (lg_sl ([.ref h0]) ++ List.replicate (1 - (lg_sl ([.ref h0])).length) Slot.unset).toArray = ls at hl ⊢
  have hl : lv_has ls 1 [(0, .ref h0)] := hl
  refine lv_aload_n hx hb dX4_init_0 rfl (lv_at hl 0 rfl) ?_
  refine W.objInit hx hb hown (hts (.methodLink RX4 3 objectInit) (kc_in 23 rfl)) (hts (.instanceMethod objectInit) (kc_in 2 rfl)) (hts (.code objectInit ⟨#[0xb1]⟩ 1 none) (kc_in 3 rfl)) rfl (by rw [hml]; exact hl.1) rfl dX4_init_1 (Nat.le_of_ble_eq_true rfl) (Nat.le_of_ble_eq_true rfl) ?_
  refine W.eq (g2 := F0 m 4 ls []) rfl ?_
  refine lv_aload_n hx hb dX4_init_4 rfl (lv_at hl 0 rfl) ?_
  refine lv_bipush (v := 121) hx hb dX4_init_5 (by decide) ?_
  refine va_newa (ty := .int) (N' := 121) (a0 := (121, .inl (fun _ => 0))) hx hb (hts (.arrayClass .int) (kc_in 4 rfl)) rfl hK hP hD hS hA (fun c => rfl) (by decide) (by decide) (by decide) (Nat.le_of_ble_eq_true rfl) (Nat.le_of_ble_eq_true rfl) dX4_init_7 (fun q7_1 cB H hK2 hP hD hS => ?_)
  obtain rfl := kc_I hK2
  clear hK2
  have hP : va_P D vwCl [(h0, .inr (4, [.null, .null, .int 0, .null, .null])), (q7_1, .inl (cA 0, 121, .inl (fun _ => 0)))] H := hP
  have hD : va_D A [(h0, .inr (4, [.null, .null, .int 0, .null, .null])), (q7_1, .inl (cA 0, 121, .inl (fun _ => 0)))] := hD
  refine W.widen (k := 1) (n := 121) (by omega) (by omega) ?_
  refine va_putF (D := D) (ci := 4) (v := .ref q7_1) (ty := .array .int) (C := RX4) (T := TX4) (N := 5) hx hb hts (kc_lay 4 (by decide)) tyX4 tyX4_ok nmX4 hown hK hP hD hS 0 rfl rfl 0 (by decide) (hts (.fieldLink RX4 11 "OrbitsWed$Law" "steps" "[I") (kc_in 24 rfl)) (fun _ h9 => h9) rfl hin rfl (by decide +kernel) rfl rfl (Nat.le_of_ble_eq_true rfl) dX4_init_9 (fun H locs hP hD hS => ?_)
  have hP : va_P D vwCl [(h0, .inr (4, [.ref q7_1, .null, .int 0, .null, .null])), (q7_1, .inl (cA 0, 121, .inl (fun _ => 0)))] H := hP
  have hD : va_D A [(h0, .inr (4, [.ref q7_1, .null, .int 0, .null, .null])), (q7_1, .inl (cA 0, 121, .inl (fun _ => 0)))] := hD
  refine lv_aload_n hx hb dX4_init_12 rfl (lv_at hl 0 rfl) ?_
  refine lv_bipush (v := 121) hx hb dX4_init_13 (by decide) ?_
  refine va_newa (ty := .int) (N' := 121) (a0 := (121, .inl (fun _ => 0))) hx hb (hts (.arrayClass .int) (kc_in 4 rfl)) rfl hK hP hD hS hA (fun c => rfl) (by decide) (by decide) (by decide) (Nat.le_of_ble_eq_true rfl) (Nat.le_of_ble_eq_true rfl) dX4_init_15 (fun q15_2 cB H hK2 hP hD hS => ?_)
  obtain rfl := kc_I hK2
  clear hK2
  have hP : va_P D vwCl [(h0, .inr (4, [.ref q7_1, .null, .int 0, .null, .null])), (q7_1, .inl (cA 0, 121, .inl (fun _ => 0))), (q15_2, .inl (cA 0, 121, .inl (fun _ => 0)))] H := hP
  have hD : va_D A [(h0, .inr (4, [.ref q7_1, .null, .int 0, .null, .null])), (q7_1, .inl (cA 0, 121, .inl (fun _ => 0))), (q15_2, .inl (cA 0, 121, .inl (fun _ => 0)))] := hD
  refine W.widen (k := 2) (n := 242) (by omega) (by omega) ?_
  refine va_putF (D := D) (ci := 4) (v := .ref q15_2) (ty := .array .int) (C := RX4) (T := TX4) (N := 5) hx hb hts (kc_lay 4 (by decide)) tyX4 tyX4_ok nmX4 hown hK hP hD hS 0 rfl rfl 1 (by decide) (hts (.fieldLink RX4 15 "OrbitsWed$Law" "values" "[I") (kc_in 25 rfl)) (fun _ h9 => h9) rfl hin rfl (by decide +kernel) rfl rfl (Nat.le_of_ble_eq_true rfl) dX4_init_17 (fun H locs hP hD hS => ?_)
  have hP : va_P D vwCl [(h0, .inr (4, [.ref q7_1, .ref q15_2, .int 0, .null, .null])), (q7_1, .inl (cA 0, 121, .inl (fun _ => 0))), (q15_2, .inl (cA 0, 121, .inl (fun _ => 0)))] H := hP
  have hD : va_D A [(h0, .inr (4, [.ref q7_1, .ref q15_2, .int 0, .null, .null])), (q7_1, .inl (cA 0, 121, .inl (fun _ => 0))), (q15_2, .inl (cA 0, 121, .inl (fun _ => 0)))] := hD
  refine lv_aload_n hx hb dX4_init_20 rfl (lv_at hl 0 rfl) ?_
  refine lv_bipush (v := 6) hx hb dX4_init_21 (by decide) ?_
  refine va_newa (ty := .int) (N' := 6) (a0 := (6, .inl (fun _ => 0))) hx hb (hts (.arrayClass .int) (kc_in 4 rfl)) rfl hK hP hD hS hA (fun c => rfl) (by decide) (by decide) (by decide) (Nat.le_of_ble_eq_true rfl) (Nat.le_of_ble_eq_true rfl) dX4_init_23 (fun q23_3 cB H hK2 hP hD hS => ?_)
  obtain rfl := kc_I hK2
  clear hK2
  have hP : va_P D vwCl [(h0, .inr (4, [.ref q7_1, .ref q15_2, .int 0, .null, .null])), (q7_1, .inl (cA 0, 121, .inl (fun _ => 0))), (q15_2, .inl (cA 0, 121, .inl (fun _ => 0))), (q23_3, .inl (cA 0, 6, .inl (fun _ => 0)))] H := hP
  have hD : va_D A [(h0, .inr (4, [.ref q7_1, .ref q15_2, .int 0, .null, .null])), (q7_1, .inl (cA 0, 121, .inl (fun _ => 0))), (q15_2, .inl (cA 0, 121, .inl (fun _ => 0))), (q23_3, .inl (cA 0, 6, .inl (fun _ => 0)))] := hD
  refine W.widen (k := 3) (n := 248) (by omega) (by omega) ?_
  refine va_putF (D := D) (ci := 4) (v := .ref q23_3) (ty := .array .int) (C := RX4) (T := TX4) (N := 5) hx hb hts (kc_lay 4 (by decide)) tyX4 tyX4_ok nmX4 hown hK hP hD hS 0 rfl rfl 3 (by decide) (hts (.fieldLink RX4 18 "OrbitsWed$Law" "named" "[I") (kc_in 26 rfl)) (fun _ h9 => h9) rfl hin rfl (by decide +kernel) rfl rfl (Nat.le_of_ble_eq_true rfl) dX4_init_25 (fun H locs hP hD hS => ?_)
  have hP : va_P D vwCl [(h0, .inr (4, [.ref q7_1, .ref q15_2, .int 0, .ref q23_3, .null])), (q7_1, .inl (cA 0, 121, .inl (fun _ => 0))), (q15_2, .inl (cA 0, 121, .inl (fun _ => 0))), (q23_3, .inl (cA 0, 6, .inl (fun _ => 0)))] H := hP
  have hD : va_D A [(h0, .inr (4, [.ref q7_1, .ref q15_2, .int 0, .ref q23_3, .null])), (q7_1, .inl (cA 0, 121, .inl (fun _ => 0))), (q15_2, .inl (cA 0, 121, .inl (fun _ => 0))), (q23_3, .inl (cA 0, 6, .inl (fun _ => 0)))] := hD
  refine lv_aload_n hx hb dX4_init_28 rfl (lv_at hl 0 rfl) ?_
  refine lv_bipush (v := 121) hx hb dX4_init_29 (by decide) ?_
  refine va_newa (ty := .int) (N' := 121) (a0 := (121, .inl (fun _ => 0))) hx hb (hts (.arrayClass .int) (kc_in 4 rfl)) rfl hK hP hD hS hA (fun c => rfl) (by decide) (by decide) (by decide) (Nat.le_of_ble_eq_true rfl) (Nat.le_of_ble_eq_true rfl) dX4_init_31 (fun q31_4 cB H hK2 hP hD hS => ?_)
  obtain rfl := kc_I hK2
  clear hK2
  have hP : va_P D vwCl [(h0, .inr (4, [.ref q7_1, .ref q15_2, .int 0, .ref q23_3, .null])), (q7_1, .inl (cA 0, 121, .inl (fun _ => 0))), (q15_2, .inl (cA 0, 121, .inl (fun _ => 0))), (q23_3, .inl (cA 0, 6, .inl (fun _ => 0))), (q31_4, .inl (cA 0, 121, .inl (fun _ => 0)))] H := hP
  have hD : va_D A [(h0, .inr (4, [.ref q7_1, .ref q15_2, .int 0, .ref q23_3, .null])), (q7_1, .inl (cA 0, 121, .inl (fun _ => 0))), (q15_2, .inl (cA 0, 121, .inl (fun _ => 0))), (q23_3, .inl (cA 0, 6, .inl (fun _ => 0))), (q31_4, .inl (cA 0, 121, .inl (fun _ => 0)))] := hD
  refine W.widen (k := 4) (n := 369) (by omega) (by omega) ?_
  refine va_putF (D := D) (ci := 4) (v := .ref q31_4) (ty := .array .int) (C := RX4) (T := TX4) (N := 5) hx hb hts (kc_lay 4 (by decide)) tyX4 tyX4_ok nmX4 hown hK hP hD hS 0 rfl rfl 4 (by decide) (hts (.fieldLink RX4 21 "OrbitsWed$Law" "stack" "[I") (kc_in 27 rfl)) (fun _ h9 => h9) rfl hin rfl (by decide +kernel) rfl rfl (Nat.le_of_ble_eq_true rfl) dX4_init_33 (fun H locs hP hD hS => ?_)
  have hP : va_P D vwCl [(h0, .inr (4, [.ref q7_1, .ref q15_2, .int 0, .ref q23_3, .ref q31_4])), (q7_1, .inl (cA 0, 121, .inl (fun _ => 0))), (q15_2, .inl (cA 0, 121, .inl (fun _ => 0))), (q23_3, .inl (cA 0, 6, .inl (fun _ => 0))), (q31_4, .inl (cA 0, 121, .inl (fun _ => 0)))] H := hP
  have hD : va_D A [(h0, .inr (4, [.ref q7_1, .ref q15_2, .int 0, .ref q23_3, .ref q31_4])), (q7_1, .inl (cA 0, 121, .inl (fun _ => 0))), (q15_2, .inl (cA 0, 121, .inl (fun _ => 0))), (q23_3, .inl (cA 0, 6, .inl (fun _ => 0))), (q31_4, .inl (cA 0, 121, .inl (fun _ => 0)))] := hD
  exact W.vret hx hb hr (fun t ht hW => ⟨⟨(), rfl, trivial, _, ⟨q7_1, q15_2, q23_3, q31_4, rfl⟩, by rw [ht]; exact hP, va_K.moved hW.alike hK, hD⟩, hS.F ht⟩) hS.2.2 dX4_init_36
theorem dX9_init_0 : decode cX9_init 0 = .ok (.aload_n 0, 1) := by decide +kernel
theorem dX9_init_1 : decode cX9_init 1 = .ok (.invokespecial 3, 3) := by decide +kernel
theorem dX9_init_4 : decode cX9_init 4 = .ok (.aload_n 0, 1) := by decide +kernel
theorem dX9_init_5 : decode cX9_init 5 = .ok (.aload_n 1, 1) := by decide +kernel
theorem dX9_init_6 : decode cX9_init 6 = .ok (.putfield 9, 3) := by decide +kernel
theorem dX9_init_9 : decode cX9_init 9 = .ok (.aload_n 0, 1) := by decide +kernel
theorem dX9_init_10 : decode cX9_init 10 = .ok (.aload_n 2, 1) := by decide +kernel
theorem dX9_init_11 : decode cX9_init 11 = .ok (.putfield 15, 3) := by decide +kernel
theorem dX9_init_14 : decode cX9_init 14 = .ok (.aload_n 0, 1) := by decide +kernel
theorem dX9_init_15 : decode cX9_init 15 = .ok (.bipush 8, 2) := by decide +kernel
theorem dX9_init_17 : decode cX9_init 17 = .ok (.newarray .int, 2) := by decide +kernel
theorem dX9_init_19 : decode cX9_init 19 = .ok (.putfield 19, 3) := by decide +kernel
theorem dX9_init_22 : decode cX9_init 22 = .ok (.aload_n 0, 1) := by decide +kernel
theorem dX9_init_23 : decode cX9_init 23 = .ok (.bipush 8, 2) := by decide +kernel
theorem dX9_init_25 : decode cX9_init 25 = .ok (.newarray .int, 2) := by decide +kernel
theorem dX9_init_27 : decode cX9_init 27 = .ok (.putfield 23, 3) := by decide +kernel
theorem dX9_init_30 : decode cX9_init 30 = .ok (.aload_n 0, 1) := by decide +kernel
theorem dX9_init_31 : decode cX9_init 31 = .ok (.bipush 8, 2) := by decide +kernel
theorem dX9_init_33 : decode cX9_init 33 = .ok (.newarray .int, 2) := by decide +kernel
theorem dX9_init_35 : decode cX9_init 35 = .ok (.putfield 26, 3) := by decide +kernel
theorem dX9_init_38 : decode cX9_init 38 = .ok (.aload_n 0, 1) := by decide +kernel
theorem dX9_init_39 : decode cX9_init 39 = .ok (.bipush 8, 2) := by decide +kernel
theorem dX9_init_41 : decode cX9_init 41 = .ok (.newarray .int, 2) := by decide +kernel
theorem dX9_init_43 : decode cX9_init 43 = .ok (.putfield 29, 3) := by decide +kernel
theorem dX9_init_46 : decode cX9_init 46 = .ok (.return_, 1) := by decide +kernel
def kB_X9 (cA : Nat → ClassId) (h0 a1 a2 : Nat) (w : va_W) : Prop := ∃ (q17_1 : Nat) (q25_2 : Nat) (q33_3 : Nat) (q41_4 : Nat), w = [(h0, .inr (9, [.ref a1, .ref a2, .ref q17_1, .ref q25_2, .ref q33_3, .ref q41_4, .int 0, .int 0])), (q17_1, .inl (cA 0, 8, .inl (fun _ => 0))), (q25_2, .inl (cA 0, 8, .inl (fun _ => 0))), (q33_3, .inl (cA 0, 8, .inl (fun _ => 0))), (q41_4, .inl (cA 0, 8, .inl (fun _ => 0)))]
set_option maxHeartbeats 8000000 in
set_option maxRecDepth 100000 in
theorem k_X9 (l : Launch) (D : va_G) (cA : Nat → ClassId) (h0 sz a1 a2 : Nat) : Met l yX9_init (am_wsk yX9_init cX9_init 3) { frames := 1, cells := 4, slots := 32, locals := 40 } (kc_Pre D cA [.ref h0, .ref a1, .ref a2] [(h0, .inr (9, [.null, .null, .null, .null, .null, .null, .int 0, .int 0]))] sz) (kc_Post D cA (va_A [(h0, .inr (9, [.null, .null, .null, .null, .null, .null, .int 0, .int 0]))] sz) (kB_X9 cA h0 a1 a2)) 4 32 (va_A [(h0, .inr (9, [.null, .null, .null, .null, .null, .null, .int 0, .int 0]))] sz) := by
  refine Met.ofW (cc := cX9_init) (maxL := 3) (ret := none) (by decide +kernel) rfl ?_
  intro p e s m args below meth c s₁ B hml hv
  obtain ⟨rfl, hsz, hP, hK, hD0, hO⟩ := hv
  have hx := B.exec
  have hb := B.bytes
  have hr := B.returns
  have hts0 := atoms_spec (ws := am_wsk yX9_init cX9_init 3) B.pre
  have hts : ∀ w ∈ am_TC, w.before ([.ref h0, .ref a1, .ref a2] : List Value).toArray s = true := fun w hw => hts0 w (List.mem_cons_of_mem _ hw)
  have hown : s.vm.findClass RX9 = some m.cls := findClass_of_methodNamed B.named
  have hlocks := B.notSynchronized
  have hin : meth.name = "<init>" := (name_of_methodNamed B.named B.method).1
  subst hsz
  have hD := hD0.self (sz := s.heap.size)
  generalize hAe : va_A [(h0, .inr (9, [.null, .null, .null, .null, .null, .null, .int 0, .int 0]))] s.heap.size = A at hD ⊢
  have hA : ∀ q : Nat, s.heap.size ≤ q → A q := fun q h => by rw [← hAe]; exact Or.inr h
  have hS : va_S A s.heap s.heap [] := va_S.rf
  have hP : va_P D vwCl [(h0, .inr (9, [.null, .null, .null, .null, .null, .null, .int 0, .int 0]))] s.heap := hP
  have hl := lv_entry ([.ref h0, .ref a1, .ref a2]) (n := 3) (Nat.le_of_ble_eq_true rfl)
  rw [lg_entry_eq]
  generalize (lg_sl ([.ref h0, .ref a1, .ref a2]) ++ List.replicate (3 - (lg_sl ([.ref h0, .ref a1, .ref a2])).length) Slot.unset).toArray = ls at hl ⊢
  have hl : lv_has ls 3 [(0, .ref h0), (1, .ref a1), (2, .ref a2)] := hl
  refine lv_aload_n hx hb dX9_init_0 rfl (lv_at hl 0 rfl) ?_
  refine W.objInit hx hb hown (hts (.methodLink RX9 3 objectInit) (kc_in 58 rfl)) (hts (.instanceMethod objectInit) (kc_in 2 rfl)) (hts (.code objectInit ⟨#[0xb1]⟩ 1 none) (kc_in 3 rfl)) rfl (by rw [hml]; exact hl.1) rfl dX9_init_1 (Nat.le_of_ble_eq_true rfl) (Nat.le_of_ble_eq_true rfl) ?_
  refine W.eq (g2 := F0 m 4 ls []) rfl ?_
  refine lv_aload_n hx hb dX9_init_4 rfl (lv_at hl 0 rfl) ?_
  refine lv_aload_n hx hb dX9_init_5 rfl (lv_at hl 1 rfl) ?_
  refine va_putF (D := D) (ci := 9) (v := .ref a1) (ty := .object "OrbitsWed$Sky") (C := RX9) (T := TX9) (N := 8) hx hb hts (kc_lay 9 (by decide)) tyX9 tyX9_ok nmX9 hown hK hP hD hS 0 rfl rfl 0 (by decide) (hts (.fieldLink RX9 9 "OrbitsWed$Walk" "sky" "LOrbitsWed$Sky;") (kc_in 59 rfl)) (fun _ h9 => h9) rfl hin rfl (by decide +kernel) rfl rfl (Nat.le_of_ble_eq_true rfl) dX9_init_6 (fun H locs hP hD hS => ?_)
  have hP : va_P D vwCl [(h0, .inr (9, [.ref a1, .null, .null, .null, .null, .null, .int 0, .int 0]))] H := hP
  have hD : va_D A [(h0, .inr (9, [.ref a1, .null, .null, .null, .null, .null, .int 0, .int 0]))] := hD
  refine lv_aload_n hx hb dX9_init_9 rfl (lv_at hl 0 rfl) ?_
  refine lv_aload_n hx hb dX9_init_10 rfl (lv_at hl 2 rfl) ?_
  refine va_putF (D := D) (ci := 9) (v := .ref a2) (ty := .object "OrbitsWed$Law") (C := RX9) (T := TX9) (N := 8) hx hb hts (kc_lay 9 (by decide)) tyX9 tyX9_ok nmX9 hown hK hP hD hS 0 rfl rfl 1 (by decide) (hts (.fieldLink RX9 15 "OrbitsWed$Walk" "law" "LOrbitsWed$Law;") (kc_in 60 rfl)) (fun _ h9 => h9) rfl hin rfl (by decide +kernel) rfl rfl (Nat.le_of_ble_eq_true rfl) dX9_init_11 (fun H locs hP hD hS => ?_)
  have hP : va_P D vwCl [(h0, .inr (9, [.ref a1, .ref a2, .null, .null, .null, .null, .int 0, .int 0]))] H := hP
  have hD : va_D A [(h0, .inr (9, [.ref a1, .ref a2, .null, .null, .null, .null, .int 0, .int 0]))] := hD
  refine lv_aload_n hx hb dX9_init_14 rfl (lv_at hl 0 rfl) ?_
  refine lv_bipush (v := 8) hx hb dX9_init_15 (by decide) ?_
  refine va_newa (ty := .int) (N' := 8) (a0 := (8, .inl (fun _ => 0))) hx hb (hts (.arrayClass .int) (kc_in 4 rfl)) rfl hK hP hD hS hA (fun c => rfl) (by decide) (by decide) (by decide) (Nat.le_of_ble_eq_true rfl) (Nat.le_of_ble_eq_true rfl) dX9_init_17 (fun q17_1 cB H hK2 hP hD hS => ?_)
  obtain rfl := kc_I hK2
  clear hK2
  have hP : va_P D vwCl [(h0, .inr (9, [.ref a1, .ref a2, .null, .null, .null, .null, .int 0, .int 0])), (q17_1, .inl (cA 0, 8, .inl (fun _ => 0)))] H := hP
  have hD : va_D A [(h0, .inr (9, [.ref a1, .ref a2, .null, .null, .null, .null, .int 0, .int 0])), (q17_1, .inl (cA 0, 8, .inl (fun _ => 0)))] := hD
  refine W.widen (k := 1) (n := 8) (by omega) (by omega) ?_
  refine va_putF (D := D) (ci := 9) (v := .ref q17_1) (ty := .array .int) (C := RX9) (T := TX9) (N := 8) hx hb hts (kc_lay 9 (by decide)) tyX9 tyX9_ok nmX9 hown hK hP hD hS 0 rfl rfl 2 (by decide) (hts (.fieldLink RX9 19 "OrbitsWed$Walk" "places" "[I") (kc_in 61 rfl)) (fun _ h9 => h9) rfl hin rfl (by decide +kernel) rfl rfl (Nat.le_of_ble_eq_true rfl) dX9_init_19 (fun H locs hP hD hS => ?_)
  have hP : va_P D vwCl [(h0, .inr (9, [.ref a1, .ref a2, .ref q17_1, .null, .null, .null, .int 0, .int 0])), (q17_1, .inl (cA 0, 8, .inl (fun _ => 0)))] H := hP
  have hD : va_D A [(h0, .inr (9, [.ref a1, .ref a2, .ref q17_1, .null, .null, .null, .int 0, .int 0])), (q17_1, .inl (cA 0, 8, .inl (fun _ => 0)))] := hD
  refine lv_aload_n hx hb dX9_init_22 rfl (lv_at hl 0 rfl) ?_
  refine lv_bipush (v := 8) hx hb dX9_init_23 (by decide) ?_
  refine va_newa (ty := .int) (N' := 8) (a0 := (8, .inl (fun _ => 0))) hx hb (hts (.arrayClass .int) (kc_in 4 rfl)) rfl hK hP hD hS hA (fun c => rfl) (by decide) (by decide) (by decide) (Nat.le_of_ble_eq_true rfl) (Nat.le_of_ble_eq_true rfl) dX9_init_25 (fun q25_2 cB H hK2 hP hD hS => ?_)
  obtain rfl := kc_I hK2
  clear hK2
  have hP : va_P D vwCl [(h0, .inr (9, [.ref a1, .ref a2, .ref q17_1, .null, .null, .null, .int 0, .int 0])), (q17_1, .inl (cA 0, 8, .inl (fun _ => 0))), (q25_2, .inl (cA 0, 8, .inl (fun _ => 0)))] H := hP
  have hD : va_D A [(h0, .inr (9, [.ref a1, .ref a2, .ref q17_1, .null, .null, .null, .int 0, .int 0])), (q17_1, .inl (cA 0, 8, .inl (fun _ => 0))), (q25_2, .inl (cA 0, 8, .inl (fun _ => 0)))] := hD
  refine W.widen (k := 2) (n := 16) (by omega) (by omega) ?_
  refine va_putF (D := D) (ci := 9) (v := .ref q25_2) (ty := .array .int) (C := RX9) (T := TX9) (N := 8) hx hb hts (kc_lay 9 (by decide)) tyX9 tyX9_ok nmX9 hown hK hP hD hS 0 rfl rfl 3 (by decide) (hts (.fieldLink RX9 23 "OrbitsWed$Walk" "degrees" "[I") (kc_in 62 rfl)) (fun _ h9 => h9) rfl hin rfl (by decide +kernel) rfl rfl (Nat.le_of_ble_eq_true rfl) dX9_init_27 (fun H locs hP hD hS => ?_)
  have hP : va_P D vwCl [(h0, .inr (9, [.ref a1, .ref a2, .ref q17_1, .ref q25_2, .null, .null, .int 0, .int 0])), (q17_1, .inl (cA 0, 8, .inl (fun _ => 0))), (q25_2, .inl (cA 0, 8, .inl (fun _ => 0)))] H := hP
  have hD : va_D A [(h0, .inr (9, [.ref a1, .ref a2, .ref q17_1, .ref q25_2, .null, .null, .int 0, .int 0])), (q17_1, .inl (cA 0, 8, .inl (fun _ => 0))), (q25_2, .inl (cA 0, 8, .inl (fun _ => 0)))] := hD
  refine lv_aload_n hx hb dX9_init_30 rfl (lv_at hl 0 rfl) ?_
  refine lv_bipush (v := 8) hx hb dX9_init_31 (by decide) ?_
  refine va_newa (ty := .int) (N' := 8) (a0 := (8, .inl (fun _ => 0))) hx hb (hts (.arrayClass .int) (kc_in 4 rfl)) rfl hK hP hD hS hA (fun c => rfl) (by decide) (by decide) (by decide) (Nat.le_of_ble_eq_true rfl) (Nat.le_of_ble_eq_true rfl) dX9_init_33 (fun q33_3 cB H hK2 hP hD hS => ?_)
  obtain rfl := kc_I hK2
  clear hK2
  have hP : va_P D vwCl [(h0, .inr (9, [.ref a1, .ref a2, .ref q17_1, .ref q25_2, .null, .null, .int 0, .int 0])), (q17_1, .inl (cA 0, 8, .inl (fun _ => 0))), (q25_2, .inl (cA 0, 8, .inl (fun _ => 0))), (q33_3, .inl (cA 0, 8, .inl (fun _ => 0)))] H := hP
  have hD : va_D A [(h0, .inr (9, [.ref a1, .ref a2, .ref q17_1, .ref q25_2, .null, .null, .int 0, .int 0])), (q17_1, .inl (cA 0, 8, .inl (fun _ => 0))), (q25_2, .inl (cA 0, 8, .inl (fun _ => 0))), (q33_3, .inl (cA 0, 8, .inl (fun _ => 0)))] := hD
  refine W.widen (k := 3) (n := 24) (by omega) (by omega) ?_
  refine va_putF (D := D) (ci := 9) (v := .ref q33_3) (ty := .array .int) (C := RX9) (T := TX9) (N := 8) hx hb hts (kc_lay 9 (by decide)) tyX9 tyX9_ok nmX9 hown hK hP hD hS 0 rfl rfl 4 (by decide) (hts (.fieldLink RX9 26 "OrbitsWed$Walk" "sums" "[I") (kc_in 63 rfl)) (fun _ h9 => h9) rfl hin rfl (by decide +kernel) rfl rfl (Nat.le_of_ble_eq_true rfl) dX9_init_35 (fun H locs hP hD hS => ?_)
  have hP : va_P D vwCl [(h0, .inr (9, [.ref a1, .ref a2, .ref q17_1, .ref q25_2, .ref q33_3, .null, .int 0, .int 0])), (q17_1, .inl (cA 0, 8, .inl (fun _ => 0))), (q25_2, .inl (cA 0, 8, .inl (fun _ => 0))), (q33_3, .inl (cA 0, 8, .inl (fun _ => 0)))] H := hP
  have hD : va_D A [(h0, .inr (9, [.ref a1, .ref a2, .ref q17_1, .ref q25_2, .ref q33_3, .null, .int 0, .int 0])), (q17_1, .inl (cA 0, 8, .inl (fun _ => 0))), (q25_2, .inl (cA 0, 8, .inl (fun _ => 0))), (q33_3, .inl (cA 0, 8, .inl (fun _ => 0)))] := hD
  refine lv_aload_n hx hb dX9_init_38 rfl (lv_at hl 0 rfl) ?_
  refine lv_bipush (v := 8) hx hb dX9_init_39 (by decide) ?_
  refine va_newa (ty := .int) (N' := 8) (a0 := (8, .inl (fun _ => 0))) hx hb (hts (.arrayClass .int) (kc_in 4 rfl)) rfl hK hP hD hS hA (fun c => rfl) (by decide) (by decide) (by decide) (Nat.le_of_ble_eq_true rfl) (Nat.le_of_ble_eq_true rfl) dX9_init_41 (fun q41_4 cB H hK2 hP hD hS => ?_)
  obtain rfl := kc_I hK2
  clear hK2
  have hP : va_P D vwCl [(h0, .inr (9, [.ref a1, .ref a2, .ref q17_1, .ref q25_2, .ref q33_3, .null, .int 0, .int 0])), (q17_1, .inl (cA 0, 8, .inl (fun _ => 0))), (q25_2, .inl (cA 0, 8, .inl (fun _ => 0))), (q33_3, .inl (cA 0, 8, .inl (fun _ => 0))), (q41_4, .inl (cA 0, 8, .inl (fun _ => 0)))] H := hP
  have hD : va_D A [(h0, .inr (9, [.ref a1, .ref a2, .ref q17_1, .ref q25_2, .ref q33_3, .null, .int 0, .int 0])), (q17_1, .inl (cA 0, 8, .inl (fun _ => 0))), (q25_2, .inl (cA 0, 8, .inl (fun _ => 0))), (q33_3, .inl (cA 0, 8, .inl (fun _ => 0))), (q41_4, .inl (cA 0, 8, .inl (fun _ => 0)))] := hD
  refine W.widen (k := 4) (n := 32) (by omega) (by omega) ?_
  refine va_putF (D := D) (ci := 9) (v := .ref q41_4) (ty := .array .int) (C := RX9) (T := TX9) (N := 8) hx hb hts (kc_lay 9 (by decide)) tyX9 tyX9_ok nmX9 hown hK hP hD hS 0 rfl rfl 5 (by decide) (hts (.fieldLink RX9 29 "OrbitsWed$Walk" "metBits" "[I") (kc_in 64 rfl)) (fun _ h9 => h9) rfl hin rfl (by decide +kernel) rfl rfl (Nat.le_of_ble_eq_true rfl) dX9_init_43 (fun H locs hP hD hS => ?_)
  have hP : va_P D vwCl [(h0, .inr (9, [.ref a1, .ref a2, .ref q17_1, .ref q25_2, .ref q33_3, .ref q41_4, .int 0, .int 0])), (q17_1, .inl (cA 0, 8, .inl (fun _ => 0))), (q25_2, .inl (cA 0, 8, .inl (fun _ => 0))), (q33_3, .inl (cA 0, 8, .inl (fun _ => 0))), (q41_4, .inl (cA 0, 8, .inl (fun _ => 0)))] H := hP
  have hD : va_D A [(h0, .inr (9, [.ref a1, .ref a2, .ref q17_1, .ref q25_2, .ref q33_3, .ref q41_4, .int 0, .int 0])), (q17_1, .inl (cA 0, 8, .inl (fun _ => 0))), (q25_2, .inl (cA 0, 8, .inl (fun _ => 0))), (q33_3, .inl (cA 0, 8, .inl (fun _ => 0))), (q41_4, .inl (cA 0, 8, .inl (fun _ => 0)))] := hD
  exact W.vret hx hb hr (fun t ht hW => ⟨⟨(), rfl, trivial, _, ⟨q17_1, q25_2, q33_3, q41_4, rfl⟩, by rw [ht]; exact hP, va_K.moved hW.alike hK, hD⟩, hS.F ht⟩) hS.2.2 dX9_init_46
theorem dX3_init_0 : decode cX3_init 0 = .ok (.aload_n 0, 1) := by decide +kernel
theorem dX3_init_1 : decode cX3_init 1 = .ok (.invokespecial 3, 3) := by decide +kernel
theorem dX3_init_4 : decode cX3_init 4 = .ok (.aload_n 0, 1) := by decide +kernel
theorem dX3_init_5 : decode cX3_init 5 = .ok (.aload_n 1, 1) := by decide +kernel
theorem dX3_init_6 : decode cX3_init 6 = .ok (.putfield 9, 3) := by decide +kernel
theorem dX3_init_9 : decode cX3_init 9 = .ok (.aload_n 0, 1) := by decide +kernel
theorem dX3_init_10 : decode cX3_init 10 = .ok (.aload_n 2, 1) := by decide +kernel
theorem dX3_init_11 : decode cX3_init 11 = .ok (.putfield 15, 3) := by decide +kernel
theorem dX3_init_14 : decode cX3_init 14 = .ok (.aload_n 0, 1) := by decide +kernel
theorem dX3_init_15 : decode cX3_init 15 = .ok (.sipush 301, 3) := by decide +kernel
theorem dX3_init_18 : decode cX3_init 18 = .ok (.newarray .long, 2) := by decide +kernel
theorem dX3_init_20 : decode cX3_init 20 = .ok (.putfield 19, 3) := by decide +kernel
theorem dX3_init_23 : decode cX3_init 23 = .ok (.return_, 1) := by decide +kernel
def kB_X3 (cA : Nat → ClassId) (h0 a1 a2 : Nat) (w : va_W) : Prop := ∃ (q18_1 : Nat), w = [(h0, .inr (3, [.ref a1, .ref a2, .ref q18_1])), (q18_1, .inl (cA 1, 301, .inr (.inl (fun _ => 0))))]
set_option maxHeartbeats 8000000 in
set_option maxRecDepth 100000 in
theorem k_X3 (l : Launch) (D : va_G) (cA : Nat → ClassId) (h0 sz a1 a2 : Nat) : Met l yX3_init (am_wsk yX3_init cX3_init 3) { frames := 1, cells := 1, slots := 301, locals := 40 } (kc_Pre D cA [.ref h0, .ref a1, .ref a2] [(h0, .inr (3, [.null, .null, .null]))] sz) (kc_Post D cA (va_A [(h0, .inr (3, [.null, .null, .null]))] sz) (kB_X3 cA h0 a1 a2)) 1 301 (va_A [(h0, .inr (3, [.null, .null, .null]))] sz) := by
  refine Met.ofW (cc := cX3_init) (maxL := 3) (ret := none) (by decide +kernel) rfl ?_
  intro p e s m args below meth c s₁ B hml hv
  obtain ⟨rfl, hsz, hP, hK, hD0, hO⟩ := hv
  have hx := B.exec
  have hb := B.bytes
  have hr := B.returns
  have hts0 := atoms_spec (ws := am_wsk yX3_init cX3_init 3) B.pre
  have hts : ∀ w ∈ am_TC, w.before ([.ref h0, .ref a1, .ref a2] : List Value).toArray s = true := fun w hw => hts0 w (List.mem_cons_of_mem _ hw)
  have hown : s.vm.findClass RX3 = some m.cls := findClass_of_methodNamed B.named
  have hlocks := B.notSynchronized
  have hin : meth.name = "<init>" := (name_of_methodNamed B.named B.method).1
  subst hsz
  have hD := hD0.self (sz := s.heap.size)
  generalize hAe : va_A [(h0, .inr (3, [.null, .null, .null]))] s.heap.size = A at hD ⊢
  have hA : ∀ q : Nat, s.heap.size ≤ q → A q := fun q h => by rw [← hAe]; exact Or.inr h
  have hS : va_S A s.heap s.heap [] := va_S.rf
  have hP : va_P D vwCl [(h0, .inr (3, [.null, .null, .null]))] s.heap := hP
  have hl := lv_entry ([.ref h0, .ref a1, .ref a2]) (n := 3) (Nat.le_of_ble_eq_true rfl)
  rw [lg_entry_eq]
  generalize (lg_sl ([.ref h0, .ref a1, .ref a2]) ++ List.replicate (3 - (lg_sl ([.ref h0, .ref a1, .ref a2])).length) Slot.unset).toArray = ls at hl ⊢
  have hl : lv_has ls 3 [(0, .ref h0), (1, .ref a1), (2, .ref a2)] := hl
  refine lv_aload_n hx hb dX3_init_0 rfl (lv_at hl 0 rfl) ?_
  refine W.objInit hx hb hown (hts (.methodLink RX3 3 objectInit) (kc_in 17 rfl)) (hts (.instanceMethod objectInit) (kc_in 2 rfl)) (hts (.code objectInit ⟨#[0xb1]⟩ 1 none) (kc_in 3 rfl)) rfl (by rw [hml]; exact hl.1) rfl dX3_init_1 (Nat.le_of_ble_eq_true rfl) (Nat.le_of_ble_eq_true rfl) ?_
  refine W.eq (g2 := F0 m 4 ls []) rfl ?_
  refine lv_aload_n hx hb dX3_init_4 rfl (lv_at hl 0 rfl) ?_
  refine lv_aload_n hx hb dX3_init_5 rfl (lv_at hl 1 rfl) ?_
  refine va_putF (D := D) (ci := 3) (v := .ref a1) (ty := .object "OrbitsWed$Sky") (C := RX3) (T := TX3) (N := 3) hx hb hts (kc_lay 3 (by decide)) tyX3 tyX3_ok nmX3 hown hK hP hD hS 0 rfl rfl 0 (by decide) (hts (.fieldLink RX3 9 "OrbitsWed$Foresight" "sky" "LOrbitsWed$Sky;") (kc_in 18 rfl)) (fun _ h9 => h9) rfl hin rfl (by decide +kernel) rfl rfl (Nat.le_of_ble_eq_true rfl) dX3_init_6 (fun H locs hP hD hS => ?_)
  have hP : va_P D vwCl [(h0, .inr (3, [.ref a1, .null, .null]))] H := hP
  have hD : va_D A [(h0, .inr (3, [.ref a1, .null, .null]))] := hD
  refine lv_aload_n hx hb dX3_init_9 rfl (lv_at hl 0 rfl) ?_
  refine lv_aload_n hx hb dX3_init_10 rfl (lv_at hl 2 rfl) ?_
  refine va_putF (D := D) (ci := 3) (v := .ref a2) (ty := .object "OrbitsWed$Walk") (C := RX3) (T := TX3) (N := 3) hx hb hts (kc_lay 3 (by decide)) tyX3 tyX3_ok nmX3 hown hK hP hD hS 0 rfl rfl 1 (by decide) (hts (.fieldLink RX3 15 "OrbitsWed$Foresight" "walk" "LOrbitsWed$Walk;") (kc_in 19 rfl)) (fun _ h9 => h9) rfl hin rfl (by decide +kernel) rfl rfl (Nat.le_of_ble_eq_true rfl) dX3_init_11 (fun H locs hP hD hS => ?_)
  have hP : va_P D vwCl [(h0, .inr (3, [.ref a1, .ref a2, .null]))] H := hP
  have hD : va_D A [(h0, .inr (3, [.ref a1, .ref a2, .null]))] := hD
  refine lv_aload_n hx hb dX3_init_14 rfl (lv_at hl 0 rfl) ?_
  refine lv_sipush (v := 301) hx hb dX3_init_15 (by decide) ?_
  refine va_newa (ty := .long) (N' := 301) (a0 := (301, .inr (.inl (fun _ => 0)))) hx hb (hts (.arrayClass .long) (kc_in 20 rfl)) rfl hK hP hD hS hA (fun c => rfl) (by decide) (by decide) (by decide) (Nat.le_of_ble_eq_true rfl) (Nat.le_of_ble_eq_true rfl) dX3_init_18 (fun q18_1 cB H hK2 hP hD hS => ?_)
  obtain rfl := kc_L hK2
  clear hK2
  have hP : va_P D vwCl [(h0, .inr (3, [.ref a1, .ref a2, .null])), (q18_1, .inl (cA 1, 301, .inr (.inl (fun _ => 0))))] H := hP
  have hD : va_D A [(h0, .inr (3, [.ref a1, .ref a2, .null])), (q18_1, .inl (cA 1, 301, .inr (.inl (fun _ => 0))))] := hD
  refine W.widen (k := 1) (n := 301) (by omega) (by omega) ?_
  refine va_putF (D := D) (ci := 3) (v := .ref q18_1) (ty := .array .long) (C := RX3) (T := TX3) (N := 3) hx hb hts (kc_lay 3 (by decide)) tyX3 tyX3_ok nmX3 hown hK hP hD hS 0 rfl rfl 2 (by decide) (hts (.fieldLink RX3 19 "OrbitsWed$Foresight" "seen" "[J") (kc_in 21 rfl)) (fun _ h9 => h9) rfl hin rfl (by decide +kernel) rfl rfl (Nat.le_of_ble_eq_true rfl) dX3_init_20 (fun H locs hP hD hS => ?_)
  have hP : va_P D vwCl [(h0, .inr (3, [.ref a1, .ref a2, .ref q18_1])), (q18_1, .inl (cA 1, 301, .inr (.inl (fun _ => 0))))] H := hP
  have hD : va_D A [(h0, .inr (3, [.ref a1, .ref a2, .ref q18_1])), (q18_1, .inl (cA 1, 301, .inr (.inl (fun _ => 0))))] := hD
  exact W.vret hx hb hr (fun t ht hW => ⟨⟨(), rfl, trivial, _, ⟨q18_1, rfl⟩, by rw [ht]; exact hP, va_K.moved hW.alike hK, hD⟩, hS.F ht⟩) hS.2.2 dX3_init_23
theorem dX2_init_0 : decode cX2_init 0 = .ok (.aload_n 0, 1) := by decide +kernel
theorem dX2_init_1 : decode cX2_init 1 = .ok (.invokespecial 3, 3) := by decide +kernel
theorem dX2_init_4 : decode cX2_init 4 = .ok (.aload_n 0, 1) := by decide +kernel
theorem dX2_init_5 : decode cX2_init 5 = .ok (.aload_n 1, 1) := by decide +kernel
theorem dX2_init_6 : decode cX2_init 6 = .ok (.putfield 9, 3) := by decide +kernel
theorem dX2_init_9 : decode cX2_init 9 = .ok (.aload_n 0, 1) := by decide +kernel
theorem dX2_init_10 : decode cX2_init 10 = .ok (.bipush 8, 2) := by decide +kernel
theorem dX2_init_12 : decode cX2_init 12 = .ok (.newarray .int, 2) := by decide +kernel
theorem dX2_init_14 : decode cX2_init 14 = .ok (.putfield 15, 3) := by decide +kernel
theorem dX2_init_17 : decode cX2_init 17 = .ok (.return_, 1) := by decide +kernel
def kB_X2 (cA : Nat → ClassId) (h0 a1 : Nat) (w : va_W) : Prop := ∃ (q12_1 : Nat), w = [(h0, .inr (2, [.ref a1, .int 0, .int 0, .int 0, .int 0, .int 0, .ref q12_1, .int 0, .int 0, .int 0, .int 0, .int 0])), (q12_1, .inl (cA 0, 8, .inl (fun _ => 0)))]
set_option maxHeartbeats 8000000 in
set_option maxRecDepth 100000 in
theorem k_X2 (l : Launch) (D : va_G) (cA : Nat → ClassId) (h0 sz a1 : Nat) : Met l yX2_init (am_wsk yX2_init cX2_init 2) { frames := 1, cells := 1, slots := 8, locals := 40 } (kc_Pre D cA [.ref h0, .ref a1] [(h0, .inr (2, [.null, .int 0, .int 0, .int 0, .int 0, .int 0, .null, .int 0, .int 0, .int 0, .int 0, .int 0]))] sz) (kc_Post D cA (va_A [(h0, .inr (2, [.null, .int 0, .int 0, .int 0, .int 0, .int 0, .null, .int 0, .int 0, .int 0, .int 0, .int 0]))] sz) (kB_X2 cA h0 a1)) 1 8 (va_A [(h0, .inr (2, [.null, .int 0, .int 0, .int 0, .int 0, .int 0, .null, .int 0, .int 0, .int 0, .int 0, .int 0]))] sz) := by
  refine Met.ofW (cc := cX2_init) (maxL := 2) (ret := none) (by decide +kernel) rfl ?_
  intro p e s m args below meth c s₁ B hml hv
  obtain ⟨rfl, hsz, hP, hK, hD0, hO⟩ := hv
  have hx := B.exec
  have hb := B.bytes
  have hr := B.returns
  have hts0 := atoms_spec (ws := am_wsk yX2_init cX2_init 2) B.pre
  have hts : ∀ w ∈ am_TC, w.before ([.ref h0, .ref a1] : List Value).toArray s = true := fun w hw => hts0 w (List.mem_cons_of_mem _ hw)
  have hown : s.vm.findClass RX2 = some m.cls := findClass_of_methodNamed B.named
  have hlocks := B.notSynchronized
  have hin : meth.name = "<init>" := (name_of_methodNamed B.named B.method).1
  subst hsz
  have hD := hD0.self (sz := s.heap.size)
  generalize hAe : va_A [(h0, .inr (2, [.null, .int 0, .int 0, .int 0, .int 0, .int 0, .null, .int 0, .int 0, .int 0, .int 0, .int 0]))] s.heap.size = A at hD ⊢
  have hA : ∀ q : Nat, s.heap.size ≤ q → A q := fun q h => by rw [← hAe]; exact Or.inr h
  have hS : va_S A s.heap s.heap [] := va_S.rf
  have hP : va_P D vwCl [(h0, .inr (2, [.null, .int 0, .int 0, .int 0, .int 0, .int 0, .null, .int 0, .int 0, .int 0, .int 0, .int 0]))] s.heap := hP
  have hl := lv_entry ([.ref h0, .ref a1]) (n := 2) (Nat.le_of_ble_eq_true rfl)
  rw [lg_entry_eq]
  generalize (lg_sl ([.ref h0, .ref a1]) ++ List.replicate (2 - (lg_sl ([.ref h0, .ref a1])).length) Slot.unset).toArray = ls at hl ⊢
  have hl : lv_has ls 2 [(0, .ref h0), (1, .ref a1)] := hl
  refine lv_aload_n hx hb dX2_init_0 rfl (lv_at hl 0 rfl) ?_
  refine W.objInit hx hb hown (hts (.methodLink RX2 3 objectInit) (kc_in 13 rfl)) (hts (.instanceMethod objectInit) (kc_in 2 rfl)) (hts (.code objectInit ⟨#[0xb1]⟩ 1 none) (kc_in 3 rfl)) rfl (by rw [hml]; exact hl.1) rfl dX2_init_1 (Nat.le_of_ble_eq_true rfl) (Nat.le_of_ble_eq_true rfl) ?_
  refine W.eq (g2 := F0 m 4 ls []) rfl ?_
  refine lv_aload_n hx hb dX2_init_4 rfl (lv_at hl 0 rfl) ?_
  refine lv_aload_n hx hb dX2_init_5 rfl (lv_at hl 1 rfl) ?_
  refine va_putF (D := D) (ci := 2) (v := .ref a1) (ty := .object "OrbitsWed$Sky") (C := RX2) (T := TX2) (N := 12) hx hb hts (kc_lay 2 (by decide)) tyX2 tyX2_ok nmX2 hown hK hP hD hS 0 rfl rfl 0 (by decide) (hts (.fieldLink RX2 9 "OrbitsWed$Deeds" "sky" "LOrbitsWed$Sky;") (kc_in 14 rfl)) (fun _ h9 => h9) rfl hin rfl (by decide +kernel) rfl rfl (Nat.le_of_ble_eq_true rfl) dX2_init_6 (fun H locs hP hD hS => ?_)
  have hP : va_P D vwCl [(h0, .inr (2, [.ref a1, .int 0, .int 0, .int 0, .int 0, .int 0, .null, .int 0, .int 0, .int 0, .int 0, .int 0]))] H := hP
  have hD : va_D A [(h0, .inr (2, [.ref a1, .int 0, .int 0, .int 0, .int 0, .int 0, .null, .int 0, .int 0, .int 0, .int 0, .int 0]))] := hD
  refine lv_aload_n hx hb dX2_init_9 rfl (lv_at hl 0 rfl) ?_
  refine lv_bipush (v := 8) hx hb dX2_init_10 (by decide) ?_
  refine va_newa (ty := .int) (N' := 8) (a0 := (8, .inl (fun _ => 0))) hx hb (hts (.arrayClass .int) (kc_in 4 rfl)) rfl hK hP hD hS hA (fun c => rfl) (by decide) (by decide) (by decide) (Nat.le_of_ble_eq_true rfl) (Nat.le_of_ble_eq_true rfl) dX2_init_12 (fun q12_1 cB H hK2 hP hD hS => ?_)
  obtain rfl := kc_I hK2
  clear hK2
  have hP : va_P D vwCl [(h0, .inr (2, [.ref a1, .int 0, .int 0, .int 0, .int 0, .int 0, .null, .int 0, .int 0, .int 0, .int 0, .int 0])), (q12_1, .inl (cA 0, 8, .inl (fun _ => 0)))] H := hP
  have hD : va_D A [(h0, .inr (2, [.ref a1, .int 0, .int 0, .int 0, .int 0, .int 0, .null, .int 0, .int 0, .int 0, .int 0, .int 0])), (q12_1, .inl (cA 0, 8, .inl (fun _ => 0)))] := hD
  refine W.widen (k := 1) (n := 8) (by omega) (by omega) ?_
  refine va_putF (D := D) (ci := 2) (v := .ref q12_1) (ty := .array .int) (C := RX2) (T := TX2) (N := 12) hx hb hts (kc_lay 2 (by decide)) tyX2 tyX2_ok nmX2 hown hK hP hD hS 0 rfl rfl 6 (by decide) (hts (.fieldLink RX2 15 "OrbitsWed$Deeds" "imagePlaces" "[I") (kc_in 15 rfl)) (fun _ h9 => h9) rfl hin rfl (by decide +kernel) rfl rfl (Nat.le_of_ble_eq_true rfl) dX2_init_14 (fun H locs hP hD hS => ?_)
  have hP : va_P D vwCl [(h0, .inr (2, [.ref a1, .int 0, .int 0, .int 0, .int 0, .int 0, .ref q12_1, .int 0, .int 0, .int 0, .int 0, .int 0])), (q12_1, .inl (cA 0, 8, .inl (fun _ => 0)))] H := hP
  have hD : va_D A [(h0, .inr (2, [.ref a1, .int 0, .int 0, .int 0, .int 0, .int 0, .ref q12_1, .int 0, .int 0, .int 0, .int 0, .int 0])), (q12_1, .inl (cA 0, 8, .inl (fun _ => 0)))] := hD
  exact W.vret hx hb hr (fun t ht hW => ⟨⟨(), rfl, trivial, _, ⟨q12_1, rfl⟩, by rw [ht]; exact hP, va_K.moved hW.alike hK, hD⟩, hS.F ht⟩) hS.2.2 dX2_init_17
theorem dX0_init_0 : decode cX0_init 0 = .ok (.aload_n 0, 1) := by decide +kernel
theorem dX0_init_1 : decode cX0_init 1 = .ok (.invokespecial 1, 3) := by decide +kernel
theorem dX0_init_4 : decode cX0_init 4 = .ok (.aload_n 0, 1) := by decide +kernel
theorem dX0_init_5 : decode cX0_init 5 = .ok (.bipush 40, 2) := by decide +kernel
theorem dX0_init_7 : decode cX0_init 7 = .ok (.newarray .int, 2) := by decide +kernel
theorem dX0_init_9 : decode cX0_init 9 = .ok (.putfield 9, 3) := by decide +kernel
theorem dX0_init_12 : decode cX0_init 12 = .ok (.aload_n 0, 1) := by decide +kernel
theorem dX0_init_13 : decode cX0_init 13 = .ok (.bipush 40, 2) := by decide +kernel
theorem dX0_init_15 : decode cX0_init 15 = .ok (.newarray .int, 2) := by decide +kernel
theorem dX0_init_17 : decode cX0_init 17 = .ok (.putfield 13, 3) := by decide +kernel
theorem dX0_init_20 : decode cX0_init 20 = .ok (.aload_n 0, 1) := by decide +kernel
theorem dX0_init_21 : decode cX0_init 21 = .ok (.bipush 40, 2) := by decide +kernel
theorem dX0_init_23 : decode cX0_init 23 = .ok (.newarray .int, 2) := by decide +kernel
theorem dX0_init_25 : decode cX0_init 25 = .ok (.putfield 16, 3) := by decide +kernel
theorem dX0_init_28 : decode cX0_init 28 = .ok (.aload_n 0, 1) := by decide +kernel
theorem dX0_init_29 : decode cX0_init 29 = .ok (.bipush 40, 2) := by decide +kernel
theorem dX0_init_31 : decode cX0_init 31 = .ok (.newarray .int, 2) := by decide +kernel
theorem dX0_init_33 : decode cX0_init 33 = .ok (.putfield 19, 3) := by decide +kernel
theorem dX0_init_36 : decode cX0_init 36 = .ok (.return_, 1) := by decide +kernel
def kB_X0 (cA : Nat → ClassId) (h0 : Nat) (w : va_W) : Prop := ∃ (q7_1 : Nat) (q15_2 : Nat) (q23_3 : Nat) (q31_4 : Nat), w = [(h0, .inr (0, [.ref q7_1, .ref q15_2, .ref q23_3, .ref q31_4, .int 0, .int 0])), (q7_1, .inl (cA 0, 40, .inl (fun _ => 0))), (q15_2, .inl (cA 0, 40, .inl (fun _ => 0))), (q23_3, .inl (cA 0, 40, .inl (fun _ => 0))), (q31_4, .inl (cA 0, 40, .inl (fun _ => 0)))]
set_option maxHeartbeats 8000000 in
set_option maxRecDepth 100000 in
theorem k_X0 (l : Launch) (D : va_G) (cA : Nat → ClassId) (h0 sz : Nat) : Met l yX0_init (am_wsk yX0_init cX0_init 1) { frames := 1, cells := 4, slots := 160, locals := 40 } (kc_Pre D cA [.ref h0] [(h0, .inr (0, [.null, .null, .null, .null, .int 0, .int 0]))] sz) (kc_Post D cA (va_A [(h0, .inr (0, [.null, .null, .null, .null, .int 0, .int 0]))] sz) (kB_X0 cA h0)) 4 160 (va_A [(h0, .inr (0, [.null, .null, .null, .null, .int 0, .int 0]))] sz) := by
  refine Met.ofW (cc := cX0_init) (maxL := 1) (ret := none) (by decide +kernel) rfl ?_
  intro p e s m args below meth c s₁ B hml hv
  obtain ⟨rfl, hsz, hP, hK, hD0, hO⟩ := hv
  have hx := B.exec
  have hb := B.bytes
  have hr := B.returns
  have hts0 := atoms_spec (ws := am_wsk yX0_init cX0_init 1) B.pre
  have hts : ∀ w ∈ am_TC, w.before ([.ref h0] : List Value).toArray s = true := fun w hw => hts0 w (List.mem_cons_of_mem _ hw)
  have hown : s.vm.findClass RX0 = some m.cls := findClass_of_methodNamed B.named
  have hlocks := B.notSynchronized
  have hin : meth.name = "<init>" := (name_of_methodNamed B.named B.method).1
  subst hsz
  have hD := hD0.self (sz := s.heap.size)
  generalize hAe : va_A [(h0, .inr (0, [.null, .null, .null, .null, .int 0, .int 0]))] s.heap.size = A at hD ⊢
  have hA : ∀ q : Nat, s.heap.size ≤ q → A q := fun q h => by rw [← hAe]; exact Or.inr h
  have hS : va_S A s.heap s.heap [] := va_S.rf
  have hP : va_P D vwCl [(h0, .inr (0, [.null, .null, .null, .null, .int 0, .int 0]))] s.heap := hP
  have hl := lv_entry ([.ref h0]) (n := 1) (Nat.le_of_ble_eq_true rfl)
  rw [lg_entry_eq]
  generalize (lg_sl ([.ref h0]) ++ List.replicate (1 - (lg_sl ([.ref h0])).length) Slot.unset).toArray = ls at hl ⊢
  have hl : lv_has ls 1 [(0, .ref h0)] := hl
  refine lv_aload_n hx hb dX0_init_0 rfl (lv_at hl 0 rfl) ?_
  refine W.objInit hx hb hown (hts (.methodLink RX0 1 objectInit) (kc_in 1 rfl)) (hts (.instanceMethod objectInit) (kc_in 2 rfl)) (hts (.code objectInit ⟨#[0xb1]⟩ 1 none) (kc_in 3 rfl)) rfl (by rw [hml]; exact hl.1) rfl dX0_init_1 (Nat.le_of_ble_eq_true rfl) (Nat.le_of_ble_eq_true rfl) ?_
  refine W.eq (g2 := F0 m 4 ls []) rfl ?_
  refine lv_aload_n hx hb dX0_init_4 rfl (lv_at hl 0 rfl) ?_
  refine lv_bipush (v := 40) hx hb dX0_init_5 (by decide) ?_
  refine va_newa (ty := .int) (N' := 40) (a0 := (40, .inl (fun _ => 0))) hx hb (hts (.arrayClass .int) (kc_in 4 rfl)) rfl hK hP hD hS hA (fun c => rfl) (by decide) (by decide) (by decide) (Nat.le_of_ble_eq_true rfl) (Nat.le_of_ble_eq_true rfl) dX0_init_7 (fun q7_1 cB H hK2 hP hD hS => ?_)
  obtain rfl := kc_I hK2
  clear hK2
  have hP : va_P D vwCl [(h0, .inr (0, [.null, .null, .null, .null, .int 0, .int 0])), (q7_1, .inl (cA 0, 40, .inl (fun _ => 0)))] H := hP
  have hD : va_D A [(h0, .inr (0, [.null, .null, .null, .null, .int 0, .int 0])), (q7_1, .inl (cA 0, 40, .inl (fun _ => 0)))] := hD
  refine W.widen (k := 1) (n := 40) (by omega) (by omega) ?_
  refine va_putF (D := D) (ci := 0) (v := .ref q7_1) (ty := .array .int) (C := RX0) (T := TX0) (N := 6) hx hb hts (kc_lay 0 (by decide)) tyX0 tyX0_ok nmX0 hown hK hP hD hS 0 rfl rfl 0 (by decide) (hts (.fieldLink RX0 9 "OrbitsWed$Changes" "numbers" "[I") (kc_in 5 rfl)) (fun _ h9 => h9) rfl hin rfl (by decide +kernel) rfl rfl (Nat.le_of_ble_eq_true rfl) dX0_init_9 (fun H locs hP hD hS => ?_)
  have hP : va_P D vwCl [(h0, .inr (0, [.ref q7_1, .null, .null, .null, .int 0, .int 0])), (q7_1, .inl (cA 0, 40, .inl (fun _ => 0)))] H := hP
  have hD : va_D A [(h0, .inr (0, [.ref q7_1, .null, .null, .null, .int 0, .int 0])), (q7_1, .inl (cA 0, 40, .inl (fun _ => 0)))] := hD
  refine lv_aload_n hx hb dX0_init_12 rfl (lv_at hl 0 rfl) ?_
  refine lv_bipush (v := 40) hx hb dX0_init_13 (by decide) ?_
  refine va_newa (ty := .int) (N' := 40) (a0 := (40, .inl (fun _ => 0))) hx hb (hts (.arrayClass .int) (kc_in 4 rfl)) rfl hK hP hD hS hA (fun c => rfl) (by decide) (by decide) (by decide) (Nat.le_of_ble_eq_true rfl) (Nat.le_of_ble_eq_true rfl) dX0_init_15 (fun q15_2 cB H hK2 hP hD hS => ?_)
  obtain rfl := kc_I hK2
  clear hK2
  have hP : va_P D vwCl [(h0, .inr (0, [.ref q7_1, .null, .null, .null, .int 0, .int 0])), (q7_1, .inl (cA 0, 40, .inl (fun _ => 0))), (q15_2, .inl (cA 0, 40, .inl (fun _ => 0)))] H := hP
  have hD : va_D A [(h0, .inr (0, [.ref q7_1, .null, .null, .null, .int 0, .int 0])), (q7_1, .inl (cA 0, 40, .inl (fun _ => 0))), (q15_2, .inl (cA 0, 40, .inl (fun _ => 0)))] := hD
  refine W.widen (k := 2) (n := 80) (by omega) (by omega) ?_
  refine va_putF (D := D) (ci := 0) (v := .ref q15_2) (ty := .array .int) (C := RX0) (T := TX0) (N := 6) hx hb hts (kc_lay 0 (by decide)) tyX0 tyX0_ok nmX0 hown hK hP hD hS 0 rfl rfl 1 (by decide) (hts (.fieldLink RX0 13 "OrbitsWed$Changes" "whats" "[I") (kc_in 6 rfl)) (fun _ h9 => h9) rfl hin rfl (by decide +kernel) rfl rfl (Nat.le_of_ble_eq_true rfl) dX0_init_17 (fun H locs hP hD hS => ?_)
  have hP : va_P D vwCl [(h0, .inr (0, [.ref q7_1, .ref q15_2, .null, .null, .int 0, .int 0])), (q7_1, .inl (cA 0, 40, .inl (fun _ => 0))), (q15_2, .inl (cA 0, 40, .inl (fun _ => 0)))] H := hP
  have hD : va_D A [(h0, .inr (0, [.ref q7_1, .ref q15_2, .null, .null, .int 0, .int 0])), (q7_1, .inl (cA 0, 40, .inl (fun _ => 0))), (q15_2, .inl (cA 0, 40, .inl (fun _ => 0)))] := hD
  refine lv_aload_n hx hb dX0_init_20 rfl (lv_at hl 0 rfl) ?_
  refine lv_bipush (v := 40) hx hb dX0_init_21 (by decide) ?_
  refine va_newa (ty := .int) (N' := 40) (a0 := (40, .inl (fun _ => 0))) hx hb (hts (.arrayClass .int) (kc_in 4 rfl)) rfl hK hP hD hS hA (fun c => rfl) (by decide) (by decide) (by decide) (Nat.le_of_ble_eq_true rfl) (Nat.le_of_ble_eq_true rfl) dX0_init_23 (fun q23_3 cB H hK2 hP hD hS => ?_)
  obtain rfl := kc_I hK2
  clear hK2
  have hP : va_P D vwCl [(h0, .inr (0, [.ref q7_1, .ref q15_2, .null, .null, .int 0, .int 0])), (q7_1, .inl (cA 0, 40, .inl (fun _ => 0))), (q15_2, .inl (cA 0, 40, .inl (fun _ => 0))), (q23_3, .inl (cA 0, 40, .inl (fun _ => 0)))] H := hP
  have hD : va_D A [(h0, .inr (0, [.ref q7_1, .ref q15_2, .null, .null, .int 0, .int 0])), (q7_1, .inl (cA 0, 40, .inl (fun _ => 0))), (q15_2, .inl (cA 0, 40, .inl (fun _ => 0))), (q23_3, .inl (cA 0, 40, .inl (fun _ => 0)))] := hD
  refine W.widen (k := 3) (n := 120) (by omega) (by omega) ?_
  refine va_putF (D := D) (ci := 0) (v := .ref q23_3) (ty := .array .int) (C := RX0) (T := TX0) (N := 6) hx hb hts (kc_lay 0 (by decide)) tyX0 tyX0_ok nmX0 hown hK hP hD hS 0 rfl rfl 2 (by decide) (hts (.fieldLink RX0 16 "OrbitsWed$Changes" "olds" "[I") (kc_in 7 rfl)) (fun _ h9 => h9) rfl hin rfl (by decide +kernel) rfl rfl (Nat.le_of_ble_eq_true rfl) dX0_init_25 (fun H locs hP hD hS => ?_)
  have hP : va_P D vwCl [(h0, .inr (0, [.ref q7_1, .ref q15_2, .ref q23_3, .null, .int 0, .int 0])), (q7_1, .inl (cA 0, 40, .inl (fun _ => 0))), (q15_2, .inl (cA 0, 40, .inl (fun _ => 0))), (q23_3, .inl (cA 0, 40, .inl (fun _ => 0)))] H := hP
  have hD : va_D A [(h0, .inr (0, [.ref q7_1, .ref q15_2, .ref q23_3, .null, .int 0, .int 0])), (q7_1, .inl (cA 0, 40, .inl (fun _ => 0))), (q15_2, .inl (cA 0, 40, .inl (fun _ => 0))), (q23_3, .inl (cA 0, 40, .inl (fun _ => 0)))] := hD
  refine lv_aload_n hx hb dX0_init_28 rfl (lv_at hl 0 rfl) ?_
  refine lv_bipush (v := 40) hx hb dX0_init_29 (by decide) ?_
  refine va_newa (ty := .int) (N' := 40) (a0 := (40, .inl (fun _ => 0))) hx hb (hts (.arrayClass .int) (kc_in 4 rfl)) rfl hK hP hD hS hA (fun c => rfl) (by decide) (by decide) (by decide) (Nat.le_of_ble_eq_true rfl) (Nat.le_of_ble_eq_true rfl) dX0_init_31 (fun q31_4 cB H hK2 hP hD hS => ?_)
  obtain rfl := kc_I hK2
  clear hK2
  have hP : va_P D vwCl [(h0, .inr (0, [.ref q7_1, .ref q15_2, .ref q23_3, .null, .int 0, .int 0])), (q7_1, .inl (cA 0, 40, .inl (fun _ => 0))), (q15_2, .inl (cA 0, 40, .inl (fun _ => 0))), (q23_3, .inl (cA 0, 40, .inl (fun _ => 0))), (q31_4, .inl (cA 0, 40, .inl (fun _ => 0)))] H := hP
  have hD : va_D A [(h0, .inr (0, [.ref q7_1, .ref q15_2, .ref q23_3, .null, .int 0, .int 0])), (q7_1, .inl (cA 0, 40, .inl (fun _ => 0))), (q15_2, .inl (cA 0, 40, .inl (fun _ => 0))), (q23_3, .inl (cA 0, 40, .inl (fun _ => 0))), (q31_4, .inl (cA 0, 40, .inl (fun _ => 0)))] := hD
  refine W.widen (k := 4) (n := 160) (by omega) (by omega) ?_
  refine va_putF (D := D) (ci := 0) (v := .ref q31_4) (ty := .array .int) (C := RX0) (T := TX0) (N := 6) hx hb hts (kc_lay 0 (by decide)) tyX0 tyX0_ok nmX0 hown hK hP hD hS 0 rfl rfl 3 (by decide) (hts (.fieldLink RX0 19 "OrbitsWed$Changes" "news" "[I") (kc_in 8 rfl)) (fun _ h9 => h9) rfl hin rfl (by decide +kernel) rfl rfl (Nat.le_of_ble_eq_true rfl) dX0_init_33 (fun H locs hP hD hS => ?_)
  have hP : va_P D vwCl [(h0, .inr (0, [.ref q7_1, .ref q15_2, .ref q23_3, .ref q31_4, .int 0, .int 0])), (q7_1, .inl (cA 0, 40, .inl (fun _ => 0))), (q15_2, .inl (cA 0, 40, .inl (fun _ => 0))), (q23_3, .inl (cA 0, 40, .inl (fun _ => 0))), (q31_4, .inl (cA 0, 40, .inl (fun _ => 0)))] H := hP
  have hD : va_D A [(h0, .inr (0, [.ref q7_1, .ref q15_2, .ref q23_3, .ref q31_4, .int 0, .int 0])), (q7_1, .inl (cA 0, 40, .inl (fun _ => 0))), (q15_2, .inl (cA 0, 40, .inl (fun _ => 0))), (q23_3, .inl (cA 0, 40, .inl (fun _ => 0))), (q31_4, .inl (cA 0, 40, .inl (fun _ => 0)))] := hD
  exact W.vret hx hb hr (fun t ht hW => ⟨⟨(), rfl, trivial, _, ⟨q7_1, q15_2, q23_3, q31_4, rfl⟩, by rw [ht]; exact hP, va_K.moved hW.alike hK, hD⟩, hS.F ht⟩) hS.2.2 dX0_init_36
theorem dX6_init_0 : decode cX6_init 0 = .ok (.aload_n 0, 1) := by decide +kernel
theorem dX6_init_1 : decode cX6_init 1 = .ok (.invokespecial 3, 3) := by decide +kernel
theorem dX6_init_4 : decode cX6_init 4 = .ok (.aload_n 0, 1) := by decide +kernel
theorem dX6_init_5 : decode cX6_init 5 = .ok (.bipush 6, 2) := by decide +kernel
theorem dX6_init_7 : decode cX6_init 7 = .ok (.newarray .int, 2) := by decide +kernel
theorem dX6_init_9 : decode cX6_init 9 = .ok (.putfield 11, 3) := by decide +kernel
theorem dX6_init_12 : decode cX6_init 12 = .ok (.aload_n 0, 1) := by decide +kernel
theorem dX6_init_13 : decode cX6_init 13 = .ok (.bipush 6, 2) := by decide +kernel
theorem dX6_init_15 : decode cX6_init 15 = .ok (.newarray .int, 2) := by decide +kernel
theorem dX6_init_17 : decode cX6_init 17 = .ok (.putfield 15, 3) := by decide +kernel
theorem dX6_init_20 : decode cX6_init 20 = .ok (.aload_n 0, 1) := by decide +kernel
theorem dX6_init_21 : decode cX6_init 21 = .ok (.bipush 6, 2) := by decide +kernel
theorem dX6_init_23 : decode cX6_init 23 = .ok (.newarray .int, 2) := by decide +kernel
theorem dX6_init_25 : decode cX6_init 25 = .ok (.putfield 18, 3) := by decide +kernel
theorem dX6_init_28 : decode cX6_init 28 = .ok (.aload_n 0, 1) := by decide +kernel
theorem dX6_init_29 : decode cX6_init 29 = .ok (.bipush 6, 2) := by decide +kernel
theorem dX6_init_31 : decode cX6_init 31 = .ok (.newarray .int, 2) := by decide +kernel
theorem dX6_init_33 : decode cX6_init 33 = .ok (.putfield 21, 3) := by decide +kernel
theorem dX6_init_36 : decode cX6_init 36 = .ok (.aload_n 0, 1) := by decide +kernel
theorem dX6_init_37 : decode cX6_init 37 = .ok (.bipush 6, 2) := by decide +kernel
theorem dX6_init_39 : decode cX6_init 39 = .ok (.bipush 60, 2) := by decide +kernel
theorem dX6_init_41 : decode cX6_init 41 = .ok (.multianewarray 24 2, 4) := by decide +kernel
theorem dX6_init_45 : decode cX6_init 45 = .ok (.putfield 26, 3) := by decide +kernel
theorem dX6_init_48 : decode cX6_init 48 = .ok (.return_, 1) := by decide +kernel
def kB_X6 (cA : Nat → ClassId) (h0 : Nat) (w : va_W) : Prop := ∃ (q7_1 : Nat) (q15_2 : Nat) (q23_3 : Nat) (q31_4 : Nat) (q41_5 : Nat) (r41_5 : Nat → Nat), w = [(h0, .inr (6, [.ref q7_1, .ref q15_2, .ref q23_3, .ref q31_4, .ref q41_5])), (q7_1, .inl (cA 0, 6, .inl (fun _ => 0))), (q15_2, .inl (cA 0, 6, .inl (fun _ => 0))), (q23_3, .inl (cA 0, 6, .inl (fun _ => 0))), (q31_4, .inl (cA 0, 6, .inl (fun _ => 0))), (q41_5, .inl (cA 3, 6, .inr (.inr (.inr (.inr (fun i => if i < 6 then some (r41_5 i) else none)))))), (r41_5 0, .inl (cA 1, 60, .inr (.inl (fun _ => 0)))), (r41_5 1, .inl (cA 1, 60, .inr (.inl (fun _ => 0)))), (r41_5 2, .inl (cA 1, 60, .inr (.inl (fun _ => 0)))), (r41_5 3, .inl (cA 1, 60, .inr (.inl (fun _ => 0)))), (r41_5 4, .inl (cA 1, 60, .inr (.inl (fun _ => 0)))), (r41_5 5, .inl (cA 1, 60, .inr (.inl (fun _ => 0))))]
set_option maxHeartbeats 8000000 in
set_option maxRecDepth 100000 in
theorem k_X6 (l : Launch) (D : va_G) (cA : Nat → ClassId) (h0 sz : Nat) : Met l yX6_init (am_wsk yX6_init cX6_init 1) { frames := 1, cells := 11, slots := 390, locals := 40 } (kc_Pre D cA [.ref h0] [(h0, .inr (6, [.null, .null, .null, .null, .null]))] sz) (kc_Post D cA (va_A [(h0, .inr (6, [.null, .null, .null, .null, .null]))] sz) (kB_X6 cA h0)) 11 390 (va_A [(h0, .inr (6, [.null, .null, .null, .null, .null]))] sz) := by
  refine Met.ofW (cc := cX6_init) (maxL := 1) (ret := none) (by decide +kernel) rfl ?_
  intro p e s m args below meth c s₁ B hml hv
  obtain ⟨rfl, hsz, hP, hK, hD0, hO⟩ := hv
  have hx := B.exec
  have hb := B.bytes
  have hr := B.returns
  have hts0 := atoms_spec (ws := am_wsk yX6_init cX6_init 1) B.pre
  have hts : ∀ w ∈ am_TC, w.before ([.ref h0] : List Value).toArray s = true := fun w hw => hts0 w (List.mem_cons_of_mem _ hw)
  have hown : s.vm.findClass RX6 = some m.cls := findClass_of_methodNamed B.named
  have hlocks := B.notSynchronized
  have hin : meth.name = "<init>" := (name_of_methodNamed B.named B.method).1
  subst hsz
  have hD := hD0.self (sz := s.heap.size)
  generalize hAe : va_A [(h0, .inr (6, [.null, .null, .null, .null, .null]))] s.heap.size = A at hD ⊢
  have hA : ∀ q : Nat, s.heap.size ≤ q → A q := fun q h => by rw [← hAe]; exact Or.inr h
  have hS : va_S A s.heap s.heap [] := va_S.rf
  have hP : va_P D vwCl [(h0, .inr (6, [.null, .null, .null, .null, .null]))] s.heap := hP
  have hl := lv_entry ([.ref h0]) (n := 1) (Nat.le_of_ble_eq_true rfl)
  rw [lg_entry_eq]
  generalize (lg_sl ([.ref h0]) ++ List.replicate (1 - (lg_sl ([.ref h0])).length) Slot.unset).toArray = ls at hl ⊢
  have hl : lv_has ls 1 [(0, .ref h0)] := hl
  refine lv_aload_n hx hb dX6_init_0 rfl (lv_at hl 0 rfl) ?_
  refine W.objInit hx hb hown (hts (.methodLink RX6 3 objectInit) (kc_in 33 rfl)) (hts (.instanceMethod objectInit) (kc_in 2 rfl)) (hts (.code objectInit ⟨#[0xb1]⟩ 1 none) (kc_in 3 rfl)) rfl (by rw [hml]; exact hl.1) rfl dX6_init_1 (Nat.le_of_ble_eq_true rfl) (Nat.le_of_ble_eq_true rfl) ?_
  refine W.eq (g2 := F0 m 4 ls []) rfl ?_
  refine lv_aload_n hx hb dX6_init_4 rfl (lv_at hl 0 rfl) ?_
  refine lv_bipush (v := 6) hx hb dX6_init_5 (by decide) ?_
  refine va_newa (ty := .int) (N' := 6) (a0 := (6, .inl (fun _ => 0))) hx hb (hts (.arrayClass .int) (kc_in 4 rfl)) rfl hK hP hD hS hA (fun c => rfl) (by decide) (by decide) (by decide) (Nat.le_of_ble_eq_true rfl) (Nat.le_of_ble_eq_true rfl) dX6_init_7 (fun q7_1 cB H hK2 hP hD hS => ?_)
  obtain rfl := kc_I hK2
  clear hK2
  have hP : va_P D vwCl [(h0, .inr (6, [.null, .null, .null, .null, .null])), (q7_1, .inl (cA 0, 6, .inl (fun _ => 0)))] H := hP
  have hD : va_D A [(h0, .inr (6, [.null, .null, .null, .null, .null])), (q7_1, .inl (cA 0, 6, .inl (fun _ => 0)))] := hD
  refine W.widen (k := 1) (n := 6) (by omega) (by omega) ?_
  refine va_putF (D := D) (ci := 6) (v := .ref q7_1) (ty := .array .int) (C := RX6) (T := TX6) (N := 5) hx hb hts (kc_lay 6 (by decide)) tyX6 tyX6_ok nmX6 hown hK hP hD hS 0 rfl rfl 0 (by decide) (hts (.fieldLink RX6 11 "OrbitsWed$Shelves" "holds" "[I") (kc_in 34 rfl)) (fun _ h9 => h9) rfl hin rfl (by decide +kernel) rfl rfl (Nat.le_of_ble_eq_true rfl) dX6_init_9 (fun H locs hP hD hS => ?_)
  have hP : va_P D vwCl [(h0, .inr (6, [.ref q7_1, .null, .null, .null, .null])), (q7_1, .inl (cA 0, 6, .inl (fun _ => 0)))] H := hP
  have hD : va_D A [(h0, .inr (6, [.ref q7_1, .null, .null, .null, .null])), (q7_1, .inl (cA 0, 6, .inl (fun _ => 0)))] := hD
  refine lv_aload_n hx hb dX6_init_12 rfl (lv_at hl 0 rfl) ?_
  refine lv_bipush (v := 6) hx hb dX6_init_13 (by decide) ?_
  refine va_newa (ty := .int) (N' := 6) (a0 := (6, .inl (fun _ => 0))) hx hb (hts (.arrayClass .int) (kc_in 4 rfl)) rfl hK hP hD hS hA (fun c => rfl) (by decide) (by decide) (by decide) (Nat.le_of_ble_eq_true rfl) (Nat.le_of_ble_eq_true rfl) dX6_init_15 (fun q15_2 cB H hK2 hP hD hS => ?_)
  obtain rfl := kc_I hK2
  clear hK2
  have hP : va_P D vwCl [(h0, .inr (6, [.ref q7_1, .null, .null, .null, .null])), (q7_1, .inl (cA 0, 6, .inl (fun _ => 0))), (q15_2, .inl (cA 0, 6, .inl (fun _ => 0)))] H := hP
  have hD : va_D A [(h0, .inr (6, [.ref q7_1, .null, .null, .null, .null])), (q7_1, .inl (cA 0, 6, .inl (fun _ => 0))), (q15_2, .inl (cA 0, 6, .inl (fun _ => 0)))] := hD
  refine W.widen (k := 2) (n := 12) (by omega) (by omega) ?_
  refine va_putF (D := D) (ci := 6) (v := .ref q15_2) (ty := .array .int) (C := RX6) (T := TX6) (N := 5) hx hb hts (kc_lay 6 (by decide)) tyX6 tyX6_ok nmX6 hown hK hP hD hS 0 rfl rfl 1 (by decide) (hts (.fieldLink RX6 15 "OrbitsWed$Shelves" "held" "[I") (kc_in 35 rfl)) (fun _ h9 => h9) rfl hin rfl (by decide +kernel) rfl rfl (Nat.le_of_ble_eq_true rfl) dX6_init_17 (fun H locs hP hD hS => ?_)
  have hP : va_P D vwCl [(h0, .inr (6, [.ref q7_1, .ref q15_2, .null, .null, .null])), (q7_1, .inl (cA 0, 6, .inl (fun _ => 0))), (q15_2, .inl (cA 0, 6, .inl (fun _ => 0)))] H := hP
  have hD : va_D A [(h0, .inr (6, [.ref q7_1, .ref q15_2, .null, .null, .null])), (q7_1, .inl (cA 0, 6, .inl (fun _ => 0))), (q15_2, .inl (cA 0, 6, .inl (fun _ => 0)))] := hD
  refine lv_aload_n hx hb dX6_init_20 rfl (lv_at hl 0 rfl) ?_
  refine lv_bipush (v := 6) hx hb dX6_init_21 (by decide) ?_
  refine va_newa (ty := .int) (N' := 6) (a0 := (6, .inl (fun _ => 0))) hx hb (hts (.arrayClass .int) (kc_in 4 rfl)) rfl hK hP hD hS hA (fun c => rfl) (by decide) (by decide) (by decide) (Nat.le_of_ble_eq_true rfl) (Nat.le_of_ble_eq_true rfl) dX6_init_23 (fun q23_3 cB H hK2 hP hD hS => ?_)
  obtain rfl := kc_I hK2
  clear hK2
  have hP : va_P D vwCl [(h0, .inr (6, [.ref q7_1, .ref q15_2, .null, .null, .null])), (q7_1, .inl (cA 0, 6, .inl (fun _ => 0))), (q15_2, .inl (cA 0, 6, .inl (fun _ => 0))), (q23_3, .inl (cA 0, 6, .inl (fun _ => 0)))] H := hP
  have hD : va_D A [(h0, .inr (6, [.ref q7_1, .ref q15_2, .null, .null, .null])), (q7_1, .inl (cA 0, 6, .inl (fun _ => 0))), (q15_2, .inl (cA 0, 6, .inl (fun _ => 0))), (q23_3, .inl (cA 0, 6, .inl (fun _ => 0)))] := hD
  refine W.widen (k := 3) (n := 18) (by omega) (by omega) ?_
  refine va_putF (D := D) (ci := 6) (v := .ref q23_3) (ty := .array .int) (C := RX6) (T := TX6) (N := 5) hx hb hts (kc_lay 6 (by decide)) tyX6 tyX6_ok nmX6 hown hK hP hD hS 0 rfl rfl 2 (by decide) (hts (.fieldLink RX6 18 "OrbitsWed$Shelves" "sorts" "[I") (kc_in 36 rfl)) (fun _ h9 => h9) rfl hin rfl (by decide +kernel) rfl rfl (Nat.le_of_ble_eq_true rfl) dX6_init_25 (fun H locs hP hD hS => ?_)
  have hP : va_P D vwCl [(h0, .inr (6, [.ref q7_1, .ref q15_2, .ref q23_3, .null, .null])), (q7_1, .inl (cA 0, 6, .inl (fun _ => 0))), (q15_2, .inl (cA 0, 6, .inl (fun _ => 0))), (q23_3, .inl (cA 0, 6, .inl (fun _ => 0)))] H := hP
  have hD : va_D A [(h0, .inr (6, [.ref q7_1, .ref q15_2, .ref q23_3, .null, .null])), (q7_1, .inl (cA 0, 6, .inl (fun _ => 0))), (q15_2, .inl (cA 0, 6, .inl (fun _ => 0))), (q23_3, .inl (cA 0, 6, .inl (fun _ => 0)))] := hD
  refine lv_aload_n hx hb dX6_init_28 rfl (lv_at hl 0 rfl) ?_
  refine lv_bipush (v := 6) hx hb dX6_init_29 (by decide) ?_
  refine va_newa (ty := .int) (N' := 6) (a0 := (6, .inl (fun _ => 0))) hx hb (hts (.arrayClass .int) (kc_in 4 rfl)) rfl hK hP hD hS hA (fun c => rfl) (by decide) (by decide) (by decide) (Nat.le_of_ble_eq_true rfl) (Nat.le_of_ble_eq_true rfl) dX6_init_31 (fun q31_4 cB H hK2 hP hD hS => ?_)
  obtain rfl := kc_I hK2
  clear hK2
  have hP : va_P D vwCl [(h0, .inr (6, [.ref q7_1, .ref q15_2, .ref q23_3, .null, .null])), (q7_1, .inl (cA 0, 6, .inl (fun _ => 0))), (q15_2, .inl (cA 0, 6, .inl (fun _ => 0))), (q23_3, .inl (cA 0, 6, .inl (fun _ => 0))), (q31_4, .inl (cA 0, 6, .inl (fun _ => 0)))] H := hP
  have hD : va_D A [(h0, .inr (6, [.ref q7_1, .ref q15_2, .ref q23_3, .null, .null])), (q7_1, .inl (cA 0, 6, .inl (fun _ => 0))), (q15_2, .inl (cA 0, 6, .inl (fun _ => 0))), (q23_3, .inl (cA 0, 6, .inl (fun _ => 0))), (q31_4, .inl (cA 0, 6, .inl (fun _ => 0)))] := hD
  refine W.widen (k := 4) (n := 24) (by omega) (by omega) ?_
  refine va_putF (D := D) (ci := 6) (v := .ref q31_4) (ty := .array .int) (C := RX6) (T := TX6) (N := 5) hx hb hts (kc_lay 6 (by decide)) tyX6 tyX6_ok nmX6 hown hK hP hD hS 0 rfl rfl 3 (by decide) (hts (.fieldLink RX6 21 "OrbitsWed$Shelves" "lengths" "[I") (kc_in 37 rfl)) (fun _ h9 => h9) rfl hin rfl (by decide +kernel) rfl rfl (Nat.le_of_ble_eq_true rfl) dX6_init_33 (fun H locs hP hD hS => ?_)
  have hP : va_P D vwCl [(h0, .inr (6, [.ref q7_1, .ref q15_2, .ref q23_3, .ref q31_4, .null])), (q7_1, .inl (cA 0, 6, .inl (fun _ => 0))), (q15_2, .inl (cA 0, 6, .inl (fun _ => 0))), (q23_3, .inl (cA 0, 6, .inl (fun _ => 0))), (q31_4, .inl (cA 0, 6, .inl (fun _ => 0)))] H := hP
  have hD : va_D A [(h0, .inr (6, [.ref q7_1, .ref q15_2, .ref q23_3, .ref q31_4, .null])), (q7_1, .inl (cA 0, 6, .inl (fun _ => 0))), (q15_2, .inl (cA 0, 6, .inl (fun _ => 0))), (q23_3, .inl (cA 0, 6, .inl (fun _ => 0))), (q31_4, .inl (cA 0, 6, .inl (fun _ => 0)))] := hD
  refine lv_aload_n hx hb dX6_init_36 rfl (lv_at hl 0 rfl) ?_
  refine lv_bipush (v := 6) hx hb dX6_init_37 (by decide) ?_
  refine lv_bipush (v := 60) hx hb dX6_init_39 (by decide) ?_
  refine va_mna (X := [(h0, .inr (6, [.ref q7_1, .ref q15_2, .ref q23_3, .ref q31_4, .null])), (q7_1, .inl (cA 0, 6, .inl (fun _ => 0))), (q15_2, .inl (cA 0, 6, .inl (fun _ => 0))), (q23_3, .inl (cA 0, 6, .inl (fun _ => 0))), (q31_4, .inl (cA 0, 6, .inl (fun _ => 0)))]) (L := []) (f := fun _ => .inl (cA 0, 0, .inl (fun _ => 0))) (ty := .long) (N' := 6) (K' := 60) (z := (60, .inr (.inl (fun _ => 0)))) hx hb hown (hts (.classLink RX6 24 "[[J") (kc_in 38 rfl)) (kc_AO.use hO.2) (hts (.arrayClass .long) (kc_in 20 rfl)) (hK.2 1 _ rfl).2 hK hP hD hS hA (by decide) (by decide) (by decide) (by decide) (by decide) (by decide) (by decide) rfl rfl (Nat.le_of_ble_eq_true rfl) (Nat.le_of_ble_eq_true rfl) (fun c => arrV_new c 60 _) dX6_init_41 (fun q41_5 r41_5 cB H _ _ hK2 hP hD hS => ?_)
  obtain rfl := kc_AL hK2
  clear hK2
  rw [kc_pl] at hP hD
  have hP : va_P D vwCl [(h0, .inr (6, [.ref q7_1, .ref q15_2, .ref q23_3, .ref q31_4, .null])), (q7_1, .inl (cA 0, 6, .inl (fun _ => 0))), (q15_2, .inl (cA 0, 6, .inl (fun _ => 0))), (q23_3, .inl (cA 0, 6, .inl (fun _ => 0))), (q31_4, .inl (cA 0, 6, .inl (fun _ => 0))), (q41_5, .inl (cA 3, 6, .inr (.inr (.inr (.inr (fun i => if i < 6 then some (r41_5 i) else none)))))), (r41_5 0, .inl (cA 1, 60, .inr (.inl (fun _ => 0)))), (r41_5 1, .inl (cA 1, 60, .inr (.inl (fun _ => 0)))), (r41_5 2, .inl (cA 1, 60, .inr (.inl (fun _ => 0)))), (r41_5 3, .inl (cA 1, 60, .inr (.inl (fun _ => 0)))), (r41_5 4, .inl (cA 1, 60, .inr (.inl (fun _ => 0)))), (r41_5 5, .inl (cA 1, 60, .inr (.inl (fun _ => 0))))] H := hP
  have hD : va_D A [(h0, .inr (6, [.ref q7_1, .ref q15_2, .ref q23_3, .ref q31_4, .null])), (q7_1, .inl (cA 0, 6, .inl (fun _ => 0))), (q15_2, .inl (cA 0, 6, .inl (fun _ => 0))), (q23_3, .inl (cA 0, 6, .inl (fun _ => 0))), (q31_4, .inl (cA 0, 6, .inl (fun _ => 0))), (q41_5, .inl (cA 3, 6, .inr (.inr (.inr (.inr (fun i => if i < 6 then some (r41_5 i) else none)))))), (r41_5 0, .inl (cA 1, 60, .inr (.inl (fun _ => 0)))), (r41_5 1, .inl (cA 1, 60, .inr (.inl (fun _ => 0)))), (r41_5 2, .inl (cA 1, 60, .inr (.inl (fun _ => 0)))), (r41_5 3, .inl (cA 1, 60, .inr (.inl (fun _ => 0)))), (r41_5 4, .inl (cA 1, 60, .inr (.inl (fun _ => 0)))), (r41_5 5, .inl (cA 1, 60, .inr (.inl (fun _ => 0))))] := hD
  refine W.widen (k := 11) (n := 390) (by omega) (by omega) ?_
  refine va_putF (D := D) (ci := 6) (v := .ref q41_5) (ty := .array (.array .long)) (C := RX6) (T := TX6) (N := 5) hx hb hts (kc_lay 6 (by decide)) tyX6 tyX6_ok nmX6 hown hK hP hD hS 0 rfl rfl 4 (by decide) (hts (.fieldLink RX6 26 "OrbitsWed$Shelves" "values" "[[J") (kc_in 39 rfl)) (fun _ h9 => h9) rfl hin rfl (by decide +kernel) rfl rfl (Nat.le_of_ble_eq_true rfl) dX6_init_45 (fun H locs hP hD hS => ?_)
  have hP : va_P D vwCl [(h0, .inr (6, [.ref q7_1, .ref q15_2, .ref q23_3, .ref q31_4, .ref q41_5])), (q7_1, .inl (cA 0, 6, .inl (fun _ => 0))), (q15_2, .inl (cA 0, 6, .inl (fun _ => 0))), (q23_3, .inl (cA 0, 6, .inl (fun _ => 0))), (q31_4, .inl (cA 0, 6, .inl (fun _ => 0))), (q41_5, .inl (cA 3, 6, .inr (.inr (.inr (.inr (fun i => if i < 6 then some (r41_5 i) else none)))))), (r41_5 0, .inl (cA 1, 60, .inr (.inl (fun _ => 0)))), (r41_5 1, .inl (cA 1, 60, .inr (.inl (fun _ => 0)))), (r41_5 2, .inl (cA 1, 60, .inr (.inl (fun _ => 0)))), (r41_5 3, .inl (cA 1, 60, .inr (.inl (fun _ => 0)))), (r41_5 4, .inl (cA 1, 60, .inr (.inl (fun _ => 0)))), (r41_5 5, .inl (cA 1, 60, .inr (.inl (fun _ => 0))))] H := hP
  have hD : va_D A [(h0, .inr (6, [.ref q7_1, .ref q15_2, .ref q23_3, .ref q31_4, .ref q41_5])), (q7_1, .inl (cA 0, 6, .inl (fun _ => 0))), (q15_2, .inl (cA 0, 6, .inl (fun _ => 0))), (q23_3, .inl (cA 0, 6, .inl (fun _ => 0))), (q31_4, .inl (cA 0, 6, .inl (fun _ => 0))), (q41_5, .inl (cA 3, 6, .inr (.inr (.inr (.inr (fun i => if i < 6 then some (r41_5 i) else none)))))), (r41_5 0, .inl (cA 1, 60, .inr (.inl (fun _ => 0)))), (r41_5 1, .inl (cA 1, 60, .inr (.inl (fun _ => 0)))), (r41_5 2, .inl (cA 1, 60, .inr (.inl (fun _ => 0)))), (r41_5 3, .inl (cA 1, 60, .inr (.inl (fun _ => 0)))), (r41_5 4, .inl (cA 1, 60, .inr (.inl (fun _ => 0)))), (r41_5 5, .inl (cA 1, 60, .inr (.inl (fun _ => 0))))] := hD
  exact W.vret hx hb hr (fun t ht hW => ⟨⟨(), rfl, trivial, _, ⟨q7_1, q15_2, q23_3, q31_4, q41_5, r41_5, rfl⟩, by rw [ht]; exact hP, va_K.moved hW.alike hK, hD⟩, hS.F ht⟩) hS.2.2 dX6_init_48
theorem dX5_init_0 : decode cX5_init 0 = .ok (.aload_n 0, 1) := by decide +kernel
theorem dX5_init_1 : decode cX5_init 1 = .ok (.invokespecial 3, 3) := by decide +kernel
theorem dX5_init_4 : decode cX5_init 4 = .ok (.aload_n 0, 1) := by decide +kernel
theorem dX5_init_5 : decode cX5_init 5 = .ok (.bipush 50, 2) := by decide +kernel
theorem dX5_init_7 : decode cX5_init 7 = .ok (.newarray .int, 2) := by decide +kernel
theorem dX5_init_9 : decode cX5_init 9 = .ok (.putfield 11, 3) := by decide +kernel
theorem dX5_init_12 : decode cX5_init 12 = .ok (.aload_n 0, 1) := by decide +kernel
theorem dX5_init_13 : decode cX5_init 13 = .ok (.bipush 24, 2) := by decide +kernel
theorem dX5_init_15 : decode cX5_init 15 = .ok (.newarray .int, 2) := by decide +kernel
theorem dX5_init_17 : decode cX5_init 17 = .ok (.putfield 15, 3) := by decide +kernel
theorem dX5_init_20 : decode cX5_init 20 = .ok (.return_, 1) := by decide +kernel
def kB_X5 (cA : Nat → ClassId) (h0 : Nat) (w : va_W) : Prop := ∃ (q7_1 : Nat) (q15_2 : Nat), w = [(h0, .inr (5, [.ref q7_1, .int 0, .ref q15_2, .int 0])), (q7_1, .inl (cA 0, 50, .inl (fun _ => 0))), (q15_2, .inl (cA 0, 24, .inl (fun _ => 0)))]
set_option maxHeartbeats 8000000 in
set_option maxRecDepth 100000 in
theorem k_X5 (l : Launch) (D : va_G) (cA : Nat → ClassId) (h0 sz : Nat) : Met l yX5_init (am_wsk yX5_init cX5_init 1) { frames := 1, cells := 2, slots := 74, locals := 40 } (kc_Pre D cA [.ref h0] [(h0, .inr (5, [.null, .int 0, .null, .int 0]))] sz) (kc_Post D cA (va_A [(h0, .inr (5, [.null, .int 0, .null, .int 0]))] sz) (kB_X5 cA h0)) 2 74 (va_A [(h0, .inr (5, [.null, .int 0, .null, .int 0]))] sz) := by
  refine Met.ofW (cc := cX5_init) (maxL := 1) (ret := none) (by decide +kernel) rfl ?_
  intro p e s m args below meth c s₁ B hml hv
  obtain ⟨rfl, hsz, hP, hK, hD0, hO⟩ := hv
  have hx := B.exec
  have hb := B.bytes
  have hr := B.returns
  have hts0 := atoms_spec (ws := am_wsk yX5_init cX5_init 1) B.pre
  have hts : ∀ w ∈ am_TC, w.before ([.ref h0] : List Value).toArray s = true := fun w hw => hts0 w (List.mem_cons_of_mem _ hw)
  have hown : s.vm.findClass RX5 = some m.cls := findClass_of_methodNamed B.named
  have hlocks := B.notSynchronized
  have hin : meth.name = "<init>" := (name_of_methodNamed B.named B.method).1
  subst hsz
  have hD := hD0.self (sz := s.heap.size)
  generalize hAe : va_A [(h0, .inr (5, [.null, .int 0, .null, .int 0]))] s.heap.size = A at hD ⊢
  have hA : ∀ q : Nat, s.heap.size ≤ q → A q := fun q h => by rw [← hAe]; exact Or.inr h
  have hS : va_S A s.heap s.heap [] := va_S.rf
  have hP : va_P D vwCl [(h0, .inr (5, [.null, .int 0, .null, .int 0]))] s.heap := hP
  have hl := lv_entry ([.ref h0]) (n := 1) (Nat.le_of_ble_eq_true rfl)
  rw [lg_entry_eq]
  generalize (lg_sl ([.ref h0]) ++ List.replicate (1 - (lg_sl ([.ref h0])).length) Slot.unset).toArray = ls at hl ⊢
  have hl : lv_has ls 1 [(0, .ref h0)] := hl
  refine lv_aload_n hx hb dX5_init_0 rfl (lv_at hl 0 rfl) ?_
  refine W.objInit hx hb hown (hts (.methodLink RX5 3 objectInit) (kc_in 29 rfl)) (hts (.instanceMethod objectInit) (kc_in 2 rfl)) (hts (.code objectInit ⟨#[0xb1]⟩ 1 none) (kc_in 3 rfl)) rfl (by rw [hml]; exact hl.1) rfl dX5_init_1 (Nat.le_of_ble_eq_true rfl) (Nat.le_of_ble_eq_true rfl) ?_
  refine W.eq (g2 := F0 m 4 ls []) rfl ?_
  refine lv_aload_n hx hb dX5_init_4 rfl (lv_at hl 0 rfl) ?_
  refine lv_bipush (v := 50) hx hb dX5_init_5 (by decide) ?_
  refine va_newa (ty := .int) (N' := 50) (a0 := (50, .inl (fun _ => 0))) hx hb (hts (.arrayClass .int) (kc_in 4 rfl)) rfl hK hP hD hS hA (fun c => rfl) (by decide) (by decide) (by decide) (Nat.le_of_ble_eq_true rfl) (Nat.le_of_ble_eq_true rfl) dX5_init_7 (fun q7_1 cB H hK2 hP hD hS => ?_)
  obtain rfl := kc_I hK2
  clear hK2
  have hP : va_P D vwCl [(h0, .inr (5, [.null, .int 0, .null, .int 0])), (q7_1, .inl (cA 0, 50, .inl (fun _ => 0)))] H := hP
  have hD : va_D A [(h0, .inr (5, [.null, .int 0, .null, .int 0])), (q7_1, .inl (cA 0, 50, .inl (fun _ => 0)))] := hD
  refine W.widen (k := 1) (n := 50) (by omega) (by omega) ?_
  refine va_putF (D := D) (ci := 5) (v := .ref q7_1) (ty := .array .int) (C := RX5) (T := TX5) (N := 4) hx hb hts (kc_lay 5 (by decide)) tyX5 tyX5_ok nmX5 hown hK hP hD hS 0 rfl rfl 0 (by decide) (hts (.fieldLink RX5 11 "OrbitsWed$Moods" "kinds" "[I") (kc_in 30 rfl)) (fun _ h9 => h9) rfl hin rfl (by decide +kernel) rfl rfl (Nat.le_of_ble_eq_true rfl) dX5_init_9 (fun H locs hP hD hS => ?_)
  have hP : va_P D vwCl [(h0, .inr (5, [.ref q7_1, .int 0, .null, .int 0])), (q7_1, .inl (cA 0, 50, .inl (fun _ => 0)))] H := hP
  have hD : va_D A [(h0, .inr (5, [.ref q7_1, .int 0, .null, .int 0])), (q7_1, .inl (cA 0, 50, .inl (fun _ => 0)))] := hD
  refine lv_aload_n hx hb dX5_init_12 rfl (lv_at hl 0 rfl) ?_
  refine lv_bipush (v := 24) hx hb dX5_init_13 (by decide) ?_
  refine va_newa (ty := .int) (N' := 24) (a0 := (24, .inl (fun _ => 0))) hx hb (hts (.arrayClass .int) (kc_in 4 rfl)) rfl hK hP hD hS hA (fun c => rfl) (by decide) (by decide) (by decide) (Nat.le_of_ble_eq_true rfl) (Nat.le_of_ble_eq_true rfl) dX5_init_15 (fun q15_2 cB H hK2 hP hD hS => ?_)
  obtain rfl := kc_I hK2
  clear hK2
  have hP : va_P D vwCl [(h0, .inr (5, [.ref q7_1, .int 0, .null, .int 0])), (q7_1, .inl (cA 0, 50, .inl (fun _ => 0))), (q15_2, .inl (cA 0, 24, .inl (fun _ => 0)))] H := hP
  have hD : va_D A [(h0, .inr (5, [.ref q7_1, .int 0, .null, .int 0])), (q7_1, .inl (cA 0, 50, .inl (fun _ => 0))), (q15_2, .inl (cA 0, 24, .inl (fun _ => 0)))] := hD
  refine W.widen (k := 2) (n := 74) (by omega) (by omega) ?_
  refine va_putF (D := D) (ci := 5) (v := .ref q15_2) (ty := .array .int) (C := RX5) (T := TX5) (N := 4) hx hb hts (kc_lay 5 (by decide)) tyX5 tyX5_ok nmX5 hown hK hP hD hS 0 rfl rfl 2 (by decide) (hts (.fieldLink RX5 15 "OrbitsWed$Moods" "traced" "[I") (kc_in 31 rfl)) (fun _ h9 => h9) rfl hin rfl (by decide +kernel) rfl rfl (Nat.le_of_ble_eq_true rfl) dX5_init_17 (fun H locs hP hD hS => ?_)
  have hP : va_P D vwCl [(h0, .inr (5, [.ref q7_1, .int 0, .ref q15_2, .int 0])), (q7_1, .inl (cA 0, 50, .inl (fun _ => 0))), (q15_2, .inl (cA 0, 24, .inl (fun _ => 0)))] H := hP
  have hD : va_D A [(h0, .inr (5, [.ref q7_1, .int 0, .ref q15_2, .int 0])), (q7_1, .inl (cA 0, 50, .inl (fun _ => 0))), (q15_2, .inl (cA 0, 24, .inl (fun _ => 0)))] := hD
  exact W.vret hx hb hr (fun t ht hW => ⟨⟨(), rfl, trivial, _, ⟨q7_1, q15_2, rfl⟩, by rw [ht]; exact hP, va_K.moved hW.alike hK, hD⟩, hS.F ht⟩) hS.2.2 dX5_init_20
