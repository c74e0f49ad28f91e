/-! PUSHED, the class: pushes, a whole day -/
/-- a push: the names, the stack, the count of pushes -/
def am_fp (M M' : Am_M) : Prop := am_fr 22 24 M M' ∧ M'.1 24 6 = M.1 24 6
theorem am_fp_rf (M : Am_M) : am_fp M M := ⟨am_fr_rf _ _ _, rfl⟩
theorem am_fp_tr {M M' M'' : Am_M} (h : am_fp M M') (h2 : am_fp M' M'') : am_fp M M'' := ⟨am_fr_tr h.1 h2.1 ⟨Nat.le_refl _, Nat.le_refl _⟩ ⟨Nat.le_refl _, Nat.le_refl _⟩, h2.2.trans h.2⟩
theorem am_fp_w {M M' : Am_M} {lo hi : Nat} (h : am_fr lo hi M M') (h2 : 22 ≤ lo ∧ hi ≤ 23) : am_fp M M' := ⟨am_fr_w h (by omega), by rw [(h 24 (by omega)).1]⟩
theorem am_fp_up {M M' : Am_M} (h : am_fp M M') {x : Int32} : am_fp M (am_upI M' 24 7 x) := ⟨am_fr_upI h.1 (by omega), (am_up_n _ _ _ _ _ (by omega)).trans h.2⟩
theorem wx_fp {M M' : Am_M} {σ : Sg} {π : y_P} (h : WX M σ π) (hf : am_fp M M') : WX M' σ π := wx_fr h hf.1 (by omega) (hf.1 25 (by omega)).1
theorem lk_fp {M M' : Am_M} {σ : Sg} {π : y_P} (h : LK M σ π) (hf : am_fp M M') : LK M' σ π := ⟨fun a ha => by rw [(hf.1 26 (by omega)).1]; exact h.1 a ha, fun a ha => by rw [(hf.1 28 (by omega)).1]; exact h.2 a ha⟩
theorem y_v_b (σ : Sg) (χ : q_X) (π : y_P) (t a b : Int) : -9 ≤ y_v σ χ π t a b ∧ y_v σ χ π t a b ≤ 9 := by
  unfold y_v y_ps
  split
  · exact g_push_b _ _ _ _ _ _ _
  · omega
theorem y_sum_b {σ : Sg} (h : SB σ) (χ : q_X) (π : y_P) (t a : Int) : -72 ≤ y_sum σ χ π t a ∧ y_sum σ χ π t a ≤ 72 := by
  have hn := sb_nb h
  have := f_sum_b (f := y_v σ χ π t a) (m := 9) (by omega) (s_n σ).toNat 0 (fun j _ _ => y_v_b σ χ π t a j)
  unfold y_sum
  omega
theorem c_pushOf {sL : Nat} {xs : Nat → Int32} {d : Nat} {M : Am_M} {Q : Int32 → Am_M → Prop} (hd : 4 ≤ d) {σ : Sg} {χ : q_X} {π : y_P} (hW : WX M σ π) (hK : LK M σ π) (hL : CL M χ) {a t m : Int} (ha : 0 ≤ a ∧ a < s_n σ) (hm : M.1 24 7 = z_I m) (hq : ∀ M', am_fp M M' → M'.1 24 7 = z_I (m + y_cs σ χ π t a) → Q (z_I (y_sum σ χ π t a)) M') : am_bi sL xs d 104 [.ref 24, .int (z_I a), .int (z_I t)] M Q := by
  obtain ⟨d, rfl⟩ : ∃ e, d = e + 1 := ⟨d - 1, by omega⟩
  have hX := hW.1
  have hn := sb_nb hX.1
  have hnr := sb_nrb hX.1
  have hloop : ∀ (k : Nat) (b s m : Int) (N : Am_M) (w5 w6 : Value), 0 ≤ b ∧ b + k = s_n σ → am_fp M N → N.1 22 2 = z_I (s_rd σ a) → N.1 22 4 = z_I t → N.1 22 5 = z_I (π a) → N.1 24 7 = z_I m → (∀ M', am_fp M M' → M'.1 24 7 = z_I (m + f_sum (y_c σ χ π t a) b k) → Q (z_I (s + f_sum (y_v σ χ π t a) b k)) M') → am_rw sL xs d am_pX9_pushOf 1 28 [.ref 24, .int (z_I a), .int (z_I t), .int (z_I s), .int (z_I b), w5, w6] [] N (am_pi Q) := by
    intro k
    induction k with
    | zero =>
      intro b s m N w5 w6 hk hF h2 h4 h5 hm hq
      have hW := wx_fp hW hF
      have hK := lk_fp hK hF
      have hX := hW.1
      have hL := cl_fr hL hF.1 (by omega)
      have hwb := y_bits_b hX.1 π a
      refine am_r_iload4 (pc' := 30) rfl rfl ?_
      refine am_r_aload0 (pc' := 31) rfl rfl ?_
      refine am_r_getR (t := 1) (pc' := 34) rfl rfl rfl ?_
      refine am_r_getIv (f := 5) (pc' := 37) rfl rfl rfl (sx_n hX) ?_
      refine am_r_icmp_ge (pt := 132) (pf := 40) rfl rfl rfl (fun h37 => ?_) (fun h37 => ?_)
      · refine am_r_iload3 (pc' := 133) rfl rfl ?_
        refine am_r_iret rfl rfl ?_
        refine am_q ?_ (hq N hF (by rw [hm, f_sum_0]))
        rw [f_sum_0]
      · exfalso; omega
    | succ k ih =>
      intro b s m N w5 w6 hk hF h2 h4 h5 hm hq
      have hW := wx_fp hW hF
      have hK := lk_fp hK hF
      have hX := hW.1
      have hL := cl_fr hL hF.1 (by omega)
      have hwb := y_bits_b hX.1 π a
      have hlk := sb_lk hX.1 (a := a) (b := b) (by omega) (by omega)
      have hgs := sg_b hX.1 (a := b) (by omega)
      have hsb := y_bits_bit σ π (a := a) (b := b) (by omega)
      have h01 := s_bit01 (y_bits σ π a) b
      refine am_r_iload4 (pc' := 30) rfl rfl ?_
      refine am_r_aload0 (pc' := 31) rfl rfl ?_
      refine am_r_getR (t := 1) (pc' := 34) rfl rfl rfl ?_
      refine am_r_getIv (f := 5) (pc' := 37) rfl rfl rfl (sx_n hX) ?_
      refine am_r_icmp_ge (pt := 132) (pf := 40) rfl rfl rfl (fun h37 => ?_) (fun h37 => ?_)
      · exfalso; omega
      · refine am_r_aload0 (pc' := 41) rfl rfl ?_
        refine am_r_getR (t := 28) (pc' := 44) rfl rfl rfl ?_
        refine am_r_iload1 (pc' := 45) rfl rfl ?_
        refine am_r_iaZv (n := 8) (pc' := 46) rfl rfl rfl (by decide) (hK.2 a (by omega)) ?_
        refine am_r_iload4 (pc' := 48) rfl rfl ?_
        refine am_r_ishr (pc' := 49) rfl rfl ?_
        refine am_r_iconst (pc' := 50) rfl rfl ?_
        refine am_r_iandR (pc' := 51) rfl rfl ?_
        rw [z_bit (by omega) (by omega)]
        refine am_r_iconst (pc' := 52) rfl rfl ?_
        refine am_r_icmp_ne (pt := 126) (pf := 55) rfl rfl rfl (fun h52 => ?_) (fun h52 => ?_)
        · refine am_r_iinc4 (pc' := 129) rfl rfl rfl ?_
          refine am_r_goto (pc' := 28) rfl rfl ?_
          refine ih _ _ _ _ _ _ (by omega) hF h2 h4 h5 hm (fun M' a1 a2 => ?_)
          have e0 : ¬ (b ≠ a ∧ y_mt σ π a b = true) := fun q => h52 (hsb.mpr q)
          refine am_q ?_ (hq M' a1 ?_)
          · rw [f_sum_s, show y_v σ χ π t a b = 0 from if_neg e0, Int.add_zero]
          · rw [a2, f_sum_s, show y_c σ χ π t a b = 0 from if_neg (fun q => e0 ⟨q.1, q.2.1⟩), Int.add_zero]
        · refine am_r_aload0 (pc' := 56) rfl rfl ?_
          refine am_r_getR (t := 26) (pc' := 59) rfl rfl rfl ?_
          refine am_r_iload1 (pc' := 60) rfl rfl ?_
          refine am_r_iaZv (n := 8) (pc' := 61) rfl rfl rfl (by decide) (hK.1 a (by omega)) ?_
          refine am_r_aload0 (pc' := 62) rfl rfl ?_
          refine am_r_getR (t := 26) (pc' := 65) rfl rfl rfl ?_
          refine am_r_iload4 (pc' := 67) rfl rfl ?_
          refine am_r_iaZv (n := 8) (pc' := 68) rfl rfl rfl (by decide) (hK.1 b (by omega)) ?_
          refine am_r_ivsI2 (pc' := 71) rfl rfl rfl (Nat.le_of_ble_eq_true rfl) (c_gap (by omega) (y_dg_b hX.1 hW.2.1 (by omega)) (y_dg_b hX.1 hW.2.1 (by omega)) ?_)
          refine am_r_istore5 (pc' := 73) rfl rfl rfl ?_
          refine am_r_aload0 (pc' := 74) rfl rfl ?_
          refine am_r_getR (t := 19) (pc' := 77) rfl rfl rfl ?_
          refine am_r_aload0 (pc' := 78) rfl rfl ?_
          refine am_r_getR (t := 1) (pc' := 81) rfl rfl rfl ?_
          refine am_r_getR (t := 5) (pc' := 84) rfl rfl rfl ?_
          refine am_r_iload1 (pc' := 85) rfl rfl ?_
          refine am_r_aaZ (n := 8) (t := 6) (pc' := 86) rfl rfl rfl rfl (by decide) ?_
          refine am_r_iload4 (pc' := 88) rfl rfl ?_
          refine am_r_iaZv (n := 8) (pc' := 89) rfl rfl (am_row8z (by omega)) (by decide) (sx_lk hX (by omega) (by omega)) ?_
          refine am_r_aload0 (pc' := 90) rfl rfl ?_
          refine am_r_getR (t := 1) (pc' := 93) rfl rfl rfl ?_
          refine am_r_getR (t := 4) (pc' := 96) rfl rfl rfl ?_
          refine am_r_iload4 (pc' := 98) rfl rfl ?_
          refine am_r_iaZv (n := 8) (pc' := 99) rfl rfl rfl (by decide) (sx_wt hX (by omega)) ?_
          refine am_r_iload5 (pc' := 101) rfl rfl ?_
          refine am_r_invI3 (pc' := 104) rfl rfl rfl (Nat.le_of_ble_eq_true rfl) (c_push (χ := χ) (r := s_rd σ a) (t := t) (p := π a) (by omega) hL h2 h4 h5 (by omega) (by omega) ?_)
          · intro M4 hf4 g2 g4 g5
            have hF := am_fp_tr hF (am_fp_w hf4 (by omega))
            have h2 := g2
            have h4 := g4
            have h5 := g5
            have hm2 : M4.1 24 7 = z_I m := by rw [(hf4 24 (by omega)).1]; exact hm
            have hpb := g_push_b χ (s_lk σ a b) (s_wt σ b) (s_rd σ a) (g_gap (y_dg σ π a) (y_dg σ π b)) t (π a)
            refine am_r_istore6 (pc' := 106) rfl rfl rfl ?_
            refine am_r_iload6 (pc' := 108) rfl rfl ?_
            refine am_r_if_eq (pt := 121) (pf := 111) rfl rfl rfl (fun h108 => ?_) (fun h108 => ?_)
            · refine am_r_iload3 (pc' := 122) rfl rfl ?_
              refine am_r_iload6 (pc' := 124) rfl rfl ?_
              refine am_r_iadd (pc' := 125) rfl rfl ?_
              refine am_r_istore3 (pc' := 126) rfl rfl rfl ?_
              refine am_r_iinc4 (pc' := 129) rfl rfl rfl ?_
              refine am_r_goto (pc' := 28) rfl rfl ?_
              have e0 : b ≠ a ∧ y_mt σ π a b = true := hsb.mp h52
              refine ih _ _ _ _ _ _ (by omega) hF h2 h4 h5 hm2 (fun M' a1 a2 => ?_)
              refine am_q ?_ (hq M' a1 ?_)
              · rw [f_sum_s, show y_v σ χ π t a b = y_ps σ χ π t a b from if_pos e0]; rfl
              · rw [a2, f_sum_s, show y_c σ χ π t a b = 0 from if_neg (fun q => q.2.2 h108), Int.add_zero]
            · refine am_r_aload0 (pc' := 112) rfl rfl ?_
              refine am_r_dup (pc' := 113) rfl rfl rfl ?_
              refine am_r_getIv (f := 7) (pc' := 116) rfl rfl rfl (hm2) ?_
              refine am_r_iconst (pc' := 117) rfl rfl ?_
              refine am_r_iadd (pc' := 118) rfl rfl ?_
              refine am_r_putI (f := 7) (pc' := 121) rfl rfl rfl (by decide) ?_
              refine am_r_iload3 (pc' := 122) rfl rfl ?_
              refine am_r_iload6 (pc' := 124) rfl rfl ?_
              refine am_r_iadd (pc' := 125) rfl rfl ?_
              refine am_r_istore3 (pc' := 126) rfl rfl rfl ?_
              refine am_r_iinc4 (pc' := 129) rfl rfl rfl ?_
              refine am_r_goto (pc' := 28) rfl rfl ?_
              have e0 : b ≠ a ∧ y_mt σ π a b = true := hsb.mp h52
              refine ih _ _ _ _ _ _ (by omega) (am_fp_up hF) ((congrFun (am_up_o _ _ _ _ (by omega)) _).trans h2) ((congrFun (am_up_o _ _ _ _ (by omega)) _).trans h4) ((congrFun (am_up_o _ _ _ _ (by omega)) _).trans h5) (am_up_e _ _ _ _) (fun M' a1 a2 => ?_)
              refine am_q ?_ (hq M' a1 ?_)
              · rw [f_sum_s, show y_v σ χ π t a b = y_ps σ χ π t a b from if_pos e0]; rfl
              · rw [a2, f_sum_s, show y_c σ χ π t a b = 1 from if_pos ⟨e0.1, e0.2, h108⟩]
  refine am_bi_of (P := am_pX9_pushOf) (rt := 1) (nL := 7) (Nat.le_of_ble_eq_true rfl) rfl (Nat.le_of_ble_eq_true rfl) rfl rfl rfl ?_
  refine am_r_iconst (pc' := 1) rfl rfl ?_
  refine am_r_istore3 (pc' := 2) rfl rfl rfl ?_
  refine am_r_aload0 (pc' := 3) rfl rfl ?_
  refine am_r_getR (t := 19) (pc' := 6) rfl rfl rfl ?_
  refine am_r_aload0 (pc' := 7) rfl rfl ?_
  refine am_r_getR (t := 1) (pc' := 10) rfl rfl rfl ?_
  refine am_r_getR (t := 2) (pc' := 13) rfl rfl rfl ?_
  refine am_r_iload1 (pc' := 14) rfl rfl ?_
  refine am_r_iaZv (n := 8) (pc' := 15) rfl rfl rfl (by decide) (sx_rd hX (by omega)) ?_
  refine am_r_iload2 (pc' := 16) rfl rfl ?_
  refine am_r_aload0 (pc' := 17) rfl rfl ?_
  refine am_r_getR (t := 25) (pc' := 20) rfl rfl rfl ?_
  refine am_r_iload1 (pc' := 21) rfl rfl ?_
  refine am_r_iaZv (n := 8) (pc' := 22) rfl rfl rfl (by decide) (wx_pl hW (by omega)) ?_
  refine am_r_invV3 (pc' := 25) rfl rfl rfl (Nat.le_of_ble_eq_true rfl) (c_turnTo (by omega) ?_)
  · intro M2 hf2 g2 g4 g5
    refine am_r_iconst (pc' := 26) rfl rfl ?_
    refine am_r_istore4 (pc' := 28) rfl rfl rfl ?_
    refine hloop (s_n σ).toNat 0 0 m M2 _ _ (by omega) (am_fp_w hf2 (by omega)) g2 g4 g5 (by rw [(hf2 24 (by omega)).1]; exact hm) (fun M3 a1 a2 => ?_)
    refine am_q ?_ (hq M3 a1 a2)
    rw [Int.zero_add]; rfl
theorem c_pass {sL : Nat} {xs : Nat → Int32} {d : Nat} {M : Am_M} {Q : Am_M → Prop} (hd : 5 ≤ d) {σ : Sg} {χ : q_X} {π : y_P} (hW : WX M σ π) (hL : CL M χ) {t : Int} (hq : ∀ M', am_fr 22 28 M M' → WX M' σ (y_nx σ χ π t) → M'.1 24 6 = z_I (y_me σ π) → M'.1 24 7 = z_I (y_pu σ χ π t) → (∀ a, 0 ≤ a ∧ a < s_n σ → M'.1 28 a.toNat = z_I (y_bits σ π a)) → Q M') : am_bv sL xs d 101 [.ref 24, .int (z_I t)] M Q := by
  obtain ⟨d, rfl⟩ : ∃ e, d = e + 1 := ⟨d - 1, by omega⟩
  have hX := hW.1
  have hn := sb_nb hX.1
  have hlp2 : ∀ (k : Nat) (i : Int) (N : Am_M), 0 ≤ i ∧ i + k = s_n σ → am_fr 22 28 M N → (∀ a, 0 ≤ a ∧ a < s_n σ → N.1 25 a.toNat = z_I (if a < i then y_nx σ χ π t a else π a)) → (∀ a, 0 ≤ a ∧ a < s_n σ → N.1 27 a.toNat = z_I (y_sum σ χ π t a)) → N.1 24 6 = z_I (y_me σ π) → N.1 24 7 = z_I (y_pu σ χ π t) → (∀ a, 0 ≤ a ∧ a < s_n σ → N.1 28 a.toNat = z_I (y_bits σ π a)) → am_rw sL xs d am_pX9_pass 0 42 [.ref 24, .int (z_I t), .int (z_I i)] [] N (am_pv Q) := by
    intro k
    induction k with
    | zero =>
      intro i N hk hF hp hs hme hpu hb
      have hX := sx_fr hX hF (by omega)
      refine am_r_iload2 (pc' := 43) rfl rfl ?_
      refine am_r_aload0 (pc' := 44) rfl rfl ?_
      refine am_r_getR (t := 1) (pc' := 47) rfl rfl rfl ?_
      refine am_r_getIv (f := 5) (pc' := 50) rfl rfl rfl (sx_n hX) ?_
      refine am_r_icmp_ge (pt := 72) (pf := 53) rfl rfl rfl (fun h50 => ?_) (fun h50 => ?_)
      · refine am_r_vret rfl rfl ?_
        exact hq N hF ⟨hX, y_nx_B hX.1 χ π t, fun a ha => (hp a ha).trans (by rw [if_pos (by omega)])⟩ hme hpu hb
      · exfalso; omega
    | succ k ih =>
      intro i N hk hF hp hs hme hpu hb
      have hX := sx_fr hX hF (by omega)
      have hsb := y_sum_b hX.1 χ π t i
      have hgs := sg_b hX.1 (a := i) (by omega)
      have hpi := hW.2.1 i (by omega)
      have hnb := y_nx_B hX.1 χ π t i (by omega)
      refine am_r_iload2 (pc' := 43) rfl rfl ?_
      refine am_r_aload0 (pc' := 44) rfl rfl ?_
      refine am_r_getR (t := 1) (pc' := 47) rfl rfl rfl ?_
      refine am_r_getIv (f := 5) (pc' := 50) rfl rfl rfl (sx_n hX) ?_
      refine am_r_icmp_ge (pt := 72) (pf := 53) rfl rfl rfl (fun h50 => ?_) (fun h50 => ?_)
      · exfalso; omega
      · refine am_r_aload0 (pc' := 54) rfl rfl ?_
        refine am_r_iload2 (pc' := 55) rfl rfl ?_
        refine am_r_aload0 (pc' := 56) rfl rfl ?_
        refine am_r_getR (t := 27) (pc' := 59) rfl rfl rfl ?_
        refine am_r_iload2 (pc' := 60) rfl rfl ?_
        refine am_r_iaZv (n := 8) (pc' := 61) rfl rfl rfl (by decide) (hs i (by omega)) ?_
        refine am_r_iconst (pc' := 62) rfl rfl ?_
        refine am_r_iadd (pc' := 63) rfl rfl ?_
        refine am_r_invV2 (pc' := 66) rfl rfl rfl (Nat.le_of_ble_eq_true rfl) (c_move (by omega) hX (a := i) (b := y_sum σ χ π t i + 1) (p := π i) (by omega) ((hp i (by omega)).trans (by rw [if_neg (by omega)])) (by omega) (by omega) ?_)
        refine am_r_iinc2 (pc' := 69) rfl rfl rfl ?_
        refine am_r_goto (pc' := 42) rfl rfl ?_
        refine ih _ _ (by omega) (am_fr_upI hF (by omega)) (fun a ha => ?_) (fun a ha => by have := hs a ha; simpa [am_upI] using this) (by simpa [am_upI] using hme) (by simpa [am_upI] using hpu) (fun a ha => by have := hb a ha; simpa [am_upI] using this)
        by_cases q : a = i
        · rw [q, if_pos (by omega)]
          exact am_up_e _ _ _ _
        · have e1 := hp a ha
          have q2 : a.toNat ≠ i.toNat := by omega
          rw [am_up_n _ _ _ _ _ q2, e1]
          by_cases q3 : a < i
          · rw [if_pos q3, if_pos (by omega)]
          · rw [if_neg q3, if_neg (by omega)]
  have hlp1 : ∀ (k : Nat) (i m : Int) (N : Am_M), 0 ≤ i ∧ i + k = s_n σ → am_fr 22 28 M N → WX N σ π → LK N σ π → (∀ a, 0 ≤ a ∧ a < i → N.1 27 a.toNat = z_I (y_sum σ χ π t a)) → N.1 24 6 = z_I (y_me σ π) → N.1 24 7 = z_I m → m + f_sum (y_cs σ χ π t) i k = y_pu σ χ π t → am_rw sL xs d am_pX9_pass 0 11 [.ref 24, .int (z_I t), .int (z_I i)] [] N (am_pv Q) := by
    intro k
    induction k with
    | zero =>
      intro i m N hk hF hW hK hs hme hm he
      have hX := hW.1
      refine am_r_iload2 (pc' := 12) rfl rfl ?_
      refine am_r_aload0 (pc' := 13) rfl rfl ?_
      refine am_r_getR (t := 1) (pc' := 16) rfl rfl rfl ?_
      refine am_r_getIv (f := 5) (pc' := 19) rfl rfl rfl (sx_n hX) ?_
      refine am_r_icmp_ge (pt := 40) (pf := 22) rfl rfl rfl (fun h19 => ?_) (fun h19 => ?_)
      · refine am_r_iconst (pc' := 41) rfl rfl ?_
        refine am_r_istore2 (pc' := 42) rfl rfl rfl ?_
        exact hlp2 (s_n σ).toNat 0 N (by omega) hF (fun a ha => (wx_pl hW ha).trans (by rw [if_neg (by omega)])) (fun a ha => hs a (by omega)) hme (by rw [hm, ← he, f_sum_0]) hK.2
      · exfalso; omega
    | succ k ih =>
      intro i m N hk hF hW hK hs hme hm he
      have hX := hW.1
      have hL := cl_fr hL hF (by omega)
      refine am_r_iload2 (pc' := 12) rfl rfl ?_
      refine am_r_aload0 (pc' := 13) rfl rfl ?_
      refine am_r_getR (t := 1) (pc' := 16) rfl rfl rfl ?_
      refine am_r_getIv (f := 5) (pc' := 19) rfl rfl rfl (sx_n hX) ?_
      refine am_r_icmp_ge (pt := 40) (pf := 22) rfl rfl rfl (fun h19 => ?_) (fun h19 => ?_)
      · exfalso; omega
      · refine am_r_aload0 (pc' := 23) rfl rfl ?_
        refine am_r_getR (t := 27) (pc' := 26) rfl rfl rfl ?_
        refine am_r_iload2 (pc' := 27) rfl rfl ?_
        refine am_r_aload0 (pc' := 28) rfl rfl ?_
        refine am_r_iload2 (pc' := 29) rfl rfl ?_
        refine am_r_iload1 (pc' := 30) rfl rfl ?_
        refine am_r_invI2 (pc' := 33) rfl rfl rfl (Nat.le_of_ble_eq_true rfl) (c_pushOf (χ := χ) (t := t) (by omega) hW hK hL (by omega) hm ?_)
        · intro M4 hf4 hm4
          refine am_r_iast (n := 8) (pc' := 34) rfl rfl (rfl) (by decide) ?_
          refine am_r_iinc2 (pc' := 37) rfl rfl rfl ?_
          refine am_r_goto (pc' := 11) rfl rfl ?_
          refine ih (i + 1) _ _ (by omega) (am_fr_upI (am_fr_tr hF hf4.1 (by omega) (by omega)) (by omega)) (wx_fr (wx_fp hW hf4) (am_fr_upI (am_fr_rf 27 27 _) (by omega)) (by omega) (am_up_o _ _ _ _ (by omega))) ⟨fun a ha => by rw [am_up_o _ _ _ _ (by omega)]; exact (lk_fp hK hf4).1 a ha, fun a ha => by rw [am_up_o _ _ _ _ (by omega)]; exact (lk_fp hK hf4).2 a ha⟩ (fun a ha => ?_) ?_ ?_ (by rw [← he, f_sum_s])
          · by_cases q : a = i
            · rw [q]; exact am_up_e _ _ _ _
            · have q2 : a.toNat ≠ i.toNat := by omega
              rw [am_up_n _ _ _ _ _ q2, (hf4.1 27 (by omega)).1]
              exact hs a (by omega)
          · rw [am_up_o _ _ _ _ (by omega), hf4.2]; exact hme
          · rw [am_up_o _ _ _ _ (by omega)]; exact hm4
  refine am_bv_of (P := am_pX9_pass) (rt := 0) (nL := 3) (Nat.le_of_ble_eq_true rfl) rfl (Nat.le_of_ble_eq_true rfl) rfl rfl rfl ?_
  refine am_r_aload0 (pc' := 1) rfl rfl ?_
  refine am_r_invV0 (pc' := 4) rfl rfl rfl (Nat.le_of_ble_eq_true rfl) (c_look (by omega) hW ?_)
  · intro M2 hf2 hK hme
    refine am_r_aload0 (pc' := 5) rfl rfl ?_
    refine am_r_iconst (pc' := 6) rfl rfl ?_
    refine am_r_putI (f := 7) (pc' := 9) rfl rfl rfl (by decide) ?_
    refine am_r_iconst (pc' := 10) rfl rfl ?_
    refine am_r_istore2 (pc' := 11) rfl rfl rfl ?_
    exact hlp1 (s_n σ).toNat 0 0 _ (by omega) (am_fr_upI (am_fr_w hf2.1 (by omega)) (by omega)) (wx_fr (wx_fr hW hf2.1 (by omega) hf2.2) (am_fr_upI (am_fr_rf 24 24 _) (by omega)) (by omega) (am_up_o _ _ _ _ (by omega))) ⟨fun a ha => by rw [am_up_o _ _ _ _ (by omega)]; exact hK.1 a ha, fun a ha => by rw [am_up_o _ _ _ _ (by omega)]; exact hK.2 a ha⟩ (fun a ha => by omega) ((am_up_n _ _ _ _ _ (by omega)).trans hme) (am_up_e _ _ _ _) (by rw [Int.zero_add]; rfl)
