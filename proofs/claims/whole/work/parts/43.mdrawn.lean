/-! PUSHED, the reference: slips by draws -/
theorem y_back (p r : Int) : (p + r - 1) % r = (p + -1) % r := by
  rw [show p + r - 1 = (p + -1) + r by omega]
  exact Int.add_emod_right _ _
set_option maxRecDepth 20000 in
theorem m_drawn {sL : Nat} {xs : Nat → Int32} {d : Nat} {M : Am_M} {Q : Int32 → Am_M → Prop} (hd : 55 ≤ d) {F : y_F} (hz1 : ∀ z : Int32, z * z_I 1103515245 + z_I 12345 = F.1 z) (hz2 : ∀ z : Int32, (z.toUInt32 >>> ((z_I 8).toUInt32 &&& Int32.toUInt32 31)).toInt32 - (z.toUInt32 >>> ((z_I 8).toUInt32 &&& Int32.toUInt32 31)).toInt32 / z_I 12 * z_I 12 = F.2 z) {σ : Sg} {χ : q_X} (hM : SM M σ) (hL : LM M χ) {z0 : Int32} {n : Int} (hn : -2147483648 ≤ n ∧ n < 2147483648) {a : Int} (ha : -2147483648 ≤ a ∧ a < 2147483648) (hq : ∀ M', am_fm M M' → Q (z_I (r_drawn F σ χ z0 n a)) M') : am_bi sL xs d 233 [.ref 53, .int z0, .int (z_I n), .int (z_I a)] M Q := by
  obtain ⟨d, rfl⟩ : ∃ e, d = e + 1 := ⟨d - 1, by omega⟩
  have hn := sb_nb hM.1
  have h12 : ¬ z_I 12 = 0 := by decide
  have hbod : ∀ (y : Nat) (c e : Int) (w8 : Int) (x : y_S), 0 ≤ n → ∀ (k : Nat) (i : Int) (z : Int32) (π : y_P) (N : Am_M) (Z : Option Value → Am_M → Prop), 0 ≤ i ∧ i + k = s_n σ → am_fm M N → WM N σ π → y_sl F σ (n % 100) k i (z, π) = y_sl F σ (n % 100) (s_n σ).toNat 0 x → (∀ N' : Am_M, am_fm M N' → WM N' σ (y_sl F σ (n % 100) (s_n σ).toNat 0 x).2 → am_rw sL xs d am_pX11_drawn 1 225 [.ref 53, .int z0, .int (z_I n), .int (z_I a), .int (y_sl F σ (n % 100) (s_n σ).toNat 0 x).1, .int (z_I c), .int (z_I e), .int (z_I (y : Int)), .int (z_I w8), .int (z_I (s_n σ))] [] N' Z) → am_rw sL xs d am_pX11_drawn 1 141 [.ref 53, .int z0, .int (z_I n), .int (z_I a), .int z, .int (z_I c), .int (z_I e), .int (z_I (y : Int)), .int (z_I w8), .int (z_I i)] [] N Z := by
    intro y c e w8 x hn0 k
    induction k with
    | zero =>
      intro i z π N Z hk hF hW he hz
      have hM := hW.1
      have hi : i = s_n σ := by omega
      have he2 : (z, π) = y_sl F σ (n % 100) (s_n σ).toNat 0 x := he
      refine am_r_iload9 (pc' := 143) rfl rfl ?_
      refine am_r_aload0 (pc' := 144) rfl rfl ?_
      refine am_r_getIv (f := 6) (pc' := 147) rfl rfl rfl (sm_n hM) ?_
      refine am_r_icmp_ge (pt := 225) (pf := 150) rfl rfl rfl (fun h147 => ?_) (fun h147 => ?_)
      · rw [← he2] at hz
        rw [hi]
        exact hz N hF hW
      · exfalso; omega
    | succ k ih =>
      intro i z π N Z hk hF hW he hz
      have hM := hW.1
      have hg := sg_b hM.1 (a := i) (by omega)
      have hpi := wm_b hW (a := i) (by omega)
      have hmv : 0 ≤ (π i + -1) % s_rd σ i ∧ (π i + -1) % s_rd σ i < s_rd σ i := ⟨Int.emod_nonneg _ (by omega), Int.emod_lt_of_pos _ (by omega)⟩
      refine am_r_iload9 (pc' := 143) rfl rfl ?_
      refine am_r_aload0 (pc' := 144) rfl rfl ?_
      refine am_r_getIv (f := 6) (pc' := 147) rfl rfl rfl (sm_n hM) ?_
      refine am_r_icmp_ge (pt := 225) (pf := 150) rfl rfl rfl (fun h147 => ?_) (fun h147 => ?_)
      · exfalso; omega
      · refine am_r_iload4 (pc' := 152) rfl rfl ?_
        refine am_r_iconst (pc' := 155) rfl rfl ?_
        refine am_r_imulR (pc' := 156) rfl rfl ?_
        refine am_r_iconst (pc' := 159) rfl rfl ?_
        refine am_r_iaddR (pc' := 160) rfl rfl ?_
        rw [hz1]
        refine am_r_istore4 (pc' := 162) rfl rfl rfl ?_
        refine am_r_aload0 (pc' := 163) rfl rfl ?_
        refine am_r_getR (t := 62) (pc' := 166) rfl rfl rfl ?_
        refine am_r_iload9 (pc' := 168) rfl rfl ?_
        refine am_r_iload4 (pc' := 170) rfl rfl ?_
        refine am_r_iconst (pc' := 172) rfl rfl ?_
        refine am_r_iushr (pc' := 173) rfl rfl ?_
        refine am_r_iconst (pc' := 175) rfl rfl ?_
        refine am_r_iremR (pc' := 176) rfl rfl (by assumption) ?_
        rw [hz2]
        refine am_r_iload2 (pc' := 177) rfl rfl ?_
        refine am_r_iconst (pc' := 179) rfl rfl ?_
        refine am_r_irem (pc' := 180) rfl rfl ?_
        refine am_r_icmp_geR (pt := 211) (pf := 183) rfl rfl rfl (fun h180 => ?_) (fun h180 => ?_)
        · refine am_r_aload0 (pc' := 212) rfl rfl ?_
          refine am_r_getR (t := 62) (pc' := 215) rfl rfl rfl ?_
          refine am_r_iload9 (pc' := 217) rfl rfl ?_
          refine am_r_iaZv (n := 8) (pc' := 218) rfl rfl rfl (by decide) (wm_pl hW (by omega)) ?_
          refine am_r_iast (n := 8) (pc' := 219) rfl rfl (rfl) (by decide) ?_
          refine am_r_iinc9 (pc' := 222) rfl rfl rfl ?_
          refine am_r_goto (pc' := 141) rfl rfl ?_
          rw [y_sl_s (x := (z, π)) h180] at he
          refine ih (i + 1) _ _ _ Z (by omega) (am_fm_up hF (by omega)) ⟨sm_fm hM (am_fm_up (am_fm_rf N) (by omega)), hW.2.1, fun b hb => ?_⟩ he hz
          by_cases q : b = i
          · rw [q]; exact am_up_e _ _ _ _
          · rw [am_up_n _ _ _ _ _ (by omega)]
            exact wm_pl hW hb
        · refine am_r_aload0 (pc' := 184) rfl rfl ?_
          refine am_r_getR (t := 62) (pc' := 187) rfl rfl rfl ?_
          refine am_r_iload9 (pc' := 189) rfl rfl ?_
          refine am_r_iaZv (n := 8) (pc' := 190) rfl rfl rfl (by decide) (wm_pl hW (by omega)) ?_
          refine am_r_aload0 (pc' := 191) rfl rfl ?_
          refine am_r_getR (t := 58) (pc' := 194) rfl rfl rfl ?_
          refine am_r_iload9 (pc' := 196) rfl rfl ?_
          refine am_r_iaZv (n := 8) (pc' := 197) rfl rfl rfl (by decide) (sm_rd hM (by omega)) ?_
          refine am_r_iadd (pc' := 198) rfl rfl ?_
          refine am_r_iconst (pc' := 199) rfl rfl ?_
          refine am_r_isub (pc' := 200) rfl rfl ?_
          refine am_r_aload0 (pc' := 201) rfl rfl ?_
          refine am_r_getR (t := 58) (pc' := 204) rfl rfl rfl ?_
          refine am_r_iload9 (pc' := 206) rfl rfl ?_
          refine am_r_iaZv (n := 8) (pc' := 207) rfl rfl rfl (by decide) (sm_rd hM (by omega)) ?_
          refine am_r_irem (pc' := 208) rfl rfl ?_
          rw [y_back]
          refine am_r_goto (pc' := 218) rfl rfl ?_
          refine am_r_iast (n := 8) (pc' := 219) rfl rfl (rfl) (by decide) ?_
          refine am_r_iinc9 (pc' := 222) rfl rfl rfl ?_
          refine am_r_goto (pc' := 141) rfl rfl ?_
          rw [y_sl_m (x := (z, π)) h180] at he
          refine ih (i + 1) _ _ _ Z (by omega) (am_fm_up hF (by omega)) ⟨sm_fm hM (am_fm_up (am_fm_rf N) (by omega)), fun b hb => ?_, fun b hb => ?_⟩ he hz
          · by_cases q : b = i
            · simp only [if_pos q]
              rw [q]
              exact hmv
            · simp only [if_neg q]
              exact hW.2.1 b hb
          · by_cases q : b = i
            · simp only [if_pos q]
              rw [q]
              exact am_up_e _ _ _ _
            · simp only [if_neg q]
              rw [am_up_n _ _ _ _ _ (by omega)]
              exact wm_pl hW hb
  have hday : ∀ (y : Nat) (c e : Int), (0 ≤ n ∧ (1 ≤ n / 10000 ∧ n / 10000 ≤ 30) ∧ (1 ≤ n / 100 % 100 ∧ n / 100 % 100 ≤ 60) ∧ n % 100 ≤ 12 ∧ (a = -1 ∨ (0 ≤ a ∧ a < s_n σ))) → ∀ (k i : Nat) (w9 : Value) (N : Am_M) (Z : Option Value → Am_M → Prop), (i : Int) + k = n / 100 % 100 → am_fm M N → WM N σ (y_ds F σ χ (n % 100) i (y_zy F σ χ (n % 100) (n / 100 % 100).toNat z0 y, s_pl σ)).2 → (∀ (N' : Am_M) (w9' : Value), am_fm M N' → WM N' σ (y_ds F σ χ (n % 100) (n / 100 % 100).toNat (y_zy F σ χ (n % 100) (n / 100 % 100).toNat z0 y, s_pl σ)).2 → am_rw sL xs d am_pX11_drawn 1 231 [.ref 53, .int z0, .int (z_I n), .int (z_I a), .int (y_ds F σ χ (n % 100) (n / 100 % 100).toNat (y_zy F σ χ (n % 100) (n / 100 % 100).toNat z0 y, s_pl σ)).1, .int (z_I (c + y_mk F σ χ (n % 100) a (n / 100 % 100).toNat (y_zy F σ χ (n % 100) (n / 100 % 100).toNat z0 y, s_pl σ))), .int (z_I e), .int (z_I (y : Int)), .int (z_I (n / 100 % 100)), w9'] [] N' Z) → am_rw sL xs d am_pX11_drawn 1 98 [.ref 53, .int z0, .int (z_I n), .int (z_I a), .int (y_ds F σ χ (n % 100) i (y_zy F σ χ (n % 100) (n / 100 % 100).toNat z0 y, s_pl σ)).1, .int (z_I (c + y_mk F σ χ (n % 100) a i (y_zy F σ χ (n % 100) (n / 100 % 100).toNat z0 y, s_pl σ))), .int (z_I e), .int (z_I (y : Int)), .int (z_I (i : Int)), w9] [] N Z := by
    intro y c e hC k
    induction k with
    | zero =>
      intro i w9 N Z hk hF hW hz
      have hmi : (n / 100 % 100).toNat = i := by omega
      rw [hmi] at hz hW ⊢
      refine am_r_iload8 (pc' := 100) rfl rfl ?_
      refine am_r_iload2 (pc' := 101) rfl rfl ?_
      refine am_r_iconst (pc' := 103) rfl rfl ?_
      refine am_r_idiv (pc' := 104) rfl rfl ?_
      refine am_r_iconst (pc' := 106) rfl rfl ?_
      refine am_r_irem (pc' := 107) rfl rfl ?_
      refine am_r_icmp_ge (pt := 231) (pf := 110) rfl rfl rfl (fun h107 => ?_) (fun h107 => ?_)
      · rw [show (i : Int) = n / 100 % 100 by omega]
        exact hz N w9 hF hW
      · exfalso; omega
    | succ k ih =>
      intro i w9 N Z hk hF hW hz
      have hM := hW.1
      have hL := lm_fm hL hF
      obtain ⟨p, -, h19⟩ := z_of (N.1 53 19)
      obtain ⟨m, -, h20⟩ := z_of (N.1 53 20)
      refine am_r_iload8 (pc' := 100) rfl rfl ?_
      refine am_r_iload2 (pc' := 101) rfl rfl ?_
      refine am_r_iconst (pc' := 103) rfl rfl ?_
      refine am_r_idiv (pc' := 104) rfl rfl ?_
      refine am_r_iconst (pc' := 106) rfl rfl ?_
      refine am_r_irem (pc' := 107) rfl rfl ?_
      refine am_r_icmp_ge (pt := 231) (pf := 110) rfl rfl rfl (fun h107 => ?_) (fun h107 => ?_)
      · exfalso; omega
      · refine am_r_iload5 (pc' := 112) rfl rfl ?_
        refine am_r_iload3 (pc' := 113) rfl rfl ?_
        refine am_r_if_lt (pt := 128) (pf := 116) rfl rfl rfl (fun h113 => ?_) (fun h113 => ?_)
        · refine am_r_iconst (pc' := 129) rfl rfl ?_
          refine am_r_iadd (pc' := 130) rfl rfl ?_
          refine am_r_istore5 (pc' := 132) rfl rfl rfl ?_
          refine am_r_aload0 (pc' := 133) rfl rfl ?_
          refine am_r_iload8 (pc' := 135) rfl rfl ?_
          refine am_r_invV1 (pc' := 138) rfl rfl rfl (Nat.le_of_ble_eq_true rfl) (m_passes (χ := χ) (t := (i : Int)) (by omega) hW hL h19 h20 ?_)
          · intro M4 hf4 h464 hW4 h419 h420
            have hF := am_fm_tr hF hf4
            refine am_r_iconst (pc' := 139) rfl rfl ?_
            refine am_r_istore9 (pc' := 141) rfl rfl rfl ?_
            have hm1 : y_m1 σ a (y_ds F σ χ (n % 100) i (y_zy F σ χ (n % 100) (n / 100 % 100).toNat z0 y, s_pl σ)) = 0 := if_neg (fun q => by omega)
            refine hbod y (c + y_mk F σ χ (n % 100) a i (y_zy F σ χ (n % 100) (n / 100 % 100).toNat z0 y, s_pl σ) + 0) e (i : Int) ((y_ds F σ χ (n % 100) i (y_zy F σ χ (n % 100) (n / 100 % 100).toNat z0 y, s_pl σ)).1, y_nx σ χ (y_ds F σ χ (n % 100) i (y_zy F σ χ (n % 100) (n / 100 % 100).toNat z0 y, s_pl σ)).2 (i : Int)) (by omega) (s_n σ).toNat 0 (y_ds F σ χ (n % 100) i (y_zy F σ χ (n % 100) (n / 100 % 100).toNat z0 y, s_pl σ)).1 (y_nx σ χ (y_ds F σ χ (n % 100) i (y_zy F σ χ (n % 100) (n / 100 % 100).toNat z0 y, s_pl σ)).2 (i : Int)) M4 Z (by omega) hF hW4 rfl (fun N6 hF6 hW6 => ?_)
            refine am_r_iinc8 (pc' := 228) rfl rfl rfl ?_
            refine am_r_goto (pc' := 98) rfl rfl ?_
            have := ih (i + 1) (.int (z_I (s_n σ))) N6 Z (by omega) hF6 hW6 hz
            rw [show c + y_mk F σ χ (n % 100) a (i + 1) (y_zy F σ χ (n % 100) (n / 100 % 100).toNat z0 y, s_pl σ) = c + y_mk F σ χ (n % 100) a i (y_zy F σ χ (n % 100) (n / 100 % 100).toNat z0 y, s_pl σ) + 0 by rw [← hm1, Int.add_assoc]; rfl] at this
            exact this
        · refine am_r_aload0 (pc' := 117) rfl rfl ?_
          refine am_r_iload3 (pc' := 118) rfl rfl ?_
          refine am_r_invI1 (pc' := 121) rfl rfl rfl (Nat.le_of_ble_eq_true rfl) (m_meetsAnybody (by omega) hW (by omega) ?_)
          refine am_r_if_eqB (pt := 128) (pf := 124) rfl rfl rfl (fun h121 => ?_) (fun h121 => ?_)
          · refine am_r_iconst (pc' := 129) rfl rfl ?_
            refine am_r_iadd (pc' := 130) rfl rfl ?_
            refine am_r_istore5 (pc' := 132) rfl rfl rfl ?_
            refine am_r_aload0 (pc' := 133) rfl rfl ?_
            refine am_r_iload8 (pc' := 135) rfl rfl ?_
            refine am_r_invV1 (pc' := 138) rfl rfl rfl (Nat.le_of_ble_eq_true rfl) (m_passes (χ := χ) (t := (i : Int)) (by omega) hW hL h19 h20 ?_)
            · intro M4 hf4 h464 hW4 h419 h420
              have hF := am_fm_tr hF hf4
              refine am_r_iconst (pc' := 139) rfl rfl ?_
              refine am_r_istore9 (pc' := 141) rfl rfl rfl ?_
              have hm1 : y_m1 σ a (y_ds F σ χ (n % 100) i (y_zy F σ χ (n % 100) (n / 100 % 100).toNat z0 y, s_pl σ)) = 0 := if_neg (fun q => h121 q.2)
              refine hbod y (c + y_mk F σ χ (n % 100) a i (y_zy F σ χ (n % 100) (n / 100 % 100).toNat z0 y, s_pl σ) + 0) e (i : Int) ((y_ds F σ χ (n % 100) i (y_zy F σ χ (n % 100) (n / 100 % 100).toNat z0 y, s_pl σ)).1, y_nx σ χ (y_ds F σ χ (n % 100) i (y_zy F σ χ (n % 100) (n / 100 % 100).toNat z0 y, s_pl σ)).2 (i : Int)) (by omega) (s_n σ).toNat 0 (y_ds F σ χ (n % 100) i (y_zy F σ χ (n % 100) (n / 100 % 100).toNat z0 y, s_pl σ)).1 (y_nx σ χ (y_ds F σ χ (n % 100) i (y_zy F σ χ (n % 100) (n / 100 % 100).toNat z0 y, s_pl σ)).2 (i : Int)) M4 Z (by omega) hF hW4 rfl (fun N6 hF6 hW6 => ?_)
              refine am_r_iinc8 (pc' := 228) rfl rfl rfl ?_
              refine am_r_goto (pc' := 98) rfl rfl ?_
              have := ih (i + 1) (.int (z_I (s_n σ))) N6 Z (by omega) hF6 hW6 hz
              rw [show c + y_mk F σ χ (n % 100) a (i + 1) (y_zy F σ χ (n % 100) (n / 100 % 100).toNat z0 y, s_pl σ) = c + y_mk F σ χ (n % 100) a i (y_zy F σ χ (n % 100) (n / 100 % 100).toNat z0 y, s_pl σ) + 0 by rw [← hm1, Int.add_assoc]; rfl] at this
              exact this
          · refine am_r_iconst (pc' := 125) rfl rfl ?_
            refine am_r_goto (pc' := 129) rfl rfl ?_
            refine am_r_iadd (pc' := 130) rfl rfl ?_
            refine am_r_istore5 (pc' := 132) rfl rfl rfl ?_
            refine am_r_aload0 (pc' := 133) rfl rfl ?_
            refine am_r_iload8 (pc' := 135) rfl rfl ?_
            refine am_r_invV1 (pc' := 138) rfl rfl rfl (Nat.le_of_ble_eq_true rfl) (m_passes (χ := χ) (t := (i : Int)) (by omega) hW hL h19 h20 ?_)
            · intro M4 hf4 h464 hW4 h419 h420
              have hF := am_fm_tr hF hf4
              refine am_r_iconst (pc' := 139) rfl rfl ?_
              refine am_r_istore9 (pc' := 141) rfl rfl rfl ?_
              have hm1 : y_m1 σ a (y_ds F σ χ (n % 100) i (y_zy F σ χ (n % 100) (n / 100 % 100).toNat z0 y, s_pl σ)) = 1 := if_pos ⟨h113, h121⟩
              refine hbod y (c + y_mk F σ χ (n % 100) a i (y_zy F σ χ (n % 100) (n / 100 % 100).toNat z0 y, s_pl σ) + 1) e (i : Int) ((y_ds F σ χ (n % 100) i (y_zy F σ χ (n % 100) (n / 100 % 100).toNat z0 y, s_pl σ)).1, y_nx σ χ (y_ds F σ χ (n % 100) i (y_zy F σ χ (n % 100) (n / 100 % 100).toNat z0 y, s_pl σ)).2 (i : Int)) (by omega) (s_n σ).toNat 0 (y_ds F σ χ (n % 100) i (y_zy F σ χ (n % 100) (n / 100 % 100).toNat z0 y, s_pl σ)).1 (y_nx σ χ (y_ds F σ χ (n % 100) i (y_zy F σ χ (n % 100) (n / 100 % 100).toNat z0 y, s_pl σ)).2 (i : Int)) M4 Z (by omega) hF hW4 rfl (fun N6 hF6 hW6 => ?_)
              refine am_r_iinc8 (pc' := 228) rfl rfl rfl ?_
              refine am_r_goto (pc' := 98) rfl rfl ?_
              have := ih (i + 1) (.int (z_I (s_n σ))) N6 Z (by omega) hF6 hW6 hz
              rw [show c + y_mk F σ χ (n % 100) a (i + 1) (y_zy F σ χ (n % 100) (n / 100 % 100).toNat z0 y, s_pl σ) = c + y_mk F σ χ (n % 100) a i (y_zy F σ χ (n % 100) (n / 100 % 100).toNat z0 y, s_pl σ) + 1 by rw [← hm1, Int.add_assoc]; rfl] at this
              exact this
  have hflg : ∀ (y : Nat) (z : Int32) (c e : Int) (π : y_P), ∀ (k : Nat) (i t : Int) (N : Am_M) (Z : Option Value → Am_M → Prop), 0 ≤ i ∧ i + k = s_n σ → WM N σ π → (t = 1 ∧ f_all (y_is0 π) i k = y_z0 σ π) ∨ (t = 0 ∧ y_z0 σ π = false) → (∀ t' : Int, t' = (if y_z0 σ π = true then 1 else 0) → am_rw sL xs d am_pX11_drawn 1 274 [.ref 53, .int z0, .int (z_I n), .int (z_I a), .int z, .int (z_I c), .int (z_I e), .int (z_I (y : Int)), .int (z_I t'), .int (z_I (s_n σ))] [] N Z) → am_rw sL xs d am_pX11_drawn 1 237 [.ref 53, .int z0, .int (z_I n), .int (z_I a), .int z, .int (z_I c), .int (z_I e), .int (z_I (y : Int)), .int (z_I t), .int (z_I i)] [] N Z := by
    intro y z c e π k
    induction k with
    | zero =>
      intro i t N Z hk hW ht hz
      have hM := hW.1
      have hi : i = s_n σ := by omega
      refine am_r_iload9 (pc' := 239) rfl rfl ?_
      refine am_r_aload0 (pc' := 240) rfl rfl ?_
      refine am_r_getIv (f := 6) (pc' := 243) rfl rfl rfl (sm_n hM) ?_
      refine am_r_icmp_ge (pt := 274) (pf := 246) rfl rfl rfl (fun h243 => ?_) (fun h243 => ?_)
      · rw [hi]
        refine hz t ?_
        rcases ht with ⟨e1, e2⟩ | ⟨e1, e2⟩
        · rw [e1, ← e2]; rfl
        · rw [e1, e2]; rfl
      · exfalso; omega
    | succ k ih =>
      intro i t N Z hk hW ht hz
      have hM := hW.1
      have hg := sg_b hM.1 (a := i) (by omega)
      have hpi := wm_b hW (a := i) (by omega)
      refine am_r_iload9 (pc' := 239) rfl rfl ?_
      refine am_r_aload0 (pc' := 240) rfl rfl ?_
      refine am_r_getIv (f := 6) (pc' := 243) rfl rfl rfl (sm_n hM) ?_
      refine am_r_icmp_ge (pt := 274) (pf := 246) rfl rfl rfl (fun h243 => ?_) (fun h243 => ?_)
      · exfalso; omega
      · have htb : t = 0 ∨ t = 1 := ht.elim (fun q => Or.inr q.1) (fun q => Or.inl q.1)
        refine am_r_iload8 (pc' := 248) rfl rfl ?_
        refine am_r_if_eq (pt := 265) (pf := 251) rfl rfl rfl (fun h248 => ?_) (fun h248 => ?_)
        · refine am_r_iconst (pc' := 266) rfl rfl ?_
          refine am_r_istore8 (pc' := 268) rfl rfl rfl ?_
          refine am_r_iinc9 (pc' := 271) rfl rfl rfl ?_
          refine am_r_goto (pc' := 237) rfl rfl ?_
          refine ih (i + 1) 0 N Z (by omega) hW (Or.inr ⟨rfl, ?_⟩) hz
          rcases ht with ⟨e1, e2⟩ | ⟨e1, e2⟩
          · exfalso; omega
          · exact e2
        · refine am_r_aload0 (pc' := 252) rfl rfl ?_
          refine am_r_getR (t := 62) (pc' := 255) rfl rfl rfl ?_
          refine am_r_iload9 (pc' := 257) rfl rfl ?_
          refine am_r_iaZv (n := 8) (pc' := 258) rfl rfl rfl (by decide) (wm_pl hW (by omega)) ?_
          refine am_r_if_ne (pt := 265) (pf := 261) rfl rfl rfl (fun h258 => ?_) (fun h258 => ?_)
          · refine am_r_iconst (pc' := 266) rfl rfl ?_
            refine am_r_istore8 (pc' := 268) rfl rfl rfl ?_
            refine am_r_iinc9 (pc' := 271) rfl rfl rfl ?_
            refine am_r_goto (pc' := 237) rfl rfl ?_
            refine ih (i + 1) 0 N Z (by omega) hW (Or.inr ⟨rfl, ?_⟩) hz
            rcases ht with ⟨e1, e2⟩ | ⟨e1, e2⟩
            · rw [← e2]; exact f_all_f (show ¬ y_is0 π i = true from fun q => h258 (of_decide_eq_true q))
            · exact e2
          · refine am_r_iconst (pc' := 262) rfl rfl ?_
            refine am_r_goto (pc' := 266) rfl rfl ?_
            refine am_r_istore8 (pc' := 268) rfl rfl rfl ?_
            refine am_r_iinc9 (pc' := 271) rfl rfl rfl ?_
            refine am_r_goto (pc' := 237) rfl rfl ?_
            refine ih (i + 1) 1 N Z (by omega) hW ?_ hz
            rcases ht with ⟨e1, e2⟩ | ⟨e1, e2⟩
            · exact Or.inl ⟨rfl, by rw [← e2]; exact (f_all_t (show y_is0 π i = true from decide_eq_true h258)).symm⟩
            · exfalso; omega
  have hyr : (0 ≤ n ∧ (1 ≤ n / 10000 ∧ n / 10000 ≤ 30) ∧ (1 ≤ n / 100 % 100 ∧ n / 100 % 100 ≤ 60) ∧ n % 100 ≤ 12 ∧ (a = -1 ∨ (0 ≤ a ∧ a < s_n σ))) → ∀ (k y : Nat) (w8 w9 : Value) (N : Am_M), (y : Int) + k = n / 10000 → am_fm M N → am_rw sL xs d am_pX11_drawn 1 81 [.ref 53, .int z0, .int (z_I n), .int (z_I a), .int (y_zy F σ χ (n % 100) (n / 100 % 100).toNat z0 y), .int (z_I (y_ym F σ χ (n % 100) a (n / 100 % 100).toNat z0 y)), .int (z_I (y_ye F σ χ (n % 100) (n / 100 % 100).toNat z0 y)), .int (z_I (y : Int)), w8, w9] [] N (am_pi Q) := by
    intro hC k
    induction k with
    | zero =>
      intro y w8 w9 N hk hF
      have hyy : (n / 10000).toNat = y := by omega
      refine am_r_iload7 (pc' := 83) rfl rfl ?_
      refine am_r_iload2 (pc' := 84) rfl rfl ?_
      refine am_r_iconst (pc' := 87) rfl rfl ?_
      refine am_r_idiv (pc' := 88) rfl rfl ?_
      refine am_r_icmp_ge (pt := 295) (pf := 91) rfl rfl rfl (fun h88 => ?_) (fun h88 => ?_)
      · refine am_r_iload3 (pc' := 296) rfl rfl ?_
        refine am_r_if_ge (pt := 304) (pf := 299) rfl rfl rfl (fun h296 => ?_) (fun h296 => ?_)
        · refine am_r_iload5 (pc' := 306) rfl rfl ?_
          refine am_r_iret rfl rfl ?_
          refine am_q ?_ (hq N hF)
          unfold r_drawn y_dr
          rw [if_pos hC, if_pos (by omega), hyy]
        · refine am_r_iload6 (pc' := 301) rfl rfl ?_
          refine am_r_goto (pc' := 306) rfl rfl ?_
          refine am_r_iret rfl rfl ?_
          refine am_q ?_ (hq N hF)
          unfold r_drawn y_dr
          rw [if_pos hC, if_neg (by omega), hyy]
      · exfalso; omega
    | succ k ih =>
      intro y w8 w9 N hk hF
      have hM := sm_fm hM hF
      refine am_r_iload7 (pc' := 83) rfl rfl ?_
      refine am_r_iload2 (pc' := 84) rfl rfl ?_
      refine am_r_iconst (pc' := 87) rfl rfl ?_
      refine am_r_idiv (pc' := 88) rfl rfl ?_
      refine am_r_icmp_ge (pt := 295) (pf := 91) rfl rfl rfl (fun h88 => ?_) (fun h88 => ?_)
      · exfalso; omega
      · refine am_r_aload0 (pc' := 92) rfl rfl ?_
        refine am_r_invV0 (pc' := 95) rfl rfl rfl (Nat.le_of_ble_eq_true rfl) (m_begins (by omega) hM ?_)
        · intro M2 hf2 hW2 h19 h20
          have hF2 := am_fm_tr hF hf2
          refine am_r_iconst (pc' := 96) rfl rfl ?_
          refine am_r_istore8 (pc' := 98) rfl rfl rfl ?_
          refine Eq.mp ?_ (hday y (y_ym F σ χ (n % 100) a (n / 100 % 100).toNat z0 y) (y_ye F σ χ (n % 100) (n / 100 % 100).toNat z0 y) hC (n / 100 % 100).toNat 0 w9 M2 (am_pi Q) (by omega) hF2 hW2 (fun N4 w9' hF4 hW4 => ?_))
          · rw [show y_mk F σ χ (n % 100) a 0 (y_zy F σ χ (n % 100) (n / 100 % 100).toNat z0 y, s_pl σ) = 0 from rfl, Int.add_zero]; rfl
          · refine am_r_iconst (pc' := 232) rfl rfl ?_
            refine am_r_istore8 (pc' := 234) rfl rfl rfl ?_
            refine am_r_iconst (pc' := 235) rfl rfl ?_
            refine am_r_istore9 (pc' := 237) rfl rfl rfl ?_
            refine hflg y _ _ _ (y_ds F σ χ (n % 100) (n / 100 % 100).toNat (y_zy F σ χ (n % 100) (n / 100 % 100).toNat z0 y, s_pl σ)).2 (s_n σ).toNat 0 1 N4 _ (by omega) hW4 (Or.inl ⟨rfl, rfl⟩) (fun t' ht' => ?_)
            have htb : t' = 0 ∨ t' = 1 := by rw [ht']; split <;> simp
            refine am_r_iload6 (pc' := 276) rfl rfl ?_
            refine am_r_iload8 (pc' := 278) rfl rfl ?_
            refine am_r_if_eq (pt := 285) (pf := 281) rfl rfl rfl (fun h278 => ?_) (fun h278 => ?_)
            · refine am_r_iconst (pc' := 286) rfl rfl ?_
              refine am_r_iadd (pc' := 287) rfl rfl ?_
              refine am_r_istore6 (pc' := 289) rfl rfl rfl ?_
              refine am_r_iinc7 (pc' := 292) rfl rfl rfl ?_
              refine am_r_goto (pc' := 81) rfl rfl ?_
              have := ih (y + 1) (.int (z_I t')) (.int (z_I (s_n σ))) N4 (by omega) hF4
              rw [show y_ye F σ χ (n % 100) (n / 100 % 100).toNat z0 (y + 1) = y_ye F σ χ (n % 100) (n / 100 % 100).toNat z0 y + 0 from by
                have e9 : (if y_z0 σ (y_ds F σ χ (n % 100) (n / 100 % 100).toNat (y_zy F σ χ (n % 100) (n / 100 % 100).toNat z0 y, s_pl σ)).2 = true then (1 : Int) else 0) = 0 := by omega
                rw [← e9]; rfl] at this
              exact this
            · refine am_r_iconst (pc' := 282) rfl rfl ?_
              refine am_r_goto (pc' := 286) rfl rfl ?_
              refine am_r_iadd (pc' := 287) rfl rfl ?_
              refine am_r_istore6 (pc' := 289) rfl rfl rfl ?_
              refine am_r_iinc7 (pc' := 292) rfl rfl rfl ?_
              refine am_r_goto (pc' := 81) rfl rfl ?_
              have := ih (y + 1) (.int (z_I t')) (.int (z_I (s_n σ))) N4 (by omega) hF4
              rw [show y_ye F σ χ (n % 100) (n / 100 % 100).toNat z0 (y + 1) = y_ye F σ χ (n % 100) (n / 100 % 100).toNat z0 y + 1 from by
                have e9 : (if y_z0 σ (y_ds F σ χ (n % 100) (n / 100 % 100).toNat (y_zy F σ χ (n % 100) (n / 100 % 100).toNat z0 y, s_pl σ)).2 = true then (1 : Int) else 0) = 1 := by omega
                rw [← e9]; rfl] at this
              exact this
  refine am_bi_of (P := am_pX11_drawn) (rt := 1) (nL := 10) (Nat.le_of_ble_eq_true rfl) rfl (Nat.le_of_ble_eq_true rfl) rfl rfl rfl ?_
  refine am_r_iload2 (pc' := 1) rfl rfl ?_
  refine am_r_if_lt (pt := 67) (pf := 4) rfl rfl rfl (fun h1 => ?_) (fun h1 => ?_)
  · refine am_r_iconst (pc' := 68) rfl rfl ?_
    refine am_r_iret rfl rfl ?_
    refine am_q ?_ (hq M (am_fm_rf M))
    unfold r_drawn
    rw [if_neg (by omega)]
  · refine am_r_iload2 (pc' := 5) rfl rfl ?_
    refine am_r_iconst (pc' := 8) rfl rfl ?_
    refine am_r_idiv (pc' := 9) rfl rfl ?_
    refine am_r_i2l (pc' := 10) rfl rfl ?_
    refine am_r_lconst (z := 1) (pc' := 11) rfl rfl rfl ?_
    refine am_r_lconst (z := 30) (pc' := 14) rfl rfl rfl ?_
    refine am_r_ivsI3 (pc' := 17) rfl rfl rfl (Nat.le_of_ble_eq_true rfl) (m_within (by omega) (by omega) (by omega) (by omega) ?_)
    refine am_r_if_eqB (pt := 67) (pf := 20) rfl rfl rfl (fun h17 => ?_) (fun h17 => ?_)
    · refine am_r_iconst (pc' := 68) rfl rfl ?_
      refine am_r_iret rfl rfl ?_
      refine am_q ?_ (hq M (am_fm_rf M))
      unfold r_drawn
      rw [if_neg (by omega)]
    · refine am_r_iload2 (pc' := 21) rfl rfl ?_
      refine am_r_iconst (pc' := 23) rfl rfl ?_
      refine am_r_idiv (pc' := 24) rfl rfl ?_
      refine am_r_iconst (pc' := 26) rfl rfl ?_
      refine am_r_irem (pc' := 27) rfl rfl ?_
      refine am_r_i2l (pc' := 28) rfl rfl ?_
      refine am_r_lconst (z := 1) (pc' := 29) rfl rfl rfl ?_
      refine am_r_lconst (z := 60) (pc' := 32) rfl rfl rfl ?_
      refine am_r_ivsI3 (pc' := 35) rfl rfl rfl (Nat.le_of_ble_eq_true rfl) (m_within (by omega) (by omega) (by omega) (by omega) ?_)
      refine am_r_if_eqB (pt := 67) (pf := 38) rfl rfl rfl (fun h35 => ?_) (fun h35 => ?_)
      · refine am_r_iconst (pc' := 68) rfl rfl ?_
        refine am_r_iret rfl rfl ?_
        refine am_q ?_ (hq M (am_fm_rf M))
        unfold r_drawn
        rw [if_neg (by omega)]
      · refine am_r_iload2 (pc' := 39) rfl rfl ?_
        refine am_r_iconst (pc' := 41) rfl rfl ?_
        refine am_r_irem (pc' := 42) rfl rfl ?_
        refine am_r_i2l (pc' := 43) rfl rfl ?_
        refine am_r_lconst (z := 0) (pc' := 44) rfl rfl rfl ?_
        refine am_r_lconst (z := 12) (pc' := 47) rfl rfl rfl ?_
        refine am_r_ivsI3 (pc' := 50) rfl rfl rfl (Nat.le_of_ble_eq_true rfl) (m_within (by omega) (by omega) (by omega) (by omega) ?_)
        refine am_r_if_eqB (pt := 67) (pf := 53) rfl rfl rfl (fun h50 => ?_) (fun h50 => ?_)
        · refine am_r_iconst (pc' := 68) rfl rfl ?_
          refine am_r_iret rfl rfl ?_
          refine am_q ?_ (hq M (am_fm_rf M))
          unfold r_drawn
          rw [if_neg (by omega)]
        · refine am_r_iload3 (pc' := 54) rfl rfl ?_
          refine am_r_iconst (pc' := 55) rfl rfl ?_
          refine am_r_icmp_eq (pt := 69) (pf := 58) rfl rfl rfl (fun h55 => ?_) (fun h55 => ?_)
          · refine am_r_iload1 (pc' := 70) rfl rfl ?_
            refine am_r_istore4 (pc' := 72) rfl rfl rfl ?_
            refine am_r_iconst (pc' := 73) rfl rfl ?_
            refine am_r_istore5 (pc' := 75) rfl rfl rfl ?_
            refine am_r_iconst (pc' := 76) rfl rfl ?_
            refine am_r_istore6 (pc' := 78) rfl rfl rfl ?_
            refine am_r_iconst (pc' := 79) rfl rfl ?_
            refine am_r_istore7 (pc' := 81) rfl rfl rfl ?_
            exact hyr (by omega) (n / 10000).toNat 0 _ _ M (by omega) (am_fm_rf M)
          · refine am_r_aload0 (pc' := 59) rfl rfl ?_
            refine am_r_iload3 (pc' := 60) rfl rfl ?_
            refine am_r_i2l (pc' := 61) rfl rfl ?_
            refine am_r_invI1 (pc' := 64) rfl rfl rfl (Nat.le_of_ble_eq_true rfl) (m_isOrb (by omega) hM (by omega) ?_)
            refine am_r_if_neB (pt := 69) (pf := 67) rfl rfl rfl (fun h64 => ?_) (fun h64 => ?_)
            · refine am_r_iload1 (pc' := 70) rfl rfl ?_
              refine am_r_istore4 (pc' := 72) rfl rfl rfl ?_
              refine am_r_iconst (pc' := 73) rfl rfl ?_
              refine am_r_istore5 (pc' := 75) rfl rfl rfl ?_
              refine am_r_iconst (pc' := 76) rfl rfl ?_
              refine am_r_istore6 (pc' := 78) rfl rfl rfl ?_
              refine am_r_iconst (pc' := 79) rfl rfl ?_
              refine am_r_istore7 (pc' := 81) rfl rfl rfl ?_
              exact hyr (by omega) (n / 10000).toNat 0 _ _ M (by omega) (am_fm_rf M)
            · refine am_r_iconst (pc' := 68) rfl rfl ?_
              refine am_r_iret rfl rfl ?_
              refine am_q ?_ (hq M (am_fm_rf M))
              unfold r_drawn
              rw [if_neg (by omega)]
