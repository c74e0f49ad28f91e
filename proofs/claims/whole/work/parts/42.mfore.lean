/-! PUSHED, the reference: days one behind another -/
theorem y_pd_s (σ : Sg) (χ : q_X) (s : Int) (i k : Nat) : s + f_sum (y_pd σ χ) (i : Int) (k + 1) = (s + y_pu σ χ (y_at σ χ i) (i : Int)) + f_sum (y_pd σ χ) ((i : Int) + 1) k := f_sum_s
theorem m_goes {sL : Nat} {xs : Nat → Int32} {d : Nat} {M : Am_M} {Q : Am_M → Prop} (hd : 55 ≤ d) {σ : Sg} {χ : q_X} (hM : SM M σ) (hL : LM M χ) {n : Int} (hnn : 0 ≤ n ∧ n ≤ 200) (hq : ∀ M', am_fm M M' → WM M' σ (y_at σ χ n.toNat) → Q M') : am_bv sL xs d 217 [.ref 53, .int (z_I n)] M Q := by
  obtain ⟨d, rfl⟩ : ∃ e, d = e + 1 := ⟨d - 1, by omega⟩
  have hn := sb_nb hM.1
  have hnr := sb_nrb hM.1
  have hloop : ∀ (k i : Nat) (p m : Int) (N : Am_M), (i : Int) + k = n → am_fm M N → WM N σ (y_at σ χ i) → N.1 53 19 = z_I p → N.1 53 20 = z_I m → am_rw sL xs d am_pX11_goes 0 6 [.ref 53, .int (z_I n), .int (z_I (i : Int))] [] N (am_pv Q) := by
    intro k
    induction k with
    | zero =>
      intro i p m N hk hF hW h19 h20
      have hM := hW.1
      have hL := lm_fm hL hF
      refine am_r_iload2 (pc' := 7) rfl rfl ?_
      refine am_r_iload1 (pc' := 8) rfl rfl ?_
      refine am_r_icmp_ge (pt := 22) (pf := 11) rfl rfl rfl (fun h8 => ?_) (fun h8 => ?_)
      · refine am_r_vret rfl rfl ?_
        rw [show n.toNat = i by omega] at hq
        exact hq N hF hW
      · exfalso; omega
    | succ k ih =>
      intro i p m N hk hF hW h19 h20
      have hM := hW.1
      have hL := lm_fm hL hF
      refine am_r_iload2 (pc' := 7) rfl rfl ?_
      refine am_r_iload1 (pc' := 8) rfl rfl ?_
      refine am_r_icmp_ge (pt := 22) (pf := 11) rfl rfl rfl (fun h8 => ?_) (fun h8 => ?_)
      · exfalso; omega
      · refine am_r_aload0 (pc' := 12) rfl rfl ?_
        refine am_r_iload2 (pc' := 13) rfl rfl ?_
        refine am_r_invV1 (pc' := 16) rfl rfl rfl (Nat.le_of_ble_eq_true rfl) (m_passes (χ := χ) (t := (i : Int)) (by omega) hW hL h19 h20 ?_)
        · intro M4 hf4 h464 hW4 h419 h420
          have hF := am_fm_tr hF hf4
          refine am_r_iinc2 (pc' := 19) rfl rfl rfl ?_
          refine am_r_goto (pc' := 6) rfl rfl ?_
          exact ih (i + 1) _ _ M4 (by omega) hF hW4 h419 h420
  refine am_bv_of (P := am_pX11_goes) (rt := 0) (nL := 3) (Nat.le_of_ble_eq_true rfl) rfl (Nat.le_of_ble_eq_true rfl) rfl rfl rfl ?_
  refine am_r_aload0 (pc' := 1) rfl rfl ?_
  refine am_r_invV0 (pc' := 4) rfl rfl rfl (Nat.le_of_ble_eq_true rfl) (m_begins (by omega) hM ?_)
  · intro M2 hf2 hW2 h19 h20
    have hF := hf2
    refine am_r_iconst (pc' := 5) rfl rfl ?_
    refine am_r_istore2 (pc' := 6) rfl rfl rfl ?_
    exact hloop n.toNat 0 0 0 M2 (by omega) hF hW2 h19 h20
theorem m_later {sL : Nat} {xs : Nat → Int32} {d : Nat} {M : Am_M} {Q : Int32 → Am_M → Prop} (hd : 56 ≤ d) {σ : Sg} {χ : q_X} (hM : SM M σ) (hL : LM M χ) {a : Int} (ha : -2147483648 ≤ a ∧ a < 2147483648) {n : Int} (hn : -2147483648 ≤ n ∧ n < 2147483648)  (hq : ∀ M', am_fm M M' → Q (z_I (r_later σ χ a n)) M') : am_bi sL xs d 219 [.ref 53, .int (z_I a), .int (z_I n)] M Q := by
  obtain ⟨d, rfl⟩ : ∃ e, d = e + 1 := ⟨d - 1, by omega⟩
  have hn := sb_nb hM.1
  have hnr := sb_nrb hM.1
  refine am_bi_of (P := am_pX11_later) (rt := 1) (nL := 3) (Nat.le_of_ble_eq_true rfl) rfl (Nat.le_of_ble_eq_true rfl) rfl rfl rfl ?_
  refine am_r_aload0 (pc' := 1) rfl rfl ?_
  refine am_r_iload1 (pc' := 2) rfl rfl ?_
  refine am_r_i2l (pc' := 3) rfl rfl ?_
  refine am_r_invI1 (pc' := 6) rfl rfl rfl (Nat.le_of_ble_eq_true rfl) (m_isOrb (by omega) hM (by omega) ?_)
  refine am_r_if_eqB (pt := 16) (pf := 9) rfl rfl rfl (fun h6 => ?_) (fun h6 => ?_)
  · refine am_r_iconst (pc' := 17) rfl rfl ?_
    refine am_r_iret rfl rfl ?_
    refine am_q ?_ (hq M (am_fm_rf M))
    unfold r_later
    (repeat (first | rw [if_pos (by omega)] | rw [if_neg (by omega)]))
    all_goals first | rfl | omega
  · refine am_r_iload2 (pc' := 10) rfl rfl ?_
    refine am_r_ivsI1 (pc' := 13) rfl rfl rfl (Nat.le_of_ble_eq_true rfl) (m_isPushed (by omega) (by omega) ?_)
    refine am_r_if_neB (pt := 18) (pf := 16) rfl rfl rfl (fun h13 => ?_) (fun h13 => ?_)
    · refine am_r_aload0 (pc' := 19) rfl rfl ?_
      refine am_r_iload2 (pc' := 20) rfl rfl ?_
      refine am_r_invV1 (pc' := 23) rfl rfl rfl (Nat.le_of_ble_eq_true rfl) (m_goes (χ := χ) (by omega) hM hL (by omega) ?_)
      · intro M3 hf3 hW
        refine am_r_aload0 (pc' := 24) rfl rfl ?_
        refine am_r_getR (t := 62) (pc' := 27) rfl rfl rfl ?_
        refine am_r_iload1 (pc' := 28) rfl rfl ?_
        refine am_r_iaZv (n := 8) (pc' := 29) rfl rfl rfl (by decide) (wm_pl hW (by omega)) ?_
        refine am_r_iret rfl rfl ?_
        refine am_q ?_ (hq M3 hf3)
        unfold r_later
        (repeat (first | rw [if_pos (by omega)] | rw [if_neg (by omega)]))
        all_goals first | rfl | omega
    · refine am_r_iconst (pc' := 17) rfl rfl ?_
      refine am_r_iret rfl rfl ?_
      refine am_q ?_ (hq M (am_fm_rf M))
      unfold r_later
      (repeat (first | rw [if_pos (by omega)] | rw [if_neg (by omega)]))
      all_goals first | rfl | omega
theorem m_pushes {sL : Nat} {xs : Nat → Int32} {d : Nat} {M : Am_M} {Q : Int32 → Am_M → Prop} (hd : 55 ≤ d) {σ : Sg} {χ : q_X} (hM : SM M σ) (hL : LM M χ) {n : Int} (hn : -2147483648 ≤ n ∧ n < 2147483648) {w : Int} (hw : -2147483648 ≤ w ∧ w < 2147483648) (hq : ∀ M', am_fm M M' → Q (z_I (r_pushes σ χ n w)) M') : am_bi sL xs d 220 [.ref 53, .int (z_I n), .int (z_I w)] M Q := by
  obtain ⟨d, rfl⟩ : ∃ e, d = e + 1 := ⟨d - 1, by omega⟩
  have hn := sb_nb hM.1
  have hnr := sb_nrb hM.1
  have hloop : ∀ (k i : Nat) (s v m : Int) (N : Am_M), (0 ≤ n ∧ n ≤ 200) → (w = 0 ∨ w = 1) → (i : Int) + k = n → am_fm M N → WM N σ (y_at σ χ i) → N.1 53 19 = z_I s → N.1 53 20 = z_I m → s + f_sum (y_pd σ χ) (i : Int) k = f_sum (y_pd σ χ) 0 n.toNat → ((v = -2 ∧ s = 0 ∧ f_first (y_pdp σ χ) (i : Int) k = f_first (y_pdp σ χ) 0 n.toNat) ∨ (0 ≤ v ∧ v ≤ 200 ∧ v = f_first (y_pdp σ χ) 0 n.toNat)) → (0 ≤ s ∧ s ≤ 64 * (i : Int)) → am_rw sL xs d am_pX11_pushes 1 29 [.ref 53, .int (z_I n), .int (z_I w), .int (z_I v), .int (z_I (i : Int))] [] N (am_pi Q) := by
    intro k
    induction k with
    | zero =>
      intro i s v m N hnn hw hk hF hW h19 h20 hs hv hsb
      have hM := hW.1
      have hL := lm_fm hL hF
      refine am_r_iload4 (pc' := 31) rfl rfl ?_
      refine am_r_iload1 (pc' := 32) rfl rfl ?_
      refine am_r_icmp_ge (pt := 65) (pf := 35) rfl rfl rfl (fun h32 => ?_) (fun h32 => ?_)
      · refine am_r_iload2 (pc' := 66) rfl rfl ?_
        refine am_r_if_ne (pt := 76) (pf := 69) rfl rfl rfl (fun h66 => ?_) (fun h66 => ?_)
        · refine am_r_iload3 (pc' := 77) rfl rfl ?_
          refine am_r_iret rfl rfl ?_
          refine am_q ?_ (hq N hF)
          unfold r_pushes
          rw [if_pos (by omega)]
          first
          | (rw [if_pos (by omega), ← hs, f_sum_0])
          | (rw [if_neg (by omega)]
             rcases hv with ⟨e1, e2, e3⟩ | ⟨e1, e2, e3⟩
             · rw [e1, ← e3]; rfl
             · exact e3)
        · refine am_r_aload0 (pc' := 70) rfl rfl ?_
          refine am_r_getIv (f := 19) (pc' := 73) rfl rfl rfl (h19) ?_
          refine am_r_goto (pc' := 77) rfl rfl ?_
          refine am_r_iret rfl rfl ?_
          refine am_q ?_ (hq N hF)
          unfold r_pushes
          rw [if_pos (by omega)]
          first
          | (rw [if_pos (by omega), ← hs, f_sum_0])
          | (rw [if_neg (by omega)]
             rcases hv with ⟨e1, e2, e3⟩ | ⟨e1, e2, e3⟩
             · rw [e1, ← e3]; rfl
             · exact e3)
      · exfalso; omega
    | succ k ih =>
      intro i s v m N hnn hw hk hF hW h19 h20 hs hv hsb
      have hM := hW.1
      have hL := lm_fm hL hF
      have hpb := y_pu_b hM.1 χ (y_at σ χ i) (i : Int)
      have hp0 := y_pu_0 σ χ (y_at σ χ i) (i : Int)
      rw [y_pd_s] at hs
      refine am_r_iload4 (pc' := 31) rfl rfl ?_
      refine am_r_iload1 (pc' := 32) rfl rfl ?_
      refine am_r_icmp_ge (pt := 65) (pf := 35) rfl rfl rfl (fun h32 => ?_) (fun h32 => ?_)
      · exfalso; omega
      · refine am_r_aload0 (pc' := 36) rfl rfl ?_
        refine am_r_iload4 (pc' := 38) rfl rfl ?_
        refine am_r_invV1 (pc' := 41) rfl rfl rfl (Nat.le_of_ble_eq_true rfl) (m_passes (χ := χ) (t := (i : Int)) (by omega) hW hL h19 h20 ?_)
        · intro M4 hf4 h464 hW4 h419 h420
          have hF := am_fm_tr hF hf4
          refine am_r_iload3 (pc' := 42) rfl rfl ?_
          refine am_r_if_ge (pt := 57) (pf := 45) rfl rfl rfl (fun h42 => ?_) (fun h42 => ?_)
          · refine am_r_iload3 (pc' := 58) rfl rfl ?_
            refine am_r_istore3 (pc' := 59) rfl rfl rfl ?_
            refine am_r_iinc4 (pc' := 62) rfl rfl rfl ?_
            refine am_r_goto (pc' := 29) rfl rfl ?_
            refine ih (i + 1) _ _ _ M4 hnn hw (by omega) hF hW4 h419 h420 hs ?_ (by omega)
            rcases hv with ⟨e1, e2, e3⟩ | ⟨e1, e2, e3⟩
            · refine Or.inl ⟨e1, by omega, ?_⟩
              rw [← e3, f_first_f (show ¬ y_pdp σ χ (i : Int) = true from fun q => by have q2 : 0 < y_pu σ χ (y_at σ χ i) (i : Int) := of_decide_eq_true q; omega)]
              rfl
            · exact Or.inr ⟨e1, e2, e3⟩
          · refine am_r_aload0 (pc' := 46) rfl rfl ?_
            refine am_r_getIv (f := 19) (pc' := 49) rfl rfl rfl (h419) ?_
            refine am_r_if_le (pt := 57) (pf := 52) rfl rfl rfl (fun h49 => ?_) (fun h49 => ?_)
            · refine am_r_iload3 (pc' := 58) rfl rfl ?_
              refine am_r_istore3 (pc' := 59) rfl rfl rfl ?_
              refine am_r_iinc4 (pc' := 62) rfl rfl rfl ?_
              refine am_r_goto (pc' := 29) rfl rfl ?_
              refine ih (i + 1) _ _ _ M4 hnn hw (by omega) hF hW4 h419 h420 hs ?_ (by omega)
              rcases hv with ⟨e1, e2, e3⟩ | ⟨e1, e2, e3⟩
              · refine Or.inl ⟨e1, by omega, ?_⟩
                rw [← e3, f_first_f (show ¬ y_pdp σ χ (i : Int) = true from fun q => by have q2 : 0 < y_pu σ χ (y_at σ χ i) (i : Int) := of_decide_eq_true q; omega)]
                rfl
              · exact Or.inr ⟨e1, e2, e3⟩
            · refine am_r_iload4 (pc' := 54) rfl rfl ?_
              refine am_r_goto (pc' := 58) rfl rfl ?_
              refine am_r_istore3 (pc' := 59) rfl rfl rfl ?_
              refine am_r_iinc4 (pc' := 62) rfl rfl rfl ?_
              refine am_r_goto (pc' := 29) rfl rfl ?_
              refine ih (i + 1) _ _ _ M4 hnn hw (by omega) hF hW4 h419 h420 hs (Or.inr ⟨by omega, by omega, ?_⟩) (by omega)
              rcases hv with ⟨e1, e2, e3⟩ | ⟨e1, e2, e3⟩
              · rw [← e3, f_first_t (show y_pdp σ χ (i : Int) = true from decide_eq_true (show 0 < y_pu σ χ (y_at σ χ i) (i : Int) by omega))]
              · exfalso; omega
  refine am_bi_of (P := am_pX11_pushes) (rt := 1) (nL := 5) (Nat.le_of_ble_eq_true rfl) rfl (Nat.le_of_ble_eq_true rfl) rfl rfl rfl ?_
  refine am_r_iload1 (pc' := 1) rfl rfl ?_
  refine am_r_ivsI1 (pc' := 4) rfl rfl rfl (Nat.le_of_ble_eq_true rfl) (m_isPushed (by omega) (by omega) ?_)
  refine am_r_if_eqB (pt := 17) (pf := 7) rfl rfl rfl (fun h4 => ?_) (fun h4 => ?_)
  · refine am_r_iconst (pc' := 18) rfl rfl ?_
    refine am_r_iret rfl rfl ?_
    refine am_q ?_ (hq M (am_fm_rf M))
    unfold r_pushes
    (repeat (first | rw [if_pos (by omega)] | rw [if_neg (by omega)]))
    all_goals first | rfl | omega
  · refine am_r_iload2 (pc' := 8) rfl rfl ?_
    refine am_r_i2l (pc' := 9) rfl rfl ?_
    refine am_r_lconst (z := 0) (pc' := 10) rfl rfl rfl ?_
    refine am_r_lconst (z := 1) (pc' := 11) rfl rfl rfl ?_
    refine am_r_ivsI3 (pc' := 14) rfl rfl rfl (Nat.le_of_ble_eq_true rfl) (m_within (by omega) (by omega) (by omega) (by omega) ?_)
    refine am_r_if_neB (pt := 19) (pf := 17) rfl rfl rfl (fun h14 => ?_) (fun h14 => ?_)
    · refine am_r_aload0 (pc' := 20) rfl rfl ?_
      refine am_r_invV0 (pc' := 23) rfl rfl rfl (Nat.le_of_ble_eq_true rfl) (m_begins (by omega) hM ?_)
      · intro M2 hf2 hW2 h19 h20
        have hF := hf2
        refine am_r_iconst (pc' := 25) rfl rfl ?_
        refine am_r_istore3 (pc' := 26) rfl rfl rfl ?_
        refine am_r_iconst (pc' := 27) rfl rfl ?_
        refine am_r_istore4 (pc' := 29) rfl rfl rfl ?_
        exact hloop n.toNat 0 0 (-2) 0 M2 (by omega) (by omega) (by omega) hF hW2 h19 h20 (Int.zero_add _) (Or.inl ⟨rfl, rfl, rfl⟩) (by omega)
    · refine am_r_iconst (pc' := 18) rfl rfl ?_
      refine am_r_iret rfl rfl ?_
      refine am_q ?_ (hq M (am_fm_rf M))
      unfold r_pushes
      (repeat (first | rw [if_pos (by omega)] | rw [if_neg (by omega)]))
      all_goals first | rfl | omega
theorem m_met {sL : Nat} {xs : Nat → Int32} {d : Nat} {M : Am_M} {Q : Int32 → Am_M → Prop} (hd : 55 ≤ d) {σ : Sg} {χ : q_X} (hM : SM M σ) (hL : LM M χ) {ab : Int} (hab : -2147483648 ≤ ab ∧ ab < 2147483648) {n : Int} (hn : -2147483648 ≤ n ∧ n < 2147483648) (hq : ∀ M', am_fm M M' → Q (z_I (r_met σ χ ab n)) M') : am_bi sL xs d 221 [.ref 53, .int (z_I ab), .int (z_I n)] M Q := by
  obtain ⟨d, rfl⟩ : ∃ e, d = e + 1 := ⟨d - 1, by omega⟩
  have hn := sb_nb hM.1
  have hnr := sb_nrb hM.1
  have hloop : ∀ (k i : Nat) (s p m : Int) (N : Am_M), (0 ≤ n ∧ n ≤ 200) → (0 ≤ ab ∧ ab / 10 < s_n σ ∧ ab % 10 < s_n σ ∧ ab / 10 ≠ ab % 10) → (i : Int) + k = n → am_fm M N → WM N σ (y_at σ χ i) → N.1 53 19 = z_I p → N.1 53 20 = z_I m → s + f_cnt (y_md σ χ (ab / 10) (ab % 10)) (i : Int) k = r_met σ χ ab n → am_rw sL xs d am_pX11_met 1 26 [.ref 53, .int (z_I ab), .int (z_I n), .int (z_I s), .int (z_I (i : Int))] [] N (am_pi Q) := by
    intro k
    induction k with
    | zero =>
      intro i s p m N hnn hab hk hF hW h19 h20 hs
      have hM := hW.1
      have hL := lm_fm hL hF
      refine am_r_iload4 (pc' := 28) rfl rfl ?_
      refine am_r_iload2 (pc' := 29) rfl rfl ?_
      refine am_r_icmp_ge (pt := 67) (pf := 32) rfl rfl rfl (fun h29 => ?_) (fun h29 => ?_)
      · refine am_r_iload3 (pc' := 68) rfl rfl ?_
        refine am_r_iret rfl rfl ?_
        rw [f_cnt_0] at hs
        exact am_q hs (hq N hF)
      · exfalso; omega
    | succ k ih =>
      intro i s p m N hnn hab hk hF hW h19 h20 hs
      have hM := hW.1
      have hL := lm_fm hL hF
      refine am_r_iload4 (pc' := 28) rfl rfl ?_
      refine am_r_iload2 (pc' := 29) rfl rfl ?_
      refine am_r_icmp_ge (pt := 67) (pf := 32) rfl rfl rfl (fun h29 => ?_) (fun h29 => ?_)
      · exfalso; omega
      · refine am_r_iload3 (pc' := 33) rfl rfl ?_
        refine am_r_aload0 (pc' := 34) rfl rfl ?_
        refine am_r_iload1 (pc' := 35) rfl rfl ?_
        refine am_r_iconst (pc' := 37) rfl rfl ?_
        refine am_r_idiv (pc' := 38) rfl rfl ?_
        refine am_r_iload1 (pc' := 39) rfl rfl ?_
        refine am_r_iconst (pc' := 41) rfl rfl ?_
        refine am_r_irem (pc' := 42) rfl rfl ?_
        refine am_r_invI2 (pc' := 45) rfl rfl rfl (Nat.le_of_ble_eq_true rfl) (m_meetNow (by omega) hW (by omega) (by omega) ?_)
        refine am_r_if_eqB (pt := 52) (pf := 48) rfl rfl rfl (fun h45 => ?_) (fun h45 => ?_)
        · refine am_r_iconst (pc' := 53) rfl rfl ?_
          refine am_r_iadd (pc' := 54) rfl rfl ?_
          refine am_r_istore3 (pc' := 55) rfl rfl rfl ?_
          refine am_r_aload0 (pc' := 56) rfl rfl ?_
          refine am_r_iload4 (pc' := 58) rfl rfl ?_
          refine am_r_invV1 (pc' := 61) rfl rfl rfl (Nat.le_of_ble_eq_true rfl) (m_passes (χ := χ) (t := (i : Int)) (by omega) hW hL h19 h20 ?_)
          · intro M4 hf4 h464 hW4 h419 h420
            have hF := am_fm_tr hF hf4
            refine am_r_iinc4 (pc' := 64) rfl rfl rfl ?_
            refine am_r_goto (pc' := 26) rfl rfl ?_
            rw [f_cnt_f (show ¬ y_md σ χ (ab / 10) (ab % 10) (i : Int) = true from h45)] at hs
            exact ih (i + 1) _ _ _ M4 hnn hab (by omega) hF hW4 h419 h420 (by rw [Int.add_zero]; exact hs)
        · refine am_r_iconst (pc' := 49) rfl rfl ?_
          refine am_r_goto (pc' := 53) rfl rfl ?_
          refine am_r_iadd (pc' := 54) rfl rfl ?_
          refine am_r_istore3 (pc' := 55) rfl rfl rfl ?_
          refine am_r_aload0 (pc' := 56) rfl rfl ?_
          refine am_r_iload4 (pc' := 58) rfl rfl ?_
          refine am_r_invV1 (pc' := 61) rfl rfl rfl (Nat.le_of_ble_eq_true rfl) (m_passes (χ := χ) (t := (i : Int)) (by omega) hW hL h19 h20 ?_)
          · intro M4 hf4 h464 hW4 h419 h420
            have hF := am_fm_tr hF hf4
            refine am_r_iinc4 (pc' := 64) rfl rfl rfl ?_
            refine am_r_goto (pc' := 26) rfl rfl ?_
            rw [f_cnt_t (show y_md σ χ (ab / 10) (ab % 10) (i : Int) = true from h45)] at hs
            exact ih (i + 1) _ _ _ M4 hnn hab (by omega) hF hW4 h419 h420 hs
  refine am_bi_of (P := am_pX11_met) (rt := 1) (nL := 5) (Nat.le_of_ble_eq_true rfl) rfl (Nat.le_of_ble_eq_true rfl) rfl rfl rfl ?_
  refine am_r_aload0 (pc' := 1) rfl rfl ?_
  refine am_r_iload1 (pc' := 2) rfl rfl ?_
  refine am_r_invI1 (pc' := 5) rfl rfl rfl (Nat.le_of_ble_eq_true rfl) (m_isAb (by omega) hM (by omega) ?_)
  refine am_r_if_eqB (pt := 15) (pf := 8) rfl rfl rfl (fun h5 => ?_) (fun h5 => ?_)
  · refine am_r_iconst (pc' := 16) rfl rfl ?_
    refine am_r_iret rfl rfl ?_
    refine am_q ?_ (hq M (am_fm_rf M))
    unfold r_met
    (repeat (first | rw [if_pos (by omega)] | rw [if_neg (by omega)]))
    all_goals first | rfl | omega
  · refine am_r_iload2 (pc' := 9) rfl rfl ?_
    refine am_r_ivsI1 (pc' := 12) rfl rfl rfl (Nat.le_of_ble_eq_true rfl) (m_isPushed (by omega) (by omega) ?_)
    refine am_r_if_neB (pt := 17) (pf := 15) rfl rfl rfl (fun h12 => ?_) (fun h12 => ?_)
    · refine am_r_aload0 (pc' := 18) rfl rfl ?_
      refine am_r_invV0 (pc' := 21) rfl rfl rfl (Nat.le_of_ble_eq_true rfl) (m_begins (by omega) hM ?_)
      · intro M2 hf2 hW2 h19 h20
        have hF := hf2
        refine am_r_iconst (pc' := 22) rfl rfl ?_
        refine am_r_istore3 (pc' := 23) rfl rfl rfl ?_
        refine am_r_iconst (pc' := 24) rfl rfl ?_
        refine am_r_istore4 (pc' := 26) rfl rfl rfl ?_
        exact hloop n.toNat 0 0 0 0 M2 (by omega) (by omega) (by omega) hF hW2 h19 h20 (by rw [Int.zero_add]; exact (if_pos (by omega)).symm)
    · refine am_r_iconst (pc' := 16) rfl rfl ?_
      refine am_r_iret rfl rfl ?_
      refine am_q ?_ (hq M (am_fm_rf M))
      unfold r_met
      (repeat (first | rw [if_pos (by omega)] | rw [if_neg (by omega)]))
      all_goals first | rfl | omega
/-- where all stood, day by day -/
def SQ (M : Am_M) (σ : Sg) (χ : q_X) (n : Int) : Prop := ∀ m b i, i = 8 * m + b → 0 ≤ m → m < n → 0 ≤ b → b < s_n σ → M.1 64 i.toNat = z_I (y_at σ χ m.toNat b)
theorem f_all_0 {p : Int → Bool} {i : Int} : f_all p i 0 = true := rfl
theorem m_stoodAs {sL : Nat} {xs : Nat → Int32} {d : Nat} {M : Am_M} {Q : Int32 → Am_M → Prop} (hd : 1 ≤ d) {σ : Sg} {χ : q_X} (hM : SM M σ) {n m : Int} (hS : SQ M σ χ (n + 1)) (hnn : 0 ≤ n ∧ n ≤ 300) (hm : 0 ≤ m ∧ m ≤ n) (hq : Q (z_b (y_sd σ χ n m = true)) M) : am_bi sL xs d 222 [.ref 53, .int (z_I n), .int (z_I m)] M Q := by
  obtain ⟨d, rfl⟩ : ∃ e, d = e + 1 := ⟨d - 1, by omega⟩
  have hn := sb_nb hM.1
  have hnr := sb_nrb hM.1
  have hloop : ∀ (k : Nat) (i : Int), 0 ≤ i ∧ i + k = s_n σ → f_all (y_eq (y_at σ χ m.toNat) (y_at σ χ n.toNat)) i k = y_sd σ χ n m → am_rw sL xs d am_pX11_stoodAs 2 2 [.ref 53, .int (z_I n), .int (z_I m), .int (z_I i)] [] M (am_pi Q) := by
    intro k
    induction k with
    | zero =>
      intro i hk he
      refine am_r_iload3 (pc' := 3) rfl rfl ?_
      refine am_r_aload0 (pc' := 4) rfl rfl ?_
      refine am_r_getIv (f := 6) (pc' := 7) rfl rfl rfl (sm_n hM) ?_
      refine am_r_icmp_ge (pt := 43) (pf := 10) rfl rfl rfl (fun h7 => ?_) (fun h7 => ?_)
      · refine am_r_iconst (pc' := 44) rfl rfl ?_
        refine am_r_zret rfl rfl (by first | exact Or.inr rfl | exact Or.inl rfl | exact z_b_01 _ | assumption) ?_
        rw [z_bT (show y_sd σ χ n m = true from he.symm)] at hq
        exact hq
      · exfalso; omega
    | succ k ih =>
      intro i hk he
      have hb1 := y_at_B hM.1 χ n.toNat i (by omega)
      have hb2 := y_at_B hM.1 χ m.toNat i (by omega)
      have hg := sg_b hM.1 (a := i) (by omega)
      refine am_r_iload3 (pc' := 3) rfl rfl ?_
      refine am_r_aload0 (pc' := 4) rfl rfl ?_
      refine am_r_getIv (f := 6) (pc' := 7) rfl rfl rfl (sm_n hM) ?_
      refine am_r_icmp_ge (pt := 43) (pf := 10) rfl rfl rfl (fun h7 => ?_) (fun h7 => ?_)
      · exfalso; omega
      · refine am_r_aload0 (pc' := 11) rfl rfl ?_
        refine am_r_getR (t := 64) (pc' := 14) rfl rfl rfl ?_
        refine am_r_iconst (pc' := 16) rfl rfl ?_
        refine am_r_iload1 (pc' := 17) rfl rfl ?_
        refine am_r_imul (pc' := 18) rfl rfl ?_
        refine am_r_iload3 (pc' := 19) rfl rfl ?_
        refine am_r_iadd (pc' := 20) rfl rfl ?_
        refine am_r_iaZv (n := 2408) (pc' := 21) rfl rfl rfl (by decide) (hS n i _ rfl (by omega) (by omega) (by omega) (by omega)) ?_
        refine am_r_aload0 (pc' := 22) rfl rfl ?_
        refine am_r_getR (t := 64) (pc' := 25) rfl rfl rfl ?_
        refine am_r_iconst (pc' := 27) rfl rfl ?_
        refine am_r_iload2 (pc' := 28) rfl rfl ?_
        refine am_r_imul (pc' := 29) rfl rfl ?_
        refine am_r_iload3 (pc' := 30) rfl rfl ?_
        refine am_r_iadd (pc' := 31) rfl rfl ?_
        refine am_r_iaZv (n := 2408) (pc' := 32) rfl rfl rfl (by decide) (hS m i _ rfl (by omega) (by omega) (by omega) (by omega)) ?_
        refine am_r_icmp_eq (pt := 37) (pf := 35) rfl rfl rfl (fun h32 => ?_) (fun h32 => ?_)
        · refine am_r_iinc3 (pc' := 40) rfl rfl rfl ?_
          refine am_r_goto (pc' := 2) rfl rfl ?_
          rw [f_all_t (show y_eq (y_at σ χ m.toNat) (y_at σ χ n.toNat) i = true from decide_eq_true (by omega))] at he
          exact ih _ (by omega) he
        · refine am_r_iconst (pc' := 36) rfl rfl ?_
          refine am_r_zret rfl rfl (by first | exact Or.inr rfl | exact Or.inl rfl | exact z_b_01 _ | assumption) ?_
          rw [f_all_f (show ¬ y_eq (y_at σ χ m.toNat) (y_at σ χ n.toNat) i = true from fun q => by have := of_decide_eq_true q; omega)] at he
          rw [z_bF (show ¬ y_sd σ χ n m = true from fun q => by rw [← he] at q; exact absurd q (by decide))] at hq
          exact hq
  refine am_bi_of (P := am_pX11_stoodAs) (rt := 2) (nL := 4) (Nat.le_of_ble_eq_true rfl) rfl (Nat.le_of_ble_eq_true rfl) rfl rfl rfl ?_
  refine am_r_iconst (pc' := 1) rfl rfl ?_
  refine am_r_istore3 (pc' := 2) rfl rfl rfl ?_
  exact hloop (s_n σ).toNat 0 (by omega) rfl
theorem y_ag_0 (σ : Sg) (χ : q_X) (w : Int) (k : Nat) : y_ag σ χ w 0 (k + 1) = y_ag σ χ w 1 k := if_neg (by
  have := y_fs_b σ χ ((0 : Nat) : Int) 0 rfl
  omega)
theorem m_again {sL : Nat} {xs : Nat → Int32} {d : Nat} {M : Am_M} {Q : Int32 → Am_M → Prop} (hd : 55 ≤ d) {σ : Sg} {χ : q_X} (hM : SM M σ) (hL : LM M χ) {w : Int} (hw : -2147483648 ≤ w ∧ w < 2147483648) (hq : ∀ M', am_fm M M' → Q (z_I (r_again σ χ w)) M') : am_bi sL xs d 223 [.ref 53, .int (z_I w)] M Q := by
  obtain ⟨d, rfl⟩ : ∃ e, d = e + 1 := ⟨d - 1, by omega⟩
  have hn := sb_nb hM.1
  have hnr := sb_nrb hM.1
  have hcp : ∀ (i : Nat), i ≤ 300 → ∀ (k : Nat) (b p m : Int) (N : Am_M) (Z : Option Value → Am_M → Prop), 0 ≤ b ∧ b + k = s_n σ → am_fm M N → WM N σ (y_at σ χ i) → SQ N σ χ (i : Int) → N.1 53 19 = z_I p → N.1 53 20 = z_I m → (∀ x, 0 ≤ x → x < b → N.1 64 (8 * (i : Int) + x).toNat = z_I (y_at σ χ i x)) → (∀ N' : Am_M, am_fm M N' → WM N' σ (y_at σ χ i) → SQ N' σ χ ((i : Int) + 1) → N'.1 53 19 = z_I p → N'.1 53 20 = z_I m → am_rw sL xs d am_pX11_again 1 58 [.ref 53, .int (z_I w), .int (z_I (i : Int)), .int (z_I (s_n σ))] [] N' Z) → am_rw sL xs d am_pX11_again 1 27 [.ref 53, .int (z_I w), .int (z_I (i : Int)), .int (z_I b)] [] N Z := by
    intro i hi k
    induction k with
    | zero =>
      intro b p m N Z hk hF hW hS h19 h20 hv hz
      obtain rfl : b = s_n σ := by omega
      have hM := hW.1
      refine am_r_iload3 (pc' := 28) rfl rfl ?_
      refine am_r_aload0 (pc' := 29) rfl rfl ?_
      refine am_r_getIv (f := 6) (pc' := 32) rfl rfl rfl (sm_n hM) ?_
      refine am_r_icmp_ge (pt := 58) (pf := 35) rfl rfl rfl (fun h32 => ?_) (fun h32 => ?_)
      · refine hz N hF hW (fun m b j hj h0 h1 h2 h3 => ?_) h19 h20
        by_cases q : m = (i : Int)
        · rw [hj, q]; exact hv b h2 h3
        · exact hS m b j hj h0 (by omega) h2 h3
      · exfalso; omega
    | succ k ih =>
      intro b p m N Z hk hF hW hS h19 h20 hv hz
      have hM := hW.1
      refine am_r_iload3 (pc' := 28) rfl rfl ?_
      refine am_r_aload0 (pc' := 29) rfl rfl ?_
      refine am_r_getIv (f := 6) (pc' := 32) rfl rfl rfl (sm_n hM) ?_
      refine am_r_icmp_ge (pt := 58) (pf := 35) rfl rfl rfl (fun h32 => ?_) (fun h32 => ?_)
      · exfalso; omega
      · refine am_r_aload0 (pc' := 36) rfl rfl ?_
        refine am_r_getR (t := 64) (pc' := 39) rfl rfl rfl ?_
        refine am_r_iconst (pc' := 41) rfl rfl ?_
        refine am_r_iload2 (pc' := 42) rfl rfl ?_
        refine am_r_imul (pc' := 43) rfl rfl ?_
        refine am_r_iload3 (pc' := 44) rfl rfl ?_
        refine am_r_iadd (pc' := 45) rfl rfl ?_
        refine am_r_aload0 (pc' := 46) rfl rfl ?_
        refine am_r_getR (t := 62) (pc' := 49) rfl rfl rfl ?_
        refine am_r_iload3 (pc' := 50) rfl rfl ?_
        refine am_r_iaZv (n := 8) (pc' := 51) rfl rfl rfl (by decide) (wm_pl hW (by omega)) ?_
        refine am_r_iast (n := 2408) (pc' := 52) rfl rfl (rfl) (by decide) ?_
        refine am_r_iinc3 (pc' := 55) rfl rfl rfl ?_
        refine am_r_goto (pc' := 27) rfl rfl ?_
        refine ih (b + 1) p m _ Z (by omega) (am_fm_up hF (by omega)) (wm_u hW (by omega)) (fun m' x j hj h0 h1 h2 h3 => ?_) ((congrFun (am_up_o _ _ _ _ (by omega)) _).trans h19) ((congrFun (am_up_o _ _ _ _ (by omega)) _).trans h20) (fun x h0 h1 => ?_) hz
        · rw [am_up_n _ _ _ _ _ (by omega)]
          exact hS m' x j hj h0 h1 h2 h3
        · by_cases q : x = b
          · rw [q]; exact am_up_e _ _ _ _
          · rw [am_up_n _ _ _ _ _ (by omega)]
            exact hv x h0 (by omega)
  have hcmp : ∀ (i : Nat), i ≤ 300 → ∀ (k : Nat) (u : Int) (N : Am_M), (w = 0 ∨ w = 1) → 0 ≤ u ∧ u + k = (i : Int) → am_fm M N → WM N σ (y_at σ χ i) → SQ N σ χ ((i : Int) + 1) → f_first (y_sd σ χ (i : Int)) u k = f_first (y_sd σ χ (i : Int)) 0 i → (∀ N' : Am_M, am_fm M N' → y_fs σ χ (i : Int) 0 i < (i : Int) → Q (z_I (if w = 0 then (i : Int) else y_fs σ χ (i : Int) 0 i)) N') → (¬ y_fs σ χ (i : Int) 0 i < (i : Int) → am_rw sL xs d am_pX11_again 1 90 [.ref 53, .int (z_I w), .int (z_I (i : Int)), .int (z_I (i : Int))] [] N (am_pi Q)) → am_rw sL xs d am_pX11_again 1 60 [.ref 53, .int (z_I w), .int (z_I (i : Int)), .int (z_I u)] [] N (am_pi Q) := by
    intro i hi k
    induction k with
    | zero =>
      intro u N hw hu hF hW hS he hq hz
      have hui : u = (i : Int) := by omega
      have hfs : y_fs σ χ (i : Int) 0 i = (i : Int) := if_pos he.symm
      refine am_r_iload3 (pc' := 61) rfl rfl ?_
      refine am_r_iload2 (pc' := 62) rfl rfl ?_
      refine am_r_icmp_ge (pt := 90) (pf := 65) rfl rfl rfl (fun h62 => ?_) (fun h62 => ?_)
      · rw [hui]
        exact hz (by omega)
      · exfalso; omega
    | succ k ih =>
      intro u N hw hu hF hW hS he hq hz
      have hM := hW.1
      refine am_r_iload3 (pc' := 61) rfl rfl ?_
      refine am_r_iload2 (pc' := 62) rfl rfl ?_
      refine am_r_icmp_ge (pt := 90) (pf := 65) rfl rfl rfl (fun h62 => ?_) (fun h62 => ?_)
      · exfalso; omega
      · refine am_r_aload0 (pc' := 66) rfl rfl ?_
        refine am_r_iload2 (pc' := 67) rfl rfl ?_
        refine am_r_iload3 (pc' := 68) rfl rfl ?_
        refine am_r_invI2 (pc' := 71) rfl rfl rfl (Nat.le_of_ble_eq_true rfl) (m_stoodAs (χ := χ) (by omega) hM hS (by omega) (by omega) ?_)
        refine am_r_if_eqB (pt := 84) (pf := 74) rfl rfl rfl (fun h71 => ?_) (fun h71 => ?_)
        · refine am_r_iinc3 (pc' := 87) rfl rfl rfl ?_
          refine am_r_goto (pc' := 60) rfl rfl ?_
          exact ih _ N hw (by omega) hF hW hS (by rw [← he]; exact (f_first_f h71).symm) hq hz
        · refine am_r_iload1 (pc' := 75) rfl rfl ?_
          refine am_r_if_ne (pt := 82) (pf := 78) rfl rfl rfl (fun h75 => ?_) (fun h75 => ?_)
          · refine am_r_iload3 (pc' := 83) rfl rfl ?_
            refine am_r_iret rfl rfl ?_
            have e1 : f_first (y_sd σ χ (i : Int)) 0 i = u := by rw [← he]; exact f_first_t h71
            have hfs : y_fs σ χ (i : Int) 0 i = u := by unfold y_fs; rw [e1, if_neg (by omega)]
            have := hq N hF (by omega)
            rw [hfs] at this
            first
            | (rw [if_pos (by omega)] at this; exact this)
            | (rw [if_neg (by omega)] at this; exact this)
          · refine am_r_iload2 (pc' := 79) rfl rfl ?_
            refine am_r_goto (pc' := 83) rfl rfl ?_
            refine am_r_iret rfl rfl ?_
            have e1 : f_first (y_sd σ χ (i : Int)) 0 i = u := by rw [← he]; exact f_first_t h71
            have hfs : y_fs σ χ (i : Int) 0 i = u := by unfold y_fs; rw [e1, if_neg (by omega)]
            have := hq N hF (by omega)
            rw [hfs] at this
            first
            | (rw [if_pos (by omega)] at this; exact this)
            | (rw [if_neg (by omega)] at this; exact this)
  have hloop : ∀ (k i : Nat) (p m : Int) (N : Am_M) (w3 : Value), (w = 0 ∨ w = 1) → i + k = 301 → am_fm M N → WM N σ (y_at σ χ i) → SQ N σ χ (i : Int) → N.1 53 19 = z_I p → N.1 53 20 = z_I m → (∀ N' : Am_M, am_fm M N' → Q (z_I (y_ag σ χ w i k)) N') → am_rw sL xs d am_pX11_again 1 18 [.ref 53, .int (z_I w), .int (z_I (i : Int)), w3] [] N (am_pi Q) := by
    intro k
    induction k with
    | zero =>
      intro i p m N w3 hw hk hF hW hS h19 h20 hq
      refine am_r_iload2 (pc' := 19) rfl rfl ?_
      refine am_r_iconst (pc' := 22) rfl rfl ?_
      refine am_r_icmp_gt (pt := 101) (pf := 25) rfl rfl rfl (fun h22 => ?_) (fun h22 => ?_)
      · refine am_r_iconst (pc' := 103) rfl rfl ?_
        refine am_r_iret rfl rfl ?_
        exact hq N hF
      · exfalso; omega
    | succ k ih =>
      intro i p m N w3 hw hk hF hW hS h19 h20 hq
      have hM := hW.1
      refine am_r_iload2 (pc' := 19) rfl rfl ?_
      refine am_r_iconst (pc' := 22) rfl rfl ?_
      refine am_r_icmp_gt (pt := 101) (pf := 25) rfl rfl rfl (fun h22 => ?_) (fun h22 => ?_)
      · exfalso; omega
      · refine am_r_iconst (pc' := 26) rfl rfl ?_
        refine am_r_istore3 (pc' := 27) rfl rfl rfl ?_
        refine hcp i (by omega) (s_n σ).toNat 0 p m N _ (by omega) hF hW hS h19 h20 (fun x h0 h1 => by omega) (fun N2 hF hW hS h19 h20 => ?_)
        have hM := hW.1
        have hL := lm_fm hL hF
        refine am_r_iconst (pc' := 59) rfl rfl ?_
        refine am_r_istore3 (pc' := 60) rfl rfl rfl ?_
        refine hcmp i (by omega) i 0 N2 hw (by omega) hF hW hS rfl (fun N3 hF3 hlt => ?_) (fun hnl => ?_)
        · have := hq N3 hF3
          rw [show y_ag σ χ w i (k + 1) = (if w = 0 then (i : Int) else y_fs σ χ (i : Int) 0 i) from if_pos hlt] at this
          exact this
        · refine am_r_aload0 (pc' := 91) rfl rfl ?_
          refine am_r_iload2 (pc' := 92) rfl rfl ?_
          refine am_r_invV1 (pc' := 95) rfl rfl rfl (Nat.le_of_ble_eq_true rfl) (m_passes (χ := χ) (t := (i : Int)) (by omega) hW hL h19 h20 ?_)
          · intro M4 hf4 h464 hW4 h419 h420
            have hF := am_fm_tr hF hf4
            refine am_r_iinc2 (pc' := 98) rfl rfl rfl ?_
            refine am_r_goto (pc' := 18) rfl rfl ?_
            refine ih (i + 1) _ _ M4 _ hw (by omega) hF hW4 (fun m' b j hj h0 h1 h2 h3 => by rw [h464]; exact hS m' b j hj h0 (by omega) h2 h3) h419 h420 (fun N' hN => ?_)
            have := hq N' hN
            rw [show y_ag σ χ w i (k + 1) = y_ag σ χ w (i + 1) k from if_neg hnl] at this
            exact this
  refine am_bi_of (P := am_pX11_again) (rt := 1) (nL := 4) (Nat.le_of_ble_eq_true rfl) rfl (Nat.le_of_ble_eq_true rfl) rfl rfl rfl ?_
  refine am_r_iload1 (pc' := 1) rfl rfl ?_
  refine am_r_i2l (pc' := 2) rfl rfl ?_
  refine am_r_lconst (z := 0) (pc' := 3) rfl rfl rfl ?_
  refine am_r_lconst (z := 1) (pc' := 4) rfl rfl rfl ?_
  refine am_r_ivsI3 (pc' := 7) rfl rfl rfl (Nat.le_of_ble_eq_true rfl) (m_within (by omega) (by omega) (by omega) (by omega) ?_)
  refine am_r_if_neB (pt := 12) (pf := 10) rfl rfl rfl (fun h7 => ?_) (fun h7 => ?_)
  · refine am_r_aload0 (pc' := 13) rfl rfl ?_
    refine am_r_invV0 (pc' := 16) rfl rfl rfl (Nat.le_of_ble_eq_true rfl) (m_begins (by omega) hM ?_)
    · intro M2 hf2 hW2 h19 h20
      have hF := hf2
      refine am_r_iconst (pc' := 17) rfl rfl ?_
      refine am_r_istore2 (pc' := 18) rfl rfl rfl ?_
      exact hloop 301 0 0 0 M2 _ (by omega) (by omega) hF hW2 (fun m b j hj h0 h1 h2 h3 => by omega) h19 h20 (fun N' hN => by rw [y_ag_0]; have := hq N' hN; rw [show r_again σ χ w = y_ag σ χ w 1 300 from if_pos (by omega)] at this; exact this)
  · refine am_r_iconst (pc' := 11) rfl rfl ?_
    refine am_r_iret rfl rfl ?_
    rw [show r_again σ χ w = -1 from if_neg (by omega)] at hq
    exact hq M (am_fm_rf M)
def HM (M : Am_M) (η : Hs) : Prop := HB η ∧ ∀ e, 0 ≤ e ∧ e < 6 → M.1 71 e.toNat = z_I (h_k η e) ∧ (50 ≤ h_k η e → M.1 72 e.toNat = z_I (h_n η e) ∧ ∀ i, 0 ≤ i ∧ i < 60 → M.2 73 (60 * e + i).toNat = z_L (h_v η e i))
theorem hm_k {M : Am_M} {η : Hs} (h : HM M η) {e : Int} (he : 0 ≤ e ∧ e < 6) : M.1 71 e.toNat = z_I (h_k η e) := (h.2 e he).1
theorem hm_n {M : Am_M} {η : Hs} (h : HM M η) {e : Int} (he : 0 ≤ e ∧ e < 6) (hk : 50 ≤ h_k η e) : M.1 72 e.toNat = z_I (h_n η e) := ((h.2 e he).2 hk).1
theorem hm_v {M : Am_M} {η : Hs} (h : HM M η) {e : Int} (he : 0 ≤ e ∧ e < 6) (hk : 50 ≤ h_k η e) {i : Int} (hi : 0 ≤ i ∧ i < 60) : M.2 73 (60 * e + i).toNat = z_L (h_v η e i) := ((h.2 e he).2 hk).2 i hi
theorem hm_cg {M M' : Am_M} {η : Hs} (h : HM M η) (h1 : ∀ i, M'.1 71 i = M.1 71 i) (h2 : ∀ i, M'.1 72 i = M.1 72 i) (h3 : M'.2 73 = M.2 73) : HM M' η := ⟨h.1, fun e he => ⟨(h1 _).trans (hm_k h he), fun hk => ⟨(h2 _).trans (hm_n h he hk), fun i hi => by rw [h3]; exact hm_v h he hk hi⟩⟩⟩
theorem hm_fm {M M' : Am_M} {η : Hs} (h : HM M η) (hf : am_fm M M') : HM M' η := hm_cg h (fun i => hf.1 71 i (by omega) (by omega)) (fun i => hf.1 72 i (by omega) (by omega)) (by rw [hf.2])
def h_bi (η : Hs) (e : Int) : Int := if 0 ≤ e ∧ e < 6 then (if h_k η e < 0 then -11 else if h_k η e = 50 then 1 else -12) else -1
theorem h_bi_b (η : Hs) (e : Int) : -12 ≤ h_bi η e ∧ h_bi η e ≤ 1 ∧ (0 ≤ h_bi η e ↔ (0 ≤ e ∧ e < 6) ∧ h_k η e = 50) ∧ (h_bi η e = -1 ↔ ¬ (0 ≤ e ∧ e < 6)) := by
  unfold h_bi
  repeat' split
  all_goals omega
theorem m_bytesIs {sL : Nat} {xs : Nat → Int32} {d : Nat} {M : Am_M} {Q : Int32 → Am_M → Prop} (hd : 3 ≤ d) {η : Hs} (hS : HM M η) {e : Int} (he : -2147483648 ≤ e ∧ e < 2147483648)  (hq : Q (z_I (h_bi η e)) M) : am_bi sL xs d 224 [.ref 53, .int (z_I e)] M Q := by
  obtain ⟨d, rfl⟩ : ∃ e, d = e + 1 := ⟨d - 1, by omega⟩
  have hkb : (0 ≤ e ∧ e < 6) → -1 ≤ h_k η e ∧ h_k η e ≤ 54 := fun q => hb_k hS.1 q
  refine am_bi_of (P := am_pX11_bytesIs) (rt := 1) (nL := 2) (Nat.le_of_ble_eq_true rfl) rfl (Nat.le_of_ble_eq_true rfl) rfl rfl rfl ?_
  refine am_r_iload1 (pc' := 1) rfl rfl ?_
  refine am_r_ivsI1 (pc' := 4) rfl rfl rfl (Nat.le_of_ble_eq_true rfl) (m_isShelf (by omega) (by omega) ?_)
  refine am_r_if_neB (pt := 11) (pf := 7) rfl rfl rfl (fun h4 => ?_) (fun h4 => ?_)
  · refine am_r_aload0 (pc' := 12) rfl rfl ?_
    refine am_r_getR (t := 71) (pc' := 15) rfl rfl rfl ?_
    refine am_r_iload1 (pc' := 16) rfl rfl ?_
    refine am_r_iaZv (n := 6) (pc' := 17) rfl rfl rfl (by decide) (hm_k hS (by omega)) ?_
    refine am_r_if_ge (pt := 25) (pf := 20) rfl rfl rfl (fun h17 => ?_) (fun h17 => ?_)
    · refine am_r_aload0 (pc' := 26) rfl rfl ?_
      refine am_r_getR (t := 71) (pc' := 29) rfl rfl rfl ?_
      refine am_r_iload1 (pc' := 30) rfl rfl ?_
      refine am_r_iaZv (n := 6) (pc' := 31) rfl rfl rfl (by decide) (hm_k hS (by omega)) ?_
      refine am_r_iconst (pc' := 33) rfl rfl ?_
      refine am_r_icmp_ne (pt := 40) (pf := 36) rfl rfl rfl (fun h33 => ?_) (fun h33 => ?_)
      · refine am_r_iconst (pc' := 42) rfl rfl ?_
        refine am_r_iret rfl rfl ?_
        refine am_q ?_ hq
        unfold h_bi
        (repeat (first | rw [if_pos (by omega)] | rw [if_neg (by omega)]))
      · refine am_r_iconst (pc' := 37) rfl rfl ?_
        refine am_r_goto (pc' := 42) rfl rfl ?_
        refine am_r_iret rfl rfl ?_
        refine am_q ?_ hq
        unfold h_bi
        (repeat (first | rw [if_pos (by omega)] | rw [if_neg (by omega)]))
    · refine am_r_iconst (pc' := 22) rfl rfl ?_
      refine am_r_goto (pc' := 42) rfl rfl ?_
      refine am_r_iret rfl rfl ?_
      refine am_q ?_ hq
      unfold h_bi
      (repeat (first | rw [if_pos (by omega)] | rw [if_neg (by omega)]))
  · refine am_r_iconst (pc' := 8) rfl rfl ?_
    refine am_r_goto (pc' := 42) rfl rfl ?_
    refine am_r_iret rfl rfl ?_
    refine am_q ?_ hq
    unfold h_bi
    (repeat (first | rw [if_pos (by omega)] | rw [if_neg (by omega)]))
theorem m_firstFalse {sL : Nat} {xs : Nat → Int32} {d : Nat} {M : Am_M} {Q : Int32 → Am_M → Prop} (hd : 55 ≤ d) {σ : Sg} {χ : q_X} (hM : SM M σ) (hL : LM M χ) {η : Hs} (hS : HM M η) {e a : Int} (he : 0 ≤ e ∧ e < 6) (hk : h_k η e = 50) (ha : 0 ≤ a ∧ a < s_n σ) (hq : ∀ M', am_fm M M' → Q (z_I (y_fu σ χ η e a)) M') : am_bi sL xs d 225 [.ref 53, .int (z_I e), .int (z_I a)] M Q := by
  obtain ⟨d, rfl⟩ : ∃ e, d = e + 1 := ⟨d - 1, by omega⟩
  have hn := sb_nb hM.1
  have hnr := sb_nrb hM.1
  have hnb := hb_n hS.1 he (by omega)
  have hloop : ∀ (k i : Nat) (p m : Int) (N : Am_M), (i : Int) + k = h_n η e → am_fm M N → WM N σ (y_at σ χ i) → N.1 53 19 = z_I p → N.1 53 20 = z_I m → f_first (y_ul σ χ (h_v η e) a) (i : Int) k = y_fu σ χ η e a → am_rw sL xs d am_pX11_firstFalse 1 6 [.ref 53, .int (z_I e), .int (z_I a), .int (z_I (i : Int))] [] N (am_pi Q) := by
    intro k
    induction k with
    | zero =>
      intro i p m N hk2 hF hW h19 h20 hr
      have hS := hm_fm hS hF
      refine am_r_iload3 (pc' := 7) rfl rfl ?_
      refine am_r_aload0 (pc' := 8) rfl rfl ?_
      refine am_r_getR (t := 72) (pc' := 11) rfl rfl rfl ?_
      refine am_r_iload1 (pc' := 12) rfl rfl ?_
      refine am_r_iaZv (n := 6) (pc' := 13) rfl rfl rfl (by decide) (hm_n hS he (by omega)) ?_
      refine am_r_icmp_ge (pt := 51) (pf := 16) rfl rfl rfl (fun h13 => ?_) (fun h13 => ?_)
      · refine am_r_iconst (pc' := 53) rfl rfl ?_
        refine am_r_iret rfl rfl ?_
        exact am_q hr (hq N hF)
      · exfalso; omega
    | succ k ih =>
      intro i p m N hk2 hF hW h19 h20 hr
      have hM := hW.1
      have hL := lm_fm hL hF
      have hS := hm_fm hS hF
      have hpb : 0 ≤ y_nx σ χ (y_at σ χ i) (i : Int) a ∧ y_nx σ χ (y_at σ χ i) (i : Int) a < s_rd σ a := y_at_B hM.1 χ (i + 1) a ha
      have hvb := hb_b hS.1 (i := (i : Int)) he hk (by omega)
      have hgb := sg_b hM.1 ha
      refine am_r_iload3 (pc' := 7) rfl rfl ?_
      refine am_r_aload0 (pc' := 8) rfl rfl ?_
      refine am_r_getR (t := 72) (pc' := 11) rfl rfl rfl ?_
      refine am_r_iload1 (pc' := 12) rfl rfl ?_
      refine am_r_iaZv (n := 6) (pc' := 13) rfl rfl rfl (by decide) (hm_n hS he (by omega)) ?_
      refine am_r_icmp_ge (pt := 51) (pf := 16) rfl rfl rfl (fun h13 => ?_) (fun h13 => ?_)
      · exfalso; omega
      · refine am_r_aload0 (pc' := 17) rfl rfl ?_
        refine am_r_iload3 (pc' := 18) rfl rfl ?_
        refine am_r_invV1 (pc' := 21) rfl rfl rfl (Nat.le_of_ble_eq_true rfl) (m_passes (χ := χ) (t := (i : Int)) (by omega) hW hL h19 h20 ?_)
        · intro M4 hf4 h464 hW4 h419 h420
          have hF := am_fm_tr hF hf4
          have hS4 := hm_fm hS hf4
          refine am_r_aload0 (pc' := 22) rfl rfl ?_
          refine am_r_getR (t := 73) (pc' := 25) rfl rfl rfl ?_
          refine am_r_iconst (pc' := 27) rfl rfl ?_
          refine am_r_iload1 (pc' := 28) rfl rfl ?_
          refine am_r_imul (pc' := 29) rfl rfl ?_
          refine am_r_iload3 (pc' := 30) rfl rfl ?_
          refine am_r_iadd (pc' := 31) rfl rfl ?_
          refine am_r_laZv (n := 360) (pc' := 32) rfl rfl rfl (by decide) (hm_v hS4 he (by omega) (by omega)) ?_
          refine am_r_aload0 (pc' := 33) rfl rfl ?_
          refine am_r_getR (t := 62) (pc' := 36) rfl rfl rfl ?_
          refine am_r_iload2 (pc' := 37) rfl rfl ?_
          refine am_r_iaZv (n := 8) (pc' := 38) rfl rfl rfl (by decide) (wm_pl hW4 ha) ?_
          refine am_r_i2l (pc' := 39) rfl rfl ?_
          refine am_r_lcmp (pc' := 40) rfl rfl ?_
          refine am_r_lif_eq (pt := 45) (pf := 43) rfl rfl rfl (fun h40 => ?_) (fun h40 => ?_)
          · refine am_r_iinc3 (pc' := 48) rfl rfl rfl ?_
            refine am_r_goto (pc' := 6) rfl rfl ?_
            exact ih (i + 1) _ _ M4 (by omega) hF hW4 h419 h420 (by rw [f_first_f (show ¬ y_ul σ χ (h_v η e) a (i : Int) = true from fun q => (of_decide_eq_true q) h40.symm)] at hr; exact hr)
          · refine am_r_iload3 (pc' := 44) rfl rfl ?_
            refine am_r_iret rfl rfl ?_
            rw [f_first_t (show y_ul σ χ (h_v η e) a (i : Int) = true from decide_eq_true (fun z => h40 z.symm))] at hr
            exact am_q hr (hq M4 hF)
  refine am_bi_of (P := am_pX11_firstFalse) (rt := 1) (nL := 4) (Nat.le_of_ble_eq_true rfl) rfl (Nat.le_of_ble_eq_true rfl) rfl rfl rfl ?_
  refine am_r_aload0 (pc' := 1) rfl rfl ?_
  refine am_r_invV0 (pc' := 4) rfl rfl rfl (Nat.le_of_ble_eq_true rfl) (m_begins (by omega) hM ?_)
  · intro M2 hf2 hW2 h19 h20
    have hF := hf2
    refine am_r_iconst (pc' := 5) rfl rfl ?_
    refine am_r_istore3 (pc' := 6) rfl rfl rfl ?_
    exact hloop (h_n η e).toNat 0 0 0 M2 (by omega) hF hW2 h19 h20 rfl
theorem r_judge_bi (σ : Sg) (χ : q_X) (η : Hs) (e a : Int) (he : 0 ≤ e ∧ e < 6) (ha : 0 ≤ a ∧ a < s_n σ) (h : h_bi η e < 0) : h_bi η e = r_judge σ χ η e a := by
  unfold h_bi at h ⊢
  unfold r_judge
  rw [if_pos he] at h ⊢
  rw [if_pos (show (0 ≤ e ∧ e < 6) ∧ 0 ≤ a ∧ a < s_n σ from ⟨he, ha⟩)]
  by_cases a2 : h_k η e < 0
  · rw [if_pos a2, if_pos a2]
  · rw [if_neg a2] at h ⊢
    rw [if_neg a2]
    by_cases a3 : h_k η e = 50
    · rw [if_pos a3] at h
      exact absurd h (by decide)
    · rw [if_neg a3, if_neg a3]
theorem r_whose_bi (σ : Sg) (χ : q_X) (η : Hs) (e : Int) (h : h_bi η e < 0) : h_bi η e = r_whose σ χ η e := by
  unfold h_bi at h ⊢
  unfold r_whose
  by_cases he : 0 ≤ e ∧ e < 6
  · rw [if_pos he] at h ⊢
    rw [if_pos he]
    by_cases a2 : h_k η e < 0
    · rw [if_pos a2, if_pos a2]
    · rw [if_neg a2] at h ⊢
      rw [if_neg a2]
      by_cases a3 : h_k η e = 50
      · rw [if_pos a3] at h
        exact absurd h (by decide)
      · rw [if_neg a3, if_neg a3]
  · rw [if_neg he, if_neg he]
theorem m_judge {sL : Nat} {xs : Nat → Int32} {d : Nat} {M : Am_M} {Q : Int32 → Am_M → Prop} (hd : 56 ≤ d) {σ : Sg} {χ : q_X} (hM : SM M σ) (hL : LM M χ) {η : Hs} (hS : HM M η) {e : Int} (he : -2147483648 ≤ e ∧ e < 2147483648) {a : Int} (ha : -2147483648 ≤ a ∧ a < 2147483648)  (hq : ∀ M', am_fm M M' → Q (z_I (r_judge σ χ η e a)) M') : am_bi sL xs d 226 [.ref 53, .int (z_I e), .int (z_I a)] M Q := by
  obtain ⟨d, rfl⟩ : ∃ e, d = e + 1 := ⟨d - 1, by omega⟩
  have hn := sb_nb hM.1
  have hnr := sb_nrb hM.1
  have hkb : (0 ≤ e ∧ e < 6) → -1 ≤ h_k η e ∧ h_k η e ≤ 54 := fun q => hb_k hS.1 q
  have hbi := h_bi_b η e
  refine am_bi_of (P := am_pX11_judge) (rt := 1) (nL := 3) (Nat.le_of_ble_eq_true rfl) rfl (Nat.le_of_ble_eq_true rfl) rfl rfl rfl ?_
  refine am_r_aload0 (pc' := 1) rfl rfl ?_
  refine am_r_iload1 (pc' := 2) rfl rfl ?_
  refine am_r_invI1 (pc' := 5) rfl rfl rfl (Nat.le_of_ble_eq_true rfl) (m_bytesIs (by omega) hS (by omega) ?_)
  refine am_r_iconst (pc' := 6) rfl rfl ?_
  refine am_r_icmp_eq (pt := 18) (pf := 9) rfl rfl rfl (fun h6 => ?_) (fun h6 => ?_)
  · refine am_r_iconst (pc' := 19) rfl rfl ?_
    refine am_r_goto (pc' := 44) rfl rfl ?_
    refine am_r_iret rfl rfl ?_
    refine am_q ?_ (hq M (am_fm_rf M))
    unfold r_judge
    rw [if_neg (by omega)]
  · refine am_r_aload0 (pc' := 10) rfl rfl ?_
    refine am_r_iload2 (pc' := 11) rfl rfl ?_
    refine am_r_i2l (pc' := 12) rfl rfl ?_
    refine am_r_invI1 (pc' := 15) rfl rfl rfl (Nat.le_of_ble_eq_true rfl) (m_isOrb (by omega) hM (by omega) ?_)
    refine am_r_if_neB (pt := 22) (pf := 18) rfl rfl rfl (fun h15 => ?_) (fun h15 => ?_)
    · refine am_r_aload0 (pc' := 23) rfl rfl ?_
      refine am_r_iload1 (pc' := 24) rfl rfl ?_
      refine am_r_invI1 (pc' := 27) rfl rfl rfl (Nat.le_of_ble_eq_true rfl) (m_bytesIs (by omega) hS (by omega) ?_)
      refine am_r_if_ge (pt := 38) (pf := 30) rfl rfl rfl (fun h27 => ?_) (fun h27 => ?_)
      · refine am_r_aload0 (pc' := 39) rfl rfl ?_
        refine am_r_iload1 (pc' := 40) rfl rfl ?_
        refine am_r_iload2 (pc' := 41) rfl rfl ?_
        refine am_r_invI2 (pc' := 44) rfl rfl rfl (Nat.le_of_ble_eq_true rfl) (m_firstFalse (χ := χ) (η := η) (by omega) hM hL hS (by omega) (by omega) (by omega) ?_)
        · intro M3 hf3
          refine am_r_iret rfl rfl ?_
          refine am_q ?_ (hq M3 hf3)
          unfold r_judge
          rw [if_pos (by omega), if_neg (by omega), if_pos (by omega)]
      · refine am_r_aload0 (pc' := 31) rfl rfl ?_
        refine am_r_iload1 (pc' := 32) rfl rfl ?_
        refine am_r_invI1 (pc' := 35) rfl rfl rfl (Nat.le_of_ble_eq_true rfl) (m_bytesIs (by omega) hS (by omega) ?_)
        refine am_r_goto (pc' := 44) rfl rfl ?_
        refine am_r_iret rfl rfl ?_
        exact am_q (r_judge_bi σ χ η e a (by omega) (by omega) (by omega)) (hq M (am_fm_rf M))
    · refine am_r_iconst (pc' := 19) rfl rfl ?_
      refine am_r_goto (pc' := 44) rfl rfl ?_
      refine am_r_iret rfl rfl ?_
      refine am_q ?_ (hq M (am_fm_rf M))
      unfold r_judge
      rw [if_neg (by omega)]
theorem y_wb_pw2 (σ : Sg) (χ : q_X) (η : Hs) (e : Int) : f_pw (y_wb σ χ η e) := y_wb_pw σ χ η e
theorem z_or0 (c : Int) : z_I c ||| z_I 0 = z_I c := by
  show z_I c ||| (0 : Int32) = z_I c
  simp
theorem m_whose {sL : Nat} {xs : Nat → Int32} {d : Nat} {M : Am_M} {Q : Int32 → Am_M → Prop} (hd : 56 ≤ d) {σ : Sg} {χ : q_X} (hM : SM M σ) (hL : LM M χ) {η : Hs} (hS : HM M η) {e : Int} (he : -2147483648 ≤ e ∧ e < 2147483648) (hq : ∀ M', am_fm M M' → Q (z_I (r_whose σ χ η e)) M') : am_bi sL xs d 228 [.ref 53, .int (z_I e)] M Q := by
  obtain ⟨d, rfl⟩ : ∃ e, d = e + 1 := ⟨d - 1, by omega⟩
  have hn := sb_nb hM.1
  have hnr := sb_nrb hM.1
  have hkb : (0 ≤ e ∧ e < 6) → -1 ≤ h_k η e ∧ h_k η e ≤ 54 := fun q => hb_k hS.1 q
  have hbi := h_bi_b η e
  have hnb : (0 ≤ e ∧ e < 6) → h_k η e = 50 → 0 ≤ h_n η e ∧ h_n η e ≤ 60 := fun q r => hb_n hS.1 q (by omega)
  have hloop : ∀ (k : Nat) (i c : Int) (N : Am_M), (0 ≤ e ∧ e < 6) → h_k η e = 50 → 0 ≤ i ∧ i + k = s_n σ ∧ 0 ≤ c ∧ c < 2 ^ i.toNat → am_fm M N → c + f_sum (y_wb σ χ η e) i k = r_whose σ χ η e → am_rw sL xs d am_pX11_whose 1 18 [.ref 53, .int (z_I e), .int (z_I c), .int (z_I i)] [] N (am_pi Q) := by
    intro k
    induction k with
    | zero =>
      intro i c N he hk hi hF hr
      have hM := sm_fm hM hF
      refine am_r_iload3 (pc' := 19) rfl rfl ?_
      refine am_r_aload0 (pc' := 20) rfl rfl ?_
      refine am_r_getIv (f := 6) (pc' := 23) rfl rfl rfl (sm_n hM) ?_
      refine am_r_icmp_ge (pt := 53) (pf := 26) rfl rfl rfl (fun h23 => ?_) (fun h23 => ?_)
      · refine am_r_iload2 (pc' := 54) rfl rfl ?_
        refine am_r_iret rfl rfl ?_
        refine am_q ?_ (hq N hF)
        rw [← hr, f_sum_0]
      · exfalso; omega
    | succ k ih =>
      intro i c N he hk hi hF hr
      have hM := sm_fm hM hF
      have hL := lm_fm hL hF
      have hS := hm_fm hS hF
      have hps := z_pow_s hi.1
      have hfb := y_fu_b σ χ η e i (hnb he hk)
      refine am_r_iload3 (pc' := 19) rfl rfl ?_
      refine am_r_aload0 (pc' := 20) rfl rfl ?_
      refine am_r_getIv (f := 6) (pc' := 23) rfl rfl rfl (sm_n hM) ?_
      refine am_r_icmp_ge (pt := 53) (pf := 26) rfl rfl rfl (fun h23 => ?_) (fun h23 => ?_)
      · exfalso; omega
      · refine am_r_iload2 (pc' := 27) rfl rfl ?_
        refine am_r_aload0 (pc' := 28) rfl rfl ?_
        refine am_r_iload1 (pc' := 29) rfl rfl ?_
        refine am_r_iload3 (pc' := 30) rfl rfl ?_
        refine am_r_invI2 (pc' := 33) rfl rfl rfl (Nat.le_of_ble_eq_true rfl) (m_firstFalse (χ := χ) (η := η) (by omega) hM hL hS he hk (by omega) ?_)
        · intro M4 hf4
          have hF := am_fm_tr hF hf4
          refine am_r_iconst (pc' := 35) rfl rfl ?_
          refine am_r_icmp_ne (pt := 44) (pf := 38) rfl rfl rfl (fun h35 => ?_) (fun h35 => ?_)
          · refine am_r_iconst (pc' := 45) rfl rfl ?_
            refine am_r_iorR (pc' := 46) rfl rfl ?_
            rw [z_or0]
            refine am_r_istore2 (pc' := 47) rfl rfl rfl ?_
            refine am_r_iinc3 (pc' := 50) rfl rfl rfl ?_
            refine am_r_goto (pc' := 18) rfl rfl ?_
            exact ih _ _ M4 he hk (by omega) hF (by rw [← hr, f_sum_s, show y_wb σ χ η e i = 0 from if_neg h35, Int.add_zero])
          · refine am_r_iconst (pc' := 39) rfl rfl ?_
            refine am_r_iload3 (pc' := 40) rfl rfl ?_
            refine am_r_ishl (pc' := 41) rfl rfl ?_
            refine am_r_goto (pc' := 45) rfl rfl ?_
            refine am_r_iorR (pc' := 46) rfl rfl ?_
            rw [z_shl1 (by omega), z_or (by omega) (by omega)]
            refine am_r_istore2 (pc' := 47) rfl rfl rfl ?_
            refine am_r_iinc3 (pc' := 50) rfl rfl rfl ?_
            refine am_r_goto (pc' := 18) rfl rfl ?_
            exact ih _ _ M4 he hk (by omega) hF (by rw [← hr, f_sum_s, show y_wb σ χ η e i = 2 ^ i.toNat from if_pos h35])
  refine am_bi_of (P := am_pX11_whose) (rt := 1) (nL := 4) (Nat.le_of_ble_eq_true rfl) rfl (Nat.le_of_ble_eq_true rfl) rfl rfl rfl ?_
  refine am_r_aload0 (pc' := 1) rfl rfl ?_
  refine am_r_iload1 (pc' := 2) rfl rfl ?_
  refine am_r_invI1 (pc' := 5) rfl rfl rfl (Nat.le_of_ble_eq_true rfl) (m_bytesIs (by omega) hS (by omega) ?_)
  refine am_r_if_ge (pt := 14) (pf := 8) rfl rfl rfl (fun h5 => ?_) (fun h5 => ?_)
  · refine am_r_iconst (pc' := 15) rfl rfl ?_
    refine am_r_istore2 (pc' := 16) rfl rfl rfl ?_
    refine am_r_iconst (pc' := 17) rfl rfl ?_
    refine am_r_istore3 (pc' := 18) rfl rfl rfl ?_
    refine hloop (s_n σ).toNat 0 0 M (by omega) (by omega) (by refine ⟨by omega, by omega, by omega, ?_⟩; decide) (am_fm_rf _) ?_
    unfold r_whose
    rw [if_pos (by omega), if_neg (by omega), if_pos (by omega), Int.zero_add]
  · refine am_r_aload0 (pc' := 9) rfl rfl ?_
    refine am_r_iload1 (pc' := 10) rfl rfl ?_
    refine am_r_invI1 (pc' := 13) rfl rfl rfl (Nat.le_of_ble_eq_true rfl) (m_bytesIs (by omega) hS (by omega) ?_)
    refine am_r_iret rfl rfl ?_
    exact am_q (r_whose_bi σ χ η e (by omega)) (hq M (am_fm_rf M))
/-- the sky's numbers too -/
def am_fn (M M' : Am_M) : Prop := (∀ k i, ¬ (k = 53 ∧ ((12 ≤ i ∧ i ≤ 16) ∨ i = 19 ∨ i = 20)) → ¬ (61 ≤ k ∧ k ≤ 64) → k ≠ 54 → M'.1 k i = M.1 k i) ∧ M'.2 = M.2
theorem am_fn_rf (M : Am_M) : am_fn M M := ⟨fun _ _ _ _ _ => rfl, rfl⟩
theorem am_fn_tr {M M' M'' : Am_M} (h : am_fn M M') (h2 : am_fn M' M'') : am_fn M M'' := ⟨fun k i q r s => (h2.1 k i q r s).trans (h.1 k i q r s), h2.2.trans h.2⟩
theorem am_fn_fm {M M' : Am_M} (h : am_fm M M') : am_fn M M' := ⟨fun k i q r _ => h.1 k i q r, h.2⟩
theorem am_fn_up {M M' : Am_M} (h : am_fn M M') {i : Nat} {x : Int32} : am_fn M (am_upI M' 54 i x) := ⟨fun k' j q r s => by
  show (if k' = 54 ∧ j = i then x else M'.1 k' j) = _
  rw [if_neg (by omega)]; exact h.1 k' j q r s, h.2⟩
theorem lm_fn {M M' : Am_M} {χ : q_X} (h : LM M χ) (hf : am_fn M M') : LM M' χ := lm_cg h (hf.1 53 11 (by omega) (by omega) (by omega)) (fun i => hf.1 60 i (by omega) (by omega) (by omega))
theorem hm_fn {M M' : Am_M} {η : Hs} (h : HM M η) (hf : am_fn M M') : HM M' η := hm_cg h (fun i => hf.1 71 i (by omega) (by omega) (by omega)) (fun i => hf.1 72 i (by omega) (by omega) (by omega)) (by rw [hf.2])
theorem sm_lkv {M : Am_M} {σ : Sg} (h : SM M σ) {ab v : Int} (hab : (0 ≤ ab ∧ ab / 10 < s_n σ ∧ ab % 10 < s_n σ ∧ ab / 10 ≠ ab % 10)) (hv : -9 ≤ v ∧ v ≤ 9) : SM (am_upI M 54 (16 + 8 * (ab / 10) + ab % 10).toNat (z_I v)) (s_setLk σ (ab / 10) (ab % 10) v) := by
  have h2 := sm_tell h (a := ab) (w := 2) (v := v) (by right; right; left; exact ⟨rfl, hab⟩) (by right; right; left; exact ⟨rfl, hv.1, hv.2⟩)
  have e : t_at ab 2 = 16 + 8 * (ab / 10) + ab % 10 := by unfold t_at; simp
  rw [e] at h2
  exact h2
theorem m_liking {sL : Nat} {xs : Nat → Int32} {d : Nat} {M : Am_M} {Q : Int32 → Am_M → Prop} (hd : 56 ≤ d) {σ : Sg} {χ : q_X} (hM : SM M σ) (hL : LM M χ) {η : Hs} (hS : HM M η) {e : Int} (he : -2147483648 ≤ e ∧ e < 2147483648) {ab : Int} (hab : -2147483648 ≤ ab ∧ ab < 2147483648) {a : Int} (ha : -2147483648 ≤ a ∧ a < 2147483648) {w : Int} (hw : -2147483648 ≤ w ∧ w < 2147483648) (hq : ∀ M', am_fn M M' → SM M' σ → Q (z_I (r_liking σ χ η e ab a w)) M') : am_bi sL xs d 227 [.ref 53, .int (z_I e), .int (z_I ab), .int (z_I a), .int (z_I w)] M Q := by
  obtain ⟨d, rfl⟩ : ∃ e, d = e + 1 := ⟨d - 1, by omega⟩
  have hn := sb_nb hM.1
  have hnr := sb_nrb hM.1
  have hkb : (0 ≤ e ∧ e < 6) → -1 ≤ h_k η e ∧ h_k η e ≤ 54 := fun q => hb_k hS.1 q
  have hbi := h_bi_b η e
  have hnb : (0 ≤ e ∧ e < 6) → h_k η e = 50 → 0 ≤ h_n η e ∧ h_n η e ≤ 60 := fun q r => hb_n hS.1 q (by omega)
  have hloop : ∀ (k : Nat) (v u c l : Int) (N : Am_M), ((0 ≤ e ∧ e < 6) ∧ (0 ≤ ab ∧ ab / 10 < s_n σ ∧ ab % 10 < s_n σ ∧ ab / 10 ≠ ab % 10) ∧ (0 ≤ a ∧ a < s_n σ) ∧ (w = 0 ∨ w = 1) ∧ h_k η e = 50) → (v + k = 10 ∧ -9 ≤ v ∧ 0 ≤ c ∧ c ≤ v + 9) → am_fn M N → SM N (s_setLk σ (ab / 10) (ab % 10) u) → c + f_cnt (y_lk σ χ η e ab a) v k = f_cnt (y_lk σ χ η e ab a) (-9) 19 → (c = 0 → l = -99 ∧ f_f99 (y_lk σ χ η e ab a) v k = f_f99 (y_lk σ χ η e ab a) (-9) 19) → (c ≠ 0 → l = f_f99 (y_lk σ χ η e ab a) (-9) 19) → am_rw sL xs d am_pX11_liking 1 76 [.ref 53, .int (z_I e), .int (z_I ab), .int (z_I a), .int (z_I w), .int (z_I (16 + 8 * (ab / 10) + ab % 10)), .int (z_I (s_lk σ (ab / 10) (ab % 10))), .int (z_I c), .int (z_I l), .int (z_I v)] [] N (am_pi Q) := by
    intro k
    induction k with
    | zero =>
      intro v u c l N hh hk2 hF hM2 hc hl0 hl1
      have hlk := sb_lk hM.1 (a := ab / 10) (b := ab % 10) (by omega) (by omega)
      have hME := sm_lkv hM2 hh.2.1 hlk
      rw [s_setLk_2, s_setLk_s] at hME
      refine am_r_iload9 (pc' := 78) rfl rfl ?_
      refine am_r_iconst (pc' := 80) rfl rfl ?_
      refine am_r_icmp_gt (pt := 126) (pf := 83) rfl rfl rfl (fun h80 => ?_) (fun h80 => ?_)
      · refine am_r_aload0 (pc' := 127) rfl rfl ?_
        refine am_r_getR (t := 54) (pc' := 130) rfl rfl rfl ?_
        refine am_r_iload5 (pc' := 132) rfl rfl ?_
        refine am_r_iload6 (pc' := 134) rfl rfl ?_
        refine am_r_iast (n := 81) (pc' := 135) rfl rfl (rfl) (by decide) ?_
        refine am_r_iload4 (pc' := 137) rfl rfl ?_
        refine am_r_if_ne (pt := 145) (pf := 140) rfl rfl rfl (fun h137 => ?_) (fun h137 => ?_)
        · refine am_r_iload8 (pc' := 147) rfl rfl ?_
          refine am_r_iret rfl rfl ?_
          refine am_q ?_ (hq _ (am_fn_up hF) hME)
          unfold r_liking
          rw [if_pos hh]
          have hc0 : c = f_cnt (y_lk σ χ η e ab a) (-9) 19 := by rw [← hc, f_cnt_0]
          first
          | (rw [if_pos (by omega)]; exact hc0)
          | (rw [if_neg (by omega)]
             by_cases q : c = 0
             · rw [← (hl0 q).2, (hl0 q).1]; rfl
             · exact hl1 q)
        · refine am_r_iload7 (pc' := 142) rfl rfl ?_
          refine am_r_goto (pc' := 147) rfl rfl ?_
          refine am_r_iret rfl rfl ?_
          refine am_q ?_ (hq _ (am_fn_up hF) hME)
          unfold r_liking
          rw [if_pos hh]
          have hc0 : c = f_cnt (y_lk σ χ η e ab a) (-9) 19 := by rw [← hc, f_cnt_0]
          first
          | (rw [if_pos (by omega)]; exact hc0)
          | (rw [if_neg (by omega)]
             by_cases q : c = 0
             · rw [← (hl0 q).2, (hl0 q).1]; rfl
             · exact hl1 q)
      · exfalso; omega
    | succ k ih =>
      intro v u c l N hh hk2 hF hM2 hc hl0 hl1
      have hM := sm_lkv hM2 hh.2.1 (v := v) (by omega)
      rw [s_setLk_2] at hM
      have hF := am_fn_up (i := (16 + 8 * (ab / 10) + ab % 10).toNat) (x := z_I v) hF
      have hL := lm_fn hL hF
      have hS := hm_fn hS hF
      have hfb := y_fu_b (s_setLk σ (ab / 10) (ab % 10) v) χ η e a (hnb (by omega) (by omega))
      refine am_r_iload9 (pc' := 78) rfl rfl ?_
      refine am_r_iconst (pc' := 80) rfl rfl ?_
      refine am_r_icmp_gt (pt := 126) (pf := 83) rfl rfl rfl (fun h80 => ?_) (fun h80 => ?_)
      · exfalso; omega
      · refine am_r_aload0 (pc' := 84) rfl rfl ?_
        refine am_r_getR (t := 54) (pc' := 87) rfl rfl rfl ?_
        refine am_r_iload5 (pc' := 89) rfl rfl ?_
        refine am_r_iload9 (pc' := 91) rfl rfl ?_
        refine am_r_iast (n := 81) (pc' := 92) rfl rfl (rfl) (by decide) ?_
        refine am_r_aload0 (pc' := 93) rfl rfl ?_
        refine am_r_iload1 (pc' := 94) rfl rfl ?_
        refine am_r_iload3 (pc' := 95) rfl rfl ?_
        refine am_r_invI2 (pc' := 98) rfl rfl rfl (Nat.le_of_ble_eq_true rfl) (m_firstFalse (σ := s_setLk σ (ab / 10) (ab % 10) v) (χ := χ) (η := η) (by omega) hM hL hS (by omega) (by omega) hh.2.2.1 ?_)
        · intro M6 hf6
          have hF := am_fn_tr hF (am_fn_fm hf6)
          have hM6 := sm_fm hM hf6
          refine am_r_iconst (pc' := 100) rfl rfl ?_
          refine am_r_icmp_ne (pt := 120) (pf := 103) rfl rfl rfl (fun h100 => ?_) (fun h100 => ?_)
          · refine am_r_iinc9 (pc' := 123) rfl rfl rfl ?_
            refine am_r_goto (pc' := 76) rfl rfl ?_
            have ep : ¬ y_lk σ χ η e ab a v = true := by unfold y_lk; rw [decide_eq_true_eq]; exact h100
            rw [f_cnt_f ep] at hc
            exact ih _ v _ _ M6 hh (by omega) hF hM6 hc (fun q => ⟨(hl0 q).1, by rw [← (hl0 q).2, f_f99_f ep]⟩) hl1
          · refine am_r_iload7 (pc' := 105) rfl rfl ?_
            refine am_r_if_ne (pt := 113) (pf := 108) rfl rfl rfl (fun h105 => ?_) (fun h105 => ?_)
            · refine am_r_iload8 (pc' := 115) rfl rfl ?_
              refine am_r_istore8 (pc' := 117) rfl rfl rfl ?_
              refine am_r_iinc7 (pc' := 120) rfl rfl rfl ?_
              refine am_r_iinc9 (pc' := 123) rfl rfl rfl ?_
              refine am_r_goto (pc' := 76) rfl rfl ?_
              have ep : y_lk σ χ η e ab a v = true := decide_eq_true h100
              rw [f_cnt_t ep] at hc
              exact ih _ v _ _ M6 hh (by omega) hF hM6 hc (fun q => by omega) (fun q => hl1 h105)
            · refine am_r_iload9 (pc' := 110) rfl rfl ?_
              refine am_r_goto (pc' := 115) rfl rfl ?_
              refine am_r_istore8 (pc' := 117) rfl rfl rfl ?_
              refine am_r_iinc7 (pc' := 120) rfl rfl rfl ?_
              refine am_r_iinc9 (pc' := 123) rfl rfl rfl ?_
              refine am_r_goto (pc' := 76) rfl rfl ?_
              have ep : y_lk σ χ η e ab a v = true := decide_eq_true h100
              rw [f_cnt_t ep] at hc
              exact ih _ v _ _ M6 hh (by omega) hF hM6 hc (fun q => by omega) (fun q => by rw [← (hl0 h105).2, f_f99_t ep])
  refine am_bi_of (P := am_pX11_liking) (rt := 1) (nL := 10) (Nat.le_of_ble_eq_true rfl) rfl (Nat.le_of_ble_eq_true rfl) rfl rfl rfl ?_
  refine am_r_aload0 (pc' := 1) rfl rfl ?_
  refine am_r_iload1 (pc' := 2) rfl rfl ?_
  refine am_r_invI1 (pc' := 5) rfl rfl rfl (Nat.le_of_ble_eq_true rfl) (m_bytesIs (by omega) hS (by omega) ?_)
  refine am_r_if_lt (pt := 36) (pf := 8) rfl rfl rfl (fun h5 => ?_) (fun h5 => ?_)
  · refine am_r_iconst (pc' := 38) rfl rfl ?_
    refine am_r_iret rfl rfl ?_
    refine am_q ?_ (hq M (am_fn_rf M) hM)
    unfold r_liking
    rw [if_neg (by omega)]
  · refine am_r_aload0 (pc' := 9) rfl rfl ?_
    refine am_r_iload2 (pc' := 10) rfl rfl ?_
    refine am_r_invI1 (pc' := 13) rfl rfl rfl (Nat.le_of_ble_eq_true rfl) (m_isAb (by omega) hM (by omega) ?_)
    refine am_r_if_eqB (pt := 36) (pf := 16) rfl rfl rfl (fun h13 => ?_) (fun h13 => ?_)
    · refine am_r_iconst (pc' := 38) rfl rfl ?_
      refine am_r_iret rfl rfl ?_
      refine am_q ?_ (hq M (am_fn_rf M) hM)
      unfold r_liking
      rw [if_neg (by omega)]
    · refine am_r_aload0 (pc' := 17) rfl rfl ?_
      refine am_r_iload3 (pc' := 18) rfl rfl ?_
      refine am_r_i2l (pc' := 19) rfl rfl ?_
      refine am_r_invI1 (pc' := 22) rfl rfl rfl (Nat.le_of_ble_eq_true rfl) (m_isOrb (by omega) hM (by omega) ?_)
      refine am_r_if_eqB (pt := 36) (pf := 25) rfl rfl rfl (fun h22 => ?_) (fun h22 => ?_)
      · refine am_r_iconst (pc' := 38) rfl rfl ?_
        refine am_r_iret rfl rfl ?_
        refine am_q ?_ (hq M (am_fn_rf M) hM)
        unfold r_liking
        rw [if_neg (by omega)]
      · refine am_r_iload4 (pc' := 27) rfl rfl ?_
        refine am_r_i2l (pc' := 28) rfl rfl ?_
        refine am_r_lconst (z := 0) (pc' := 29) rfl rfl rfl ?_
        refine am_r_lconst (z := 1) (pc' := 30) rfl rfl rfl ?_
        refine am_r_ivsI3 (pc' := 33) rfl rfl rfl (Nat.le_of_ble_eq_true rfl) (m_within (by omega) (by omega) (by omega) (by omega) ?_)
        refine am_r_if_neB (pt := 39) (pf := 36) rfl rfl rfl (fun h33 => ?_) (fun h33 => ?_)
        · refine am_r_iconst (pc' := 41) rfl rfl ?_
          refine am_r_iconst (pc' := 43) rfl rfl ?_
          refine am_r_iload2 (pc' := 44) rfl rfl ?_
          refine am_r_iconst (pc' := 46) rfl rfl ?_
          refine am_r_idiv (pc' := 47) rfl rfl ?_
          refine am_r_imul (pc' := 48) rfl rfl ?_
          refine am_r_iadd (pc' := 49) rfl rfl ?_
          refine am_r_iload2 (pc' := 50) rfl rfl ?_
          refine am_r_iconst (pc' := 52) rfl rfl ?_
          refine am_r_irem (pc' := 53) rfl rfl ?_
          refine am_r_iadd (pc' := 54) rfl rfl ?_
          refine am_r_istore5 (pc' := 56) rfl rfl rfl ?_
          refine am_r_aload0 (pc' := 57) rfl rfl ?_
          refine am_r_getR (t := 54) (pc' := 60) rfl rfl rfl ?_
          refine am_r_iload5 (pc' := 62) rfl rfl ?_
          refine am_r_iaZv (n := 81) (pc' := 63) rfl rfl rfl (by decide) (show _ = z_I (s_lk σ (ab / 10) (ab % 10)) from sm_lk hM (by omega) (by omega)) ?_
          refine am_r_istore6 (pc' := 65) rfl rfl rfl ?_
          refine am_r_iconst (pc' := 66) rfl rfl ?_
          refine am_r_istore7 (pc' := 68) rfl rfl rfl ?_
          refine am_r_iconst (pc' := 70) rfl rfl ?_
          refine am_r_istore8 (pc' := 72) rfl rfl rfl ?_
          refine am_r_iconst (pc' := 74) rfl rfl ?_
          refine am_r_istore9 (pc' := 76) rfl rfl rfl ?_
          exact hloop 19 (-9) (s_lk σ (ab / 10) (ab % 10)) 0 (-99) M (by omega) (by omega) (am_fn_rf M) (by rw [s_setLk_s]; exact hM) (Int.zero_add _) (fun _ => ⟨rfl, rfl⟩) (fun q => absurd rfl q)
        · refine am_r_iconst (pc' := 38) rfl rfl ?_
          refine am_r_iret rfl rfl ?_
          refine am_q ?_ (hq M (am_fn_rf M) hM)
          unfold r_liking
          rw [if_neg (by omega)]
