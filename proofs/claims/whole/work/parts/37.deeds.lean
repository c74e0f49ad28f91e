/-! the class: likings, draws, deeds, changes -/
/-- the sky and what goes its way have changed -/
def am_fg (M M' : Am_M) : Prop := ∀ k, ¬ (1 ≤ k ∧ k ≤ 13) → ¬ (22 ≤ k ∧ k ≤ 30) → M'.1 k = M.1 k ∧ M'.2 k = M.2 k
theorem am_fg_rf (M : Am_M) : am_fg M M := fun _ _ _ => ⟨rfl, rfl⟩
theorem am_fg_tr {M M' M'' : Am_M} (h : am_fg M M') (h2 : am_fg M' M'') : am_fg M M'' := fun k q r => ⟨(h2 k q r).1.trans (h k q r).1, (h2 k q r).2.trans (h k q r).2⟩
theorem am_fg_w {M M' : Am_M} {lo hi : Nat} (h : am_fr lo hi M M') (hh : (1 ≤ lo ∧ hi ≤ 13) ∨ (22 ≤ lo ∧ hi ≤ 30)) : am_fg M M' := fun k q r => h k (by omega)
theorem cl_cg {M M' : Am_M} {χ : q_X} (h : CL M χ) (h1 : M'.1 19 = M.1 19) (h2 : M'.1 20 = M.1 20) (h3 : M'.1 21 = M.1 21) : CL M' χ := by
  cases χ with
  | none => exact (congrFun h1 2).trans h
  | some c => exact ⟨h.1, by rw [h1]; exact h.2.1, h.2.2.1, h.2.2.2.1, fun i x e => by rw [h2, h3]; exact h.2.2.2.2 i x e⟩
theorem cl_fg {M M' : Am_M} {χ : q_X} (h : CL M χ) (hf : am_fg M M') : CL M' χ := cl_cg h (hf 19 (by omega) (by omega)).1 (hf 20 (by omega) (by omega)).1 (hf 21 (by omega) (by omega)).1
theorem hx_cg {M M' : Am_M} {η : Hs} (h : HX M η) (hf : ∀ k, 38 ≤ k → k ≤ 49 → M'.1 k = M.1 k ∧ M'.2 k = M.2 k) : HX M' η :=
  ⟨h.1, fun e he => ⟨by rw [(hf 39 (by omega) (by omega)).1]; exact hx_h h he, fun hk => by rw [(hf 40 (by omega) (by omega)).1]; exact hx_m h he hk, fun hk => ⟨by rw [(hf 41 (by omega) (by omega)).1]; exact hx_s h he hk, by rw [(hf 42 (by omega) (by omega)).1]; exact hx_n h he hk, fun i hi => by rw [(hf (44 + e.toNat) (by omega) (by omega)).2]; exact hx_v h he hk hi⟩⟩⟩
theorem hx_fg {M M' : Am_M} {η : Hs} (h : HX M η) (hf : am_fg M M') : HX M' η := hx_cg h (fun k a b => hf k (by omega) (by omega))
theorem s_setLk_2 (σ : Sg) (a b u v : Int) : s_setLk (s_setLk σ a b u) a b v = s_setLk σ a b v := by
  unfold s_setLk
  congr 1
  congr 1
  congr 1
  congr 1
  congr 1
  funext x y
  by_cases e : x = a ∧ y = b
  · simp only [if_pos e]
  · simp only [if_neg e]
theorem s_setLk_s (σ : Sg) (a b : Int) : s_setLk σ a b (s_lk σ a b) = σ := by
  have e : (fun x y => if x = a ∧ y = b then s_lk σ a b else σ.2.2.2.2.1 x y) = σ.2.2.2.2.1 := by
    funext x y
    by_cases e : x = a ∧ y = b
    · rw [if_pos e, e.1, e.2]; rfl
    · rw [if_neg e]
  unfold s_setLk
  rw [e]
theorem f_f99_t {p : Int → Bool} {i : Int} {k : Nat} (h : p i = true) : f_f99 p i (k + 1) = i := if_pos h
theorem f_f99_f {p : Int → Bool} {i : Int} {k : Nat} (h : ¬ p i = true) : f_f99 p i (k + 1) = f_f99 p (i + 1) k := if_neg h
theorem c_likings {sL : Nat} {xs : Nat → Int32} {d : Nat} {M : Am_M} {Q : Int32 → Am_M → Prop} (hd : 7 ≤ d) {σ : Sg} {χ : q_X} {η : Hs} (hX : SX M σ) (hL : CL M χ) (hH : HX M η) {e ab a : Int} {w : Int} (hw : w = 0 ∨ w = 1) (he : 0 ≤ e ∧ e < 6) (hab : (0 ≤ ab ∧ ab / 10 < s_n σ ∧ ab % 10 < s_n σ ∧ ab / 10 ≠ ab % 10)) (ha : 0 ≤ a ∧ a < s_n σ) (hk : h_k η e = 50) (hq : ∀ M', am_fg M M' → SX M' σ → Q (z_I (if w = 0 then f_cnt (y_lk σ χ η e ab a) (-9) 19 else f_f99 (y_lk σ χ η e ab a) (-9) 19)) M') : am_bi sL xs d 158 [.ref 0, .int (z_I e), .int (z_I ab), .int (z_I a), .int (z_I w)] M Q := by
  obtain ⟨d, rfl⟩ : ∃ e, d = e + 1 := ⟨d - 1, by omega⟩
  have hn := sb_nb hX.1
  have hnb := hb_n hH.1 he (by omega)
  have hlk := sb_lk hX.1 (a := ab / 10) (b := ab % 10) (by omega) (by omega)
  have hto : t_old σ ab 2 = s_lk σ (ab / 10) (ab % 10) := rfl
  have hloop : ∀ (k : Nat) (v u c l : Int) (N : Am_M), (v + k = 10 ∧ -9 ≤ v ∧ 0 ≤ c ∧ c ≤ v + 9) → am_fg M N → SX N (s_setLk σ (ab / 10) (ab % 10) u) → c + f_cnt (y_lk σ χ η e ab a) v k = f_cnt (y_lk σ χ η e ab a) (-9) 19 → (c = 0 → l = -99 ∧ f_f99 (y_lk σ χ η e ab a) v k = f_f99 (y_lk σ χ η e ab a) (-9) 19) → (c ≠ 0 → l = f_f99 (y_lk σ χ η e ab a) (-9) 19) → am_rw sL xs d am_pX10_likings 1 22 [.ref 0, .int (z_I e), .int (z_I ab), .int (z_I a), .int (z_I w), .int (z_I (s_lk σ (ab / 10) (ab % 10))), .int (z_I c), .int (z_I l), .int (z_I v)] [] N (am_pi Q) := by
    intro k
    induction k with
    | zero =>
      intro v u c l N hk2 hF hX hc hl0 hl1
      refine am_r_iload8 (pc' := 24) rfl rfl ?_
      refine am_r_iconst (pc' := 26) rfl rfl ?_
      refine am_r_icmp_gt (pt := 89) (pf := 29) rfl rfl rfl (fun h26 => ?_) (fun h26 => ?_)
      · refine am_r_aload0 (pc' := 90) rfl rfl ?_
        refine am_r_getR (t := 1) (pc' := 93) rfl rfl rfl ?_
        refine am_r_iload2 (pc' := 94) rfl rfl ?_
        refine am_r_iconst (pc' := 95) rfl rfl ?_
        refine am_r_iload5 (pc' := 97) rfl rfl ?_
        refine am_r_invV3 (pc' := 100) rfl rfl rfl (Nat.le_of_ble_eq_true rfl) (c_tell (by omega) hX (a := ab) (w := 2) (v := s_lk σ (ab / 10) (ab % 10)) (by right; right; left; exact ⟨rfl, hab⟩) (by right; right; left; exact ⟨rfl, hlk⟩) ?_)
        · intro M4 hf4 hX4
          have e4 : t_new (s_setLk σ (ab / 10) (ab % 10) u) ab 2 (s_lk σ (ab / 10) (ab % 10)) = σ := (s_setLk_2 σ _ _ u _).trans (s_setLk_s σ _ _)
          rw [e4] at hX4
          have hF := am_fg_tr hF (am_fg_w hf4 (by omega))
          refine am_r_iload4 (pc' := 102) rfl rfl ?_
          refine am_r_if_eq (pt := 110) (pf := 105) rfl rfl rfl (fun h102 => ?_) (fun h102 => ?_)
          · refine am_r_iload6 (pc' := 112) rfl rfl ?_
            refine am_r_iret rfl rfl ?_
            refine am_q ?_ (hq M4 hF hX4)
            have hc0 : c = f_cnt (y_lk σ χ η e ab a) (-9) 19 := by rw [← hc, f_cnt_0]
            first
            | (rw [if_pos (by omega)]; exact hc0)
            | (rw [if_neg (by omega)]
               by_cases q : c = 0
               · rw [← (hl0 q).2, (hl0 q).1]; rfl
               · exact hl1 q)
          · refine am_r_iload7 (pc' := 107) rfl rfl ?_
            refine am_r_goto (pc' := 112) rfl rfl ?_
            refine am_r_iret rfl rfl ?_
            refine am_q ?_ (hq M4 hF hX4)
            have hc0 : c = f_cnt (y_lk σ χ η e ab a) (-9) 19 := by rw [← hc, f_cnt_0]
            first
            | (rw [if_pos (by omega)]; exact hc0)
            | (rw [if_neg (by omega)]
               by_cases q : c = 0
               · rw [← (hl0 q).2, (hl0 q).1]; rfl
               · exact hl1 q)
      · exfalso; omega
    | succ k ih =>
      intro v u c l N hk2 hF hX hc hl0 hl1
      refine am_r_iload8 (pc' := 24) rfl rfl ?_
      refine am_r_iconst (pc' := 26) rfl rfl ?_
      refine am_r_icmp_gt (pt := 89) (pf := 29) rfl rfl rfl (fun h26 => ?_) (fun h26 => ?_)
      · exfalso; omega
      · refine am_r_aload0 (pc' := 30) rfl rfl ?_
        refine am_r_getR (t := 1) (pc' := 33) rfl rfl rfl ?_
        refine am_r_iload2 (pc' := 34) rfl rfl ?_
        refine am_r_iconst (pc' := 35) rfl rfl ?_
        refine am_r_iload8 (pc' := 37) rfl rfl ?_
        refine am_r_invV3 (pc' := 40) rfl rfl rfl (Nat.le_of_ble_eq_true rfl) (c_tell (by omega) hX (a := ab) (w := 2) (v := v) (by right; right; left; exact ⟨rfl, hab⟩) (by right; right; left; exact ⟨rfl, by omega, by omega⟩) ?_)
        · intro M4 hf4 hX4
          have e4 : t_new (s_setLk σ (ab / 10) (ab % 10) u) ab 2 v = s_setLk σ (ab / 10) (ab % 10) v := s_setLk_2 σ _ _ u _
          rw [e4] at hX4
          have hF := am_fg_tr hF (am_fg_w hf4 (by omega))
          have hX := hX4
          have hL := cl_fg hL hF
          have hH := hx_fg hH hF
          have hfb := y_fu_b (s_setLk σ (ab / 10) (ab % 10) v) χ η e a hnb
          refine am_r_aload0 (pc' := 41) rfl rfl ?_
          refine am_r_getR (t := 29) (pc' := 44) rfl rfl rfl ?_
          refine am_r_aload0 (pc' := 45) rfl rfl ?_
          refine am_r_getR (t := 38) (pc' := 48) rfl rfl rfl ?_
          refine am_r_getR (t := 43) (pc' := 51) rfl rfl rfl ?_
          refine am_r_iload1 (pc' := 52) rfl rfl ?_
          refine am_r_aaZ (n := 6) (t := 44) (pc' := 53) rfl rfl rfl rfl (by decide) ?_
          refine am_r_aload0 (pc' := 54) rfl rfl ?_
          refine am_r_getR (t := 38) (pc' := 57) rfl rfl rfl ?_
          refine am_r_getR (t := 42) (pc' := 60) rfl rfl rfl ?_
          refine am_r_iload1 (pc' := 61) rfl rfl ?_
          refine am_r_iaZv (n := 6) (pc' := 62) rfl rfl rfl (by decide) (hx_n hH (by omega) (by omega)) ?_
          refine am_r_iload3 (pc' := 63) rfl rfl ?_
          refine am_r_invI3 (pc' := 66) rfl rfl rfl (Nat.le_of_ble_eq_true rfl) (c_firstUnlike (σ := s_setLk σ (ab / 10) (ab % 10) v) (χ := χ) (η := η) (by omega) hX hL hH he hk ha ?_)
          · intro M6 hf6
            have hF := am_fg_tr hF (am_fg_w hf6 (by omega))
            have hX := sx_fr hX hf6 (by omega)
            rw [show f_first (y_ul (s_setLk σ (ab / 10) (ab % 10) v) χ (h_v η e) a) 0 (h_n η e).toNat = y_fu (s_setLk σ (ab / 10) (ab % 10) v) χ η e a from rfl]
            refine am_r_iconst (pc' := 68) rfl rfl ?_
            refine am_r_icmp_ne (pt := 83) (pf := 71) rfl rfl rfl (fun h68 => ?_) (fun h68 => ?_)
            · refine am_r_iinc8 (pc' := 86) rfl rfl rfl ?_
              refine am_r_goto (pc' := 22) rfl rfl ?_
              have ep : ¬ y_lk σ χ η e ab a v = true := by unfold y_lk; rw [decide_eq_true_eq]; exact h68
              rw [f_cnt_f ep] at hc
              exact ih _ v _ _ M6 (by omega) hF hX hc (fun q => ⟨(hl0 q).1, by rw [← (hl0 q).2, f_f99_f ep]⟩) hl1
            · refine am_r_iload6 (pc' := 73) rfl rfl ?_
              refine am_r_if_ne (pt := 80) (pf := 76) rfl rfl rfl (fun h73 => ?_) (fun h73 => ?_)
              · refine am_r_iinc6 (pc' := 83) rfl rfl rfl ?_
                refine am_r_iinc8 (pc' := 86) rfl rfl rfl ?_
                refine am_r_goto (pc' := 22) rfl rfl ?_
                have ep : y_lk σ χ η e ab a v = true := decide_eq_true h68
                rw [f_cnt_t ep] at hc
                exact ih _ v _ _ M6 (by omega) hF hX hc (fun q => by omega) (fun q => hl1 h73)
              · refine am_r_iload8 (pc' := 78) rfl rfl ?_
                refine am_r_istore7 (pc' := 80) rfl rfl rfl ?_
                refine am_r_iinc6 (pc' := 83) rfl rfl rfl ?_
                refine am_r_iinc8 (pc' := 86) rfl rfl rfl ?_
                refine am_r_goto (pc' := 22) rfl rfl ?_
                have ep : y_lk σ χ η e ab a v = true := decide_eq_true h68
                rw [f_cnt_t ep] at hc
                exact ih _ v _ _ M6 (by omega) hF hX hc (fun q => by omega) (fun q => by rw [← (hl0 h73).2, f_f99_t ep])
  refine am_bi_of (P := am_pX10_likings) (rt := 1) (nL := 9) (Nat.le_of_ble_eq_true rfl) rfl (Nat.le_of_ble_eq_true rfl) rfl rfl rfl ?_
  refine am_r_aload0 (pc' := 1) rfl rfl ?_
  refine am_r_getR (t := 1) (pc' := 4) rfl rfl rfl ?_
  refine am_r_iload2 (pc' := 5) rfl rfl ?_
  refine am_r_iconst (pc' := 6) rfl rfl ?_
  refine am_r_invI2 (pc' := 9) rfl rfl rfl (Nat.le_of_ble_eq_true rfl) (c_told (by omega) hX (by right; right; left; exact ⟨rfl, hab⟩) ?_)
  refine am_r_istore5 (pc' := 11) rfl rfl rfl ?_
  refine am_r_iconst (pc' := 12) rfl rfl ?_
  refine am_r_istore6 (pc' := 14) rfl rfl rfl ?_
  refine am_r_iconst (pc' := 16) rfl rfl ?_
  refine am_r_istore7 (pc' := 18) rfl rfl rfl ?_
  refine am_r_iconst (pc' := 20) rfl rfl ?_
  refine am_r_istore8 (pc' := 22) rfl rfl rfl ?_
  exact hloop 19 (-9) (s_lk σ (ab / 10) (ab % 10)) 0 (-99) M (by omega) (am_fg_rf M) (by rw [s_setLk_s]; exact hX) (Int.zero_add _) (fun _ => ⟨rfl, rfl⟩) (fun q => absurd rfl q)
theorem c_liking {sL : Nat} {xs : Nat → Int32} {d : Nat} {M : Am_M} {Q : Int32 → Am_M → Prop} (hd : 8 ≤ d) {σ : Sg} {χ : q_X} {η : Hs} (hX : SX M σ) (hL : CL M χ) (hH : HX M η) {e : Int} (he : -2147483648 ≤ e ∧ e < 2147483648) {ab : Int} (hab : -2147483648 ≤ ab ∧ ab < 2147483648) {a : Int} (ha : -2147483648 ≤ a ∧ a < 2147483648) {w : Int} (hw : -2147483648 ≤ w ∧ w < 2147483648)  (hq : ∀ M', am_fg M M' → SX M' σ → Q (z_I (r_liking σ χ η e ab a w)) M') : am_bi sL xs d 130 [.ref 0, .int (z_I e), .int (z_I ab), .int (z_I a), .int (z_I w)] M Q := by
  obtain ⟨d, rfl⟩ : ∃ e, d = e + 1 := ⟨d - 1, by omega⟩
  have hn := sb_nb hX.1
  refine am_bi_of (P := am_pX10_liking) (rt := 1) (nL := 5) (Nat.le_of_ble_eq_true rfl) rfl (Nat.le_of_ble_eq_true rfl) rfl rfl rfl ?_
  refine am_r_iload1 (pc' := 1) rfl rfl ?_
  refine am_r_ivsI1 (pc' := 4) rfl rfl rfl (Nat.le_of_ble_eq_true rfl) (c_isShelf (by omega) (by omega) ?_)
  refine am_r_if_eqB (pt := 37) (pf := 7) rfl rfl rfl (fun h4 => ?_) (fun h4 => ?_)
  · refine am_r_iconst (pc' := 39) rfl rfl ?_
    refine am_r_iret rfl rfl ?_
    refine am_q ?_ (hq M (am_fg_rf M) hX)
    unfold r_liking
    (repeat (first | rw [if_pos (by omega)] | rw [if_neg (by omega)]))
    all_goals first | rfl | omega
  · refine am_r_aload0 (pc' := 8) rfl rfl ?_
    refine am_r_getR (t := 1) (pc' := 11) rfl rfl rfl ?_
    refine am_r_iload2 (pc' := 12) rfl rfl ?_
    refine am_r_invI1 (pc' := 15) rfl rfl rfl (Nat.le_of_ble_eq_true rfl) (c_hasPair (by omega) hX (by omega) ?_)
    refine am_r_if_eqB (pt := 37) (pf := 18) rfl rfl rfl (fun h15 => ?_) (fun h15 => ?_)
    · refine am_r_iconst (pc' := 39) rfl rfl ?_
      refine am_r_iret rfl rfl ?_
      refine am_q ?_ (hq M (am_fg_rf M) hX)
      unfold r_liking
      (repeat (first | rw [if_pos (by omega)] | rw [if_neg (by omega)]))
      all_goals first | rfl | omega
    · refine am_r_aload0 (pc' := 19) rfl rfl ?_
      refine am_r_getR (t := 1) (pc' := 22) rfl rfl rfl ?_
      refine am_r_iload3 (pc' := 23) rfl rfl ?_
      refine am_r_invI1 (pc' := 26) rfl rfl rfl (Nat.le_of_ble_eq_true rfl) (c_has (by omega) hX (by omega) ?_)
      refine am_r_if_eqB (pt := 37) (pf := 29) rfl rfl rfl (fun h26 => ?_) (fun h26 => ?_)
      · refine am_r_iconst (pc' := 39) rfl rfl ?_
        refine am_r_iret rfl rfl ?_
        refine am_q ?_ (hq M (am_fg_rf M) hX)
        unfold r_liking
        (repeat (first | rw [if_pos (by omega)] | rw [if_neg (by omega)]))
        all_goals first | rfl | omega
      · refine am_r_iload4 (pc' := 31) rfl rfl ?_
        refine am_r_ivsI1 (pc' := 34) rfl rfl rfl (Nat.le_of_ble_eq_true rfl) (c_isWhat (by omega) (by omega) ?_)
        refine am_r_if_neB (pt := 40) (pf := 37) rfl rfl rfl (fun h34 => ?_) (fun h34 => ?_)
        · refine am_r_aload0 (pc' := 41) rfl rfl ?_
          refine am_r_getR (t := 38) (pc' := 44) rfl rfl rfl ?_
          refine am_r_iload1 (pc' := 45) rfl rfl ?_
          refine am_r_invI1 (pc' := 48) rfl rfl rfl (Nat.le_of_ble_eq_true rfl) (c_isBook (by omega) hH (by omega) ?_)
          refine am_r_if_neB (pt := 54) (pf := 51) rfl rfl rfl (fun h48 => ?_) (fun h48 => ?_)
          · refine am_r_aload0 (pc' := 55) rfl rfl ?_
            refine am_r_iload1 (pc' := 56) rfl rfl ?_
            refine am_r_iload2 (pc' := 57) rfl rfl ?_
            refine am_r_iload3 (pc' := 58) rfl rfl ?_
            refine am_r_iload4 (pc' := 60) rfl rfl ?_
            refine am_r_iconst (pc' := 61) rfl rfl ?_
            refine am_r_icmp_ne (pt := 68) (pf := 64) rfl rfl rfl (fun h61 => ?_) (fun h61 => ?_)
            · refine am_r_iconst (pc' := 69) rfl rfl ?_
              refine am_r_invI4 (pc' := 72) rfl rfl rfl (Nat.le_of_ble_eq_true rfl) (c_likings (χ := χ) (by omega) hX hL hH (by omega) (by omega) (by omega) (by omega) (by omega) ?_)
              · intro M3 hf3 hX3
                refine am_r_iret rfl rfl ?_
                refine am_q ?_ (hq M3 hf3 hX3)
                rw [show r_liking σ χ η e ab a w = (if w = 0 then f_cnt (y_lk σ χ η e ab a) (-9) 19 else f_f99 (y_lk σ χ η e ab a) (-9) 19) from if_pos (by omega)]
                first | rw [show w = 1 by omega] | rw [show w = 0 by omega]
            · refine am_r_iconst (pc' := 65) rfl rfl ?_
              refine am_r_goto (pc' := 69) rfl rfl ?_
              refine am_r_invI4 (pc' := 72) rfl rfl rfl (Nat.le_of_ble_eq_true rfl) (c_likings (χ := χ) (by omega) hX hL hH (by omega) (by omega) (by omega) (by omega) (by omega) ?_)
              · intro M3 hf3 hX3
                refine am_r_iret rfl rfl ?_
                refine am_q ?_ (hq M3 hf3 hX3)
                rw [show r_liking σ χ η e ab a w = (if w = 0 then f_cnt (y_lk σ χ η e ab a) (-9) 19 else f_f99 (y_lk σ χ η e ab a) (-9) 19) from if_pos (by omega)]
                first | rw [show w = 1 by omega] | rw [show w = 0 by omega]
          · refine am_r_iconst (pc' := 53) rfl rfl ?_
            refine am_r_iret rfl rfl ?_
            refine am_q ?_ (hq M (am_fg_rf M) hX)
            unfold r_liking
            (repeat (first | rw [if_pos (by omega)] | rw [if_neg (by omega)]))
            all_goals first | rfl | omega
        · refine am_r_iconst (pc' := 39) rfl rfl ?_
          refine am_r_iret rfl rfl ?_
          refine am_q ?_ (hq M (am_fg_rf M) hX)
          unfold r_liking
          (repeat (first | rw [if_pos (by omega)] | rw [if_neg (by omega)]))
          all_goals first | rfl | omega
theorem c_drawn {sL : Nat} {xs : Nat → Int32} {d : Nat} {M : Am_M} {Q : Int32 → Am_M → Prop} (hd : 7 ≤ d) {F : y_F} (hz1 : ∀ z : Int32, z * z_I 1103515245 + z_I 12345 = F.1 z) (hz2 : ∀ z : Int32, (z.toUInt32 >>> ((z_I 8).toUInt32 &&& Int32.toUInt32 31)).toInt32 - (z.toUInt32 >>> ((z_I 8).toUInt32 &&& Int32.toUInt32 31)).toInt32 / z_I 12 * z_I 12 = F.2 z) {σ : Sg} {χ : q_X} (hX : SX M σ) (hL : CL M χ) {z : Int32} {n : Int} (hn : -2147483648 ≤ n ∧ n < 2147483648) {a : Int} (ha : -2147483648 ≤ a ∧ a < 2147483648)  (hq : ∀ M', am_fr 22 28 M M' → Q (z_I (r_drawn F σ χ z n a)) M') : am_bi sL xs d 135 [.ref 0, .int z, .int (z_I n), .int (z_I a)] M Q := by
  obtain ⟨d, rfl⟩ : ∃ e, d = e + 1 := ⟨d - 1, by omega⟩
  have hn := sb_nb hX.1
  refine am_bi_of (P := am_pX10_drawn) (rt := 1) (nL := 7) (Nat.le_of_ble_eq_true rfl) rfl (Nat.le_of_ble_eq_true rfl) rfl rfl rfl ?_
  refine am_r_iload2 (pc' := 1) rfl rfl ?_
  refine am_r_if_lt (pt := 20) (pf := 4) rfl rfl rfl (fun h1 => ?_) (fun h1 => ?_)
  · refine am_r_iconst (pc' := 21) rfl rfl ?_
    refine am_r_iret rfl rfl ?_
    refine am_q ?_ (hq M (am_fr_rf _ _ _))
    unfold r_drawn
    (repeat (first | rw [if_pos (by omega)] | rw [if_neg (by omega)]))
    all_goals first | rfl | omega
  · refine am_r_iload3 (pc' := 5) rfl rfl ?_
    refine am_r_iconst (pc' := 6) rfl rfl ?_
    refine am_r_icmp_eq (pt := 22) (pf := 9) rfl rfl rfl (fun h6 => ?_) (fun h6 => ?_)
    · refine am_r_iload2 (pc' := 23) rfl rfl ?_
      refine am_r_iconst (pc' := 26) rfl rfl ?_
      refine am_r_idiv (pc' := 27) rfl rfl ?_
      refine am_r_istore4 (pc' := 29) rfl rfl rfl ?_
      refine am_r_iload2 (pc' := 30) rfl rfl ?_
      refine am_r_iconst (pc' := 32) rfl rfl ?_
      refine am_r_idiv (pc' := 33) rfl rfl ?_
      refine am_r_iconst (pc' := 35) rfl rfl ?_
      refine am_r_irem (pc' := 36) rfl rfl ?_
      refine am_r_istore5 (pc' := 38) rfl rfl rfl ?_
      refine am_r_iload2 (pc' := 39) rfl rfl ?_
      refine am_r_iconst (pc' := 41) rfl rfl ?_
      refine am_r_irem (pc' := 42) rfl rfl ?_
      refine am_r_istore6 (pc' := 44) rfl rfl rfl ?_
      refine am_r_iload4 (pc' := 46) rfl rfl ?_
      refine am_r_iconst (pc' := 47) rfl rfl ?_
      refine am_r_icmp_lt (pt := 77) (pf := 50) rfl rfl rfl (fun h47 => ?_) (fun h47 => ?_)
      · refine am_r_iconst (pc' := 78) rfl rfl ?_
        refine am_r_iret rfl rfl ?_
        refine am_q ?_ (hq M (am_fr_rf _ _ _))
        unfold r_drawn
        (repeat (first | rw [if_pos (by omega)] | rw [if_neg (by omega)]))
        all_goals first | rfl | omega
      · refine am_r_iload4 (pc' := 52) rfl rfl ?_
        refine am_r_iconst (pc' := 54) rfl rfl ?_
        refine am_r_icmp_gt (pt := 77) (pf := 57) rfl rfl rfl (fun h54 => ?_) (fun h54 => ?_)
        · refine am_r_iconst (pc' := 78) rfl rfl ?_
          refine am_r_iret rfl rfl ?_
          refine am_q ?_ (hq M (am_fr_rf _ _ _))
          unfold r_drawn
          (repeat (first | rw [if_pos (by omega)] | rw [if_neg (by omega)]))
          all_goals first | rfl | omega
        · refine am_r_iload5 (pc' := 59) rfl rfl ?_
          refine am_r_iconst (pc' := 60) rfl rfl ?_
          refine am_r_icmp_lt (pt := 77) (pf := 63) rfl rfl rfl (fun h60 => ?_) (fun h60 => ?_)
          · refine am_r_iconst (pc' := 78) rfl rfl ?_
            refine am_r_iret rfl rfl ?_
            refine am_q ?_ (hq M (am_fr_rf _ _ _))
            unfold r_drawn
            (repeat (first | rw [if_pos (by omega)] | rw [if_neg (by omega)]))
            all_goals first | rfl | omega
          · refine am_r_iload5 (pc' := 65) rfl rfl ?_
            refine am_r_iconst (pc' := 67) rfl rfl ?_
            refine am_r_icmp_gt (pt := 77) (pf := 70) rfl rfl rfl (fun h67 => ?_) (fun h67 => ?_)
            · refine am_r_iconst (pc' := 78) rfl rfl ?_
              refine am_r_iret rfl rfl ?_
              refine am_q ?_ (hq M (am_fr_rf _ _ _))
              unfold r_drawn
              (repeat (first | rw [if_pos (by omega)] | rw [if_neg (by omega)]))
              all_goals first | rfl | omega
            · refine am_r_iload6 (pc' := 72) rfl rfl ?_
              refine am_r_iconst (pc' := 74) rfl rfl ?_
              refine am_r_icmp_le (pt := 79) (pf := 77) rfl rfl rfl (fun h74 => ?_) (fun h74 => ?_)
              · refine am_r_aload0 (pc' := 80) rfl rfl ?_
                refine am_r_getR (t := 29) (pc' := 83) rfl rfl rfl ?_
                refine am_r_iload1 (pc' := 84) rfl rfl ?_
                refine am_r_iload4 (pc' := 86) rfl rfl ?_
                refine am_r_iload5 (pc' := 88) rfl rfl ?_
                refine am_r_iload6 (pc' := 90) rfl rfl ?_
                refine am_r_iload3 (pc' := 91) rfl rfl ?_
                refine am_r_invI5 (pc' := 94) rfl rfl rfl (Nat.le_of_ble_eq_true rfl) (c_drawnYears (χ := χ) (by omega) hz1 hz2 hX hL (by omega) (by omega) (by omega) (by omega) ?_)
                · intro M3 hf3
                  refine am_r_iret rfl rfl ?_
                  refine am_q ?_ (hq M3 hf3)
                  unfold r_drawn
                  rw [if_pos (by omega)]
              · refine am_r_iconst (pc' := 78) rfl rfl ?_
                refine am_r_iret rfl rfl ?_
                refine am_q ?_ (hq M (am_fr_rf _ _ _))
                unfold r_drawn
                (repeat (first | rw [if_pos (by omega)] | rw [if_neg (by omega)]))
                all_goals first | rfl | omega
    · refine am_r_aload0 (pc' := 10) rfl rfl ?_
      refine am_r_getR (t := 1) (pc' := 13) rfl rfl rfl ?_
      refine am_r_iload3 (pc' := 14) rfl rfl ?_
      refine am_r_invI1 (pc' := 17) rfl rfl rfl (Nat.le_of_ble_eq_true rfl) (c_has (by omega) hX (by omega) ?_)
      refine am_r_if_neB (pt := 22) (pf := 20) rfl rfl rfl (fun h17 => ?_) (fun h17 => ?_)
      · refine am_r_iload2 (pc' := 23) rfl rfl ?_
        refine am_r_iconst (pc' := 26) rfl rfl ?_
        refine am_r_idiv (pc' := 27) rfl rfl ?_
        refine am_r_istore4 (pc' := 29) rfl rfl rfl ?_
        refine am_r_iload2 (pc' := 30) rfl rfl ?_
        refine am_r_iconst (pc' := 32) rfl rfl ?_
        refine am_r_idiv (pc' := 33) rfl rfl ?_
        refine am_r_iconst (pc' := 35) rfl rfl ?_
        refine am_r_irem (pc' := 36) rfl rfl ?_
        refine am_r_istore5 (pc' := 38) rfl rfl rfl ?_
        refine am_r_iload2 (pc' := 39) rfl rfl ?_
        refine am_r_iconst (pc' := 41) rfl rfl ?_
        refine am_r_irem (pc' := 42) rfl rfl ?_
        refine am_r_istore6 (pc' := 44) rfl rfl rfl ?_
        refine am_r_iload4 (pc' := 46) rfl rfl ?_
        refine am_r_iconst (pc' := 47) rfl rfl ?_
        refine am_r_icmp_lt (pt := 77) (pf := 50) rfl rfl rfl (fun h47 => ?_) (fun h47 => ?_)
        · refine am_r_iconst (pc' := 78) rfl rfl ?_
          refine am_r_iret rfl rfl ?_
          refine am_q ?_ (hq M (am_fr_rf _ _ _))
          unfold r_drawn
          (repeat (first | rw [if_pos (by omega)] | rw [if_neg (by omega)]))
          all_goals first | rfl | omega
        · refine am_r_iload4 (pc' := 52) rfl rfl ?_
          refine am_r_iconst (pc' := 54) rfl rfl ?_
          refine am_r_icmp_gt (pt := 77) (pf := 57) rfl rfl rfl (fun h54 => ?_) (fun h54 => ?_)
          · refine am_r_iconst (pc' := 78) rfl rfl ?_
            refine am_r_iret rfl rfl ?_
            refine am_q ?_ (hq M (am_fr_rf _ _ _))
            unfold r_drawn
            (repeat (first | rw [if_pos (by omega)] | rw [if_neg (by omega)]))
            all_goals first | rfl | omega
          · refine am_r_iload5 (pc' := 59) rfl rfl ?_
            refine am_r_iconst (pc' := 60) rfl rfl ?_
            refine am_r_icmp_lt (pt := 77) (pf := 63) rfl rfl rfl (fun h60 => ?_) (fun h60 => ?_)
            · refine am_r_iconst (pc' := 78) rfl rfl ?_
              refine am_r_iret rfl rfl ?_
              refine am_q ?_ (hq M (am_fr_rf _ _ _))
              unfold r_drawn
              (repeat (first | rw [if_pos (by omega)] | rw [if_neg (by omega)]))
              all_goals first | rfl | omega
            · refine am_r_iload5 (pc' := 65) rfl rfl ?_
              refine am_r_iconst (pc' := 67) rfl rfl ?_
              refine am_r_icmp_gt (pt := 77) (pf := 70) rfl rfl rfl (fun h67 => ?_) (fun h67 => ?_)
              · refine am_r_iconst (pc' := 78) rfl rfl ?_
                refine am_r_iret rfl rfl ?_
                refine am_q ?_ (hq M (am_fr_rf _ _ _))
                unfold r_drawn
                (repeat (first | rw [if_pos (by omega)] | rw [if_neg (by omega)]))
                all_goals first | rfl | omega
              · refine am_r_iload6 (pc' := 72) rfl rfl ?_
                refine am_r_iconst (pc' := 74) rfl rfl ?_
                refine am_r_icmp_le (pt := 79) (pf := 77) rfl rfl rfl (fun h74 => ?_) (fun h74 => ?_)
                · refine am_r_aload0 (pc' := 80) rfl rfl ?_
                  refine am_r_getR (t := 29) (pc' := 83) rfl rfl rfl ?_
                  refine am_r_iload1 (pc' := 84) rfl rfl ?_
                  refine am_r_iload4 (pc' := 86) rfl rfl ?_
                  refine am_r_iload5 (pc' := 88) rfl rfl ?_
                  refine am_r_iload6 (pc' := 90) rfl rfl ?_
                  refine am_r_iload3 (pc' := 91) rfl rfl ?_
                  refine am_r_invI5 (pc' := 94) rfl rfl rfl (Nat.le_of_ble_eq_true rfl) (c_drawnYears (χ := χ) (by omega) hz1 hz2 hX hL (by omega) (by omega) (by omega) (by omega) ?_)
                  · intro M3 hf3
                    refine am_r_iret rfl rfl ?_
                    refine am_q ?_ (hq M3 hf3)
                    unfold r_drawn
                    rw [if_pos (by omega)]
                · refine am_r_iconst (pc' := 78) rfl rfl ?_
                  refine am_r_iret rfl rfl ?_
                  refine am_q ?_ (hq M (am_fr_rf _ _ _))
                  unfold r_drawn
                  (repeat (first | rw [if_pos (by omega)] | rw [if_neg (by omega)]))
                  all_goals first | rfl | omega
      · refine am_r_iconst (pc' := 21) rfl rfl ?_
        refine am_r_iret rfl rfl ?_
        refine am_q ?_ (hq M (am_fr_rf _ _ _))
        unfold r_drawn
        (repeat (first | rw [if_pos (by omega)] | rw [if_neg (by omega)]))
        all_goals first | rfl | omega
/-- days, pushes, meetings, nudges; whether an image is kept: how many bodies, their places, the four numbers -/
abbrev Ds : Type := (Int × Int × Int × Int) × Bool × Int × y_P × (Int × Int × Int × Int)
def d_0 (δ : Ds) : Int := δ.1.1
def d_1 (δ : Ds) : Int := δ.1.2.1
def d_2 (δ : Ds) : Int := δ.1.2.2.1
def d_3 (δ : Ds) : Int := δ.1.2.2.2
def d_k (δ : Ds) : Bool := δ.2.1
def d_n (δ : Ds) : Int := δ.2.2.1
def d_p (δ : Ds) : y_P := δ.2.2.2.1
def d_i (δ : Ds) : Int × Int × Int × Int := δ.2.2.2.2
def DB (δ : Ds) (σ : Sg) : Prop := d_k δ = true → (0 ≤ d_n δ ∧ d_n δ ≤ s_n σ) ∧ ∀ a, 0 ≤ a ∧ a < d_n δ → 0 ≤ d_p δ a ∧ d_p δ a < s_rd σ a
def DX (M : Am_M) (δ : Ds) (σ : Sg) : Prop := DB δ σ ∧ M.1 31 1 = z_I (d_0 δ) ∧ M.1 31 2 = z_I (d_1 δ) ∧ M.1 31 3 = z_I (d_2 δ) ∧ M.1 31 4 = z_I (d_3 δ) ∧ M.1 31 5 = z_I (if d_k δ = true then 1 else 0) ∧ (d_k δ = true → M.1 31 7 = z_I (d_n δ) ∧ M.1 31 8 = z_I (d_i δ).1 ∧ M.1 31 9 = z_I (d_i δ).2.1 ∧ M.1 31 10 = z_I (d_i δ).2.2.1 ∧ M.1 31 11 = z_I (d_i δ).2.2.2 ∧ ∀ a, 0 ≤ a ∧ a < d_n δ → M.1 32 a.toNat = z_I (d_p δ a))
theorem dx_0 {M : Am_M} {δ : Ds} {σ : Sg} (h : DX M δ σ) : M.1 31 1 = z_I (d_0 δ) := h.2.1
theorem dx_1 {M : Am_M} {δ : Ds} {σ : Sg} (h : DX M δ σ) : M.1 31 2 = z_I (d_1 δ) := h.2.2.1
theorem dx_2 {M : Am_M} {δ : Ds} {σ : Sg} (h : DX M δ σ) : M.1 31 3 = z_I (d_2 δ) := h.2.2.2.1
theorem dx_3 {M : Am_M} {δ : Ds} {σ : Sg} (h : DX M δ σ) : M.1 31 4 = z_I (d_3 δ) := h.2.2.2.2.1
theorem dx_k {M : Am_M} {δ : Ds} {σ : Sg} (h : DX M δ σ) : M.1 31 5 = z_I (if d_k δ = true then 1 else 0) := h.2.2.2.2.2.1
theorem dx_i {M : Am_M} {δ : Ds} {σ : Sg} (h : DX M δ σ) (hk : d_k δ = true) : M.1 31 7 = z_I (d_n δ) ∧ M.1 31 8 = z_I (d_i δ).1 ∧ M.1 31 9 = z_I (d_i δ).2.1 ∧ M.1 31 10 = z_I (d_i δ).2.2.1 ∧ M.1 31 11 = z_I (d_i δ).2.2.2 ∧ ∀ a, 0 ≤ a ∧ a < d_n δ → M.1 32 a.toNat = z_I (d_p δ a) := h.2.2.2.2.2.2 hk
theorem dx_cg {M M' : Am_M} {δ : Ds} {σ : Sg} (h : DX M δ σ) (h1 : M'.1 31 = M.1 31) (h2 : M'.1 32 = M.1 32) : DX M' δ σ := by
  unfold DX at h ⊢
  rw [h1, h2]
  exact h
def s_pls (σ : Sg) (π : y_P) : Sg := (σ.1, σ.2.1, π, σ.2.2.2)
theorem s_pls_B {σ : Sg} (h : SB σ) {π : y_P} (hp : y_B σ π) : SB (s_pls σ π) := ⟨h.1, h.2.1, fun a ha => by
  have h1 := h.2.2.1 a ha
  have h2 := hp a ha
  exact ⟨h1.1, h1.2.1, h2.1, h2.2, h1.2.2.2.2⟩, h.2.2.2⟩
def d_day (δ : Ds) (p m : Int) : Ds := ((d_0 δ + 1, d_1 δ + p, d_2 δ + m, d_3 δ), δ.2)
def d_ndg (δ : Ds) : Ds := ((d_0 δ, d_1 δ, d_2 δ, d_3 δ + 1), δ.2)
def d_img (δ : Ds) (σ : Sg) : Ds := (δ.1, true, s_n σ, s_pl σ, δ.1)
def d_bck (δ : Ds) : Ds := (d_i δ, δ.2)
def s_bck (σ : Sg) (δ : Ds) : Sg := s_pls σ (fun a => if 0 ≤ a ∧ a < d_n δ then d_p δ a else s_pl σ a)
theorem c_keepPlaces {sL : Nat} {xs : Nat → Int32} {d : Nat} {M : Am_M} {Q : Am_M → Prop} (hd : 1 ≤ d) {σ : Sg} {π : y_P} (hW : WX M σ π) (hq : ∀ M', am_fr 3 3 M M' → SX M' (s_pls σ π) → Q M') : am_bv sL xs d 100 [.ref 24] M Q := by
  obtain ⟨d, rfl⟩ : ∃ e, d = e + 1 := ⟨d - 1, by omega⟩
  have hX := hW.1
  have hn := sb_nb hX.1
  have hloop : ∀ (k : Nat) (i : Int) (N : Am_M), 0 ≤ i ∧ i + k = s_n σ → am_fr 3 3 M N → (∀ a, 0 ≤ a ∧ a < i → N.1 3 a.toNat = z_I (π a)) → am_rw sL xs d am_pX9_keepPlaces 0 2 [.ref 24, .int (z_I i)] [] N (am_pv Q) := by
    intro k
    induction k with
    | zero =>
      intro i N hk hF hv
      have hsz : N.1 1 5 = z_I (s_n σ) := by rw [(hF 1 (by omega)).1]; exact sx_n hX
      refine am_r_iload1 (pc' := 3) rfl rfl ?_
      refine am_r_aload0 (pc' := 4) rfl rfl ?_
      refine am_r_getR (t := 1) (pc' := 7) rfl rfl rfl ?_
      refine am_r_getIv (f := 5) (pc' := 10) rfl rfl rfl (hsz) ?_
      refine am_r_icmp_ge (pt := 34) (pf := 13) rfl rfl rfl (fun h10 => ?_) (fun h10 => ?_)
      · refine am_r_vret rfl rfl ?_
        refine hq N hF ⟨s_pls_B hX.1 hW.2.1, hsz, by rw [(hF 1 (by omega)).1]; exact (sx_nr hX : M.1 1 4 = z_I (s_nr σ)), fun a ha => by rw [(hF 2 (by omega)).1]; exact (sx_rd hX ha : M.1 2 a.toNat = z_I (s_rd σ a)), fun a ha => hv a ?_, fun a ha => by rw [(hF 4 (by omega)).1]; exact (sx_wt hX ha : M.1 4 a.toNat = z_I (s_wt σ a)), fun a b ha hb => by rw [(hF (6 + a.toNat) (by omega)).1]; exact (sx_lk hX ha hb : M.1 (6 + a.toNat) b.toNat = z_I (s_lk σ a b))⟩
        have : s_n (s_pls σ π) = s_n σ := rfl
        omega
      · exfalso; omega
    | succ k ih =>
      intro i N hk hF hv
      have hsz : N.1 1 5 = z_I (s_n σ) := by rw [(hF 1 (by omega)).1]; exact sx_n hX
      refine am_r_iload1 (pc' := 3) rfl rfl ?_
      refine am_r_aload0 (pc' := 4) rfl rfl ?_
      refine am_r_getR (t := 1) (pc' := 7) rfl rfl rfl ?_
      refine am_r_getIv (f := 5) (pc' := 10) rfl rfl rfl (hsz) ?_
      refine am_r_icmp_ge (pt := 34) (pf := 13) rfl rfl rfl (fun h10 => ?_) (fun h10 => ?_)
      · exfalso; omega
      · refine am_r_aload0 (pc' := 14) rfl rfl ?_
        refine am_r_getR (t := 1) (pc' := 17) rfl rfl rfl ?_
        refine am_r_getR (t := 3) (pc' := 20) rfl rfl rfl ?_
        refine am_r_iload1 (pc' := 21) rfl rfl ?_
        refine am_r_aload0 (pc' := 22) rfl rfl ?_
        refine am_r_getR (t := 25) (pc' := 25) rfl rfl rfl ?_
        refine am_r_iload1 (pc' := 26) rfl rfl ?_
        refine am_r_iaZv (n := 8) (pc' := 27) rfl rfl rfl (by decide) (show _ = z_I (π i) by rw [(hF 25 (by omega)).1]; exact wx_pl hW (by omega)) ?_
        refine am_r_iast (n := 8) (pc' := 28) rfl rfl (rfl) (by decide) ?_
        refine am_r_iinc1 (pc' := 31) rfl rfl rfl ?_
        refine am_r_goto (pc' := 2) rfl rfl ?_
        refine ih _ _ (by omega) (am_fr_upI hF (by omega)) (fun a ha => ?_)
        by_cases q : a = i
        · rw [q]; exact am_up_e _ _ _ _
        · have q2 : a.toNat ≠ i.toNat := by omega
          rw [am_up_n _ _ _ _ _ q2]
          exact hv a (by omega)
  refine am_bv_of (P := am_pX9_keepPlaces) (rt := 0) (nL := 2) (Nat.le_of_ble_eq_true rfl) rfl (Nat.le_of_ble_eq_true rfl) rfl rfl rfl ?_
  refine am_r_iconst (pc' := 1) rfl rfl ?_
  refine am_r_istore1 (pc' := 2) rfl rfl rfl ?_
  exact hloop (s_n σ).toNat 0 M (by omega) (am_fr_rf _ _ _) (fun a ha => by omega)
/-- a deed: the sky, the deeds, what goes its way -/
def am_fd (M M' : Am_M) : Prop := ∀ k, ¬ (1 ≤ k ∧ k ≤ 13) → ¬ (22 ≤ k ∧ k ≤ 32) → M'.1 k = M.1 k ∧ M'.2 k = M.2 k
theorem am_fd_rf (M : Am_M) : am_fd M M := fun _ _ _ => ⟨rfl, rfl⟩
theorem am_fd_tr {M M' M'' : Am_M} (h : am_fd M M') (h2 : am_fd M' M'') : am_fd M M'' := fun k q r => ⟨(h2 k q r).1.trans (h k q r).1, (h2 k q r).2.trans (h k q r).2⟩
theorem am_fd_w {M M' : Am_M} {lo hi : Nat} (h : am_fr lo hi M M') (hh : (1 ≤ lo ∧ hi ≤ 13) ∨ (22 ≤ lo ∧ hi ≤ 32)) : am_fd M M' := fun k q r => h k (by omega)
theorem sx_o {M : Am_M} {σ : Sg} (h : SX M σ) {k i : Nat} {x : Int32} (hk : 13 < k) : SX (am_upI M k i x) σ := sx_fr h (am_fr_upI (am_fr_rf k k M) ⟨Nat.le_refl _, Nat.le_refl _⟩) (Or.inl hk)
theorem c_day {sL : Nat} {xs : Nat → Int32} {d : Nat} {M : Am_M} {Q : Int32 → Am_M → Prop} (hd : 6 ≤ d) {σ : Sg} {χ : q_X} {δ : Ds} (hX : SX M σ) (hL : CL M χ) (hD : DX M δ σ) (hq : ∀ M', am_fd M M' → SX M' (s_pls σ (y_nx σ χ (s_pl σ) 0)) → DX M' (d_day δ (y_pu σ χ (s_pl σ) 0) (y_me σ (s_pl σ))) (s_pls σ (y_nx σ χ (s_pl σ) 0)) → Q (z_I (y_pu σ χ (s_pl σ) 0)) M') : am_bi sL xs d 136 [.ref 0] M Q := by
  obtain ⟨d, rfl⟩ : ∃ e, d = e + 1 := ⟨d - 1, by omega⟩
  have hn := sb_nb hX.1
  refine am_bi_of (P := am_pX10_day) (rt := 1) (nL := 1) (Nat.le_of_ble_eq_true rfl) rfl (Nat.le_of_ble_eq_true rfl) rfl rfl rfl ?_
  refine am_r_aload0 (pc' := 1) rfl rfl ?_
  refine am_r_getR (t := 24) (pc' := 4) rfl rfl rfl ?_
  refine am_r_invV0 (pc' := 7) rfl rfl rfl (Nat.le_of_ble_eq_true rfl) (c_begin (by omega) hX ?_)
  · intro M2 hf2 hW2
    have hL := cl_fr hL hf2 (by omega)
    refine am_r_aload0 (pc' := 8) rfl rfl ?_
    refine am_r_getR (t := 24) (pc' := 11) rfl rfl rfl ?_
    refine am_r_iconst (pc' := 12) rfl rfl ?_
    refine am_r_invV1 (pc' := 15) rfl rfl rfl (Nat.le_of_ble_eq_true rfl) (c_pass (χ := χ) (t := 0) (by omega) hW2 hL ?_)
    · intro M4 hf4 hW4 hme4 hpu4 hb4
      have hf24 := am_fr_tr (lo := 22) (hi := 28) hf2 hf4 (by omega) (by omega)
      refine am_r_aload0 (pc' := 16) rfl rfl ?_
      refine am_r_getR (t := 24) (pc' := 19) rfl rfl rfl ?_
      refine am_r_invV0 (pc' := 22) rfl rfl rfl (Nat.le_of_ble_eq_true rfl) (c_keepPlaces (by omega) hW4 ?_)
      · intro M6 hf6 hX6
        have hF : am_fd M M6 := am_fd_tr (am_fd_w hf24 (by omega)) (am_fd_w hf6 (by omega))
        have h31 : M6.1 31 = M.1 31 := (hf6 31 (by omega)).1.trans (hf24 31 (by omega)).1
        have h32 : M6.1 32 = M.1 32 := (hf6 32 (by omega)).1.trans (hf24 32 (by omega)).1
        have hD6 := dx_cg hD h31 h32
        have hd0 := dx_0 hD6
        have hd1 := dx_1 hD6
        have hd2 := dx_2 hD6
        have hd3 := dx_3 hD6
        have hdk := dx_k hD6
        have hdi := dx_i hD6
        have hpu6 : M6.1 24 7 = z_I (y_pu σ χ (s_pl σ) 0) := by rw [(hf6 24 (by omega)).1]; exact hpu4
        have hme6 : M6.1 24 6 = z_I (y_me σ (s_pl σ)) := by rw [(hf6 24 (by omega)).1]; exact hme4
        refine am_r_aload0 (pc' := 23) rfl rfl ?_
        refine am_r_getR (t := 31) (pc' := 26) rfl rfl rfl ?_
        refine am_r_dup (pc' := 27) rfl rfl rfl ?_
        refine am_r_getIv (f := 1) (pc' := 30) rfl rfl rfl (hd0) ?_
        refine am_r_iconst (pc' := 31) rfl rfl ?_
        refine am_r_iadd (pc' := 32) rfl rfl ?_
        refine am_r_putI (f := 1) (pc' := 35) rfl rfl rfl (by decide) ?_
        refine am_r_aload0 (pc' := 36) rfl rfl ?_
        refine am_r_getR (t := 31) (pc' := 39) rfl rfl rfl ?_
        refine am_r_dup (pc' := 40) rfl rfl rfl ?_
        refine am_r_getIv (f := 2) (pc' := 43) rfl rfl rfl (show _ = z_I (d_1 δ) by simpa [am_upI] using hd1) ?_
        refine am_r_aload0 (pc' := 44) rfl rfl ?_
        refine am_r_getR (t := 24) (pc' := 47) rfl rfl rfl ?_
        refine am_r_getIv (f := 7) (pc' := 50) rfl rfl rfl (show _ = z_I (y_pu σ χ (s_pl σ) 0) by simpa [am_upI] using hpu6) ?_
        refine am_r_iadd (pc' := 51) rfl rfl ?_
        refine am_r_putI (f := 2) (pc' := 54) rfl rfl rfl (by decide) ?_
        refine am_r_aload0 (pc' := 55) rfl rfl ?_
        refine am_r_getR (t := 31) (pc' := 58) rfl rfl rfl ?_
        refine am_r_dup (pc' := 59) rfl rfl rfl ?_
        refine am_r_getIv (f := 3) (pc' := 62) rfl rfl rfl (show _ = z_I (d_2 δ) by simpa [am_upI] using hd2) ?_
        refine am_r_aload0 (pc' := 63) rfl rfl ?_
        refine am_r_getR (t := 24) (pc' := 66) rfl rfl rfl ?_
        refine am_r_getIv (f := 6) (pc' := 69) rfl rfl rfl (show _ = z_I (y_me σ (s_pl σ)) by simpa [am_upI] using hme6) ?_
        refine am_r_iadd (pc' := 70) rfl rfl ?_
        refine am_r_putI (f := 3) (pc' := 73) rfl rfl rfl (by decide) ?_
        refine am_r_aload0 (pc' := 74) rfl rfl ?_
        refine am_r_getR (t := 24) (pc' := 77) rfl rfl rfl ?_
        refine am_r_getIv (f := 7) (pc' := 80) rfl rfl rfl (show _ = z_I (y_pu σ χ (s_pl σ) 0) by simpa [am_upI] using hpu6) ?_
        refine am_r_iret rfl rfl ?_
        refine hq _ (am_fd_tr hF (am_fd_w (am_fr_upI (am_fr_upI (am_fr_upI (am_fr_rf 31 31 M6) (by omega)) (by omega)) (by omega)) (by omega))) (sx_o (sx_o (sx_o hX6 (by omega)) (by omega)) (by omega)) ⟨hD.1, ?_, ?_, ?_, ?_, ?_, fun z => ?_⟩
        · simp [am_upI]; rfl
        · simp [am_upI]; rfl
        · simp [am_upI]; rfl
        · show _ = z_I (d_3 δ)
          simpa [am_upI] using hd3
        · show _ = z_I (if d_k δ = true then 1 else 0)
          simpa [am_upI] using hdk
        · have g := hdi z
          exact ⟨show _ = z_I (d_n δ) by simpa [am_upI] using g.1, show _ = z_I (d_i δ).1 by simpa [am_upI] using g.2.1, show _ = z_I (d_i δ).2.1 by simpa [am_upI] using g.2.2.1, show _ = z_I (d_i δ).2.2.1 by simpa [am_upI] using g.2.2.2.1, show _ = z_I (d_i δ).2.2.2 by simpa [am_upI] using g.2.2.2.2.1, fun a ha => show _ = z_I (d_p δ a) by simpa [am_upI] using g.2.2.2.2.2 a ha⟩
def r_nudged (σ : Sg) (a v : Int) : Int := if (0 ≤ a ∧ a < s_n σ) ∧ (-9 ≤ v ∧ v ≤ 9) then (s_pl σ a + v) % s_rd σ a else -1
def t_nudged (σ : Sg) (a v : Int) : Sg := if (0 ≤ a ∧ a < s_n σ) ∧ (-9 ≤ v ∧ v ≤ 9) then s_setPl σ a ((s_pl σ a + v) % s_rd σ a) else σ
def u_nudged (δ : Ds) (σ : Sg) (a v : Int) : Ds := if (0 ≤ a ∧ a < s_n σ) ∧ (-9 ≤ v ∧ v ≤ 9) then d_ndg δ else δ
theorem c_nudged {sL : Nat} {xs : Nat → Int32} {d : Nat} {M : Am_M} {Q : Int32 → Am_M → Prop} (hd : 2 ≤ d) {σ : Sg} {δ : Ds} (hX : SX M σ) (hD : DX M δ σ) {a : Int} (ha : -2147483648 ≤ a ∧ a < 2147483648) {v : Int} (hv : -2147483648 ≤ v ∧ v < 2147483648) (hq : ∀ M', am_fd M M' → SX M' (t_nudged σ a v) → DX M' (u_nudged δ σ a v) (t_nudged σ a v) → Q (z_I (r_nudged σ a v)) M') : am_bi sL xs d 137 [.ref 0, .int (z_I a), .int (z_I v)] M Q := by
  obtain ⟨d, rfl⟩ : ∃ e, d = e + 1 := ⟨d - 1, by omega⟩
  have hn := sb_nb hX.1
  refine am_bi_of (P := am_pX10_nudged) (rt := 1) (nL := 3) (Nat.le_of_ble_eq_true rfl) rfl (Nat.le_of_ble_eq_true rfl) rfl rfl rfl ?_
  refine am_r_aload0 (pc' := 1) rfl rfl ?_
  refine am_r_getR (t := 1) (pc' := 4) rfl rfl rfl ?_
  refine am_r_iload1 (pc' := 5) rfl rfl ?_
  refine am_r_invI1 (pc' := 8) rfl rfl rfl (Nat.le_of_ble_eq_true rfl) (c_has (by omega) hX (by omega) ?_)
  refine am_r_if_eqB (pt := 23) (pf := 11) rfl rfl rfl (fun h8 => ?_) (fun h8 => ?_)
  · refine am_r_iconst (pc' := 24) rfl rfl ?_
    refine am_r_iret rfl rfl ?_
    have e1 : ¬ ((0 ≤ a ∧ a < s_n σ) ∧ (-9 ≤ v ∧ v ≤ 9)) := by omega
    unfold t_nudged u_nudged r_nudged at hq
    simp only [if_neg e1] at hq
    exact hq M (am_fd_rf M) hX hD
  · refine am_r_iload2 (pc' := 12) rfl rfl ?_
    refine am_r_iconst (pc' := 14) rfl rfl ?_
    refine am_r_icmp_lt (pt := 23) (pf := 17) rfl rfl rfl (fun h14 => ?_) (fun h14 => ?_)
    · refine am_r_iconst (pc' := 24) rfl rfl ?_
      refine am_r_iret rfl rfl ?_
      have e1 : ¬ ((0 ≤ a ∧ a < s_n σ) ∧ (-9 ≤ v ∧ v ≤ 9)) := by omega
      unfold t_nudged u_nudged r_nudged at hq
      simp only [if_neg e1] at hq
      exact hq M (am_fd_rf M) hX hD
    · refine am_r_iload2 (pc' := 18) rfl rfl ?_
      refine am_r_iconst (pc' := 20) rfl rfl ?_
      refine am_r_icmp_le (pt := 25) (pf := 23) rfl rfl rfl (fun h20 => ?_) (fun h20 => ?_)
      · have hg := sg_b hX.1 (a := a) (by omega)
        have hmd : 0 ≤ (s_pl σ a + v) % s_rd σ a ∧ (s_pl σ a + v) % s_rd σ a < s_rd σ a := ⟨Int.emod_nonneg _ (by omega), Int.emod_lt_of_pos _ (by omega)⟩
        refine am_r_aload0 (pc' := 26) rfl rfl ?_
        refine am_r_getR (t := 1) (pc' := 29) rfl rfl rfl ?_
        refine am_r_getR (t := 3) (pc' := 32) rfl rfl rfl ?_
        refine am_r_iload1 (pc' := 33) rfl rfl ?_
        refine am_r_aload0 (pc' := 34) rfl rfl ?_
        refine am_r_getR (t := 1) (pc' := 37) rfl rfl rfl ?_
        refine am_r_getR (t := 3) (pc' := 40) rfl rfl rfl ?_
        refine am_r_iload1 (pc' := 41) rfl rfl ?_
        refine am_r_iaZv (n := 8) (pc' := 42) rfl rfl rfl (by decide) (sx_pl hX (by omega)) ?_
        refine am_r_iload2 (pc' := 43) rfl rfl ?_
        refine am_r_iadd (pc' := 44) rfl rfl ?_
        refine am_r_aload0 (pc' := 45) rfl rfl ?_
        refine am_r_getR (t := 1) (pc' := 48) rfl rfl rfl ?_
        refine am_r_getR (t := 2) (pc' := 51) rfl rfl rfl ?_
        refine am_r_iload1 (pc' := 52) rfl rfl ?_
        refine am_r_iaZv (n := 8) (pc' := 53) rfl rfl rfl (by decide) (sx_rd hX (by omega)) ?_
        refine am_r_ivsI2 (pc' := 56) rfl rfl rfl (Nat.le_of_ble_eq_true rfl) (c_floorMod (by omega) (by omega) (by omega) ?_)
        refine am_r_iast (n := 8) (pc' := 57) rfl rfl (rfl) (by decide) ?_
        refine am_r_aload0 (pc' := 58) rfl rfl ?_
        refine am_r_getR (t := 31) (pc' := 61) rfl rfl rfl ?_
        refine am_r_dup (pc' := 62) rfl rfl rfl ?_
        refine am_r_getIv (f := 4) (pc' := 65) rfl rfl rfl (show _ = z_I (d_3 δ) by simpa [am_upI] using dx_3 hD) ?_
        refine am_r_iconst (pc' := 66) rfl rfl ?_
        refine am_r_iadd (pc' := 67) rfl rfl ?_
        refine am_r_putI (f := 4) (pc' := 70) rfl rfl rfl (by decide) ?_
        refine am_r_aload0 (pc' := 71) rfl rfl ?_
        refine am_r_getR (t := 1) (pc' := 74) rfl rfl rfl ?_
        refine am_r_getR (t := 3) (pc' := 77) rfl rfl rfl ?_
        refine am_r_iload1 (pc' := 78) rfl rfl ?_
        refine am_r_iaZv (n := 8) (pc' := 79) rfl rfl rfl (by decide) (show _ = z_I ((s_pl σ a + v) % s_rd σ a) by simp [am_upI]) ?_
        refine am_r_iret rfl rfl ?_
        have e1 : (0 ≤ a ∧ a < s_n σ) ∧ (-9 ≤ v ∧ v ≤ 9) := by omega
        unfold t_nudged u_nudged r_nudged at hq
        simp only [if_pos e1] at hq
        refine hq _ (am_fd_tr (am_fd_w (am_fr_upI (am_fr_rf 3 3 M) (by omega)) (by omega)) (am_fd_w (am_fr_upI (am_fr_rf 31 31 _) (by omega)) (by omega))) (sx_o (sx_setPl hX (by omega) hmd) (by omega)) ⟨hD.1, ?_, ?_, ?_, ?_, ?_, fun z => ?_⟩
        · show _ = z_I (d_0 δ)
          simpa [am_upI] using dx_0 hD
        · show _ = z_I (d_1 δ)
          simpa [am_upI] using dx_1 hD
        · show _ = z_I (d_2 δ)
          simpa [am_upI] using dx_2 hD
        · simp [am_upI]; rfl
        · show _ = z_I (if d_k δ = true then 1 else 0)
          simpa [am_upI] using dx_k hD
        · have g := dx_i hD z
          exact ⟨show _ = z_I (d_n δ) by simpa [am_upI] using g.1, show _ = z_I (d_i δ).1 by simpa [am_upI] using g.2.1, show _ = z_I (d_i δ).2.1 by simpa [am_upI] using g.2.2.1, show _ = z_I (d_i δ).2.2.1 by simpa [am_upI] using g.2.2.2.1, show _ = z_I (d_i δ).2.2.2 by simpa [am_upI] using g.2.2.2.2.1, fun a ha => show _ = z_I (d_p δ a) by simpa [am_upI] using g.2.2.2.2.2 a ha⟩
      · refine am_r_iconst (pc' := 24) rfl rfl ?_
        refine am_r_iret rfl rfl ?_
        have e1 : ¬ ((0 ≤ a ∧ a < s_n σ) ∧ (-9 ≤ v ∧ v ≤ 9)) := by omega
        unfold t_nudged u_nudged r_nudged at hq
        simp only [if_neg e1] at hq
        exact hq M (am_fd_rf M) hX hD
def r_led (δ : Ds) (w : Int) : Int := if w = 0 then d_0 δ else if w = 1 then d_1 δ else if w = 2 then d_2 δ else if w = 3 then d_3 δ else -1
theorem c_led {sL : Nat} {xs : Nat → Int32} {d : Nat} {M : Am_M} {Q : Int32 → Am_M → Prop} (hd : 1 ≤ d) {σ : Sg} {δ : Ds} (hD : DX M δ σ) {w : Int} (hw : -2147483648 ≤ w ∧ w < 2147483648)  (hq : Q (z_I (r_led δ w)) M) : am_bi sL xs d 138 [.ref 0, .int (z_I w)] M Q := by
  obtain ⟨d, rfl⟩ : ∃ e, d = e + 1 := ⟨d - 1, by omega⟩
  refine am_bi_of (P := am_pX10_led) (rt := 1) (nL := 2) (Nat.le_of_ble_eq_true rfl) rfl (Nat.le_of_ble_eq_true rfl) rfl rfl rfl ?_
  refine am_r_iload1 (pc' := 1) rfl rfl ?_
  rcases (show w = 0 ∨ w = 1 ∨ w = 2 ∨ w = 3 ∨ (¬ w = 0 ∧ ¬ w = 1 ∧ ¬ w = 2 ∧ ¬ w = 3) by omega) with rfl | rfl | rfl | rfl | hsw1
  · refine am_r_tsw (t := 32) rfl rfl ?_
    refine am_r_aload0 (pc' := 33) rfl rfl ?_
    refine am_r_getR (t := 31) (pc' := 36) rfl rfl rfl ?_
    refine am_r_getIv (f := 1) (pc' := 39) rfl rfl rfl (dx_0 hD) ?_
    refine am_r_iret rfl rfl ?_
    first | exact hq | (rw [show r_led δ w = -1 by unfold r_led; repeat (rw [if_neg (by omega)])] at hq; exact hq)
  · refine am_r_tsw (t := 40) rfl rfl ?_
    refine am_r_aload0 (pc' := 41) rfl rfl ?_
    refine am_r_getR (t := 31) (pc' := 44) rfl rfl rfl ?_
    refine am_r_getIv (f := 2) (pc' := 47) rfl rfl rfl (dx_1 hD) ?_
    refine am_r_iret rfl rfl ?_
    first | exact hq | (rw [show r_led δ w = -1 by unfold r_led; repeat (rw [if_neg (by omega)])] at hq; exact hq)
  · refine am_r_tsw (t := 48) rfl rfl ?_
    refine am_r_aload0 (pc' := 49) rfl rfl ?_
    refine am_r_getR (t := 31) (pc' := 52) rfl rfl rfl ?_
    refine am_r_getIv (f := 3) (pc' := 55) rfl rfl rfl (dx_2 hD) ?_
    refine am_r_iret rfl rfl ?_
    first | exact hq | (rw [show r_led δ w = -1 by unfold r_led; repeat (rw [if_neg (by omega)])] at hq; exact hq)
  · refine am_r_tsw (t := 56) rfl rfl ?_
    refine am_r_aload0 (pc' := 57) rfl rfl ?_
    refine am_r_getR (t := 31) (pc' := 60) rfl rfl rfl ?_
    refine am_r_getIv (f := 4) (pc' := 63) rfl rfl rfl (dx_3 hD) ?_
    refine am_r_iret rfl rfl ?_
    first | exact hq | (rw [show r_led δ w = -1 by unfold r_led; repeat (rw [if_neg (by omega)])] at hq; exact hq)
  · refine am_r_tsw (t := 64) rfl (by rw [if_pos (by omega)]; rfl) ?_
    refine am_r_iconst (pc' := 65) rfl rfl ?_
    refine am_r_iret rfl rfl ?_
    first | exact hq | (rw [show r_led δ w = -1 by unfold r_led; repeat (rw [if_neg (by omega)])] at hq; exact hq)
theorem c_keepImage {sL : Nat} {xs : Nat → Int32} {d : Nat} {M : Am_M} {Q : Am_M → Prop} (hd : 1 ≤ d) {σ : Sg} {δ : Ds} (hX : SX M σ) (hD : DX M δ σ) (hq : ∀ M', am_fr 31 32 M M' → DX M' (d_img δ σ) σ → Q M') : am_bv sL xs d 23 [.ref 31] M Q := by
  obtain ⟨d, rfl⟩ : ∃ e, d = e + 1 := ⟨d - 1, by omega⟩
  have hn := sb_nb hX.1
  have hloop : ∀ (k : Nat) (i : Int) (N : Am_M), 0 ≤ i ∧ i + k = s_n σ → am_fr 31 32 M N → N.1 31 1 = z_I (d_0 δ) ∧ N.1 31 2 = z_I (d_1 δ) ∧ N.1 31 3 = z_I (d_2 δ) ∧ N.1 31 4 = z_I (d_3 δ) ∧ N.1 31 5 = z_I 1 ∧ N.1 31 7 = z_I (s_n σ) → (∀ a, 0 ≤ a ∧ a < i → N.1 32 a.toNat = z_I (s_pl σ a)) → am_rw sL xs d am_pX2_keepImage 0 18 [.ref 31, .int (z_I i)] [] N (am_pv Q) := by
    intro k
    induction k with
    | zero =>
      intro i N hk hF hv hp
      obtain ⟨v1, v2, v3, v4, v5, v7⟩ := hv
      refine am_r_iload1 (pc' := 19) rfl rfl ?_
      refine am_r_aload0 (pc' := 20) rfl rfl ?_
      refine am_r_getIv (f := 7) (pc' := 23) rfl rfl rfl (v7) ?_
      refine am_r_icmp_ge (pt := 47) (pf := 26) rfl rfl rfl (fun h23 => ?_) (fun h23 => ?_)
      · refine am_r_aload0 (pc' := 48) rfl rfl ?_
        refine am_r_aload0 (pc' := 49) rfl rfl ?_
        refine am_r_getIv (f := 1) (pc' := 52) rfl rfl rfl (v1) ?_
        refine am_r_putI (f := 8) (pc' := 55) rfl rfl rfl (by decide) ?_
        refine am_r_aload0 (pc' := 56) rfl rfl ?_
        refine am_r_aload0 (pc' := 57) rfl rfl ?_
        refine am_r_getIv (f := 2) (pc' := 60) rfl rfl rfl (show _ = z_I (d_1 δ) by simpa [am_upI] using v2) ?_
        refine am_r_putI (f := 9) (pc' := 63) rfl rfl rfl (by decide) ?_
        refine am_r_aload0 (pc' := 64) rfl rfl ?_
        refine am_r_aload0 (pc' := 65) rfl rfl ?_
        refine am_r_getIv (f := 3) (pc' := 68) rfl rfl rfl (show _ = z_I (d_2 δ) by simpa [am_upI] using v3) ?_
        refine am_r_putI (f := 10) (pc' := 71) rfl rfl rfl (by decide) ?_
        refine am_r_aload0 (pc' := 72) rfl rfl ?_
        refine am_r_aload0 (pc' := 73) rfl rfl ?_
        refine am_r_getIv (f := 4) (pc' := 76) rfl rfl rfl (show _ = z_I (d_3 δ) by simpa [am_upI] using v4) ?_
        refine am_r_putI (f := 11) (pc' := 79) rfl rfl rfl (by decide) ?_
        refine am_r_vret rfl rfl ?_
        refine hq _ (am_fr_upI (am_fr_upI (am_fr_upI (am_fr_upI hF (by omega)) (by omega)) (by omega)) (by omega)) ⟨fun _ => ⟨⟨hn.1, Int.le_refl _⟩, fun a ha => by have := sg_b hX.1 ha; exact ⟨this.2.2.1, this.2.2.2.1⟩⟩, ?_, ?_, ?_, ?_, ?_, fun _ => ⟨?_, ?_, ?_, ?_, ?_, fun a ha => ?_⟩⟩
        · show _ = z_I (d_0 δ)
          simpa [am_upI] using v1
        · show _ = z_I (d_1 δ)
          simpa [am_upI] using v2
        · show _ = z_I (d_2 δ)
          simpa [am_upI] using v3
        · show _ = z_I (d_3 δ)
          simpa [am_upI] using v4
        · show _ = z_I 1
          simpa [am_upI] using v5
        · show _ = z_I (s_n σ)
          simpa [am_upI] using v7
        · simp [am_upI]; rfl
        · simp [am_upI]; rfl
        · simp [am_upI]; rfl
        · simp [am_upI]; rfl
        · have ha2 : 0 ≤ a ∧ a < s_n σ := ha
          have := hp a (by omega)
          show _ = z_I (s_pl σ a)
          simpa [am_upI] using this
      · exfalso; omega
    | succ k ih =>
      intro i N hk hF hv hp
      have hX := sx_fr hX hF (by omega)
      have v7 := hv.2.2.2.2.2
      refine am_r_iload1 (pc' := 19) rfl rfl ?_
      refine am_r_aload0 (pc' := 20) rfl rfl ?_
      refine am_r_getIv (f := 7) (pc' := 23) rfl rfl rfl (v7) ?_
      refine am_r_icmp_ge (pt := 47) (pf := 26) rfl rfl rfl (fun h23 => ?_) (fun h23 => ?_)
      · exfalso; omega
      · refine am_r_aload0 (pc' := 27) rfl rfl ?_
        refine am_r_getR (t := 32) (pc' := 30) rfl rfl rfl ?_
        refine am_r_iload1 (pc' := 31) rfl rfl ?_
        refine am_r_aload0 (pc' := 32) rfl rfl ?_
        refine am_r_getR (t := 1) (pc' := 35) rfl rfl rfl ?_
        refine am_r_getR (t := 3) (pc' := 38) rfl rfl rfl ?_
        refine am_r_iload1 (pc' := 39) rfl rfl ?_
        refine am_r_iaZv (n := 8) (pc' := 40) rfl rfl rfl (by decide) (sx_pl hX (by omega)) ?_
        refine am_r_iast (n := 8) (pc' := 41) rfl rfl (rfl) (by decide) ?_
        refine am_r_iinc1 (pc' := 44) rfl rfl rfl ?_
        refine am_r_goto (pc' := 18) rfl rfl ?_
        refine ih _ _ (by omega) (am_fr_upI hF (by omega)) (by simpa [am_upI] using hv) (fun a ha => ?_)
        by_cases q : a = i
        · rw [q]; exact am_up_e _ _ _ _
        · have q2 : a.toNat ≠ i.toNat := by omega
          rw [am_up_n _ _ _ _ _ q2]
          exact hp a (by omega)
  refine am_bv_of (P := am_pX2_keepImage) (rt := 0) (nL := 2) (Nat.le_of_ble_eq_true rfl) rfl (Nat.le_of_ble_eq_true rfl) rfl rfl rfl ?_
  refine am_r_aload0 (pc' := 1) rfl rfl ?_
  refine am_r_iconst (pc' := 2) rfl rfl ?_
  refine am_r_putZ (f := 5) (pc' := 5) rfl rfl rfl (by first | exact Or.inr rfl | exact Or.inl rfl) ?_
  refine am_r_aload0 (pc' := 6) rfl rfl ?_
  refine am_r_aload0 (pc' := 7) rfl rfl ?_
  refine am_r_getR (t := 1) (pc' := 10) rfl rfl rfl ?_
  refine am_r_getIv (f := 5) (pc' := 13) rfl rfl rfl (show _ = z_I (s_n σ) by simpa [am_upI] using sx_n hX) ?_
  refine am_r_putI (f := 7) (pc' := 16) rfl rfl rfl (by decide) ?_
  refine am_r_iconst (pc' := 17) rfl rfl ?_
  refine am_r_istore1 (pc' := 18) rfl rfl rfl ?_
  refine hloop (s_n σ).toNat 0 _ (by omega) (am_fr_upI (am_fr_upI (am_fr_rf _ _ _) (by omega)) (by omega)) ⟨?_, ?_, ?_, ?_, ?_, ?_⟩ (fun a ha => by omega)
  · simpa [am_upI] using dx_0 hD
  · simpa [am_upI] using dx_1 hD
  · simpa [am_upI] using dx_2 hD
  · simpa [am_upI] using dx_3 hD
  · simp [am_upI]
  · simp [am_upI]
theorem c_image {sL : Nat} {xs : Nat → Int32} {d : Nat} {M : Am_M} {Q : Int32 → Am_M → Prop} (hd : 2 ≤ d) {σ : Sg} {δ : Ds} (hX : SX M σ) (hD : DX M δ σ) (hq : ∀ M', am_fr 31 32 M M' → DX M' (d_img δ σ) σ → Q (z_I (d_0 δ)) M') : am_bi sL xs d 139 [.ref 0] M Q := by
  obtain ⟨d, rfl⟩ : ∃ e, d = e + 1 := ⟨d - 1, by omega⟩
  refine am_bi_of (P := am_pX10_image) (rt := 1) (nL := 1) (Nat.le_of_ble_eq_true rfl) rfl (Nat.le_of_ble_eq_true rfl) rfl rfl rfl ?_
  refine am_r_aload0 (pc' := 1) rfl rfl ?_
  refine am_r_getR (t := 31) (pc' := 4) rfl rfl rfl ?_
  refine am_r_invV0 (pc' := 7) rfl rfl rfl (Nat.le_of_ble_eq_true rfl) (c_keepImage (by omega) hX hD ?_)
  · intro M3 hf3 hD3
    have hd0 : M3.1 31 1 = z_I (d_0 δ) := (dx_0 hD3 : M3.1 31 1 = z_I (d_0 (d_img δ σ)))
    refine am_r_aload0 (pc' := 8) rfl rfl ?_
    refine am_r_getR (t := 31) (pc' := 11) rfl rfl rfl ?_
    refine am_r_getIv (f := 1) (pc' := 14) rfl rfl rfl (hd0) ?_
    refine am_r_iret rfl rfl ?_
    exact hq M3 hf3 hD3
theorem c_layBack {sL : Nat} {xs : Nat → Int32} {d : Nat} {M : Am_M} {Q : Am_M → Prop} (hd : 1 ≤ d) {σ : Sg} {δ : Ds} (hX : SX M σ) (hD : DX M δ σ) (hk : d_k δ = true) (hq : ∀ M', am_fd M M' → SX M' (s_bck σ δ) → DX M' (d_bck δ) (s_bck σ δ) → Q M') : am_bv sL xs d 24 [.ref 31] M Q := by
  obtain ⟨d, rfl⟩ : ∃ e, d = e + 1 := ⟨d - 1, by omega⟩
  have hn := sb_nb hX.1
  have hb := hD.1 hk
  obtain ⟨i7, i8, i9, i10, i11, ip⟩ := dx_i hD hk
  have hloop : ∀ (k : Nat) (i : Int) (N : Am_M), 0 ≤ i ∧ i + k = d_n δ → am_fr 3 3 M N → SX N (s_pls σ (fun a => if 0 ≤ a ∧ a < i then d_p δ a else s_pl σ a)) → am_rw sL xs d am_pX2_layBack 0 2 [.ref 31, .int (z_I i)] [] N (am_pv Q) := by
    intro k
    induction k with
    | zero =>
      intro i N hk hF hX
      have hF31 := (hF 31 (by omega)).1
      have hi : i = d_n δ := by omega
      subst hi
      refine am_r_iload1 (pc' := 3) rfl rfl ?_
      refine am_r_aload0 (pc' := 4) rfl rfl ?_
      refine am_r_getIv (f := 7) (pc' := 7) rfl rfl rfl (show _ = z_I (d_n δ) by rw [hF31]; exact i7) ?_
      refine am_r_icmp_ge (pt := 31) (pf := 10) rfl rfl rfl (fun h7 => ?_) (fun h7 => ?_)
      · refine am_r_aload0 (pc' := 32) rfl rfl ?_
        refine am_r_aload0 (pc' := 33) rfl rfl ?_
        refine am_r_getIv (f := 8) (pc' := 36) rfl rfl rfl (show _ = z_I (d_i δ).1 by simpa [am_upI, hF31] using i8) ?_
        refine am_r_putI (f := 1) (pc' := 39) rfl rfl rfl (by decide) ?_
        refine am_r_aload0 (pc' := 40) rfl rfl ?_
        refine am_r_aload0 (pc' := 41) rfl rfl ?_
        refine am_r_getIv (f := 9) (pc' := 44) rfl rfl rfl (show _ = z_I (d_i δ).2.1 by simpa [am_upI, hF31] using i9) ?_
        refine am_r_putI (f := 2) (pc' := 47) rfl rfl rfl (by decide) ?_
        refine am_r_aload0 (pc' := 48) rfl rfl ?_
        refine am_r_aload0 (pc' := 49) rfl rfl ?_
        refine am_r_getIv (f := 10) (pc' := 52) rfl rfl rfl (show _ = z_I (d_i δ).2.2.1 by simpa [am_upI, hF31] using i10) ?_
        refine am_r_putI (f := 3) (pc' := 55) rfl rfl rfl (by decide) ?_
        refine am_r_aload0 (pc' := 56) rfl rfl ?_
        refine am_r_aload0 (pc' := 57) rfl rfl ?_
        refine am_r_getIv (f := 11) (pc' := 60) rfl rfl rfl (show _ = z_I (d_i δ).2.2.2 by simpa [am_upI, hF31] using i11) ?_
        refine am_r_putI (f := 4) (pc' := 63) rfl rfl rfl (by decide) ?_
        refine am_r_vret rfl rfl ?_
        refine hq _ (am_fd_tr (am_fd_w hF (by omega)) (am_fd_w (am_fr_upI (am_fr_upI (am_fr_upI (am_fr_upI (am_fr_rf 31 31 N) (by omega)) (by omega)) (by omega)) (by omega)) (by omega))) (sx_o (sx_o (sx_o (sx_o hX (by omega)) (by omega)) (by omega)) (by omega)) ⟨hD.1, ?_, ?_, ?_, ?_, ?_, fun z => ⟨?_, ?_, ?_, ?_, ?_, fun a ha => ?_⟩⟩
        · simp [am_upI]; rfl
        · simp [am_upI]; rfl
        · simp [am_upI]; rfl
        · simp [am_upI]; rfl
        · show _ = z_I (if d_k δ = true then 1 else 0)
          simpa [am_upI, hF31] using dx_k hD
        · show _ = z_I (d_n δ)
          simpa [am_upI, hF31] using i7
        · show _ = z_I (d_i δ).1
          simpa [am_upI, hF31] using i8
        · show _ = z_I (d_i δ).2.1
          simpa [am_upI, hF31] using i9
        · show _ = z_I (d_i δ).2.2.1
          simpa [am_upI, hF31] using i10
        · show _ = z_I (d_i δ).2.2.2
          simpa [am_upI, hF31] using i11
        · show _ = z_I (d_p δ a)
          simpa [am_upI, (hF 32 (by omega)).1] using ip a ha
      · exfalso; omega
    | succ k ih =>
      intro i N hk hF hX
      have hF31 := (hF 31 (by omega)).1
      have hpb := hb.2 i (by omega)
      refine am_r_iload1 (pc' := 3) rfl rfl ?_
      refine am_r_aload0 (pc' := 4) rfl rfl ?_
      refine am_r_getIv (f := 7) (pc' := 7) rfl rfl rfl (show _ = z_I (d_n δ) by rw [hF31]; exact i7) ?_
      refine am_r_icmp_ge (pt := 31) (pf := 10) rfl rfl rfl (fun h7 => ?_) (fun h7 => ?_)
      · exfalso; omega
      · refine am_r_aload0 (pc' := 11) rfl rfl ?_
        refine am_r_getR (t := 1) (pc' := 14) rfl rfl rfl ?_
        refine am_r_getR (t := 3) (pc' := 17) rfl rfl rfl ?_
        refine am_r_iload1 (pc' := 18) rfl rfl ?_
        refine am_r_aload0 (pc' := 19) rfl rfl ?_
        refine am_r_getR (t := 32) (pc' := 22) rfl rfl rfl ?_
        refine am_r_iload1 (pc' := 23) rfl rfl ?_
        refine am_r_iaZv (n := 8) (pc' := 24) rfl rfl rfl (by decide) (show _ = z_I (d_p δ i) by rw [(hF 32 (by omega)).1]; exact ip i (by omega)) ?_
        refine am_r_iast (n := 8) (pc' := 25) rfl rfl (rfl) (by decide) ?_
        refine am_r_iinc1 (pc' := 28) rfl rfl rfl ?_
        refine am_r_goto (pc' := 2) rfl rfl ?_
        refine ih _ _ (by omega) (am_fr_upI hF (by omega)) ?_
        have h2 := sx_setPl hX (a := i) (v := d_p δ i) (by show 0 ≤ i ∧ i < s_n σ; omega) (by show 0 ≤ d_p δ i ∧ d_p δ i < s_rd σ i; exact hpb)
        have e : s_setPl (s_pls σ (fun a => if 0 ≤ a ∧ a < i then d_p δ a else s_pl σ a)) i (d_p δ i) = s_pls σ (fun a => if 0 ≤ a ∧ a < i + 1 then d_p δ a else s_pl σ a) := by
          unfold s_setPl s_pls
          congr 1
          congr 1
          congr 1
          funext x
          by_cases q : x = i
          · rw [if_pos q, if_pos (by omega), q]
          · rw [if_neg q]
            by_cases r : 0 ≤ x ∧ x < i
            · rw [if_pos (by omega)]; exact if_pos r
            · rw [if_neg (by omega)]; exact if_neg r
        rw [← e]
        exact h2
  refine am_bv_of (P := am_pX2_layBack) (rt := 0) (nL := 2) (Nat.le_of_ble_eq_true rfl) rfl (Nat.le_of_ble_eq_true rfl) rfl rfl rfl ?_
  refine am_r_iconst (pc' := 1) rfl rfl ?_
  refine am_r_istore1 (pc' := 2) rfl rfl rfl ?_
  refine hloop (d_n δ).toNat 0 M (by omega) (am_fr_rf _ _ _) ?_
  have e : s_pls σ (fun a => if 0 ≤ a ∧ a < 0 then d_p δ a else s_pl σ a) = σ := by
    have e2 : (fun a => if 0 ≤ a ∧ a < 0 then d_p δ a else s_pl σ a) = s_pl σ := by
      funext x
      rw [if_neg (by omega)]
    rw [e2]
    rfl
  rw [e]
  exact hX
def r_back (δ : Ds) : Int := if d_k δ = true then (d_i δ).1 else -5
def t_back (σ : Sg) (δ : Ds) : Sg := if d_k δ = true then s_bck σ δ else σ
def u_back (δ : Ds) : Ds := if d_k δ = true then d_bck δ else δ
theorem c_back {sL : Nat} {xs : Nat → Int32} {d : Nat} {M : Am_M} {Q : Int32 → Am_M → Prop} (hd : 2 ≤ d) {σ : Sg} {δ : Ds} (hX : SX M σ) (hD : DX M δ σ) (hq : ∀ M', am_fd M M' → SX M' (t_back σ δ) → DX M' (u_back δ) (t_back σ δ) → Q (z_I (r_back δ)) M') : am_bi sL xs d 140 [.ref 0] M Q := by
  obtain ⟨d, rfl⟩ : ∃ e, d = e + 1 := ⟨d - 1, by omega⟩
  by_cases hk : d_k δ = true
  · have hk5 : M.1 31 5 = z_I 1 := (dx_k hD).trans (by rw [if_pos hk])
    unfold r_back t_back u_back at hq
    simp only [if_pos hk] at hq
    refine am_bi_of (P := am_pX10_back) (rt := 1) (nL := 1) (Nat.le_of_ble_eq_true rfl) rfl (Nat.le_of_ble_eq_true rfl) rfl rfl rfl ?_
    refine am_r_aload0 (pc' := 1) rfl rfl ?_
    refine am_r_getR (t := 31) (pc' := 4) rfl rfl rfl ?_
    refine am_r_getIv (f := 5) (pc' := 7) rfl rfl rfl (hk5) ?_
    refine am_r_if_ne (pt := 13) (pf := 10) rfl rfl rfl (fun h7 => ?_) (fun h7 => ?_)
    · refine am_r_aload0 (pc' := 14) rfl rfl ?_
      refine am_r_getR (t := 31) (pc' := 17) rfl rfl rfl ?_
      refine am_r_invV0 (pc' := 20) rfl rfl rfl (Nat.le_of_ble_eq_true rfl) (c_layBack (by omega) hX hD hk ?_)
      · intro M3 hf3 hX3 hD3
        have hd0 : M3.1 31 1 = z_I (d_i δ).1 := (dx_0 hD3 : M3.1 31 1 = z_I (d_0 (d_bck δ)))
        refine am_r_aload0 (pc' := 21) rfl rfl ?_
        refine am_r_getR (t := 31) (pc' := 24) rfl rfl rfl ?_
        refine am_r_getIv (f := 1) (pc' := 27) rfl rfl rfl (hd0) ?_
        refine am_r_iret rfl rfl ?_
        exact hq M3 hf3 hX3 hD3
    · exfalso; omega
  · have hk5 : M.1 31 5 = z_I 0 := (dx_k hD).trans (by rw [if_neg hk])
    unfold r_back t_back u_back at hq
    simp only [if_neg hk] at hq
    refine am_bi_of (P := am_pX10_back) (rt := 1) (nL := 1) (Nat.le_of_ble_eq_true rfl) rfl (Nat.le_of_ble_eq_true rfl) rfl rfl rfl ?_
    refine am_r_aload0 (pc' := 1) rfl rfl ?_
    refine am_r_getR (t := 31) (pc' := 4) rfl rfl rfl ?_
    refine am_r_getIv (f := 5) (pc' := 7) rfl rfl rfl (hk5) ?_
    refine am_r_if_ne (pt := 13) (pf := 10) rfl rfl rfl (fun h7 => ?_) (fun h7 => ?_)
    · exfalso; omega
    · refine am_r_iconst (pc' := 12) rfl rfl ?_
      refine am_r_iret rfl rfl ?_
      exact hq M (am_fd_rf M) hX hD
