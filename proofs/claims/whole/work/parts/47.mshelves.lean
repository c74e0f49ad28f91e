/-! SHELVES, the reference -/
def HM1 (M : Am_M) (v : Int × Int × (Int → Int)) (x : Int) : Prop := M.1 71 x.toNat = z_I v.1 ∧ (50 ≤ v.1 → M.1 72 x.toNat = z_I v.2.1 ∧ ∀ i, 0 ≤ i ∧ i < 60 → M.2 73 (60 * x + i).toNat = z_L (v.2.2 i))
theorem hm_set {M M' : Am_M} {η : Hs} (h : HM M η) {e : Int} {v : Int × Int × (Int → Int)} (hb : HB (h_set η e v)) (hn : ∀ x, 0 ≤ x ∧ x < 6 → x ≠ e → M'.1 71 x.toNat = M.1 71 x.toNat ∧ M'.1 72 x.toNat = M.1 72 x.toNat ∧ ∀ i, 0 ≤ i ∧ i < 60 → M'.2 73 (60 * x + i).toNat = M.2 73 (60 * x + i).toNat) (he : HM1 M' v e) : HM M' (h_set η e v) := by
  refine ⟨hb, fun x hx => ?_⟩
  unfold h_k h_n h_v
  by_cases q : x = e
  · rw [q, h_set_e]; exact he
  · rw [h_set_n _ _ _ q]
    obtain ⟨a1, a2, a3⟩ := hn x hx q
    rw [a1, a2]
    refine ⟨(h.2 x hx).1, fun hk => ⟨((h.2 x hx).2 hk).1, fun i hi => ?_⟩⟩
    rw [a3 i hi]
    exact ((h.2 x hx).2 hk).2 i hi
theorem m_keep {sL : Nat} {xs : Nat → Int32} {d : Nat} {M : Am_M} {Q : Int32 → Am_M → Prop} (hd : 3 ≤ d) {η : Hs} (hS : HM M η) {κ : Int → Int} {n : Int} {l : List Int} (hO : QM M κ n l) {e : Int} (he : -2147483648 ≤ e ∧ e < 2147483648) {w : Int} (hw : -2147483648 ≤ w ∧ w < 2147483648)  (hq : ∀ M', am_fr 71 74 M M' → HM M' (t_keep η n e w) → Q (z_I (r_keep n e w)) M') : am_bi sL xs d 251 [.ref 53, .int (z_I e), .int (z_I w)] M Q := by
  obtain ⟨d, rfl⟩ : ∃ e, d = e + 1 := ⟨d - 1, by omega⟩
  have hnb := qm_nb hO
  refine am_bi_of (P := am_pX11_keep) (rt := 1) (nL := 3) (Nat.le_of_ble_eq_true rfl) rfl (Nat.le_of_ble_eq_true rfl) rfl rfl rfl ?_
  refine am_r_iload1 (pc' := 1) rfl rfl ?_
  refine am_r_ivsI1 (pc' := 4) rfl rfl rfl (Nat.le_of_ble_eq_true rfl) (m_isShelf (by omega) (by omega) ?_)
  refine am_r_if_eqB (pt := 20) (pf := 7) rfl rfl rfl (fun h4 => ?_) (fun h4 => ?_)
  · refine am_r_iconst (pc' := 21) rfl rfl ?_
    refine am_r_iret rfl rfl ?_
    have e0 : ¬ ((0 ≤ e ∧ e < 6) ∧ (w = -1 ∨ (0 ≤ w ∧ w < n))) := by omega
    rw [show t_keep η n e w = η from if_neg e0, show r_keep n e w = -1 from if_neg e0] at hq
    exact hq M (am_fr_rf _ _ _) hS
  · refine am_r_iload2 (pc' := 8) rfl rfl ?_
    refine am_r_iconst (pc' := 9) rfl rfl ?_
    refine am_r_icmp_eq (pt := 22) (pf := 12) rfl rfl rfl (fun h9 => ?_) (fun h9 => ?_)
    · refine am_r_aload0 (pc' := 23) rfl rfl ?_
      refine am_r_getR (t := 71) (pc' := 26) rfl rfl rfl ?_
      refine am_r_iload1 (pc' := 27) rfl rfl ?_
      refine am_r_iload2 (pc' := 28) rfl rfl ?_
      refine am_r_iast (n := 6) (pc' := 29) rfl rfl (rfl) (by decide) ?_
      refine am_r_aload0 (pc' := 30) rfl rfl ?_
      refine am_r_getR (t := 72) (pc' := 33) rfl rfl rfl ?_
      refine am_r_iload1 (pc' := 34) rfl rfl ?_
      refine am_r_iconst (pc' := 35) rfl rfl ?_
      refine am_r_iast (n := 6) (pc' := 36) rfl rfl (rfl) (by decide) ?_
      refine am_r_iconst (pc' := 37) rfl rfl ?_
      refine am_r_iret rfl rfl ?_
      have e0 : (0 ≤ e ∧ e < 6) ∧ (w = -1 ∨ (0 ≤ w ∧ w < n)) := by omega
      rw [show t_keep η n e w = h_set η e (w, 0, fun _ => 0) from if_pos e0, show r_keep n e w = 1 from if_pos e0] at hq
      have hb : HB (h_set η e (w, 0, fun _ => 0)) := hb_set hS.1 ⟨by simp only; omega, fun q => by simp only at q; omega⟩
      refine hq _ (am_fr_upI (am_fr_upI (am_fr_rf _ _ _) (by omega)) (by omega)) (hm_set hS hb (fun x hx q => ?_) ⟨?_, fun q => ?_⟩)
      · have q2 : x.toNat ≠ e.toNat := by omega
        refine ⟨?_, ?_, fun i hi => rfl⟩ <;> simp [am_upI, q2]
      · simp [am_upI]
      · simp only at q
        exfalso; omega
    · refine am_r_aload0 (pc' := 13) rfl rfl ?_
      refine am_r_iload2 (pc' := 14) rfl rfl ?_
      refine am_r_invI1 (pc' := 17) rfl rfl rfl (Nat.le_of_ble_eq_true rfl) (m_isBody2 (by omega) hO (by omega) ?_)
      refine am_r_if_neB (pt := 22) (pf := 20) rfl rfl rfl (fun h17 => ?_) (fun h17 => ?_)
      · refine am_r_aload0 (pc' := 23) rfl rfl ?_
        refine am_r_getR (t := 71) (pc' := 26) rfl rfl rfl ?_
        refine am_r_iload1 (pc' := 27) rfl rfl ?_
        refine am_r_iload2 (pc' := 28) rfl rfl ?_
        refine am_r_iast (n := 6) (pc' := 29) rfl rfl (rfl) (by decide) ?_
        refine am_r_aload0 (pc' := 30) rfl rfl ?_
        refine am_r_getR (t := 72) (pc' := 33) rfl rfl rfl ?_
        refine am_r_iload1 (pc' := 34) rfl rfl ?_
        refine am_r_iconst (pc' := 35) rfl rfl ?_
        refine am_r_iast (n := 6) (pc' := 36) rfl rfl (rfl) (by decide) ?_
        refine am_r_iconst (pc' := 37) rfl rfl ?_
        refine am_r_iret rfl rfl ?_
        have e0 : (0 ≤ e ∧ e < 6) ∧ (w = -1 ∨ (0 ≤ w ∧ w < n)) := by omega
        rw [show t_keep η n e w = h_set η e (w, 0, fun _ => 0) from if_pos e0, show r_keep n e w = 1 from if_pos e0] at hq
        have hb : HB (h_set η e (w, 0, fun _ => 0)) := hb_set hS.1 ⟨by simp only; omega, fun q => by simp only at q; omega⟩
        refine hq _ (am_fr_upI (am_fr_upI (am_fr_rf _ _ _) (by omega)) (by omega)) (hm_set hS hb (fun x hx q => ?_) ⟨?_, fun q => ?_⟩)
        · have q2 : x.toNat ≠ e.toNat := by omega
          refine ⟨?_, ?_, fun i hi => rfl⟩ <;> simp [am_upI, q2]
        · simp [am_upI]
        · simp only at q
          exfalso; omega
      · refine am_r_iconst (pc' := 21) rfl rfl ?_
        refine am_r_iret rfl rfl ?_
        have e0 : ¬ ((0 ≤ e ∧ e < 6) ∧ (w = -1 ∨ (0 ≤ w ∧ w < n))) := by omega
        rw [show t_keep η n e w = η from if_neg e0, show r_keep n e w = -1 from if_neg e0] at hq
        exact hq M (am_fr_rf _ _ _) hS
theorem m_row {sL : Nat} {xs : Nat → Int32} {d : Nat} {M : Am_M} {Q : Int32 → Am_M → Prop} (hd : 3 ≤ d) {η : Hs} (hS : HM M η) {e : Int} (he : -2147483648 ≤ e ∧ e < 2147483648) {s : Int} (hs : -2147483648 ≤ s ∧ s < 2147483648) {n : Int} (hn : -2147483648 ≤ n ∧ n < 2147483648) (hq : ∀ M', am_fr 71 74 M M' → HM M' (t_row η e s n) → Q (z_I (r_rowc e s n)) M') : am_bi sL xs d 252 [.ref 53, .int (z_I e), .int (z_I s), .int (z_I n)] M Q := by
  obtain ⟨d, rfl⟩ : ∃ e, d = e + 1 := ⟨d - 1, by omega⟩
  have hloop : ∀ (hg : (0 ≤ e ∧ e < 6) ∧ (0 ≤ s ∧ s ≤ 4) ∧ n ≤ 60 ∧ 0 ≤ n) (k : Nat) (i : Int) (N : Am_M), (60 * e ≤ i ∧ i + k = 60 * e + 60) → am_fr 71 74 M N → N.1 71 = (am_upI M 71 e.toNat (z_I (50 + s))).1 71 → N.1 72 = (am_upI M 72 e.toNat (z_I n)).1 72 → (∀ j : Int, 60 * e ≤ j ∧ j < i → N.2 73 j.toNat = z_L 0) → (∀ j : Nat, ¬ (60 * e ≤ (j : Int) ∧ (j : Int) < 60 * e + 60) → N.2 73 j = M.2 73 j) → am_rw sL xs d am_pX11_row 1 57 [.ref 53, .int (z_I e), .int (z_I s), .int (z_I n), .int (z_I i)] [] N (am_pi Q) := by
    intro hg k
    induction k with
    | zero =>
      intro i N hk hF h1 h2 h3 h4
      refine am_r_iload4 (pc' := 59) rfl rfl ?_
      refine am_r_iconst (pc' := 61) rfl rfl ?_
      refine am_r_iload1 (pc' := 62) rfl rfl ?_
      refine am_r_imul (pc' := 63) rfl rfl ?_
      refine am_r_iconst (pc' := 65) rfl rfl ?_
      refine am_r_iadd (pc' := 66) rfl rfl ?_
      refine am_r_icmp_ge (pt := 83) (pf := 69) rfl rfl rfl (fun h66 => ?_) (fun h66 => ?_)
      · refine am_r_iconst (pc' := 84) rfl rfl ?_
        refine am_r_iret rfl rfl ?_
        rw [show t_row η e s n = h_set η e (50 + s, n, fun _ => 0) from if_pos hg, show r_rowc e s n = 1 from (if_pos (by omega)).trans (if_neg (by omega))] at hq
        have hb : HB (h_set η e (50 + s, n, fun _ => 0)) := hb_set hS.1 ⟨by simp only; omega, fun q => ⟨by simp only; omega, fun i hi => ⟨by simp only; omega, fun _ => by simp only; omega⟩⟩⟩
        refine hq N hF (hm_set hS hb (fun x hx q => ?_) ⟨?_, fun q => ⟨?_, fun j hj => ?_⟩⟩)
        · have q2 : x.toNat ≠ e.toNat := by omega
          refine ⟨?_, ?_, fun j hj => h4 _ (by omega)⟩
          · rw [h1]; simp [am_upI, q2]
          · rw [h2]; simp [am_upI, q2]
        · rw [h1]; simp [am_upI]
        · rw [h2]; simp [am_upI]
        · exact h3 _ (by omega)
      · exfalso; omega
    | succ k ih =>
      intro i N hk hF h1 h2 h3 h4
      refine am_r_iload4 (pc' := 59) rfl rfl ?_
      refine am_r_iconst (pc' := 61) rfl rfl ?_
      refine am_r_iload1 (pc' := 62) rfl rfl ?_
      refine am_r_imul (pc' := 63) rfl rfl ?_
      refine am_r_iconst (pc' := 65) rfl rfl ?_
      refine am_r_iadd (pc' := 66) rfl rfl ?_
      refine am_r_icmp_ge (pt := 83) (pf := 69) rfl rfl rfl (fun h66 => ?_) (fun h66 => ?_)
      · exfalso; omega
      · refine am_r_aload0 (pc' := 70) rfl rfl ?_
        refine am_r_getR (t := 73) (pc' := 73) rfl rfl rfl ?_
        refine am_r_iload4 (pc' := 75) rfl rfl ?_
        refine am_r_lconst (z := 0) (pc' := 76) rfl rfl rfl ?_
        refine am_r_last (n := 360) (pc' := 77) rfl rfl (rfl) (by decide) ?_
        refine am_r_iinc4 (pc' := 80) rfl rfl rfl ?_
        refine am_r_goto (pc' := 57) rfl rfl ?_
        refine ih _ _ (by omega) (am_fr_upL hF (by omega)) h1 h2 (fun j hj => ?_) (fun j hj => ?_)
        · by_cases q : j = i
          · rw [q]; simp [am_upL]
          · have q2 : ¬ j.toNat = i.toNat := by omega
            have := h3 j (by omega)
            simpa [am_upL, q2] using this
        · have q2 : ¬ j = i.toNat := by omega
          have := h4 j hj
          simpa [am_upL, q2] using this
  refine am_bi_of (P := am_pX11_row) (rt := 1) (nL := 5) (Nat.le_of_ble_eq_true rfl) rfl (Nat.le_of_ble_eq_true rfl) rfl rfl rfl ?_
  refine am_r_iload1 (pc' := 1) rfl rfl ?_
  refine am_r_ivsI1 (pc' := 4) rfl rfl rfl (Nat.le_of_ble_eq_true rfl) (m_isShelf (by omega) (by omega) ?_)
  refine am_r_if_eqB (pt := 25) (pf := 7) rfl rfl rfl (fun h4 => ?_) (fun h4 => ?_)
  · refine am_r_iconst (pc' := 26) rfl rfl ?_
    refine am_r_iret rfl rfl ?_
    rw [show t_row η e s n = η from if_neg (by omega), show r_rowc e s n = -1 from if_neg (by omega)] at hq
    exact hq M (am_fr_rf _ _ _) hS
  · refine am_r_iload2 (pc' := 8) rfl rfl ?_
    refine am_r_i2l (pc' := 9) rfl rfl ?_
    refine am_r_lconst (z := 0) (pc' := 10) rfl rfl rfl ?_
    refine am_r_lconst (z := 4) (pc' := 13) rfl rfl rfl ?_
    refine am_r_ivsI3 (pc' := 16) rfl rfl rfl (Nat.le_of_ble_eq_true rfl) (m_within (by omega) (by omega) (by omega) (by omega) ?_)
    refine am_r_if_eqB (pt := 25) (pf := 19) rfl rfl rfl (fun h16 => ?_) (fun h16 => ?_)
    · refine am_r_iconst (pc' := 26) rfl rfl ?_
      refine am_r_iret rfl rfl ?_
      rw [show t_row η e s n = η from if_neg (by omega), show r_rowc e s n = -1 from if_neg (by omega)] at hq
      exact hq M (am_fr_rf _ _ _) hS
    · refine am_r_iload3 (pc' := 20) rfl rfl ?_
      refine am_r_iconst (pc' := 22) rfl rfl ?_
      refine am_r_icmp_le (pt := 27) (pf := 25) rfl rfl rfl (fun h22 => ?_) (fun h22 => ?_)
      · refine am_r_iload3 (pc' := 28) rfl rfl ?_
        refine am_r_if_ge (pt := 34) (pf := 31) rfl rfl rfl (fun h28 => ?_) (fun h28 => ?_)
        · refine am_r_aload0 (pc' := 35) rfl rfl ?_
          refine am_r_getR (t := 71) (pc' := 38) rfl rfl rfl ?_
          refine am_r_iload1 (pc' := 39) rfl rfl ?_
          refine am_r_iconst (pc' := 41) rfl rfl ?_
          refine am_r_iload2 (pc' := 42) rfl rfl ?_
          refine am_r_iadd (pc' := 43) rfl rfl ?_
          refine am_r_iast (n := 6) (pc' := 44) rfl rfl (rfl) (by decide) ?_
          refine am_r_aload0 (pc' := 45) rfl rfl ?_
          refine am_r_getR (t := 72) (pc' := 48) rfl rfl rfl ?_
          refine am_r_iload1 (pc' := 49) rfl rfl ?_
          refine am_r_iload3 (pc' := 50) rfl rfl ?_
          refine am_r_iast (n := 6) (pc' := 51) rfl rfl (rfl) (by decide) ?_
          refine am_r_iconst (pc' := 53) rfl rfl ?_
          refine am_r_iload1 (pc' := 54) rfl rfl ?_
          refine am_r_imul (pc' := 55) rfl rfl ?_
          refine am_r_istore4 (pc' := 57) rfl rfl rfl ?_
          refine hloop (by omega) 60 _ _ (by omega) (am_fr_upI (am_fr_upI (am_fr_rf _ _ _) (by omega)) (by omega)) ?_ ?_ (fun j hj => by omega) (fun j hj => rfl)
          · funext q
            simp [am_upI]
          · funext q
            simp [am_upI]
        · refine am_r_iconst (pc' := 33) rfl rfl ?_
          refine am_r_iret rfl rfl ?_
          rw [show t_row η e s n = η from if_neg (by omega), show r_rowc e s n = -14 from (if_pos (by omega)).trans (if_pos (by omega))] at hq
          exact hq M (am_fr_rf _ _ _) hS
      · refine am_r_iconst (pc' := 26) rfl rfl ?_
        refine am_r_iret rfl rfl ?_
        rw [show t_row η e s n = η from if_neg (by omega), show r_rowc e s n = -1 from if_neg (by omega)] at hq
        exact hq M (am_fr_rf _ _ _) hS
theorem m_refusal {sL : Nat} {xs : Nat → Int32} {d : Nat} {M : Am_M} {Q : Int32 → Am_M → Prop} (hd : 3 ≤ d) {η : Hs} (hS : HM M η) {e : Int} (he : -2147483648 ≤ e ∧ e < 2147483648) {i : Int} (hi : -2147483648 ≤ i ∧ i < 2147483648)  (hq : Q (z_I (h_pr η e i)) M) : am_bi sL xs d 253 [.ref 53, .int (z_I e), .int (z_I i)] M Q := by
  obtain ⟨d, rfl⟩ : ∃ e, d = e + 1 := ⟨d - 1, by omega⟩
  have hrr := h_rr_b η e
  have hpr := h_pr_b η e i
  have hnb : ((0 ≤ e ∧ e < 6) ∧ 50 ≤ h_k η e) → 0 ≤ h_n η e ∧ h_n η e ≤ 60 := fun q => hb_n hS.1 q.1 q.2
  have hkb : (0 ≤ e ∧ e < 6) → -1 ≤ h_k η e ∧ h_k η e ≤ 54 := fun q => hb_k hS.1 q
  refine am_bi_of (P := am_pX11_refusal) (rt := 1) (nL := 3) (Nat.le_of_ble_eq_true rfl) rfl (Nat.le_of_ble_eq_true rfl) rfl rfl rfl ?_
  refine am_r_iload1 (pc' := 1) rfl rfl ?_
  refine am_r_ivsI1 (pc' := 4) rfl rfl rfl (Nat.le_of_ble_eq_true rfl) (m_isShelf (by omega) (by omega) ?_)
  refine am_r_if_neB (pt := 9) (pf := 7) rfl rfl rfl (fun h4 => ?_) (fun h4 => ?_)
  · refine am_r_aload0 (pc' := 10) rfl rfl ?_
    refine am_r_getR (t := 71) (pc' := 13) rfl rfl rfl ?_
    refine am_r_iload1 (pc' := 14) rfl rfl ?_
    refine am_r_iaZv (n := 6) (pc' := 15) rfl rfl rfl (by decide) (hm_k hS (by omega)) ?_
    refine am_r_if_ge (pt := 21) (pf := 18) rfl rfl rfl (fun h15 => ?_) (fun h15 => ?_)
    · refine am_r_aload0 (pc' := 22) rfl rfl ?_
      refine am_r_getR (t := 71) (pc' := 25) rfl rfl rfl ?_
      refine am_r_iload1 (pc' := 26) rfl rfl ?_
      refine am_r_iaZv (n := 6) (pc' := 27) rfl rfl rfl (by decide) (hm_k hS (by omega)) ?_
      refine am_r_iconst (pc' := 29) rfl rfl ?_
      refine am_r_icmp_ge (pt := 35) (pf := 32) rfl rfl rfl (fun h29 => ?_) (fun h29 => ?_)
      · refine am_r_iload2 (pc' := 36) rfl rfl ?_
        refine am_r_if_lt (pt := 53) (pf := 39) rfl rfl rfl (fun h36 => ?_) (fun h36 => ?_)
        · refine am_r_iconst (pc' := 55) rfl rfl ?_
          refine am_r_iret rfl rfl ?_
          refine am_q ?_ hq
          unfold h_pr h_rr at *
          (repeat (first | rw [if_pos (by omega)] | rw [if_neg (by omega)]))
          all_goals first | rfl | omega
        · refine am_r_iload2 (pc' := 40) rfl rfl ?_
          refine am_r_aload0 (pc' := 41) rfl rfl ?_
          refine am_r_getR (t := 72) (pc' := 44) rfl rfl rfl ?_
          refine am_r_iload1 (pc' := 45) rfl rfl ?_
          refine am_r_iaZv (n := 6) (pc' := 46) rfl rfl rfl (by decide) (hm_n hS (by omega) (by omega)) ?_
          refine am_r_icmp_ge (pt := 53) (pf := 49) rfl rfl rfl (fun h46 => ?_) (fun h46 => ?_)
          · refine am_r_iconst (pc' := 55) rfl rfl ?_
            refine am_r_iret rfl rfl ?_
            refine am_q ?_ hq
            unfold h_pr h_rr at *
            (repeat (first | rw [if_pos (by omega)] | rw [if_neg (by omega)]))
            all_goals first | rfl | omega
          · refine am_r_iconst (pc' := 50) rfl rfl ?_
            refine am_r_goto (pc' := 55) rfl rfl ?_
            refine am_r_iret rfl rfl ?_
            refine am_q ?_ hq
            unfold h_pr h_rr at *
            (repeat (first | rw [if_pos (by omega)] | rw [if_neg (by omega)]))
            all_goals first | rfl | omega
      · refine am_r_iconst (pc' := 34) rfl rfl ?_
        refine am_r_iret rfl rfl ?_
        refine am_q ?_ hq
        unfold h_pr h_rr at *
        (repeat (first | rw [if_pos (by omega)] | rw [if_neg (by omega)]))
        all_goals first | rfl | omega
    · refine am_r_iconst (pc' := 20) rfl rfl ?_
      refine am_r_iret rfl rfl ?_
      refine am_q ?_ hq
      unfold h_pr h_rr at *
      (repeat (first | rw [if_pos (by omega)] | rw [if_neg (by omega)]))
      all_goals first | rfl | omega
  · refine am_r_iconst (pc' := 8) rfl rfl ?_
    refine am_r_iret rfl rfl ?_
    refine am_q ?_ hq
    unfold h_pr h_rr at *
    (repeat (first | rw [if_pos (by omega)] | rw [if_neg (by omega)]))
    all_goals first | rfl | omega
theorem m_asSort {sL : Nat} {xs : Nat → Int32} {d : Nat} {M : Am_M} {Q : Int64 → Am_M → Prop} (hd : 1 ≤ d) {s v : Int} (hs : 0 ≤ s ∧ s ≤ 4) (hv : -9223372036854775808 ≤ v ∧ v < 9223372036854775808) (hq : Q (z_L (h_bb s v)) M) : am_bl sL xs d 254 [.int (z_I s), .long (z_L v)] M Q := by
  obtain ⟨d, rfl⟩ : ∃ e, d = e + 1 := ⟨d - 1, by omega⟩
  have hbb : h_bb s v = if s = 0 then Int.bmod v 256 else if s = 1 then Int.bmod v 65536 else if s = 2 then Int.bmod v 4294967296 else if s = 4 then (if v = 0 then 0 else 1) else v := rfl
  refine am_bl_of (P := am_pX11_asSort) (rt := 3) (nL := 3) (Nat.le_of_ble_eq_true rfl) rfl (Nat.le_of_ble_eq_true rfl) rfl rfl rfl ?_
  refine am_r_iload0 (pc' := 1) rfl rfl ?_
  refine am_r_if_ne (pt := 11) (pf := 4) rfl rfl rfl (fun h1 => ?_) (fun h1 => ?_)
  · refine am_r_iload0 (pc' := 12) rfl rfl ?_
    refine am_r_iconst (pc' := 13) rfl rfl ?_
    refine am_r_icmp_ne (pt := 23) (pf := 16) rfl rfl rfl (fun h13 => ?_) (fun h13 => ?_)
    · refine am_r_iload0 (pc' := 24) rfl rfl ?_
      refine am_r_iconst (pc' := 25) rfl rfl ?_
      refine am_r_icmp_ne (pt := 34) (pf := 28) rfl rfl rfl (fun h25 => ?_) (fun h25 => ?_)
      · refine am_r_iload0 (pc' := 35) rfl rfl ?_
        refine am_r_iconst (pc' := 36) rfl rfl ?_
        refine am_r_icmp_ne (pt := 53) (pf := 39) rfl rfl rfl (fun h36 => ?_) (fun h36 => ?_)
        · refine am_r_lload1 (pc' := 54) rfl rfl ?_
          refine am_r_lret rfl rfl ?_
          rw [hbb] at hq
          first
          | (rw [if_pos (by omega)] at hq; rw [z_b8]; exact hq)
          | (rw [if_neg (by omega), if_pos (by omega)] at hq; rw [z_b16]; exact hq)
          | (rw [if_neg (by omega), if_neg (by omega), if_pos (by omega)] at hq; rw [z_b32]; exact hq)
          | (rw [if_neg (by omega), if_neg (by omega), if_neg (by omega), if_pos (by omega), if_pos (by omega)] at hq; exact hq)
          | (rw [if_neg (by omega), if_neg (by omega), if_neg (by omega), if_pos (by omega), if_neg (by omega)] at hq; exact hq)
          | (rw [if_neg (by omega), if_neg (by omega), if_neg (by omega), if_neg (by omega)] at hq; exact hq)
        · refine am_r_lload1 (pc' := 40) rfl rfl ?_
          refine am_r_lconst (z := 0) (pc' := 41) rfl rfl rfl ?_
          refine am_r_lcmp (pc' := 42) rfl rfl ?_
          refine am_r_lif_eq (pt := 49) (pf := 45) rfl rfl rfl (fun h42 => ?_) (fun h42 => ?_)
          · refine am_r_lconst (z := 0) (pc' := 50) rfl rfl rfl ?_
            refine am_r_goto (pc' := 54) rfl rfl ?_
            refine am_r_lret rfl rfl ?_
            rw [hbb] at hq
            first
            | (rw [if_pos (by omega)] at hq; rw [z_b8]; exact hq)
            | (rw [if_neg (by omega), if_pos (by omega)] at hq; rw [z_b16]; exact hq)
            | (rw [if_neg (by omega), if_neg (by omega), if_pos (by omega)] at hq; rw [z_b32]; exact hq)
            | (rw [if_neg (by omega), if_neg (by omega), if_neg (by omega), if_pos (by omega), if_pos (by omega)] at hq; exact hq)
            | (rw [if_neg (by omega), if_neg (by omega), if_neg (by omega), if_pos (by omega), if_neg (by omega)] at hq; exact hq)
            | (rw [if_neg (by omega), if_neg (by omega), if_neg (by omega), if_neg (by omega)] at hq; exact hq)
          · refine am_r_lconst (z := 1) (pc' := 46) rfl rfl rfl ?_
            refine am_r_goto (pc' := 54) rfl rfl ?_
            refine am_r_lret rfl rfl ?_
            rw [hbb] at hq
            first
            | (rw [if_pos (by omega)] at hq; rw [z_b8]; exact hq)
            | (rw [if_neg (by omega), if_pos (by omega)] at hq; rw [z_b16]; exact hq)
            | (rw [if_neg (by omega), if_neg (by omega), if_pos (by omega)] at hq; rw [z_b32]; exact hq)
            | (rw [if_neg (by omega), if_neg (by omega), if_neg (by omega), if_pos (by omega), if_pos (by omega)] at hq; exact hq)
            | (rw [if_neg (by omega), if_neg (by omega), if_neg (by omega), if_pos (by omega), if_neg (by omega)] at hq; exact hq)
            | (rw [if_neg (by omega), if_neg (by omega), if_neg (by omega), if_neg (by omega)] at hq; exact hq)
      · refine am_r_lload1 (pc' := 29) rfl rfl ?_
        refine am_r_l2i (pc' := 30) rfl rfl ?_
        refine am_r_i2lR (pc' := 31) rfl rfl ?_
        refine am_r_goto (pc' := 54) rfl rfl ?_
        refine am_r_lret rfl rfl ?_
        rw [hbb] at hq
        first
        | (rw [if_pos (by omega)] at hq; rw [z_b8]; exact hq)
        | (rw [if_neg (by omega), if_pos (by omega)] at hq; rw [z_b16]; exact hq)
        | (rw [if_neg (by omega), if_neg (by omega), if_pos (by omega)] at hq; rw [z_b32]; exact hq)
        | (rw [if_neg (by omega), if_neg (by omega), if_neg (by omega), if_pos (by omega), if_pos (by omega)] at hq; exact hq)
        | (rw [if_neg (by omega), if_neg (by omega), if_neg (by omega), if_pos (by omega), if_neg (by omega)] at hq; exact hq)
        | (rw [if_neg (by omega), if_neg (by omega), if_neg (by omega), if_neg (by omega)] at hq; exact hq)
    · refine am_r_lload1 (pc' := 17) rfl rfl ?_
      refine am_r_l2i (pc' := 18) rfl rfl ?_
      refine am_r_i2s (pc' := 19) rfl rfl ?_
      refine am_r_i2lR (pc' := 20) rfl rfl ?_
      refine am_r_goto (pc' := 54) rfl rfl ?_
      refine am_r_lret rfl rfl ?_
      rw [hbb] at hq
      first
      | (rw [if_pos (by omega)] at hq; rw [z_b8]; exact hq)
      | (rw [if_neg (by omega), if_pos (by omega)] at hq; rw [z_b16]; exact hq)
      | (rw [if_neg (by omega), if_neg (by omega), if_pos (by omega)] at hq; rw [z_b32]; exact hq)
      | (rw [if_neg (by omega), if_neg (by omega), if_neg (by omega), if_pos (by omega), if_pos (by omega)] at hq; exact hq)
      | (rw [if_neg (by omega), if_neg (by omega), if_neg (by omega), if_pos (by omega), if_neg (by omega)] at hq; exact hq)
      | (rw [if_neg (by omega), if_neg (by omega), if_neg (by omega), if_neg (by omega)] at hq; exact hq)
  · refine am_r_lload1 (pc' := 5) rfl rfl ?_
    refine am_r_l2i (pc' := 6) rfl rfl ?_
    refine am_r_i2b (pc' := 7) rfl rfl ?_
    refine am_r_i2lR (pc' := 8) rfl rfl ?_
    refine am_r_goto (pc' := 54) rfl rfl ?_
    refine am_r_lret rfl rfl ?_
    rw [hbb] at hq
    first
    | (rw [if_pos (by omega)] at hq; rw [z_b8]; exact hq)
    | (rw [if_neg (by omega), if_pos (by omega)] at hq; rw [z_b16]; exact hq)
    | (rw [if_neg (by omega), if_neg (by omega), if_pos (by omega)] at hq; rw [z_b32]; exact hq)
    | (rw [if_neg (by omega), if_neg (by omega), if_neg (by omega), if_pos (by omega), if_pos (by omega)] at hq; exact hq)
    | (rw [if_neg (by omega), if_neg (by omega), if_neg (by omega), if_pos (by omega), if_neg (by omega)] at hq; exact hq)
    | (rw [if_neg (by omega), if_neg (by omega), if_neg (by omega), if_neg (by omega)] at hq; exact hq)
theorem m_put {sL : Nat} {xs : Nat → Int32} {d : Nat} {M : Am_M} {Q : Int32 → Am_M → Prop} (hd : 4 ≤ d) {η : Hs} (hS : HM M η) {e : Int} (he : -2147483648 ≤ e ∧ e < 2147483648) {i : Int} (hi : -2147483648 ≤ i ∧ i < 2147483648) {v : Int} (hv : -9223372036854775808 ≤ v ∧ v < 9223372036854775808)  (hq : ∀ M', am_fr 71 74 M M' → HM M' (t_put η e i v) → Q (z_I (r_put η e i)) M') : am_bi sL xs d 255 [.ref 53, .int (z_I e), .int (z_I i), .long (z_L v)] M Q := by
  obtain ⟨d, rfl⟩ : ∃ e, d = e + 1 := ⟨d - 1, by omega⟩
  have hrr := h_rr_b η e
  have hpr := h_pr_b η e i
  have hnb : ((0 ≤ e ∧ e < 6) ∧ 50 ≤ h_k η e) → 0 ≤ h_n η e ∧ h_n η e ≤ 60 := fun q => hb_n hS.1 q.1 q.2
  have hkb : (0 ≤ e ∧ e < 6) → -1 ≤ h_k η e ∧ h_k η e ≤ 54 := fun q => hb_k hS.1 q
  refine am_bi_of (P := am_pX11_put) (rt := 1) (nL := 6) (Nat.le_of_ble_eq_true rfl) rfl (Nat.le_of_ble_eq_true rfl) rfl rfl rfl ?_
  refine am_r_aload0 (pc' := 1) rfl rfl ?_
  refine am_r_iload1 (pc' := 2) rfl rfl ?_
  refine am_r_iload2 (pc' := 3) rfl rfl ?_
  refine am_r_invI2 (pc' := 6) rfl rfl rfl (Nat.le_of_ble_eq_true rfl) (m_refusal (by omega) hS (by omega) (by omega) ?_)
  refine am_r_istore5 (pc' := 8) rfl rfl rfl ?_
  refine am_r_iload5 (pc' := 10) rfl rfl ?_
  refine am_r_if_ne (pt := 37) (pf := 13) rfl rfl rfl (fun h10 => ?_) (fun h10 => ?_)
  · refine am_r_iload5 (pc' := 39) rfl rfl ?_
    refine am_r_if_ne (pt := 46) (pf := 42) rfl rfl rfl (fun h39 => ?_) (fun h39 => ?_)
    · refine am_r_iload5 (pc' := 48) rfl rfl ?_
      refine am_r_iret rfl rfl ?_
      rw [show t_put η e i v = η from if_neg h10, show r_put η e i = h_pr η e i from if_neg h10] at hq
      exact hq M (am_fr_rf _ _ _) hS
    · refine am_r_iconst (pc' := 43) rfl rfl ?_
      refine am_r_goto (pc' := 48) rfl rfl ?_
      refine am_r_iret rfl rfl ?_
      exfalso; omega
  · refine am_r_aload0 (pc' := 14) rfl rfl ?_
    refine am_r_getR (t := 73) (pc' := 17) rfl rfl rfl ?_
    refine am_r_iconst (pc' := 19) rfl rfl ?_
    refine am_r_iload1 (pc' := 20) rfl rfl ?_
    refine am_r_imul (pc' := 21) rfl rfl ?_
    refine am_r_iload2 (pc' := 22) rfl rfl ?_
    refine am_r_iadd (pc' := 23) rfl rfl ?_
    refine am_r_aload0 (pc' := 24) rfl rfl ?_
    refine am_r_getR (t := 71) (pc' := 27) rfl rfl rfl ?_
    refine am_r_iload1 (pc' := 28) rfl rfl ?_
    refine am_r_iaZv (n := 6) (pc' := 29) rfl rfl rfl (by decide) (hm_k hS (by omega)) ?_
    refine am_r_iconst (pc' := 31) rfl rfl ?_
    refine am_r_isub (pc' := 32) rfl rfl ?_
    refine am_r_lload3 (pc' := 33) rfl rfl ?_
    refine am_r_ivsL2 (pc' := 36) rfl rfl rfl (Nat.le_of_ble_eq_true rfl) (m_asSort (by omega) (by omega) hv ?_)
    refine am_r_last (n := 360) (pc' := 37) rfl rfl (rfl) (by decide) ?_
    refine am_r_iload5 (pc' := 39) rfl rfl ?_
    refine am_r_if_ne (pt := 46) (pf := 42) rfl rfl rfl (fun h39 => ?_) (fun h39 => ?_)
    · refine am_r_iload5 (pc' := 48) rfl rfl ?_
      refine am_r_iret rfl rfl ?_
      exfalso; omega
    · refine am_r_iconst (pc' := 43) rfl rfl ?_
      refine am_r_goto (pc' := 48) rfl rfl ?_
      refine am_r_iret rfl rfl ?_
      rw [show t_put η e i v = h_set η e (h_k η e, h_n η e, fun j => if j = i then h_bb (h_k η e - 50) v else h_v η e j) from if_pos h10, show r_put η e i = 1 from if_pos h10] at hq
      have hbb := h_bb_b (s := h_k η e - 50) hv
      have hb : HB (h_set η e (h_k η e, h_n η e, fun j => if j = i then h_bb (h_k η e - 50) v else h_v η e j)) := hb_set hS.1 ⟨hkb (by omega), fun q => ⟨hnb (by omega), fun j hj => by
        simp only
        by_cases r : j = i
        · rw [if_pos r]; exact ⟨hbb.1, fun z => hbb.2 (by omega)⟩
        · rw [if_neg r]; exact ⟨hb_v hS.1 (by omega) q hj, fun z => hb_b hS.1 (by omega) z hj⟩⟩⟩
      refine hq _ (am_fr_upL (am_fr_rf _ _ _) (by omega)) (hm_set hS hb (fun x hx q => ⟨rfl, rfl, fun j hj => ?_⟩) ⟨?_, fun q => ⟨?_, fun j hj => ?_⟩⟩)
      · have q2 : ¬ (60 * x + j).toNat = (60 * e + i).toNat := by omega
        simp [am_upL, q2]
      · exact hm_k hS (by omega)
      · exact hm_n hS (by omega) (by omega)
      · have hv2 := hm_v hS (e := e) (i := j) (by omega) (by omega) hj
        show (if 73 = 73 ∧ (60 * e + j).toNat = (60 * e + i).toNat then _ else M.2 73 (60 * e + j).toNat) = z_L (if j = i then h_bb (h_k η e - 50) v else h_v η e j)
        by_cases r : j = i
        · rw [if_pos r, if_pos ⟨rfl, by rw [r]⟩]
        · rw [if_neg r, if_neg (fun w => r (by omega))]
          exact hv2
theorem m_element {sL : Nat} {xs : Nat → Int32} {d : Nat} {M : Am_M} {Q : Int64 → Am_M → Prop} (hd : 4 ≤ d) {η : Hs} (hS : HM M η) {e : Int} (he : -2147483648 ≤ e ∧ e < 2147483648) {i : Int} (hi : -2147483648 ≤ i ∧ i < 2147483648)  (hq : Q (z_L (r_elem η e i)) M) : am_bl sL xs d 256 [.ref 53, .int (z_I e), .int (z_I i)] M Q := by
  obtain ⟨d, rfl⟩ : ∃ e, d = e + 1 := ⟨d - 1, by omega⟩
  have hrr := h_rr_b η e
  have hpr := h_pr_b η e i
  have hnb : ((0 ≤ e ∧ e < 6) ∧ 50 ≤ h_k η e) → 0 ≤ h_n η e ∧ h_n η e ≤ 60 := fun q => hb_n hS.1 q.1 q.2
  have hkb : (0 ≤ e ∧ e < 6) → -1 ≤ h_k η e ∧ h_k η e ≤ 54 := fun q => hb_k hS.1 q
  refine am_bl_of (P := am_pX11_element) (rt := 3) (nL := 3) (Nat.le_of_ble_eq_true rfl) rfl (Nat.le_of_ble_eq_true rfl) rfl rfl rfl ?_
  refine am_r_aload0 (pc' := 1) rfl rfl ?_
  refine am_r_iload1 (pc' := 2) rfl rfl ?_
  refine am_r_iload2 (pc' := 3) rfl rfl ?_
  refine am_r_invI2 (pc' := 6) rfl rfl rfl (Nat.le_of_ble_eq_true rfl) (m_refusal (by omega) hS (by omega) (by omega) ?_)
  refine am_r_if_eq (pt := 15) (pf := 9) rfl rfl rfl (fun h6 => ?_) (fun h6 => ?_)
  · refine am_r_aload0 (pc' := 16) rfl rfl ?_
    refine am_r_getR (t := 73) (pc' := 19) rfl rfl rfl ?_
    refine am_r_iconst (pc' := 21) rfl rfl ?_
    refine am_r_iload1 (pc' := 22) rfl rfl ?_
    refine am_r_imul (pc' := 23) rfl rfl ?_
    refine am_r_iload2 (pc' := 24) rfl rfl ?_
    refine am_r_iadd (pc' := 25) rfl rfl ?_
    refine am_r_laZv (n := 360) (pc' := 26) rfl rfl rfl (by decide) (hm_v hS (by omega) (by omega) (by omega)) ?_
    refine am_r_lret rfl rfl ?_
    first
    | (rw [show r_elem η e i = h_v η e i from if_pos h6] at hq; exact hq)
    | (rw [show r_elem η e i = -9223372036854775808 from if_neg h6] at hq; exact hq)
  · refine am_r_lconst (z := (-9223372036854775808)) (pc' := 12) rfl rfl rfl ?_
    refine am_r_goto (pc' := 26) rfl rfl ?_
    refine am_r_lret rfl rfl ?_
    first
    | (rw [show r_elem η e i = h_v η e i from if_pos h6] at hq; exact hq)
    | (rw [show r_elem η e i = -9223372036854775808 from if_neg h6] at hq; exact hq)
theorem m_shift {sL : Nat} {xs : Nat → Int32} {d : Nat} {M : Am_M} {Q : Int32 → Am_M → Prop} (hd : 3 ≤ d) {η : Hs} (hS : HM M η) {e : Int} (he : -2147483648 ≤ e ∧ e < 2147483648) {i : Int} (hi : -2147483648 ≤ i ∧ i < 2147483648) {f : Int} (hf : -2147483648 ≤ f ∧ f < 2147483648) {j : Int} (hj : -2147483648 ≤ j ∧ j < 2147483648) {n : Int} (hn : -2147483648 ≤ n ∧ n < 2147483648) (hq : ∀ M', am_fr 71 74 M M' → HM M' (t_shift η e i f j n) → Q (z_I (r_shift η e i f j n)) M') : am_bi sL xs d 257 [.ref 53, .int (z_I e), .int (z_I i), .int (z_I f), .int (z_I j), .int (z_I n)] M Q := by
  obtain ⟨d, rfl⟩ : ∃ e, d = e + 1 := ⟨d - 1, by omega⟩
  have hkb : (0 ≤ e ∧ e < 6) → -1 ≤ h_k η e ∧ h_k η e ≤ 54 := fun q => hb_k hS.1 q
  have hkf : (0 ≤ f ∧ f < 6) → -1 ≤ h_k η f ∧ h_k η f ≤ 54 := fun q => hb_k hS.1 q
  have hqr := h_qr_b η e f
  have hne : ((0 ≤ e ∧ e < 6) ∧ 50 ≤ h_k η e) → 0 ≤ h_n η e ∧ h_n η e ≤ 60 := fun q => hb_n hS.1 q.1 q.2
  have hnf : ((0 ≤ f ∧ f < 6) ∧ 50 ≤ h_k η f) → 0 ≤ h_n η f ∧ h_n η f ≤ 60 := fun q => hb_n hS.1 q.1 q.2
  have hloop2 : ∀ (hg : (((0 ≤ e ∧ e < 6) ∧ 0 ≤ f ∧ f < 6) ∧ 50 ≤ h_k η e ∧ h_k η e = h_k η f) ∧ 0 ≤ i ∧ 0 ≤ j ∧ 0 ≤ n ∧ i + n ≤ h_n η e ∧ j + n ≤ h_n η f) (k : Nat) (t : Int) (N : Am_M), (0 ≤ t ∧ t + k = n) → N.1 = M.1 → (∀ q, q ≠ 73 → q ≠ 74 → N.2 q = M.2 q) → (∀ x : Int, 0 ≤ x ∧ x < n → N.2 74 x.toNat = z_L (h_v η e (i + x))) → (∀ x : Nat, N.2 73 x = if 60 * f + j ≤ (x : Int) ∧ (x : Int) < 60 * f + j + t then z_L (h_v η e (i + ((x : Int) - (60 * f + j)))) else M.2 73 x) → am_rw sL xs d am_pX11_shift 1 150 [.ref 53, .int (z_I e), .int (z_I i), .int (z_I f), .int (z_I j), .int (z_I n), .int (z_I t)] [] N (am_pi Q) := by
    intro hg k
    have hhe := hne (by omega)
    have hhf := hnf (by omega)
    induction k with
    | zero =>
      intro t N hk h1 h2 h3 h4
      refine am_r_iload6 (pc' := 152) rfl rfl ?_
      refine am_r_iload5 (pc' := 154) rfl rfl ?_
      refine am_r_icmp_ge (pt := 185) (pf := 157) rfl rfl rfl (fun h154 => ?_) (fun h154 => ?_)
      · refine am_r_iload5 (pc' := 187) rfl rfl ?_
        refine am_r_iret rfl rfl ?_
        have h13 : h_qr η e f = 0 := by omega
        have e0 : h_sp η e i f j n = true := by unfold h_sp; rw [decide_eq_true_eq]; omega
        rw [show t_shift η e i f j n = h_set η f (h_k η f, h_n η f, fun x => if j ≤ x ∧ x < j + n then h_v η e (i + (x - j)) else h_v η f x) from if_pos ⟨h13, e0⟩, show r_shift η e i f j n = n from (if_neg (by omega)).trans (if_pos e0)] at hq
        have hb : HB (h_set η f (h_k η f, h_n η f, fun x => if j ≤ x ∧ x < j + n then h_v η e (i + (x - j)) else h_v η f x)) := hb_set hS.1 ⟨hkf (by omega), fun q => ⟨hnf (by omega), fun x hx => by
          simp only
          by_cases r : j ≤ x ∧ x < j + n
          · rw [if_pos r]
            have := hb_vb hS.1 (e := e) (i := i + (x - j)) (by omega) (by omega) (by omega)
            exact ⟨this.1, fun z => this.2 (by omega)⟩
          · rw [if_neg r]; exact hb_vb hS.1 (by omega) q hx⟩⟩
        refine hq N (fun k hk => ⟨by rw [h1], h2 k (by omega) (by omega)⟩) (hm_set hS hb (fun x hx q => ⟨by rw [h1], by rw [h1], fun y hy => ?_⟩) ⟨?_, fun q => ⟨?_, fun y hy => ?_⟩⟩)
        · rw [h4, if_neg (by omega)]
        · rw [h1]; exact hm_k hS (by omega)
        · rw [h1]; exact hm_n hS (by omega) q
        · have hv2 := hm_v hS (e := f) (i := y) (by omega) q hy
          show N.2 73 (60 * f + y).toNat = z_L (if j ≤ y ∧ y < j + n then h_v η e (i + (y - j)) else h_v η f y)
          rw [h4]
          by_cases r : j ≤ y ∧ y < j + n
          · rw [if_pos r, if_pos (by omega), show i + (((60 * f + y).toNat : Int) - (60 * f + j)) = i + (y - j) by omega]
          · rw [if_neg r, if_neg (by omega)]
            exact hv2
      · exfalso; omega
    | succ k ih =>
      intro t N hk h1 h2 h3 h4
      refine am_r_iload6 (pc' := 152) rfl rfl ?_
      refine am_r_iload5 (pc' := 154) rfl rfl ?_
      refine am_r_icmp_ge (pt := 185) (pf := 157) rfl rfl rfl (fun h154 => ?_) (fun h154 => ?_)
      · exfalso; omega
      · refine am_r_aload0 (pc' := 158) rfl rfl ?_
        refine am_r_getR (t := 73) (pc' := 161) rfl rfl rfl ?_
        refine am_r_iconst (pc' := 163) rfl rfl ?_
        refine am_r_iload3 (pc' := 164) rfl rfl ?_
        refine am_r_imul (pc' := 165) rfl rfl ?_
        refine am_r_iload4 (pc' := 167) rfl rfl ?_
        refine am_r_iadd (pc' := 168) rfl rfl ?_
        refine am_r_iload6 (pc' := 170) rfl rfl ?_
        refine am_r_iadd (pc' := 171) rfl rfl ?_
        refine am_r_aload0 (pc' := 172) rfl rfl ?_
        refine am_r_getR (t := 74) (pc' := 175) rfl rfl rfl ?_
        refine am_r_iload6 (pc' := 177) rfl rfl ?_
        refine am_r_laZv (n := 60) (pc' := 178) rfl rfl rfl (by decide) (h3 t (by omega)) ?_
        refine am_r_last (n := 360) (pc' := 179) rfl rfl (rfl) (by decide) ?_
        refine am_r_iinc6 (pc' := 182) rfl rfl rfl ?_
        refine am_r_goto (pc' := 150) rfl rfl ?_
        refine ih _ _ (by omega) h1 (fun q a b => ?_) (fun x hx => ?_) (fun x => ?_)
        · funext z
          simp [am_upL, a]
          exact congrFun (h2 q a b) z
        · have := h3 x hx
          simpa [am_upL] using this
        · show (if 73 = 73 ∧ x = (60 * f + j + t).toNat then _ else N.2 73 x) = _
          by_cases r : x = (60 * f + j + t).toNat
          · rw [if_pos ⟨rfl, r⟩, if_pos (by omega), show i + ((x : Int) - (60 * f + j)) = i + t by omega]
          · rw [if_neg (fun w => r w.2), h4 x]
            by_cases r2 : 60 * f + j ≤ (x : Int) ∧ (x : Int) < 60 * f + j + t
            · rw [if_pos r2, if_pos (by omega)]
            · rw [if_neg r2, if_neg (by omega)]
  have hloop1 : ∀ (hg : (((0 ≤ e ∧ e < 6) ∧ 0 ≤ f ∧ f < 6) ∧ 50 ≤ h_k η e ∧ h_k η e = h_k η f) ∧ 0 ≤ i ∧ 0 ≤ j ∧ 0 ≤ n ∧ i + n ≤ h_n η e ∧ j + n ≤ h_n η f) (k : Nat) (t : Int) (N : Am_M), (0 ≤ t ∧ t + k = n) → N.1 = M.1 → (∀ q, q ≠ 74 → N.2 q = M.2 q) → (∀ x : Int, 0 ≤ x ∧ x < t → N.2 74 x.toNat = z_L (h_v η e (i + x))) → am_rw sL xs d am_pX11_shift 1 113 [.ref 53, .int (z_I e), .int (z_I i), .int (z_I f), .int (z_I j), .int (z_I n), .int (z_I t)] [] N (am_pi Q) := by
    intro hg k
    have hhe := hne (by omega)
    have hhf := hnf (by omega)
    induction k with
    | zero =>
      intro t N hk h1 h2 h3
      refine am_r_iload6 (pc' := 115) rfl rfl ?_
      refine am_r_iload5 (pc' := 117) rfl rfl ?_
      refine am_r_icmp_ge (pt := 147) (pf := 120) rfl rfl rfl (fun h117 => ?_) (fun h117 => ?_)
      · refine am_r_iconst (pc' := 148) rfl rfl ?_
        refine am_r_istore6 (pc' := 150) rfl rfl rfl ?_
        refine hloop2 hg n.toNat 0 N (by omega) h1 (fun q _ b => h2 q b) (fun x hx => h3 x (by omega)) (fun x => ?_)
        rw [if_neg (by omega), h2 73 (by decide)]
      · exfalso; omega
    | succ k ih =>
      intro t N hk h1 h2 h3
      refine am_r_iload6 (pc' := 115) rfl rfl ?_
      refine am_r_iload5 (pc' := 117) rfl rfl ?_
      refine am_r_icmp_ge (pt := 147) (pf := 120) rfl rfl rfl (fun h117 => ?_) (fun h117 => ?_)
      · exfalso; omega
      · refine am_r_aload0 (pc' := 121) rfl rfl ?_
        refine am_r_getR (t := 74) (pc' := 124) rfl rfl rfl ?_
        refine am_r_iload6 (pc' := 126) rfl rfl ?_
        refine am_r_aload0 (pc' := 127) rfl rfl ?_
        refine am_r_getR (t := 73) (pc' := 130) rfl rfl rfl ?_
        refine am_r_iconst (pc' := 132) rfl rfl ?_
        refine am_r_iload1 (pc' := 133) rfl rfl ?_
        refine am_r_imul (pc' := 134) rfl rfl ?_
        refine am_r_iload2 (pc' := 135) rfl rfl ?_
        refine am_r_iadd (pc' := 136) rfl rfl ?_
        refine am_r_iload6 (pc' := 138) rfl rfl ?_
        refine am_r_iadd (pc' := 139) rfl rfl ?_
        refine am_r_laZv (n := 360) (pc' := 140) rfl rfl rfl (by decide) (show N.2 73 _ = z_L (h_v η e (i + t)) by rw [h2 73 (by decide), show 60 * e + i + t = 60 * e + (i + t) by omega]; exact hm_v hS (by omega) (by omega) (by omega)) ?_
        refine am_r_last (n := 60) (pc' := 141) rfl rfl (rfl) (by decide) ?_
        refine am_r_iinc6 (pc' := 144) rfl rfl rfl ?_
        refine am_r_goto (pc' := 113) rfl rfl ?_
        refine ih _ _ (by omega) h1 (fun q a => ?_) (fun x hx => ?_)
        · funext z
          simp [am_upL, a]
          exact congrFun (h2 q a) z
        · by_cases r : x = t
          · rw [r]; simp [am_upL]
          · have q2 : ¬ x.toNat = t.toNat := by omega
            have := h3 x (by omega)
            simpa [am_upL, q2] using this
  refine am_bi_of (P := am_pX11_shift) (rt := 1) (nL := 7) (Nat.le_of_ble_eq_true rfl) rfl (Nat.le_of_ble_eq_true rfl) rfl rfl rfl ?_
  refine am_r_iload1 (pc' := 1) rfl rfl ?_
  refine am_r_ivsI1 (pc' := 4) rfl rfl rfl (Nat.le_of_ble_eq_true rfl) (m_isShelf (by omega) (by omega) ?_)
  refine am_r_if_eqB (pt := 14) (pf := 7) rfl rfl rfl (fun h4 => ?_) (fun h4 => ?_)
  · refine am_r_iconst (pc' := 15) rfl rfl ?_
    refine am_r_iret rfl rfl ?_
    have e1 : h_qr η e f = -1 := if_pos (by omega)
    rw [show t_shift η e i f j n = η from if_neg (by omega), show r_shift η e i f j n = h_qr η e f from if_pos (by omega), e1] at hq
    exact hq M (am_fr_rf _ _ _) hS
  · refine am_r_iload3 (pc' := 8) rfl rfl ?_
    refine am_r_ivsI1 (pc' := 11) rfl rfl rfl (Nat.le_of_ble_eq_true rfl) (m_isShelf (by omega) (by omega) ?_)
    refine am_r_if_neB (pt := 16) (pf := 14) rfl rfl rfl (fun h11 => ?_) (fun h11 => ?_)
    · refine am_r_aload0 (pc' := 17) rfl rfl ?_
      refine am_r_getR (t := 71) (pc' := 20) rfl rfl rfl ?_
      refine am_r_iload1 (pc' := 21) rfl rfl ?_
      refine am_r_iaZv (n := 6) (pc' := 22) rfl rfl rfl (by decide) (hm_k hS (by omega)) ?_
      refine am_r_if_lt (pt := 34) (pf := 25) rfl rfl rfl (fun h22 => ?_) (fun h22 => ?_)
      · refine am_r_iconst (pc' := 36) rfl rfl ?_
        refine am_r_iret rfl rfl ?_
        have e1 : h_qr η e f = -11 := (if_neg (by omega)).trans (if_pos (by omega))
        rw [show t_shift η e i f j n = η from if_neg (by omega), show r_shift η e i f j n = h_qr η e f from if_pos (by omega), e1] at hq
        exact hq M (am_fr_rf _ _ _) hS
      · refine am_r_aload0 (pc' := 26) rfl rfl ?_
        refine am_r_getR (t := 71) (pc' := 29) rfl rfl rfl ?_
        refine am_r_iload3 (pc' := 30) rfl rfl ?_
        refine am_r_iaZv (n := 6) (pc' := 31) rfl rfl rfl (by decide) (hm_k hS (by omega)) ?_
        refine am_r_if_ge (pt := 37) (pf := 34) rfl rfl rfl (fun h31 => ?_) (fun h31 => ?_)
        · refine am_r_aload0 (pc' := 38) rfl rfl ?_
          refine am_r_getR (t := 71) (pc' := 41) rfl rfl rfl ?_
          refine am_r_iload1 (pc' := 42) rfl rfl ?_
          refine am_r_iaZv (n := 6) (pc' := 43) rfl rfl rfl (by decide) (hm_k hS (by omega)) ?_
          refine am_r_iconst (pc' := 45) rfl rfl ?_
          refine am_r_icmp_lt (pt := 63) (pf := 48) rfl rfl rfl (fun h45 => ?_) (fun h45 => ?_)
          · refine am_r_iconst (pc' := 65) rfl rfl ?_
            refine am_r_iret rfl rfl ?_
            have e1 : h_qr η e f = -12 := (if_neg (by omega)).trans ((if_neg (by omega)).trans (if_pos (by omega)))
            rw [show t_shift η e i f j n = η from if_neg (by omega), show r_shift η e i f j n = h_qr η e f from if_pos (by omega), e1] at hq
            exact hq M (am_fr_rf _ _ _) hS
          · refine am_r_aload0 (pc' := 49) rfl rfl ?_
            refine am_r_getR (t := 71) (pc' := 52) rfl rfl rfl ?_
            refine am_r_iload1 (pc' := 53) rfl rfl ?_
            refine am_r_iaZv (n := 6) (pc' := 54) rfl rfl rfl (by decide) (hm_k hS (by omega)) ?_
            refine am_r_aload0 (pc' := 55) rfl rfl ?_
            refine am_r_getR (t := 71) (pc' := 58) rfl rfl rfl ?_
            refine am_r_iload3 (pc' := 59) rfl rfl ?_
            refine am_r_iaZv (n := 6) (pc' := 60) rfl rfl rfl (by decide) (hm_k hS (by omega)) ?_
            refine am_r_icmp_eq (pt := 66) (pf := 63) rfl rfl rfl (fun h60 => ?_) (fun h60 => ?_)
            · have hhe := hne (by omega)
              have hhf := hnf (by omega)
              refine am_r_iload5 (pc' := 68) rfl rfl ?_
              refine am_r_if_lt (pt := 107) (pf := 71) rfl rfl rfl (fun h68 => ?_) (fun h68 => ?_)
              · refine am_r_iconst (pc' := 109) rfl rfl ?_
                refine am_r_iret rfl rfl ?_
                have e1 : h_qr η e f = 0 := by omega
                have e0 : ¬ h_sp η e i f j n = true := by unfold h_sp; rw [decide_eq_true_eq]; omega
                rw [show t_shift η e i f j n = η from if_neg (fun q => e0 q.2), show r_shift η e i f j n = -13 from (if_neg (by omega)).trans (if_neg e0)] at hq
                exact hq M (am_fr_rf _ _ _) hS
              · refine am_r_iload2 (pc' := 72) rfl rfl ?_
                refine am_r_if_lt (pt := 107) (pf := 75) rfl rfl rfl (fun h72 => ?_) (fun h72 => ?_)
                · refine am_r_iconst (pc' := 109) rfl rfl ?_
                  refine am_r_iret rfl rfl ?_
                  have e1 : h_qr η e f = 0 := by omega
                  have e0 : ¬ h_sp η e i f j n = true := by unfold h_sp; rw [decide_eq_true_eq]; omega
                  rw [show t_shift η e i f j n = η from if_neg (fun q => e0 q.2), show r_shift η e i f j n = -13 from (if_neg (by omega)).trans (if_neg e0)] at hq
                  exact hq M (am_fr_rf _ _ _) hS
                · refine am_r_iload4 (pc' := 77) rfl rfl ?_
                  refine am_r_if_lt (pt := 107) (pf := 80) rfl rfl rfl (fun h77 => ?_) (fun h77 => ?_)
                  · refine am_r_iconst (pc' := 109) rfl rfl ?_
                    refine am_r_iret rfl rfl ?_
                    have e1 : h_qr η e f = 0 := by omega
                    have e0 : ¬ h_sp η e i f j n = true := by unfold h_sp; rw [decide_eq_true_eq]; omega
                    rw [show t_shift η e i f j n = η from if_neg (fun q => e0 q.2), show r_shift η e i f j n = -13 from (if_neg (by omega)).trans (if_neg e0)] at hq
                    exact hq M (am_fr_rf _ _ _) hS
                  · refine am_r_iload2 (pc' := 81) rfl rfl ?_
                    refine am_r_aload0 (pc' := 82) rfl rfl ?_
                    refine am_r_getR (t := 72) (pc' := 85) rfl rfl rfl ?_
                    refine am_r_iload1 (pc' := 86) rfl rfl ?_
                    refine am_r_iaZv (n := 6) (pc' := 87) rfl rfl rfl (by decide) (hm_n hS (by omega) (by omega)) ?_
                    refine am_r_iload5 (pc' := 89) rfl rfl ?_
                    refine am_r_isub (pc' := 90) rfl rfl ?_
                    refine am_r_icmp_gt (pt := 107) (pf := 93) rfl rfl rfl (fun h90 => ?_) (fun h90 => ?_)
                    · refine am_r_iconst (pc' := 109) rfl rfl ?_
                      refine am_r_iret rfl rfl ?_
                      have e1 : h_qr η e f = 0 := by omega
                      have e0 : ¬ h_sp η e i f j n = true := by unfold h_sp; rw [decide_eq_true_eq]; omega
                      rw [show t_shift η e i f j n = η from if_neg (fun q => e0 q.2), show r_shift η e i f j n = -13 from (if_neg (by omega)).trans (if_neg e0)] at hq
                      exact hq M (am_fr_rf _ _ _) hS
                    · refine am_r_iload4 (pc' := 95) rfl rfl ?_
                      refine am_r_aload0 (pc' := 96) rfl rfl ?_
                      refine am_r_getR (t := 72) (pc' := 99) rfl rfl rfl ?_
                      refine am_r_iload3 (pc' := 100) rfl rfl ?_
                      refine am_r_iaZv (n := 6) (pc' := 101) rfl rfl rfl (by decide) (hm_n hS (by omega) (by omega)) ?_
                      refine am_r_iload5 (pc' := 103) rfl rfl ?_
                      refine am_r_isub (pc' := 104) rfl rfl ?_
                      refine am_r_icmp_le (pt := 110) (pf := 107) rfl rfl rfl (fun h104 => ?_) (fun h104 => ?_)
                      · refine am_r_iconst (pc' := 111) rfl rfl ?_
                        refine am_r_istore6 (pc' := 113) rfl rfl rfl ?_
                        exact hloop1 (by omega) n.toNat 0 M (by omega) rfl (fun _ _ => rfl) (fun x hx => by omega)
                      · refine am_r_iconst (pc' := 109) rfl rfl ?_
                        refine am_r_iret rfl rfl ?_
                        have e1 : h_qr η e f = 0 := by omega
                        have e0 : ¬ h_sp η e i f j n = true := by unfold h_sp; rw [decide_eq_true_eq]; omega
                        rw [show t_shift η e i f j n = η from if_neg (fun q => e0 q.2), show r_shift η e i f j n = -13 from (if_neg (by omega)).trans (if_neg e0)] at hq
                        exact hq M (am_fr_rf _ _ _) hS
            · refine am_r_iconst (pc' := 65) rfl rfl ?_
              refine am_r_iret rfl rfl ?_
              have e1 : h_qr η e f = -12 := (if_neg (by omega)).trans ((if_neg (by omega)).trans (if_pos (by omega)))
              rw [show t_shift η e i f j n = η from if_neg (by omega), show r_shift η e i f j n = h_qr η e f from if_pos (by omega), e1] at hq
              exact hq M (am_fr_rf _ _ _) hS
        · refine am_r_iconst (pc' := 36) rfl rfl ?_
          refine am_r_iret rfl rfl ?_
          have e1 : h_qr η e f = -11 := (if_neg (by omega)).trans (if_pos (by omega))
          rw [show t_shift η e i f j n = η from if_neg (by omega), show r_shift η e i f j n = h_qr η e f from if_pos (by omega), e1] at hq
          exact hq M (am_fr_rf _ _ _) hS
    · refine am_r_iconst (pc' := 15) rfl rfl ?_
      refine am_r_iret rfl rfl ?_
      have e1 : h_qr η e f = -1 := if_pos (by omega)
      rw [show t_shift η e i f j n = η from if_neg (by omega), show r_shift η e i f j n = h_qr η e f from if_pos (by omega), e1] at hq
      exact hq M (am_fr_rf _ _ _) hS
def o_B (c : Int) : Int := if c = 3 then 2 else if c = 4 then 1 else if c = 5 then 3 else if c = 7 then 4 else 0
def o_h (c : Int) : Nat := if c = 0 then 0 else if c = 1 ∨ c = 2 ∨ c = 6 then 1 else if c = 3 ∨ c = 4 then 2 else 3
def o_v (w : Int) : Nat → Int → Int
  | 0, c => c
  | j + 1, c => if c = w ∨ c ≤ 0 then c else o_v w j (o_B c)
theorem o_v_u {c w : Int} (hc : 0 ≤ c ∧ c ≤ 7) (hw : 0 ≤ w ∧ w ≤ 7) : o_v w 3 c = w ↔ o_u w 8 c = true := by
  have key : ∀ a : Nat, a < 8 → ∀ b : Nat, b < 8 → (o_v (b : Int) 3 (a : Int) = (b : Int) ↔ o_u (b : Int) 8 (a : Int) = true) := by decide +kernel
  have h := key c.toNat (by omega) w.toNat (by omega)
  rw [Int.toNat_of_nonneg hc.1, Int.toNat_of_nonneg hw.1] at h
  exact h
theorem o_B_h {c : Int} (hc : 1 ≤ c ∧ c ≤ 7) : (0 ≤ o_B c ∧ o_B c ≤ 7) ∧ o_h (o_B c) < o_h c := by
  have key : ∀ a : Nat, a < 8 → 1 ≤ a → (0 ≤ o_B (a : Int) ∧ o_B (a : Int) ≤ 7) ∧ o_h (o_B (a : Int)) < o_h (a : Int) := by decide +kernel
  have h := key c.toNat (by omega) (by omega)
  rw [Int.toNat_of_nonneg (by omega)] at h
  exact h
theorem o_h_b (c : Int) : o_h c ≤ 3 ∧ (o_h c = 0 → c = 0) := by
  unfold o_h
  repeat' split
  all_goals omega
theorem m_above {sL : Nat} {xs : Nat → Int32} {d : Nat} {M : Am_M} {Q : Int32 → Am_M → Prop} (hd : 1 ≤ d) {c : Int} (hc : -2147483648 ≤ c ∧ c < 2147483648)  (hq : Q (z_I (o_B c)) M) : am_bi sL xs d 242 [.int (z_I c)] M Q := by
  obtain ⟨d, rfl⟩ : ∃ e, d = e + 1 := ⟨d - 1, by omega⟩
  refine am_bi_of (P := am_pX11_above) (rt := 1) (nL := 1) (Nat.le_of_ble_eq_true rfl) rfl (Nat.le_of_ble_eq_true rfl) rfl rfl rfl ?_
  refine am_r_iload0 (pc' := 1) rfl rfl ?_
  refine am_r_iconst (pc' := 2) rfl rfl ?_
  refine am_r_icmp_ne (pt := 9) (pf := 5) rfl rfl rfl (fun h2 => ?_) (fun h2 => ?_)
  · refine am_r_iload0 (pc' := 10) rfl rfl ?_
    refine am_r_iconst (pc' := 11) rfl rfl ?_
    refine am_r_icmp_ne (pt := 18) (pf := 14) rfl rfl rfl (fun h11 => ?_) (fun h11 => ?_)
    · refine am_r_iload0 (pc' := 19) rfl rfl ?_
      refine am_r_iconst (pc' := 20) rfl rfl ?_
      refine am_r_icmp_ne (pt := 27) (pf := 23) rfl rfl rfl (fun h20 => ?_) (fun h20 => ?_)
      · refine am_r_iload0 (pc' := 28) rfl rfl ?_
        refine am_r_iconst (pc' := 30) rfl rfl ?_
        refine am_r_icmp_ne (pt := 37) (pf := 33) rfl rfl rfl (fun h30 => ?_) (fun h30 => ?_)
        · refine am_r_iconst (pc' := 38) rfl rfl ?_
          refine am_r_iret rfl rfl ?_
          refine am_q ?_ hq
          unfold o_B
          (repeat (first | rw [if_pos (by omega)] | rw [if_neg (by omega)]))
          all_goals first | rfl | omega
        · refine am_r_iconst (pc' := 34) rfl rfl ?_
          refine am_r_goto (pc' := 38) rfl rfl ?_
          refine am_r_iret rfl rfl ?_
          refine am_q ?_ hq
          unfold o_B
          (repeat (first | rw [if_pos (by omega)] | rw [if_neg (by omega)]))
          all_goals first | rfl | omega
      · refine am_r_iconst (pc' := 24) rfl rfl ?_
        refine am_r_goto (pc' := 38) rfl rfl ?_
        refine am_r_iret rfl rfl ?_
        refine am_q ?_ hq
        unfold o_B
        (repeat (first | rw [if_pos (by omega)] | rw [if_neg (by omega)]))
        all_goals first | rfl | omega
    · refine am_r_iconst (pc' := 15) rfl rfl ?_
      refine am_r_goto (pc' := 38) rfl rfl ?_
      refine am_r_iret rfl rfl ?_
      refine am_q ?_ hq
      unfold o_B
      (repeat (first | rw [if_pos (by omega)] | rw [if_neg (by omega)]))
      all_goals first | rfl | omega
  · refine am_r_iconst (pc' := 6) rfl rfl ?_
    refine am_r_goto (pc' := 38) rfl rfl ?_
    refine am_r_iret rfl rfl ?_
    refine am_q ?_ hq
    unfold o_B
    (repeat (first | rw [if_pos (by omega)] | rw [if_neg (by omega)]))
    all_goals first | rfl | omega
theorem m_taken {sL : Nat} {xs : Nat → Int32} {d : Nat} {M : Am_M} {Q : Int32 → Am_M → Prop} (hd : 3 ≤ d) {η : Hs} (hS : HM M η) {κ : Int → Int} {n : Int} {l : List Int} (hO : QM M κ n l) (hN : HO η n) {e : Int} (he : -2147483648 ≤ e ∧ e < 2147483648) {k : Int} (hk : -2147483648 ≤ k ∧ k < 2147483648) (hq : Q (z_I (r_taken η κ e k)) M) : am_bi sL xs d 258 [.ref 53, .int (z_I e), .int (z_I k)] M Q := by
  obtain ⟨d, rfl⟩ : ∃ e, d = e + 1 := ⟨d - 1, by omega⟩
  have hnb := qm_nb hO
  have hkb : (0 ≤ e ∧ e < 6) → -1 ≤ h_k η e ∧ h_k η e ≤ 54 := fun q => hb_k hS.1 q
  have hend : ∀ (hg : ((0 ≤ e ∧ e < 6) ∧ 0 ≤ k ∧ k < 8) ∧ 0 ≤ h_k η e ∧ h_k η e < 50) (c : Int), (-2147483648 ≤ c ∧ c < 2147483648) → (c = k ↔ o_u k 8 (κ (h_k η e)) = true) → am_rw sL xs d am_pX11_taken 1 75 [.ref 53, .int (z_I e), .int (z_I k), .int (z_I c)] [] M (am_pi Q) := by
    intro hg c hc hu
    have hn3 := hN e (by omega) (by omega)
    have hkk := qm_kb hO (i := h_k η e) (by omega)
    refine am_r_iload3 (pc' := 76) rfl rfl ?_
    refine am_r_iload2 (pc' := 77) rfl rfl ?_
    refine am_r_icmp_ne (pt := 93) (pf := 80) rfl rfl rfl (fun h77 => ?_) (fun h77 => ?_)
    · refine am_r_iconst (pc' := 95) rfl rfl ?_
      refine am_r_iret rfl rfl ?_
      first
      | (rw [show r_taken η κ e k = κ (h_k η e) from (if_pos (by omega)).trans ((if_neg (by omega)).trans ((if_pos (by omega)).trans (if_pos (hu.mp h77))))] at hq; exact hq)
      | (rw [show r_taken η κ e k = -12 from (if_pos (by omega)).trans ((if_neg (by omega)).trans ((if_pos (by omega)).trans (if_neg (fun q => h77 (hu.mpr q)))))] at hq; exact hq)
    · refine am_r_aload0 (pc' := 81) rfl rfl ?_
      refine am_r_aload0 (pc' := 82) rfl rfl ?_
      refine am_r_getR (t := 71) (pc' := 85) rfl rfl rfl ?_
      refine am_r_iload1 (pc' := 86) rfl rfl ?_
      refine am_r_iaZv (n := 6) (pc' := 87) rfl rfl rfl (by decide) (hm_k hS (by omega)) ?_
      refine am_r_invI1 (pc' := 90) rfl rfl rfl (Nat.le_of_ble_eq_true rfl) (m_kindOf2 (by omega) hO (i := h_k η e) (by omega) ?_)
      refine am_r_goto (pc' := 95) rfl rfl ?_
      refine am_r_iret rfl rfl ?_
      first
      | (rw [show r_taken η κ e k = κ (h_k η e) from (if_pos (by omega)).trans ((if_neg (by omega)).trans ((if_pos (by omega)).trans (if_pos (hu.mp h77))))] at hq; exact hq)
      | (rw [show r_taken η κ e k = -12 from (if_pos (by omega)).trans ((if_neg (by omega)).trans ((if_pos (by omega)).trans (if_neg (fun q => h77 (hu.mpr q)))))] at hq; exact hq)
  have hloop : ∀ (hg : ((0 ≤ e ∧ e < 6) ∧ 0 ≤ k ∧ k < 8) ∧ 0 ≤ h_k η e ∧ h_k η e < 50) (j : Nat) (c : Int), (0 ≤ c ∧ c ≤ 7) → o_h c ≤ j → (o_v k j c = k ↔ o_u k 8 (κ (h_k η e)) = true) → am_rw sL xs d am_pX11_taken 1 58 [.ref 53, .int (z_I e), .int (z_I k), .int (z_I c)] [] M (am_pi Q) := by
    intro hg j
    induction j with
    | zero =>
      intro c hc hh hu
      have hb := o_h_b c
      have hu2 : c = k ↔ o_u k 8 (κ (h_k η e)) = true := hu
      refine am_r_iload3 (pc' := 59) rfl rfl ?_
      refine am_r_iload2 (pc' := 60) rfl rfl ?_
      refine am_r_icmp_eq (pt := 75) (pf := 63) rfl rfl rfl (fun h60 => ?_) (fun h60 => ?_)
      · exact hend hg c (by omega) hu2
      · refine am_r_iload3 (pc' := 64) rfl rfl ?_
        refine am_r_if_le (pt := 75) (pf := 67) rfl rfl rfl (fun h64 => ?_) (fun h64 => ?_)
        · exact hend hg c (by omega) hu2
        · exfalso; omega
    | succ j ih =>
      intro c hc hh hu
      refine am_r_iload3 (pc' := 59) rfl rfl ?_
      refine am_r_iload2 (pc' := 60) rfl rfl ?_
      refine am_r_icmp_eq (pt := 75) (pf := 63) rfl rfl rfl (fun h60 => ?_) (fun h60 => ?_)
      · exact hend hg c (by omega) (by rw [show o_v k (j + 1) c = c from if_pos (by omega)] at hu; exact hu)
      · refine am_r_iload3 (pc' := 64) rfl rfl ?_
        refine am_r_if_le (pt := 75) (pf := 67) rfl rfl rfl (fun h64 => ?_) (fun h64 => ?_)
        · exact hend hg c (by omega) (by rw [show o_v k (j + 1) c = c from if_pos (by omega)] at hu; exact hu)
        · have hbh := o_B_h (c := c) (by omega)
          refine am_r_iload3 (pc' := 68) rfl rfl ?_
          refine am_r_ivsI1 (pc' := 71) rfl rfl rfl (Nat.le_of_ble_eq_true rfl) (m_above (by omega) (by omega) ?_)
          refine am_r_istore3 (pc' := 72) rfl rfl rfl ?_
          refine am_r_goto (pc' := 58) rfl rfl ?_
          exact ih _ (by omega) (by omega) (by rw [show o_v k (j + 1) c = o_v k j (o_B c) from if_neg (by omega)] at hu; exact hu)
  refine am_bi_of (P := am_pX11_taken) (rt := 1) (nL := 4) (Nat.le_of_ble_eq_true rfl) rfl (Nat.le_of_ble_eq_true rfl) rfl rfl rfl ?_
  refine am_r_iload1 (pc' := 1) rfl rfl ?_
  refine am_r_ivsI1 (pc' := 4) rfl rfl rfl (Nat.le_of_ble_eq_true rfl) (m_isShelf (by omega) (by omega) ?_)
  refine am_r_if_eqB (pt := 19) (pf := 7) rfl rfl rfl (fun h4 => ?_) (fun h4 => ?_)
  · refine am_r_iconst (pc' := 20) rfl rfl ?_
    refine am_r_iret rfl rfl ?_
    rw [show r_taken η κ e k = -1 from if_neg (by omega)] at hq
    exact hq
  · refine am_r_iload2 (pc' := 8) rfl rfl ?_
    refine am_r_i2l (pc' := 9) rfl rfl ?_
    refine am_r_lconst (z := 0) (pc' := 10) rfl rfl rfl ?_
    refine am_r_lconst (z := 7) (pc' := 13) rfl rfl rfl ?_
    refine am_r_ivsI3 (pc' := 16) rfl rfl rfl (Nat.le_of_ble_eq_true rfl) (m_within (by omega) (by omega) (by omega) (by omega) ?_)
    refine am_r_if_neB (pt := 21) (pf := 19) rfl rfl rfl (fun h16 => ?_) (fun h16 => ?_)
    · refine am_r_aload0 (pc' := 22) rfl rfl ?_
      refine am_r_getR (t := 71) (pc' := 25) rfl rfl rfl ?_
      refine am_r_iload1 (pc' := 26) rfl rfl ?_
      refine am_r_iaZv (n := 6) (pc' := 27) rfl rfl rfl (by decide) (hm_k hS (by omega)) ?_
      refine am_r_if_ge (pt := 33) (pf := 30) rfl rfl rfl (fun h27 => ?_) (fun h27 => ?_)
      · refine am_r_aload0 (pc' := 34) rfl rfl ?_
        refine am_r_getR (t := 71) (pc' := 37) rfl rfl rfl ?_
        refine am_r_iload1 (pc' := 38) rfl rfl ?_
        refine am_r_iaZv (n := 6) (pc' := 39) rfl rfl rfl (by decide) (hm_k hS (by omega)) ?_
        refine am_r_iconst (pc' := 41) rfl rfl ?_
        refine am_r_icmp_lt (pt := 47) (pf := 44) rfl rfl rfl (fun h41 => ?_) (fun h41 => ?_)
        · have hn3 := hN e (by omega) (by omega)
          have hkk := qm_kb hO (i := h_k η e) (by omega)
          refine am_r_aload0 (pc' := 48) rfl rfl ?_
          refine am_r_aload0 (pc' := 49) rfl rfl ?_
          refine am_r_getR (t := 71) (pc' := 52) rfl rfl rfl ?_
          refine am_r_iload1 (pc' := 53) rfl rfl ?_
          refine am_r_iaZv (n := 6) (pc' := 54) rfl rfl rfl (by decide) (hm_k hS (by omega)) ?_
          refine am_r_invI1 (pc' := 57) rfl rfl rfl (Nat.le_of_ble_eq_true rfl) (m_kindOf2 (by omega) hO (i := h_k η e) (by omega) ?_)
          refine am_r_istore3 (pc' := 58) rfl rfl rfl ?_
          exact hloop (by omega) 3 _ (by omega) (o_h_b _).1 (o_v_u (by omega) (by omega))
        · refine am_r_iconst (pc' := 46) rfl rfl ?_
          refine am_r_iret rfl rfl ?_
          rw [show r_taken η κ e k = -12 from (if_pos (by omega)).trans ((if_neg (by omega)).trans (if_neg (by omega)))] at hq
          exact hq
      · refine am_r_iconst (pc' := 32) rfl rfl ?_
        refine am_r_iret rfl rfl ?_
        rw [show r_taken η κ e k = -11 from (if_pos (by omega)).trans (if_pos (by omega))] at hq
        exact hq
    · refine am_r_iconst (pc' := 20) rfl rfl ?_
      refine am_r_iret rfl rfl ?_
      rw [show r_taken η κ e k = -1 from if_neg (by omega)] at hq
      exact hq
theorem m_count {sL : Nat} {xs : Nat → Int32} {d : Nat} {M : Am_M} {Q : Int32 → Am_M → Prop} (hd : 1 ≤ d) {σ : Sg} (hM : SM M σ) {c : Int → Int} {t : Int} (hT : TM M c t) {ε : Cs} (hK : KM M ε σ) {κ : Int → Int} {m : Int} {l : List Int} (hO : QM M κ m l) {w : Int} (hw : -2147483648 ≤ w ∧ w < 2147483648) (hq : Q (z_I (r_count σ t ε.1.1 m l w)) M) : am_bi sL xs d 259 [.ref 53, .int (z_I w)] M Q := by
  obtain ⟨d, rfl⟩ : ∃ e, d = e + 1 := ⟨d - 1, by omega⟩
  refine am_bi_of (P := am_pX11_count) (rt := 1) (nL := 2) (Nat.le_of_ble_eq_true rfl) rfl (Nat.le_of_ble_eq_true rfl) rfl rfl rfl ?_
  refine am_r_iload1 (pc' := 1) rfl rfl ?_
  rcases (show w = 0 ∨ w = 1 ∨ w = 2 ∨ w = 3 ∨ w = 4 ∨ (¬ w = 0 ∧ ¬ w = 1 ∧ ¬ w = 2 ∧ ¬ w = 3 ∧ ¬ w = 4) by omega) with rfl | rfl | rfl | rfl | rfl | hsw1
  · refine am_r_tsw (t := 36) rfl rfl ?_
    refine am_r_aload0 (pc' := 37) rfl rfl ?_
    refine am_r_getIv (f := 6) (pc' := 40) rfl rfl rfl (sm_n hM) ?_
    refine am_r_iret rfl rfl ?_
    first
    | exact hq
    | (rw [show r_count σ t ε.1.1 m l w = -1 from (if_neg (by omega)).trans ((if_neg (by omega)).trans ((if_neg (by omega)).trans ((if_neg (by omega)).trans (if_neg (by omega)))))] at hq; exact hq)
  · refine am_r_tsw (t := 41) rfl rfl ?_
    refine am_r_aload0 (pc' := 42) rfl rfl ?_
    refine am_r_getIv (f := 9) (pc' := 45) rfl rfl rfl (hT.2.2.1) ?_
    refine am_r_iret rfl rfl ?_
    first
    | exact hq
    | (rw [show r_count σ t ε.1.1 m l w = -1 from (if_neg (by omega)).trans ((if_neg (by omega)).trans ((if_neg (by omega)).trans ((if_neg (by omega)).trans (if_neg (by omega)))))] at hq; exact hq)
  · refine am_r_tsw (t := 46) rfl rfl ?_
    refine am_r_aload0 (pc' := 47) rfl rfl ?_
    refine am_r_getIv (f := 5) (pc' := 50) rfl rfl rfl (hK.2.1) ?_
    refine am_r_iret rfl rfl ?_
    first
    | exact hq
    | (rw [show r_count σ t ε.1.1 m l w = -1 from (if_neg (by omega)).trans ((if_neg (by omega)).trans ((if_neg (by omega)).trans ((if_neg (by omega)).trans (if_neg (by omega)))))] at hq; exact hq)
  · refine am_r_tsw (t := 51) rfl rfl ?_
    refine am_r_aload0 (pc' := 52) rfl rfl ?_
    refine am_r_getIv (f := 29) (pc' := 55) rfl rfl rfl (qm_n hO) ?_
    refine am_r_iret rfl rfl ?_
    first
    | exact hq
    | (rw [show r_count σ t ε.1.1 m l w = -1 from (if_neg (by omega)).trans ((if_neg (by omega)).trans ((if_neg (by omega)).trans ((if_neg (by omega)).trans (if_neg (by omega)))))] at hq; exact hq)
  · refine am_r_tsw (t := 56) rfl rfl ?_
    refine am_r_aload0 (pc' := 57) rfl rfl ?_
    refine am_r_getIv (f := 32) (pc' := 60) rfl rfl rfl (qm_r hO) ?_
    refine am_r_iret rfl rfl ?_
    first
    | exact hq
    | (rw [show r_count σ t ε.1.1 m l w = -1 from (if_neg (by omega)).trans ((if_neg (by omega)).trans ((if_neg (by omega)).trans ((if_neg (by omega)).trans (if_neg (by omega)))))] at hq; exact hq)
  · refine am_r_tsw (t := 61) rfl (by rw [if_pos (by omega)]; rfl) ?_
    refine am_r_iconst (pc' := 62) rfl rfl ?_
    refine am_r_iret rfl rfl ?_
    first
    | exact hq
    | (rw [show r_count σ t ε.1.1 m l w = -1 from (if_neg (by omega)).trans ((if_neg (by omega)).trans ((if_neg (by omega)).trans ((if_neg (by omega)).trans (if_neg (by omega)))))] at hq; exact hq)
