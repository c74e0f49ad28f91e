/-! THE TAPE of the class: operands, lines, the whole text -/
variable {M M' : Am_M} {c : Int → Int} {n p : Int} {l : List (Int × Int)}
theorem ts_patch {l1 l2 : List (Int × Int)} (h : TS M c n p (l1 ++ [(5, 0)] ++ l2)) (v : Int) : TS (am_upI M 18 ((l1.length : Int)).toNat (z_I v)) c n p (l1 ++ [(5, v)] ++ l2) := by
  obtain ⟨h1, h2, h3, h4, h5, h6, h7, h8, h9⟩ := h
  have el : (l1 ++ [(5, v)] ++ l2).length = (l1 ++ [((5 : Int), (0 : Int))] ++ l2).length := by simp
  refine ⟨h1, h2, ?_, fun i a b => ?_, h5, ?_, by rw [el]; exact h7, ?_, fun i x e => ?_⟩
  · simp [am_upI, h3]
  · simp [am_upI, h4 i a b]
  · simp [am_upI, h6]
  · rw [el]; simpa [am_upI] using h8
  · rw [List.append_assoc] at e h9
    by_cases q : i < l1.length
    · rw [List.getElem?_append_left q] at e
      have := h9 i x (by rw [List.getElem?_append_left q]; exact e)
      have hne : i ≠ l1.length := by omega
      simpa [am_upI, hne] using this
    · rw [List.getElem?_append_right (by omega)] at e
      by_cases q2 : i = l1.length
      · subst q2
        have h0 := h9 l1.length (5, 0) (by rw [List.getElem?_append_right (by omega)]; simp)
        simp at e
        subst e
        simp [am_upI, h0.1]
      · have := h9 i x (by
          rw [List.getElem?_append_right (by omega)]
          rw [show i - l1.length = (i - l1.length - 1) + 1 by omega] at e ⊢
          simpa using e)
        have hne : i ≠ l1.length := q2
        simpa [am_upI, hne] using this
theorem q_one_d (m : Nat) (h : 48 ≤ c p ∧ c p ≤ 57) : q_one c m p = (true, (q_num c 4 0 p).2, [(1, (q_num c 4 0 p).1)], fun _ => z_I (q_num c 4 0 p).1) := by
  cases m <;> exact if_pos h
theorem q_one_n (m : Nat) (h : ¬ (48 ≤ c p ∧ c p ≤ 57)) (h2 : 0 ≤ q_nm (c p)) : q_one c m p = (true, p + 1, [(2, q_nm (c p))], fun ν => ν (q_nm (c p))) := by
  cases m <;> exact (if_neg h).trans (if_pos h2)
theorem q_one_f0 (h : ¬ (48 ≤ c p ∧ c p ≤ 57)) (h2 : ¬ 0 ≤ q_nm (c p)) : q_one c 0 p = q_no p := (if_neg h).trans (if_neg h2)
theorem q_one_f (m : Nat) (h : ¬ (48 ≤ c p ∧ c p ≤ 57)) (h2 : ¬ 0 ≤ q_nm (c p)) (h3 : ¬ c p = 40 ∧ ¬ c p = 33 ∧ ¬ c p = 45) : q_one c m p = q_no p := by
  cases m with
  | zero => exact q_one_f0 h h2
  | succ m => exact ((if_neg h).trans (if_neg h2)).trans ((if_neg h3.1).trans (if_neg (by omega)))
theorem q_one_c (m : Nat) (h : c p = 40) : q_one c (m + 1) p = q_close c (q_ei (q_one c m) c (p + 1)) := by
  have h2 : ¬ 0 ≤ q_nm (c p) := by rw [h]; decide
  exact ((if_neg (by omega)).trans (if_neg h2)).trans (if_pos h)
theorem q_one_t (m : Nat) (h : c p = 33 ∨ c p = 45) : q_one c (m + 1) p = q_turn (c p) (q_one c m (p + 1)) := by
  have h2 : ¬ 0 ≤ q_nm (c p) := by rcases h with h | h <;> (rw [h]; decide)
  exact ((if_neg (by omega)).trans (if_neg h2)).trans ((if_neg (by omega)).trans (if_pos h))
theorem c_readsClosed {sL : Nat} {xs : Nat → Int32} {o : Int} {D : Nat} {one : Int → q_R} (hD : 2 ≤ D) (hs : q_rd sL xs c n D 90 o one) : q_rd sL xs c n (D + 1) 96 o (fun p => q_close c (one p)) := by
  intro d M Q p l hd hT hl hqT hqF
  obtain ⟨d, rfl⟩ : ∃ e, d = e + 1 := ⟨d - 1, by omega⟩
  have hF := am_ft_rf M
  change ∀ M', am_ft M M' → (q_close c (one p)).1 = true → TS M' c n (q_close c (one p)).2.1 (l ++ (q_close c (one p)).2.2.1) → Q (z_I 1) M' at hqT
  change ∀ M', am_ft M M' → (q_close c (one p)).1 = false → M'.1 15 2 = z_I (q_close c (one p)).2.1 → Q (z_I 0) M' at hqF
  refine am_bi_of (P := am_pX8_readsClosed) (rt := 2) (nL := 2) (Nat.le_of_ble_eq_true rfl) rfl (Nat.le_of_ble_eq_true rfl) rfl rfl rfl ?_
  refine am_r_aload0 (pc' := 1) rfl rfl ?_
  refine am_r_iload1 (pc' := 2) rfl rfl ?_
  refine am_r_invI1 (pc' := 5) rfl rfl rfl (Nat.le_of_ble_eq_true rfl) (hs (by omega) hT hl ?_ ?_)
  · intro M2 hf2 e2 hT2
    have hT := hT2
    have hF := am_ft_tr hF hf2
    have hcb := ts_cb hT
    refine am_r_if_eq (pt := 17) (pf := 8) rfl rfl rfl (fun h5 => by exfalso; omega) (fun h5 => ?_)
    refine am_r_aload0 (pc' := 9) rfl rfl ?_
    refine am_r_invI0 (pc' := 12) rfl rfl rfl (Nat.le_of_ble_eq_true rfl) (c_next (by omega) hT ?_)
    refine am_r_iconst (pc' := 14) rfl rfl ?_
    refine am_r_icmp_eq (pt := 19) (pf := 17) rfl rfl rfl (fun h14 => ?_) (fun h14 => ?_)
    · refine am_r_aload0 (pc' := 20) rfl rfl ?_
      refine am_r_dup (pc' := 21) rfl rfl rfl ?_
      refine am_r_getIv (f := 2) (pc' := 24) rfl rfl rfl (ts_p hT) ?_
      refine am_r_iconst (pc' := 25) rfl rfl ?_
      refine am_r_iadd (pc' := 26) rfl rfl ?_
      refine am_r_putI (f := 2) (pc' := 29) rfl rfl rfl (by decide) ?_
      have e : q_close c (one p) = (true, (one p).2.1 + 1, (one p).2.2.1, (one p).2.2.2) := if_pos ⟨e2, by omega⟩
      rw [e] at hqT
      have hF := am_ft_up (k := 15) (i := 2) (x := z_I ((one p).2.1 + 1)) hF (by omega)
      have hT := ts_inc hT (by omega)
      refine am_r_iconst (pc' := 30) rfl rfl ?_
      refine am_r_zret rfl rfl (by first | exact Or.inr rfl | exact Or.inl rfl | exact z_b_01 _ | assumption) ?_
      exact hqT _ hF rfl hT
    · refine am_r_iconst (pc' := 18) rfl rfl ?_
      refine am_r_zret rfl rfl (by first | exact Or.inr rfl | exact Or.inl rfl | exact z_b_01 _ | assumption) ?_
      first | (rw [show q_close c (one p) = q_no (one p).2.1 from if_neg (by rw [e2]; exact fun q => absurd q.1 (by decide))] at hqF; exact hqF _ hF rfl hp2) | (rw [show q_close c (one p) = q_no (one p).2.1 from if_neg (fun q => by omega)] at hqF; exact hqF _ hF rfl (ts_p hT))
  · intro M2 hf2 e2 hp2
    have hF := am_ft_tr hF hf2
    refine am_r_if_eq (pt := 17) (pf := 8) rfl rfl rfl (fun h5 => ?_) (fun h5 => by exfalso; omega)
    refine am_r_iconst (pc' := 18) rfl rfl ?_
    refine am_r_zret rfl rfl (by first | exact Or.inr rfl | exact Or.inl rfl | exact z_b_01 _ | assumption) ?_
    first | (rw [show q_close c (one p) = q_no (one p).2.1 from if_neg (by rw [e2]; exact fun q => absurd q.1 (by decide))] at hqF; exact hqF _ hF rfl hp2) | (rw [show q_close c (one p) = q_no (one p).2.1 from if_neg (fun q => by omega)] at hqF; exact hqF _ hF rfl (ts_p hT))
theorem c_readsTurned {sL : Nat} {xs : Nat → Int32} {o s : Int} {D d : Nat} {one : Int → q_R} {Q : Int32 → Am_M → Prop} (hg : q_gd n one) (hD : 2 ≤ D) (hs : q_rd sL xs c n D 95 o one) (hd : D + 1 ≤ d) (hs2 : s = 33 ∨ s = 45) (hT : TS M c n p l) (hl : (l.length : Int) ≤ p) (hqT : ∀ M', am_ft M M' → (q_turn s (one p)).1 = true → TS M' c n (q_turn s (one p)).2.1 (l ++ (q_turn s (one p)).2.2.1) → Q (z_I 1) M') (hqF : ∀ M', am_ft M M' → (q_turn s (one p)).1 = false → M'.1 15 2 = z_I (q_turn s (one p)).2.1 → Q (z_I 0) M') : am_bi sL xs d 97 [.ref 15, .int (z_I s), .int (z_I o)] M Q := by
  obtain ⟨d, rfl⟩ : ∃ e, d = e + 1 := ⟨d - 1, by omega⟩
  have hF := am_ft_rf M
  have hnb := ts_nb hT
  have hpb := ts_pb hT
  refine am_bi_of (P := am_pX8_readsTurned) (rt := 2) (nL := 3) (Nat.le_of_ble_eq_true rfl) rfl (Nat.le_of_ble_eq_true rfl) rfl rfl rfl ?_
  refine am_r_aload0 (pc' := 1) rfl rfl ?_
  refine am_r_iload2 (pc' := 2) rfl rfl ?_
  refine am_r_invI1 (pc' := 5) rfl rfl rfl (Nat.le_of_ble_eq_true rfl) (hs (by omega) hT hl ?_ ?_)
  · intro M2 hf2 e2 hT2
    have hT := hT2
    have hF := am_ft_tr hF hf2
    have hg2 := hg p (by omega) (by omega)
    have hg3 := hg2.2.2 e2
    have e : q_turn s (one p) = (true, (one p).2.1, (one p).2.2.1 ++ [(if s = 33 then 3 else 4, 0)], fun ν => if s = 33 then (if (one p).2.2.2 ν = 0 then z_I 1 else z_I 0) else -((one p).2.2.2 ν)) := if_pos e2
    rw [e] at hqT
    refine am_r_if_ne (pt := 10) (pf := 8) rfl rfl rfl (fun h5 => ?_) (fun h5 => by exfalso; omega)
    refine am_r_aload0 (pc' := 11) rfl rfl ?_
    refine am_r_iload1 (pc' := 12) rfl rfl ?_
    refine am_r_iconst (pc' := 14) rfl rfl ?_
    refine am_r_icmp_ne (pt := 21) (pf := 17) rfl rfl rfl (fun h14 => ?_) (fun h14 => ?_)
    · refine am_r_iconst (pc' := 22) rfl rfl ?_
      refine am_r_iconst (pc' := 23) rfl rfl ?_
      refine am_r_invV2 (pc' := 26) rfl rfl rfl (Nat.le_of_ble_eq_true rfl) (c_draft (by omega) hT (by simp only [List.length_append]; omega) ?_)
      · intro M3 hf3 hT3
        have hT := hT3
        have hF := am_ft_tr hF hf3
        refine am_r_iconst (pc' := 27) rfl rfl ?_
        refine am_r_zret rfl rfl (by first | exact Or.inr rfl | exact Or.inl rfl | exact z_b_01 _ | assumption) ?_
        exact hqT _ hF rfl (by simp only [List.append_assoc] at hT ⊢; first | (rw [if_pos (by omega)]; exact hT) | (rw [if_neg (by omega)]; exact hT))
    · refine am_r_iconst (pc' := 18) rfl rfl ?_
      refine am_r_goto (pc' := 22) rfl rfl ?_
      refine am_r_iconst (pc' := 23) rfl rfl ?_
      refine am_r_invV2 (pc' := 26) rfl rfl rfl (Nat.le_of_ble_eq_true rfl) (c_draft (by omega) hT (by simp only [List.length_append]; omega) ?_)
      · intro M3 hf3 hT3
        have hT := hT3
        have hF := am_ft_tr hF hf3
        refine am_r_iconst (pc' := 27) rfl rfl ?_
        refine am_r_zret rfl rfl (by first | exact Or.inr rfl | exact Or.inl rfl | exact z_b_01 _ | assumption) ?_
        exact hqT _ hF rfl (by simp only [List.append_assoc] at hT ⊢; first | (rw [if_pos (by omega)]; exact hT) | (rw [if_neg (by omega)]; exact hT))
  · intro M2 hf2 e2 hp2
    have hF := am_ft_tr hF hf2
    have e : q_turn s (one p) = q_no (one p).2.1 := if_neg (by rw [e2]; decide)
    rw [e] at hqF
    refine am_r_if_ne (pt := 10) (pf := 8) rfl rfl rfl (fun h5 => by exfalso; omega) (fun h5 => ?_)
    refine am_r_iconst (pc' := 9) rfl rfl ?_
    refine am_r_zret rfl rfl (by first | exact Or.inr rfl | exact Or.inl rfl | exact z_b_01 _ | assumption) ?_
    exact hqF _ hF rfl hp2
theorem c_one {sL : Nat} {xs : Nat → Int32} (hc : q_C c n) : ∀ (m : Nat) (o : Int), o = 6 - m → 0 ≤ o → q_rd sL xs c n (3 + 7 * m) 95 o (q_one c m) := by
  intro m
  induction m with
  | zero =>
    intro o ho ho0 d M Q p l hd hT hl hqT hqF
    obtain ⟨d, rfl⟩ : ∃ e, d = e + 1 := ⟨d - 1, by omega⟩
    have hF := am_ft_rf M
    have hnb := ts_nb hT
    have hpb := ts_pb hT
    have hcb := ts_cb hT
    have hnm := q_nm_b (c p)
    refine am_bi_of (P := am_pX8_readsOperand) (rt := 2) (nL := 4) (Nat.le_of_ble_eq_true rfl) rfl (Nat.le_of_ble_eq_true rfl) rfl rfl rfl ?_
    refine am_r_aload0 (pc' := 1) rfl rfl ?_
    refine am_r_invI0 (pc' := 4) rfl rfl rfl (Nat.le_of_ble_eq_true rfl) (c_next (by omega) hT ?_)
    refine am_r_istore2 (pc' := 5) rfl rfl rfl ?_
    refine am_r_iload2 (pc' := 6) rfl rfl ?_
    refine am_r_iconst (pc' := 8) rfl rfl ?_
    refine am_r_icmp_lt (pt := 23) (pf := 11) rfl rfl rfl (fun h8 => ?_) (fun h8 => ?_)
    · refine am_r_iload2 (pc' := 24) rfl rfl ?_
      refine am_r_ivsI1 (pc' := 27) rfl rfl rfl (Nat.le_of_ble_eq_true rfl) (c_nameOf (by omega) (by omega) ?_)
      refine am_r_istore3 (pc' := 28) rfl rfl rfl ?_
      refine am_r_iload3 (pc' := 29) rfl rfl ?_
      refine am_r_if_lt (pt := 50) (pf := 32) rfl rfl rfl (fun h29 => ?_) (fun h29 => ?_)
      · refine am_r_iload2 (pc' := 51) rfl rfl ?_
        refine am_r_iconst (pc' := 53) rfl rfl ?_
        refine am_r_icmp_eq (pt := 68) (pf := 56) rfl rfl rfl (fun h53 => ?_) (fun h53 => ?_)
        · refine am_r_iload1 (pc' := 69) rfl rfl ?_
          refine am_r_iconst (pc' := 71) rfl rfl ?_
          refine am_r_icmp_lt (pt := 76) (pf := 74) rfl rfl rfl (fun h71 => ?_) (fun h71 => ?_)
          · exfalso; omega
          · refine am_r_iconst (pc' := 75) rfl rfl ?_
            refine am_r_zret rfl rfl (by first | exact Or.inr rfl | exact Or.inl rfl | exact z_b_01 _ | assumption) ?_
            rw [q_one_f0 (by omega) (by omega)] at hqF
            exact hqF _ hF rfl (ts_p hT)
        · refine am_r_iload2 (pc' := 57) rfl rfl ?_
          refine am_r_iconst (pc' := 59) rfl rfl ?_
          refine am_r_icmp_eq (pt := 68) (pf := 62) rfl rfl rfl (fun h59 => ?_) (fun h59 => ?_)
          · refine am_r_iload1 (pc' := 69) rfl rfl ?_
            refine am_r_iconst (pc' := 71) rfl rfl ?_
            refine am_r_icmp_lt (pt := 76) (pf := 74) rfl rfl rfl (fun h71 => ?_) (fun h71 => ?_)
            · exfalso; omega
            · refine am_r_iconst (pc' := 75) rfl rfl ?_
              refine am_r_zret rfl rfl (by first | exact Or.inr rfl | exact Or.inl rfl | exact z_b_01 _ | assumption) ?_
              rw [q_one_f0 (by omega) (by omega)] at hqF
              exact hqF _ hF rfl (ts_p hT)
          · refine am_r_iload2 (pc' := 63) rfl rfl ?_
            refine am_r_iconst (pc' := 65) rfl rfl ?_
            refine am_r_icmp_ne (pt := 74) (pf := 68) rfl rfl rfl (fun h65 => ?_) (fun h65 => ?_)
            · refine am_r_iconst (pc' := 75) rfl rfl ?_
              refine am_r_zret rfl rfl (by first | exact Or.inr rfl | exact Or.inl rfl | exact z_b_01 _ | assumption) ?_
              rw [q_one_f0 (by omega) (by omega)] at hqF
              exact hqF _ hF rfl (ts_p hT)
            · refine am_r_iload1 (pc' := 69) rfl rfl ?_
              refine am_r_iconst (pc' := 71) rfl rfl ?_
              refine am_r_icmp_lt (pt := 76) (pf := 74) rfl rfl rfl (fun h71 => ?_) (fun h71 => ?_)
              · exfalso; omega
              · refine am_r_iconst (pc' := 75) rfl rfl ?_
                refine am_r_zret rfl rfl (by first | exact Or.inr rfl | exact Or.inl rfl | exact z_b_01 _ | assumption) ?_
                rw [q_one_f0 (by omega) (by omega)] at hqF
                exact hqF _ hF rfl (ts_p hT)
      · refine am_r_aload0 (pc' := 33) rfl rfl ?_
        refine am_r_dup (pc' := 34) rfl rfl rfl ?_
        refine am_r_getIv (f := 2) (pc' := 37) rfl rfl rfl (ts_p hT) ?_
        refine am_r_iconst (pc' := 38) rfl rfl ?_
        refine am_r_iadd (pc' := 39) rfl rfl ?_
        refine am_r_putI (f := 2) (pc' := 42) rfl rfl rfl (by decide) ?_
        have hF := am_ft_up (k := 15) (i := 2) (x := z_I (p + 1)) hF (by omega)
        have hT := ts_inc hT (by omega)
        refine am_r_aload0 (pc' := 43) rfl rfl ?_
        refine am_r_iconst (pc' := 44) rfl rfl ?_
        refine am_r_iload3 (pc' := 45) rfl rfl ?_
        refine am_r_invV2 (pc' := 48) rfl rfl rfl (Nat.le_of_ble_eq_true rfl) (c_draft (by omega) hT (by omega) ?_)
        · intro M3 hf3 hT3
          have hT := hT3
          have hF := am_ft_tr hF hf3
          rw [q_one_n 0 (by omega) (by omega)] at hqT
          refine am_r_iconst (pc' := 49) rfl rfl ?_
          refine am_r_zret rfl rfl (by first | exact Or.inr rfl | exact Or.inl rfl | exact z_b_01 _ | assumption) ?_
          exact hqT _ hF rfl hT
    · refine am_r_iload2 (pc' := 12) rfl rfl ?_
      refine am_r_iconst (pc' := 14) rfl rfl ?_
      refine am_r_icmp_gt (pt := 23) (pf := 17) rfl rfl rfl (fun h14 => ?_) (fun h14 => ?_)
      · refine am_r_iload2 (pc' := 24) rfl rfl ?_
        refine am_r_ivsI1 (pc' := 27) rfl rfl rfl (Nat.le_of_ble_eq_true rfl) (c_nameOf (by omega) (by omega) ?_)
        refine am_r_istore3 (pc' := 28) rfl rfl rfl ?_
        refine am_r_iload3 (pc' := 29) rfl rfl ?_
        refine am_r_if_lt (pt := 50) (pf := 32) rfl rfl rfl (fun h29 => ?_) (fun h29 => ?_)
        · refine am_r_iload2 (pc' := 51) rfl rfl ?_
          refine am_r_iconst (pc' := 53) rfl rfl ?_
          refine am_r_icmp_eq (pt := 68) (pf := 56) rfl rfl rfl (fun h53 => ?_) (fun h53 => ?_)
          · refine am_r_iload1 (pc' := 69) rfl rfl ?_
            refine am_r_iconst (pc' := 71) rfl rfl ?_
            refine am_r_icmp_lt (pt := 76) (pf := 74) rfl rfl rfl (fun h71 => ?_) (fun h71 => ?_)
            · exfalso; omega
            · refine am_r_iconst (pc' := 75) rfl rfl ?_
              refine am_r_zret rfl rfl (by first | exact Or.inr rfl | exact Or.inl rfl | exact z_b_01 _ | assumption) ?_
              rw [q_one_f0 (by omega) (by omega)] at hqF
              exact hqF _ hF rfl (ts_p hT)
          · refine am_r_iload2 (pc' := 57) rfl rfl ?_
            refine am_r_iconst (pc' := 59) rfl rfl ?_
            refine am_r_icmp_eq (pt := 68) (pf := 62) rfl rfl rfl (fun h59 => ?_) (fun h59 => ?_)
            · refine am_r_iload1 (pc' := 69) rfl rfl ?_
              refine am_r_iconst (pc' := 71) rfl rfl ?_
              refine am_r_icmp_lt (pt := 76) (pf := 74) rfl rfl rfl (fun h71 => ?_) (fun h71 => ?_)
              · exfalso; omega
              · refine am_r_iconst (pc' := 75) rfl rfl ?_
                refine am_r_zret rfl rfl (by first | exact Or.inr rfl | exact Or.inl rfl | exact z_b_01 _ | assumption) ?_
                rw [q_one_f0 (by omega) (by omega)] at hqF
                exact hqF _ hF rfl (ts_p hT)
            · refine am_r_iload2 (pc' := 63) rfl rfl ?_
              refine am_r_iconst (pc' := 65) rfl rfl ?_
              refine am_r_icmp_ne (pt := 74) (pf := 68) rfl rfl rfl (fun h65 => ?_) (fun h65 => ?_)
              · refine am_r_iconst (pc' := 75) rfl rfl ?_
                refine am_r_zret rfl rfl (by first | exact Or.inr rfl | exact Or.inl rfl | exact z_b_01 _ | assumption) ?_
                rw [q_one_f0 (by omega) (by omega)] at hqF
                exact hqF _ hF rfl (ts_p hT)
              · refine am_r_iload1 (pc' := 69) rfl rfl ?_
                refine am_r_iconst (pc' := 71) rfl rfl ?_
                refine am_r_icmp_lt (pt := 76) (pf := 74) rfl rfl rfl (fun h71 => ?_) (fun h71 => ?_)
                · exfalso; omega
                · refine am_r_iconst (pc' := 75) rfl rfl ?_
                  refine am_r_zret rfl rfl (by first | exact Or.inr rfl | exact Or.inl rfl | exact z_b_01 _ | assumption) ?_
                  rw [q_one_f0 (by omega) (by omega)] at hqF
                  exact hqF _ hF rfl (ts_p hT)
        · refine am_r_aload0 (pc' := 33) rfl rfl ?_
          refine am_r_dup (pc' := 34) rfl rfl rfl ?_
          refine am_r_getIv (f := 2) (pc' := 37) rfl rfl rfl (ts_p hT) ?_
          refine am_r_iconst (pc' := 38) rfl rfl ?_
          refine am_r_iadd (pc' := 39) rfl rfl ?_
          refine am_r_putI (f := 2) (pc' := 42) rfl rfl rfl (by decide) ?_
          have hF := am_ft_up (k := 15) (i := 2) (x := z_I (p + 1)) hF (by omega)
          have hT := ts_inc hT (by omega)
          refine am_r_aload0 (pc' := 43) rfl rfl ?_
          refine am_r_iconst (pc' := 44) rfl rfl ?_
          refine am_r_iload3 (pc' := 45) rfl rfl ?_
          refine am_r_invV2 (pc' := 48) rfl rfl rfl (Nat.le_of_ble_eq_true rfl) (c_draft (by omega) hT (by omega) ?_)
          · intro M3 hf3 hT3
            have hT := hT3
            have hF := am_ft_tr hF hf3
            rw [q_one_n 0 (by omega) (by omega)] at hqT
            refine am_r_iconst (pc' := 49) rfl rfl ?_
            refine am_r_zret rfl rfl (by first | exact Or.inr rfl | exact Or.inl rfl | exact z_b_01 _ | assumption) ?_
            exact hqT _ hF rfl hT
      · refine am_r_aload0 (pc' := 18) rfl rfl ?_
        refine am_r_invV0 (pc' := 21) rfl rfl rfl (Nat.le_of_ble_eq_true rfl) (c_readNumber (by omega) hT (by omega) (by omega) ?_)
        · intro M3 hf3 hT3
          have hT := hT3
          have hF := am_ft_tr hF hf3
          rw [q_one_d 0 (by omega)] at hqT
          refine am_r_iconst (pc' := 22) rfl rfl ?_
          refine am_r_zret rfl rfl (by first | exact Or.inr rfl | exact Or.inl rfl | exact z_b_01 _ | assumption) ?_
          exact hqT _ hF rfl hT
  | succ m ih =>
    have h0 := @ih (6 - m) rfl
    have hei : 0 ≤ (6 : Int) - m → q_rd sL xs c n (3 + 7 * m + 5) 90 (6 - m) (q_ei (q_one c m) c) := fun q => by
      obtain ⟨g1, g2, g3, g4, _⟩ := q_ei_gd hc (q_one_gd hc m)
      exact c_readsEither g4 (by omega) (c_readsBoth g3 (by omega) (c_readsCompared g2 (by omega) (c_readsSum g1 (by omega) (c_readsProduct (q_one_gd hc m) (by omega) (h0 q)))))
    intro o ho ho0 d M Q p l hd hT hl hqT hqF
    obtain ⟨d, rfl⟩ : ∃ e, d = e + 1 := ⟨d - 1, by omega⟩
    have hF := am_ft_rf M
    have hnb := ts_nb hT
    have hpb := ts_pb hT
    have hcb := ts_cb hT
    have hnm := q_nm_b (c p)
    refine am_bi_of (P := am_pX8_readsOperand) (rt := 2) (nL := 4) (Nat.le_of_ble_eq_true rfl) rfl (Nat.le_of_ble_eq_true rfl) rfl rfl rfl ?_
    refine am_r_aload0 (pc' := 1) rfl rfl ?_
    refine am_r_invI0 (pc' := 4) rfl rfl rfl (Nat.le_of_ble_eq_true rfl) (c_next (by omega) hT ?_)
    refine am_r_istore2 (pc' := 5) rfl rfl rfl ?_
    refine am_r_iload2 (pc' := 6) rfl rfl ?_
    refine am_r_iconst (pc' := 8) rfl rfl ?_
    refine am_r_icmp_lt (pt := 23) (pf := 11) rfl rfl rfl (fun h8 => ?_) (fun h8 => ?_)
    · refine am_r_iload2 (pc' := 24) rfl rfl ?_
      refine am_r_ivsI1 (pc' := 27) rfl rfl rfl (Nat.le_of_ble_eq_true rfl) (c_nameOf (by omega) (by omega) ?_)
      refine am_r_istore3 (pc' := 28) rfl rfl rfl ?_
      refine am_r_iload3 (pc' := 29) rfl rfl ?_
      refine am_r_if_lt (pt := 50) (pf := 32) rfl rfl rfl (fun h29 => ?_) (fun h29 => ?_)
      · refine am_r_iload2 (pc' := 51) rfl rfl ?_
        refine am_r_iconst (pc' := 53) rfl rfl ?_
        refine am_r_icmp_eq (pt := 68) (pf := 56) rfl rfl rfl (fun h53 => ?_) (fun h53 => ?_)
        · refine am_r_iload1 (pc' := 69) rfl rfl ?_
          refine am_r_iconst (pc' := 71) rfl rfl ?_
          refine am_r_icmp_lt (pt := 76) (pf := 74) rfl rfl rfl (fun h71 => ?_) (fun h71 => ?_)
          · refine am_r_aload0 (pc' := 77) rfl rfl ?_
            refine am_r_dup (pc' := 78) rfl rfl rfl ?_
            refine am_r_getIv (f := 2) (pc' := 81) rfl rfl rfl (ts_p hT) ?_
            refine am_r_iconst (pc' := 82) rfl rfl ?_
            refine am_r_iadd (pc' := 83) rfl rfl ?_
            refine am_r_putI (f := 2) (pc' := 86) rfl rfl rfl (by decide) ?_
            have hF := am_ft_up (k := 15) (i := 2) (x := z_I (p + 1)) hF (by omega)
            have hT := ts_inc hT (by omega)
            refine am_r_iload2 (pc' := 87) rfl rfl ?_
            refine am_r_iconst (pc' := 89) rfl rfl ?_
            refine am_r_icmp_ne (pt := 102) (pf := 92) rfl rfl rfl (fun h89 => ?_) (fun h89 => ?_)
            · refine am_r_aload0 (pc' := 103) rfl rfl ?_
              refine am_r_iload2 (pc' := 104) rfl rfl ?_
              refine am_r_iload1 (pc' := 105) rfl rfl ?_
              refine am_r_iconst (pc' := 106) rfl rfl ?_
              refine am_r_iadd (pc' := 107) rfl rfl ?_
              rw [show o + 1 = 6 - (m : Int) by omega]
              refine am_r_invI2 (pc' := 110) rfl rfl rfl (Nat.le_of_ble_eq_true rfl) (c_readsTurned (q_one_gd hc m) (by omega) (h0 (by omega)) (by omega) (by omega) hT (by omega) ?_ ?_)
              · intro M2 hf2 e2 hT2
                rw [q_one_t m (by omega)] at hqT
                refine am_r_zret rfl rfl (Or.inr rfl) ?_
                exact hqT _ (am_ft_tr hF hf2) e2 hT2
              · intro M2 hf2 e2 hp2
                rw [q_one_t m (by omega)] at hqF
                refine am_r_zret rfl rfl (Or.inl rfl) ?_
                exact hqF _ (am_ft_tr hF hf2) e2 hp2
            · refine am_r_aload0 (pc' := 93) rfl rfl ?_
              refine am_r_iload1 (pc' := 94) rfl rfl ?_
              refine am_r_iconst (pc' := 95) rfl rfl ?_
              refine am_r_iadd (pc' := 96) rfl rfl ?_
              rw [show o + 1 = 6 - (m : Int) by omega]
              refine am_r_invI1 (pc' := 99) rfl rfl rfl (Nat.le_of_ble_eq_true rfl) (c_readsClosed (by omega) (hei (by omega)) (by omega) hT (by omega) ?_ ?_)
              · intro M2 hf2 e2 hT2
                rw [q_one_c m (by omega)] at hqT
                refine am_r_goto (pc' := 110) rfl rfl ?_
                refine am_r_zret rfl rfl (Or.inr rfl) ?_
                exact hqT _ (am_ft_tr hF hf2) e2 hT2
              · intro M2 hf2 e2 hp2
                rw [q_one_c m (by omega)] at hqF
                refine am_r_goto (pc' := 110) rfl rfl ?_
                refine am_r_zret rfl rfl (Or.inl rfl) ?_
                exact hqF _ (am_ft_tr hF hf2) e2 hp2
          · refine am_r_iconst (pc' := 75) rfl rfl ?_
            refine am_r_zret rfl rfl (by first | exact Or.inr rfl | exact Or.inl rfl | exact z_b_01 _ | assumption) ?_
            first | (exfalso; omega) | (rw [q_one_f (m + 1) (by omega) (by omega) (by omega)] at hqF; exact hqF _ hF rfl (ts_p hT))
        · refine am_r_iload2 (pc' := 57) rfl rfl ?_
          refine am_r_iconst (pc' := 59) rfl rfl ?_
          refine am_r_icmp_eq (pt := 68) (pf := 62) rfl rfl rfl (fun h59 => ?_) (fun h59 => ?_)
          · refine am_r_iload1 (pc' := 69) rfl rfl ?_
            refine am_r_iconst (pc' := 71) rfl rfl ?_
            refine am_r_icmp_lt (pt := 76) (pf := 74) rfl rfl rfl (fun h71 => ?_) (fun h71 => ?_)
            · refine am_r_aload0 (pc' := 77) rfl rfl ?_
              refine am_r_dup (pc' := 78) rfl rfl rfl ?_
              refine am_r_getIv (f := 2) (pc' := 81) rfl rfl rfl (ts_p hT) ?_
              refine am_r_iconst (pc' := 82) rfl rfl ?_
              refine am_r_iadd (pc' := 83) rfl rfl ?_
              refine am_r_putI (f := 2) (pc' := 86) rfl rfl rfl (by decide) ?_
              have hF := am_ft_up (k := 15) (i := 2) (x := z_I (p + 1)) hF (by omega)
              have hT := ts_inc hT (by omega)
              refine am_r_iload2 (pc' := 87) rfl rfl ?_
              refine am_r_iconst (pc' := 89) rfl rfl ?_
              refine am_r_icmp_ne (pt := 102) (pf := 92) rfl rfl rfl (fun h89 => ?_) (fun h89 => ?_)
              · refine am_r_aload0 (pc' := 103) rfl rfl ?_
                refine am_r_iload2 (pc' := 104) rfl rfl ?_
                refine am_r_iload1 (pc' := 105) rfl rfl ?_
                refine am_r_iconst (pc' := 106) rfl rfl ?_
                refine am_r_iadd (pc' := 107) rfl rfl ?_
                rw [show o + 1 = 6 - (m : Int) by omega]
                refine am_r_invI2 (pc' := 110) rfl rfl rfl (Nat.le_of_ble_eq_true rfl) (c_readsTurned (q_one_gd hc m) (by omega) (h0 (by omega)) (by omega) (by omega) hT (by omega) ?_ ?_)
                · intro M2 hf2 e2 hT2
                  rw [q_one_t m (by omega)] at hqT
                  refine am_r_zret rfl rfl (Or.inr rfl) ?_
                  exact hqT _ (am_ft_tr hF hf2) e2 hT2
                · intro M2 hf2 e2 hp2
                  rw [q_one_t m (by omega)] at hqF
                  refine am_r_zret rfl rfl (Or.inl rfl) ?_
                  exact hqF _ (am_ft_tr hF hf2) e2 hp2
              · refine am_r_aload0 (pc' := 93) rfl rfl ?_
                refine am_r_iload1 (pc' := 94) rfl rfl ?_
                refine am_r_iconst (pc' := 95) rfl rfl ?_
                refine am_r_iadd (pc' := 96) rfl rfl ?_
                rw [show o + 1 = 6 - (m : Int) by omega]
                refine am_r_invI1 (pc' := 99) rfl rfl rfl (Nat.le_of_ble_eq_true rfl) (c_readsClosed (by omega) (hei (by omega)) (by omega) hT (by omega) ?_ ?_)
                · intro M2 hf2 e2 hT2
                  rw [q_one_c m (by omega)] at hqT
                  refine am_r_goto (pc' := 110) rfl rfl ?_
                  refine am_r_zret rfl rfl (Or.inr rfl) ?_
                  exact hqT _ (am_ft_tr hF hf2) e2 hT2
                · intro M2 hf2 e2 hp2
                  rw [q_one_c m (by omega)] at hqF
                  refine am_r_goto (pc' := 110) rfl rfl ?_
                  refine am_r_zret rfl rfl (Or.inl rfl) ?_
                  exact hqF _ (am_ft_tr hF hf2) e2 hp2
            · refine am_r_iconst (pc' := 75) rfl rfl ?_
              refine am_r_zret rfl rfl (by first | exact Or.inr rfl | exact Or.inl rfl | exact z_b_01 _ | assumption) ?_
              first | (exfalso; omega) | (rw [q_one_f (m + 1) (by omega) (by omega) (by omega)] at hqF; exact hqF _ hF rfl (ts_p hT))
          · refine am_r_iload2 (pc' := 63) rfl rfl ?_
            refine am_r_iconst (pc' := 65) rfl rfl ?_
            refine am_r_icmp_ne (pt := 74) (pf := 68) rfl rfl rfl (fun h65 => ?_) (fun h65 => ?_)
            · refine am_r_iconst (pc' := 75) rfl rfl ?_
              refine am_r_zret rfl rfl (by first | exact Or.inr rfl | exact Or.inl rfl | exact z_b_01 _ | assumption) ?_
              first | (exfalso; omega) | (rw [q_one_f (m + 1) (by omega) (by omega) (by omega)] at hqF; exact hqF _ hF rfl (ts_p hT))
            · refine am_r_iload1 (pc' := 69) rfl rfl ?_
              refine am_r_iconst (pc' := 71) rfl rfl ?_
              refine am_r_icmp_lt (pt := 76) (pf := 74) rfl rfl rfl (fun h71 => ?_) (fun h71 => ?_)
              · refine am_r_aload0 (pc' := 77) rfl rfl ?_
                refine am_r_dup (pc' := 78) rfl rfl rfl ?_
                refine am_r_getIv (f := 2) (pc' := 81) rfl rfl rfl (ts_p hT) ?_
                refine am_r_iconst (pc' := 82) rfl rfl ?_
                refine am_r_iadd (pc' := 83) rfl rfl ?_
                refine am_r_putI (f := 2) (pc' := 86) rfl rfl rfl (by decide) ?_
                have hF := am_ft_up (k := 15) (i := 2) (x := z_I (p + 1)) hF (by omega)
                have hT := ts_inc hT (by omega)
                refine am_r_iload2 (pc' := 87) rfl rfl ?_
                refine am_r_iconst (pc' := 89) rfl rfl ?_
                refine am_r_icmp_ne (pt := 102) (pf := 92) rfl rfl rfl (fun h89 => ?_) (fun h89 => ?_)
                · refine am_r_aload0 (pc' := 103) rfl rfl ?_
                  refine am_r_iload2 (pc' := 104) rfl rfl ?_
                  refine am_r_iload1 (pc' := 105) rfl rfl ?_
                  refine am_r_iconst (pc' := 106) rfl rfl ?_
                  refine am_r_iadd (pc' := 107) rfl rfl ?_
                  rw [show o + 1 = 6 - (m : Int) by omega]
                  refine am_r_invI2 (pc' := 110) rfl rfl rfl (Nat.le_of_ble_eq_true rfl) (c_readsTurned (q_one_gd hc m) (by omega) (h0 (by omega)) (by omega) (by omega) hT (by omega) ?_ ?_)
                  · intro M2 hf2 e2 hT2
                    rw [q_one_t m (by omega)] at hqT
                    refine am_r_zret rfl rfl (Or.inr rfl) ?_
                    exact hqT _ (am_ft_tr hF hf2) e2 hT2
                  · intro M2 hf2 e2 hp2
                    rw [q_one_t m (by omega)] at hqF
                    refine am_r_zret rfl rfl (Or.inl rfl) ?_
                    exact hqF _ (am_ft_tr hF hf2) e2 hp2
                · refine am_r_aload0 (pc' := 93) rfl rfl ?_
                  refine am_r_iload1 (pc' := 94) rfl rfl ?_
                  refine am_r_iconst (pc' := 95) rfl rfl ?_
                  refine am_r_iadd (pc' := 96) rfl rfl ?_
                  rw [show o + 1 = 6 - (m : Int) by omega]
                  refine am_r_invI1 (pc' := 99) rfl rfl rfl (Nat.le_of_ble_eq_true rfl) (c_readsClosed (by omega) (hei (by omega)) (by omega) hT (by omega) ?_ ?_)
                  · intro M2 hf2 e2 hT2
                    rw [q_one_c m (by omega)] at hqT
                    refine am_r_goto (pc' := 110) rfl rfl ?_
                    refine am_r_zret rfl rfl (Or.inr rfl) ?_
                    exact hqT _ (am_ft_tr hF hf2) e2 hT2
                  · intro M2 hf2 e2 hp2
                    rw [q_one_c m (by omega)] at hqF
                    refine am_r_goto (pc' := 110) rfl rfl ?_
                    refine am_r_zret rfl rfl (Or.inl rfl) ?_
                    exact hqF _ (am_ft_tr hF hf2) e2 hp2
              · refine am_r_iconst (pc' := 75) rfl rfl ?_
                refine am_r_zret rfl rfl (by first | exact Or.inr rfl | exact Or.inl rfl | exact z_b_01 _ | assumption) ?_
                first | (exfalso; omega) | (rw [q_one_f (m + 1) (by omega) (by omega) (by omega)] at hqF; exact hqF _ hF rfl (ts_p hT))
      · refine am_r_aload0 (pc' := 33) rfl rfl ?_
        refine am_r_dup (pc' := 34) rfl rfl rfl ?_
        refine am_r_getIv (f := 2) (pc' := 37) rfl rfl rfl (ts_p hT) ?_
        refine am_r_iconst (pc' := 38) rfl rfl ?_
        refine am_r_iadd (pc' := 39) rfl rfl ?_
        refine am_r_putI (f := 2) (pc' := 42) rfl rfl rfl (by decide) ?_
        have hF := am_ft_up (k := 15) (i := 2) (x := z_I (p + 1)) hF (by omega)
        have hT := ts_inc hT (by omega)
        refine am_r_aload0 (pc' := 43) rfl rfl ?_
        refine am_r_iconst (pc' := 44) rfl rfl ?_
        refine am_r_iload3 (pc' := 45) rfl rfl ?_
        refine am_r_invV2 (pc' := 48) rfl rfl rfl (Nat.le_of_ble_eq_true rfl) (c_draft (by omega) hT (by omega) ?_)
        · intro M3 hf3 hT3
          have hT := hT3
          have hF := am_ft_tr hF hf3
          rw [q_one_n (m + 1) (by omega) (by omega)] at hqT
          refine am_r_iconst (pc' := 49) rfl rfl ?_
          refine am_r_zret rfl rfl (by first | exact Or.inr rfl | exact Or.inl rfl | exact z_b_01 _ | assumption) ?_
          exact hqT _ hF rfl hT
    · refine am_r_iload2 (pc' := 12) rfl rfl ?_
      refine am_r_iconst (pc' := 14) rfl rfl ?_
      refine am_r_icmp_gt (pt := 23) (pf := 17) rfl rfl rfl (fun h14 => ?_) (fun h14 => ?_)
      · refine am_r_iload2 (pc' := 24) rfl rfl ?_
        refine am_r_ivsI1 (pc' := 27) rfl rfl rfl (Nat.le_of_ble_eq_true rfl) (c_nameOf (by omega) (by omega) ?_)
        refine am_r_istore3 (pc' := 28) rfl rfl rfl ?_
        refine am_r_iload3 (pc' := 29) rfl rfl ?_
        refine am_r_if_lt (pt := 50) (pf := 32) rfl rfl rfl (fun h29 => ?_) (fun h29 => ?_)
        · refine am_r_iload2 (pc' := 51) rfl rfl ?_
          refine am_r_iconst (pc' := 53) rfl rfl ?_
          refine am_r_icmp_eq (pt := 68) (pf := 56) rfl rfl rfl (fun h53 => ?_) (fun h53 => ?_)
          · refine am_r_iload1 (pc' := 69) rfl rfl ?_
            refine am_r_iconst (pc' := 71) rfl rfl ?_
            refine am_r_icmp_lt (pt := 76) (pf := 74) rfl rfl rfl (fun h71 => ?_) (fun h71 => ?_)
            · refine am_r_aload0 (pc' := 77) rfl rfl ?_
              refine am_r_dup (pc' := 78) rfl rfl rfl ?_
              refine am_r_getIv (f := 2) (pc' := 81) rfl rfl rfl (ts_p hT) ?_
              refine am_r_iconst (pc' := 82) rfl rfl ?_
              refine am_r_iadd (pc' := 83) rfl rfl ?_
              refine am_r_putI (f := 2) (pc' := 86) rfl rfl rfl (by decide) ?_
              have hF := am_ft_up (k := 15) (i := 2) (x := z_I (p + 1)) hF (by omega)
              have hT := ts_inc hT (by omega)
              refine am_r_iload2 (pc' := 87) rfl rfl ?_
              refine am_r_iconst (pc' := 89) rfl rfl ?_
              refine am_r_icmp_ne (pt := 102) (pf := 92) rfl rfl rfl (fun h89 => ?_) (fun h89 => ?_)
              · refine am_r_aload0 (pc' := 103) rfl rfl ?_
                refine am_r_iload2 (pc' := 104) rfl rfl ?_
                refine am_r_iload1 (pc' := 105) rfl rfl ?_
                refine am_r_iconst (pc' := 106) rfl rfl ?_
                refine am_r_iadd (pc' := 107) rfl rfl ?_
                rw [show o + 1 = 6 - (m : Int) by omega]
                refine am_r_invI2 (pc' := 110) rfl rfl rfl (Nat.le_of_ble_eq_true rfl) (c_readsTurned (q_one_gd hc m) (by omega) (h0 (by omega)) (by omega) (by omega) hT (by omega) ?_ ?_)
                · intro M2 hf2 e2 hT2
                  rw [q_one_t m (by omega)] at hqT
                  refine am_r_zret rfl rfl (Or.inr rfl) ?_
                  exact hqT _ (am_ft_tr hF hf2) e2 hT2
                · intro M2 hf2 e2 hp2
                  rw [q_one_t m (by omega)] at hqF
                  refine am_r_zret rfl rfl (Or.inl rfl) ?_
                  exact hqF _ (am_ft_tr hF hf2) e2 hp2
              · refine am_r_aload0 (pc' := 93) rfl rfl ?_
                refine am_r_iload1 (pc' := 94) rfl rfl ?_
                refine am_r_iconst (pc' := 95) rfl rfl ?_
                refine am_r_iadd (pc' := 96) rfl rfl ?_
                rw [show o + 1 = 6 - (m : Int) by omega]
                refine am_r_invI1 (pc' := 99) rfl rfl rfl (Nat.le_of_ble_eq_true rfl) (c_readsClosed (by omega) (hei (by omega)) (by omega) hT (by omega) ?_ ?_)
                · intro M2 hf2 e2 hT2
                  rw [q_one_c m (by omega)] at hqT
                  refine am_r_goto (pc' := 110) rfl rfl ?_
                  refine am_r_zret rfl rfl (Or.inr rfl) ?_
                  exact hqT _ (am_ft_tr hF hf2) e2 hT2
                · intro M2 hf2 e2 hp2
                  rw [q_one_c m (by omega)] at hqF
                  refine am_r_goto (pc' := 110) rfl rfl ?_
                  refine am_r_zret rfl rfl (Or.inl rfl) ?_
                  exact hqF _ (am_ft_tr hF hf2) e2 hp2
            · refine am_r_iconst (pc' := 75) rfl rfl ?_
              refine am_r_zret rfl rfl (by first | exact Or.inr rfl | exact Or.inl rfl | exact z_b_01 _ | assumption) ?_
              first | (exfalso; omega) | (rw [q_one_f (m + 1) (by omega) (by omega) (by omega)] at hqF; exact hqF _ hF rfl (ts_p hT))
          · refine am_r_iload2 (pc' := 57) rfl rfl ?_
            refine am_r_iconst (pc' := 59) rfl rfl ?_
            refine am_r_icmp_eq (pt := 68) (pf := 62) rfl rfl rfl (fun h59 => ?_) (fun h59 => ?_)
            · refine am_r_iload1 (pc' := 69) rfl rfl ?_
              refine am_r_iconst (pc' := 71) rfl rfl ?_
              refine am_r_icmp_lt (pt := 76) (pf := 74) rfl rfl rfl (fun h71 => ?_) (fun h71 => ?_)
              · refine am_r_aload0 (pc' := 77) rfl rfl ?_
                refine am_r_dup (pc' := 78) rfl rfl rfl ?_
                refine am_r_getIv (f := 2) (pc' := 81) rfl rfl rfl (ts_p hT) ?_
                refine am_r_iconst (pc' := 82) rfl rfl ?_
                refine am_r_iadd (pc' := 83) rfl rfl ?_
                refine am_r_putI (f := 2) (pc' := 86) rfl rfl rfl (by decide) ?_
                have hF := am_ft_up (k := 15) (i := 2) (x := z_I (p + 1)) hF (by omega)
                have hT := ts_inc hT (by omega)
                refine am_r_iload2 (pc' := 87) rfl rfl ?_
                refine am_r_iconst (pc' := 89) rfl rfl ?_
                refine am_r_icmp_ne (pt := 102) (pf := 92) rfl rfl rfl (fun h89 => ?_) (fun h89 => ?_)
                · refine am_r_aload0 (pc' := 103) rfl rfl ?_
                  refine am_r_iload2 (pc' := 104) rfl rfl ?_
                  refine am_r_iload1 (pc' := 105) rfl rfl ?_
                  refine am_r_iconst (pc' := 106) rfl rfl ?_
                  refine am_r_iadd (pc' := 107) rfl rfl ?_
                  rw [show o + 1 = 6 - (m : Int) by omega]
                  refine am_r_invI2 (pc' := 110) rfl rfl rfl (Nat.le_of_ble_eq_true rfl) (c_readsTurned (q_one_gd hc m) (by omega) (h0 (by omega)) (by omega) (by omega) hT (by omega) ?_ ?_)
                  · intro M2 hf2 e2 hT2
                    rw [q_one_t m (by omega)] at hqT
                    refine am_r_zret rfl rfl (Or.inr rfl) ?_
                    exact hqT _ (am_ft_tr hF hf2) e2 hT2
                  · intro M2 hf2 e2 hp2
                    rw [q_one_t m (by omega)] at hqF
                    refine am_r_zret rfl rfl (Or.inl rfl) ?_
                    exact hqF _ (am_ft_tr hF hf2) e2 hp2
                · refine am_r_aload0 (pc' := 93) rfl rfl ?_
                  refine am_r_iload1 (pc' := 94) rfl rfl ?_
                  refine am_r_iconst (pc' := 95) rfl rfl ?_
                  refine am_r_iadd (pc' := 96) rfl rfl ?_
                  rw [show o + 1 = 6 - (m : Int) by omega]
                  refine am_r_invI1 (pc' := 99) rfl rfl rfl (Nat.le_of_ble_eq_true rfl) (c_readsClosed (by omega) (hei (by omega)) (by omega) hT (by omega) ?_ ?_)
                  · intro M2 hf2 e2 hT2
                    rw [q_one_c m (by omega)] at hqT
                    refine am_r_goto (pc' := 110) rfl rfl ?_
                    refine am_r_zret rfl rfl (Or.inr rfl) ?_
                    exact hqT _ (am_ft_tr hF hf2) e2 hT2
                  · intro M2 hf2 e2 hp2
                    rw [q_one_c m (by omega)] at hqF
                    refine am_r_goto (pc' := 110) rfl rfl ?_
                    refine am_r_zret rfl rfl (Or.inl rfl) ?_
                    exact hqF _ (am_ft_tr hF hf2) e2 hp2
              · refine am_r_iconst (pc' := 75) rfl rfl ?_
                refine am_r_zret rfl rfl (by first | exact Or.inr rfl | exact Or.inl rfl | exact z_b_01 _ | assumption) ?_
                first | (exfalso; omega) | (rw [q_one_f (m + 1) (by omega) (by omega) (by omega)] at hqF; exact hqF _ hF rfl (ts_p hT))
            · refine am_r_iload2 (pc' := 63) rfl rfl ?_
              refine am_r_iconst (pc' := 65) rfl rfl ?_
              refine am_r_icmp_ne (pt := 74) (pf := 68) rfl rfl rfl (fun h65 => ?_) (fun h65 => ?_)
              · refine am_r_iconst (pc' := 75) rfl rfl ?_
                refine am_r_zret rfl rfl (by first | exact Or.inr rfl | exact Or.inl rfl | exact z_b_01 _ | assumption) ?_
                first | (exfalso; omega) | (rw [q_one_f (m + 1) (by omega) (by omega) (by omega)] at hqF; exact hqF _ hF rfl (ts_p hT))
              · refine am_r_iload1 (pc' := 69) rfl rfl ?_
                refine am_r_iconst (pc' := 71) rfl rfl ?_
                refine am_r_icmp_lt (pt := 76) (pf := 74) rfl rfl rfl (fun h71 => ?_) (fun h71 => ?_)
                · refine am_r_aload0 (pc' := 77) rfl rfl ?_
                  refine am_r_dup (pc' := 78) rfl rfl rfl ?_
                  refine am_r_getIv (f := 2) (pc' := 81) rfl rfl rfl (ts_p hT) ?_
                  refine am_r_iconst (pc' := 82) rfl rfl ?_
                  refine am_r_iadd (pc' := 83) rfl rfl ?_
                  refine am_r_putI (f := 2) (pc' := 86) rfl rfl rfl (by decide) ?_
                  have hF := am_ft_up (k := 15) (i := 2) (x := z_I (p + 1)) hF (by omega)
                  have hT := ts_inc hT (by omega)
                  refine am_r_iload2 (pc' := 87) rfl rfl ?_
                  refine am_r_iconst (pc' := 89) rfl rfl ?_
                  refine am_r_icmp_ne (pt := 102) (pf := 92) rfl rfl rfl (fun h89 => ?_) (fun h89 => ?_)
                  · refine am_r_aload0 (pc' := 103) rfl rfl ?_
                    refine am_r_iload2 (pc' := 104) rfl rfl ?_
                    refine am_r_iload1 (pc' := 105) rfl rfl ?_
                    refine am_r_iconst (pc' := 106) rfl rfl ?_
                    refine am_r_iadd (pc' := 107) rfl rfl ?_
                    rw [show o + 1 = 6 - (m : Int) by omega]
                    refine am_r_invI2 (pc' := 110) rfl rfl rfl (Nat.le_of_ble_eq_true rfl) (c_readsTurned (q_one_gd hc m) (by omega) (h0 (by omega)) (by omega) (by omega) hT (by omega) ?_ ?_)
                    · intro M2 hf2 e2 hT2
                      rw [q_one_t m (by omega)] at hqT
                      refine am_r_zret rfl rfl (Or.inr rfl) ?_
                      exact hqT _ (am_ft_tr hF hf2) e2 hT2
                    · intro M2 hf2 e2 hp2
                      rw [q_one_t m (by omega)] at hqF
                      refine am_r_zret rfl rfl (Or.inl rfl) ?_
                      exact hqF _ (am_ft_tr hF hf2) e2 hp2
                  · refine am_r_aload0 (pc' := 93) rfl rfl ?_
                    refine am_r_iload1 (pc' := 94) rfl rfl ?_
                    refine am_r_iconst (pc' := 95) rfl rfl ?_
                    refine am_r_iadd (pc' := 96) rfl rfl ?_
                    rw [show o + 1 = 6 - (m : Int) by omega]
                    refine am_r_invI1 (pc' := 99) rfl rfl rfl (Nat.le_of_ble_eq_true rfl) (c_readsClosed (by omega) (hei (by omega)) (by omega) hT (by omega) ?_ ?_)
                    · intro M2 hf2 e2 hT2
                      rw [q_one_c m (by omega)] at hqT
                      refine am_r_goto (pc' := 110) rfl rfl ?_
                      refine am_r_zret rfl rfl (Or.inr rfl) ?_
                      exact hqT _ (am_ft_tr hF hf2) e2 hT2
                    · intro M2 hf2 e2 hp2
                      rw [q_one_c m (by omega)] at hqF
                      refine am_r_goto (pc' := 110) rfl rfl ?_
                      refine am_r_zret rfl rfl (Or.inl rfl) ?_
                      exact hqF _ (am_ft_tr hF hf2) e2 hp2
                · refine am_r_iconst (pc' := 75) rfl rfl ?_
                  refine am_r_zret rfl rfl (by first | exact Or.inr rfl | exact Or.inl rfl | exact z_b_01 _ | assumption) ?_
                  first | (exfalso; omega) | (rw [q_one_f (m + 1) (by omega) (by omega) (by omega)] at hqF; exact hqF _ hF rfl (ts_p hT))
        · refine am_r_aload0 (pc' := 33) rfl rfl ?_
          refine am_r_dup (pc' := 34) rfl rfl rfl ?_
          refine am_r_getIv (f := 2) (pc' := 37) rfl rfl rfl (ts_p hT) ?_
          refine am_r_iconst (pc' := 38) rfl rfl ?_
          refine am_r_iadd (pc' := 39) rfl rfl ?_
          refine am_r_putI (f := 2) (pc' := 42) rfl rfl rfl (by decide) ?_
          have hF := am_ft_up (k := 15) (i := 2) (x := z_I (p + 1)) hF (by omega)
          have hT := ts_inc hT (by omega)
          refine am_r_aload0 (pc' := 43) rfl rfl ?_
          refine am_r_iconst (pc' := 44) rfl rfl ?_
          refine am_r_iload3 (pc' := 45) rfl rfl ?_
          refine am_r_invV2 (pc' := 48) rfl rfl rfl (Nat.le_of_ble_eq_true rfl) (c_draft (by omega) hT (by omega) ?_)
          · intro M3 hf3 hT3
            have hT := hT3
            have hF := am_ft_tr hF hf3
            rw [q_one_n (m + 1) (by omega) (by omega)] at hqT
            refine am_r_iconst (pc' := 49) rfl rfl ?_
            refine am_r_zret rfl rfl (by first | exact Or.inr rfl | exact Or.inl rfl | exact z_b_01 _ | assumption) ?_
            exact hqT _ hF rfl hT
      · refine am_r_aload0 (pc' := 18) rfl rfl ?_
        refine am_r_invV0 (pc' := 21) rfl rfl rfl (Nat.le_of_ble_eq_true rfl) (c_readNumber (by omega) hT (by omega) (by omega) ?_)
        · intro M3 hf3 hT3
          have hT := hT3
          have hF := am_ft_tr hF hf3
          rw [q_one_d (m + 1) (by omega)] at hqT
          refine am_r_iconst (pc' := 22) rfl rfl ?_
          refine am_r_zret rfl rfl (by first | exact Or.inr rfl | exact Or.inl rfl | exact z_b_01 _ | assumption) ?_
          exact hqT _ hF rfl hT
theorem c_e {sL : Nat} {xs : Nat → Int32} (hc : q_C c n) : q_rd sL xs c n 50 90 0 (q_e c) := by
  obtain ⟨g1, g2, g3, g4, _⟩ := q_ei_gd hc (q_one_gd hc 6)
  exact c_readsEither g4 (by omega) (c_readsBoth g3 (by omega) (c_readsCompared g2 (by omega) (c_readsSum g1 (by omega) (c_readsProduct (q_one_gd hc 6) (by omega) (c_one hc 6 0 rfl (by omega))))))
theorem q_ln_gd (hc : q_C c n) (L : Nat) (h0 : 0 ≤ p) (h1 : p ≤ n) : p ≤ (q_ln (q_e c) c L p).2.1 ∧ (q_ln (q_e c) c L p).2.1 ≤ n ∧ ((q_ln (q_e c) c L p).1 = true → p < (q_ln (q_e c) c L p).2.1 ∧ ((q_ln (q_e c) c L p).2.2.1.length : Int) ≤ (q_ln (q_e c) c L p).2.1 - p + 1) := by
  have g := q_e_gd hc p h0 h1
  unfold q_ln
  split
  · rename_i q
    have g3 := g.2.2 q
    split
    · rename_i r
      have hlt : (q_e c p).2.1 < n := by
        by_cases e : (q_e c p).2.1 < n
        · exact e
        · have := (hc (q_e c p).2.1 (by omega)).2 (by omega); omega
      have g4 := q_e_gd hc ((q_e c p).2.1 + 1) (by omega) (by omega)
      split
      · rename_i t
        have g5 := g4.2.2 t
        refine ⟨by simp only; omega, g4.2.1, fun _ => ⟨by simp only; omega, ?_⟩⟩
        simp only [List.length_append, List.length_cons, List.length_nil]; omega
      · exact ⟨by simp only [q_nt]; omega, g4.2.1, fun z => absurd z (by simp [q_nt])⟩
    · refine ⟨g.1, g.2.1, fun _ => ⟨g3.1, ?_⟩⟩
      simp only [List.length_append, List.length_cons, List.length_nil]; omega
  · exact ⟨g.1, g.2.1, fun z => absurd z (by simp [q_nt])⟩
theorem c_readsLine {sL : Nat} {xs : Nat → Int32} {d : Nat} {M : Am_M} {Q : Int32 → Am_M → Prop} (hd : 51 ≤ d) {c : Int → Int} {n p : Int} {l : List (Int × Int)} (hT : TS M c n p l) (hl : (l.length : Int) ≤ p) (hqT : ∀ M', am_ft M M' → (q_ln (q_e c) c l.length p).1 = true → TS M' c n (q_ln (q_e c) c l.length p).2.1 (l ++ (q_ln (q_e c) c l.length p).2.2.1) → Q (z_I 1) M') (hqF : ∀ M', am_ft M M' → (q_ln (q_e c) c l.length p).1 = false → M'.1 15 2 = z_I (q_ln (q_e c) c l.length p).2.1 → Q (z_I 0) M') : am_bi sL xs d 89 [.ref 15] M Q := by
  obtain ⟨d, rfl⟩ : ∃ e, d = e + 1 := ⟨d - 1, by omega⟩
  have hnb := ts_nb hT
  have hpb := ts_pb hT
  have hF := am_ft_rf M
  have hc := ts_c hT
  refine am_bi_of (P := am_pX8_readsLine) (rt := 2) (nL := 2) (Nat.le_of_ble_eq_true rfl) rfl (Nat.le_of_ble_eq_true rfl) rfl rfl rfl ?_
  refine am_r_aload0 (pc' := 1) rfl rfl ?_
  refine am_r_iconst (pc' := 2) rfl rfl ?_
  refine am_r_invI1 (pc' := 5) rfl rfl rfl (Nat.le_of_ble_eq_true rfl) (c_e hc (by omega) hT hl ?_ ?_)
  · intro M2 hf2 e2 hT2
    have hT := hT2
    have hF := am_ft_tr hF hf2
    have hg2 := q_e_gd hc p (by omega) (by omega)
    have hg3 := hg2.2.2 e2
    have hcb := ts_cb hT
    refine am_r_if_ne (pt := 10) (pf := 8) rfl rfl rfl (fun h5 => ?_) (fun h5 => by exfalso; omega)
    refine am_r_aload0 (pc' := 11) rfl rfl ?_
    refine am_r_invI0 (pc' := 14) rfl rfl rfl (Nat.le_of_ble_eq_true rfl) (c_next (by omega) hT ?_)
    refine am_r_iconst (pc' := 16) rfl rfl ?_
    refine am_r_icmp_eq (pt := 28) (pf := 19) rfl rfl rfl (fun h16 => ?_) (fun h16 => ?_)
    · refine am_r_aload0 (pc' := 29) rfl rfl ?_
      refine am_r_getIv (f := 5) (pc' := 32) rfl rfl rfl (ts_s hT) ?_
      refine am_r_istore1 (pc' := 33) rfl rfl rfl ?_
      refine am_r_aload0 (pc' := 34) rfl rfl ?_
      refine am_r_dup (pc' := 35) rfl rfl rfl ?_
      refine am_r_getIv (f := 2) (pc' := 38) rfl rfl rfl (ts_p hT) ?_
      refine am_r_iconst (pc' := 39) rfl rfl ?_
      refine am_r_iadd (pc' := 40) rfl rfl ?_
      refine am_r_putI (f := 2) (pc' := 43) rfl rfl rfl (by decide) ?_
      have hF := am_ft_up (k := 15) (i := 2) (x := z_I ((q_e c p).2.1 + 1)) hF (by omega)
      have hT := ts_inc hT (by omega)
      refine am_r_aload0 (pc' := 44) rfl rfl ?_
      refine am_r_iconst (pc' := 45) rfl rfl ?_
      refine am_r_iconst (pc' := 46) rfl rfl ?_
      refine am_r_invV2 (pc' := 49) rfl rfl rfl (Nat.le_of_ble_eq_true rfl) (c_draft (by omega) hT (by simp only [List.length_append, List.length_cons, List.length_nil]; omega) ?_)
      · intro M3 hf3 hT3
        have hT := hT3
        have hF := am_ft_tr hF hf3
        refine am_r_aload0 (pc' := 50) rfl rfl ?_
        refine am_r_iconst (pc' := 51) rfl rfl ?_
        refine am_r_invI1 (pc' := 54) rfl rfl rfl (Nat.le_of_ble_eq_true rfl) (c_e hc (by omega) hT (by simp only [List.length_append, List.length_cons, List.length_nil]; omega) ?_ ?_)
        · intro M4 hf4 e4 hT4
          have hT := hT4
          have hF := am_ft_tr hF hf4
          have hg4 := q_e_gd hc ((q_e c p).2.1 + 1) (by omega) (by omega)
          have hg5 := hg4.2.2 e4
          refine am_r_if_ne (pt := 59) (pf := 57) rfl rfl rfl (fun h54 => ?_) (fun h54 => by exfalso; omega)
          refine am_r_aload0 (pc' := 60) rfl rfl ?_
          refine am_r_iconst (pc' := 62) rfl rfl ?_
          refine am_r_iconst (pc' := 63) rfl rfl ?_
          refine am_r_invV2 (pc' := 66) rfl rfl rfl (Nat.le_of_ble_eq_true rfl) (c_draft (by omega) hT (by simp only [List.length_append, List.length_cons, List.length_nil]; omega) ?_)
          · intro M3 hf3 hT3
            have hT := hT3
            have hF := am_ft_tr hF hf3
            have hl5 : (l ++ (q_e c p).2.2.1).length < 121 := (by simp only [List.length_append]; omega)
            refine am_r_iload1 (pc' := 67) rfl rfl ?_
            refine am_r_iconst (pc' := 69) rfl rfl ?_
            refine am_r_icmp_ge (pt := 82) (pf := 72) rfl rfl rfl (fun h69 => ?_) (fun h69 => ?_)
            · exfalso; omega
            · refine am_r_aload0 (pc' := 73) rfl rfl ?_
              refine am_r_getR (t := 18) (pc' := 76) rfl rfl rfl ?_
              refine am_r_iload1 (pc' := 77) rfl rfl ?_
              refine am_r_aload0 (pc' := 78) rfl rfl ?_
              refine am_r_getIv (f := 5) (pc' := 81) rfl rfl rfl (ts_s hT) ?_
              refine am_r_iast (n := 121) (pc' := 82) rfl rfl (rfl) (by decide) ?_
              refine am_r_iconst (pc' := 83) rfl rfl ?_
              refine am_r_zret rfl rfl (Or.inr rfl) ?_
              have hF := am_ft_up (k := 18) (i := (((l ++ (q_e c p).2.2.1).length : Int)).toNat) (x := z_I ((l ++ (q_e c p).2.2.1 ++ [((5 : Int), (0 : Int))] ++ (q_e c ((q_e c p).2.1 + 1)).2.2.1 ++ [((6 : Int), (0 : Int))]).length : Int)) hF (by omega)
              have hT := ts_patch (l2 := (q_e c ((q_e c p).2.1 + 1)).2.2.1 ++ [(6, 0)]) (by rw [← List.append_assoc]; exact hT) ((l ++ (q_e c p).2.2.1 ++ [((5 : Int), (0 : Int))] ++ (q_e c ((q_e c p).2.1 + 1)).2.2.1 ++ [((6 : Int), (0 : Int))]).length : Int)
              have e : (q_ln (q_e c) c l.length p) = (true, (q_e c ((q_e c p).2.1 + 1)).2.1, (q_e c p).2.2.1 ++ [(5, ((l.length + (q_e c p).2.2.1.length + 1 + (q_e c ((q_e c p).2.1 + 1)).2.2.1.length + 1 : Nat) : Int))] ++ (q_e c ((q_e c p).2.1 + 1)).2.2.1 ++ [(6, 0)], fun ν => if (q_e c p).2.2.2 ν = 0 then none else some ((q_e c ((q_e c p).2.1 + 1)).2.2.2 ν)) := ((if_pos e2).trans (if_pos (by omega))).trans (if_pos e4)
              rw [e] at hqT
              refine hqT _ hF rfl ?_
              rw [show ((l ++ (q_e c p).2.2.1 ++ [((5 : Int), (0 : Int))] ++ (q_e c ((q_e c p).2.1 + 1)).2.2.1 ++ [((6 : Int), (0 : Int))]).length) = l.length + (q_e c p).2.2.1.length + 1 + (q_e c ((q_e c p).2.1 + 1)).2.2.1.length + 1 by simp only [List.length_append, List.length_cons, List.length_nil]] at hT ⊢
              simp only [List.append_assoc] at hT ⊢
              exact hT
        · intro M4 hf4 e4 hp4
          have hF := am_ft_tr hF hf4
          have e : (q_ln (q_e c) c l.length p) = q_nt (q_e c ((q_e c p).2.1 + 1)).2.1 := ((if_pos e2).trans (if_pos (by omega))).trans (if_neg (by rw [e4]; decide))
          rw [e] at hqF
          refine am_r_if_ne (pt := 59) (pf := 57) rfl rfl rfl (fun h54 => by exfalso; omega) (fun h54 => ?_)
          refine am_r_iconst (pc' := 58) rfl rfl ?_
          refine am_r_zret rfl rfl (by first | exact Or.inr rfl | exact Or.inl rfl | exact z_b_01 _ | assumption) ?_
          exact hqF _ hF rfl hp4
    · refine am_r_aload0 (pc' := 20) rfl rfl ?_
      refine am_r_iconst (pc' := 22) rfl rfl ?_
      refine am_r_iconst (pc' := 23) rfl rfl ?_
      refine am_r_invV2 (pc' := 26) rfl rfl rfl (Nat.le_of_ble_eq_true rfl) (c_draft (by omega) hT (by simp only [List.length_append, List.length_cons, List.length_nil]; omega) ?_)
      · intro M3 hf3 hT3
        have hT := hT3
        have hF := am_ft_tr hF hf3
        refine am_r_iconst (pc' := 27) rfl rfl ?_
        refine am_r_zret rfl rfl (by first | exact Or.inr rfl | exact Or.inl rfl | exact z_b_01 _ | assumption) ?_
        have e : (q_ln (q_e c) c l.length p) = (true, (q_e c p).2.1, (q_e c p).2.2.1 ++ [(6, 0)], fun ν => some ((q_e c p).2.2.2 ν)) := (if_pos e2).trans (if_neg (by omega))
        rw [e] at hqT
        exact hqT _ hF rfl (by rw [← List.append_assoc]; exact hT)
  · intro M2 hf2 e2 hp2
    have hF := am_ft_tr hF hf2
    have e : (q_ln (q_e c) c l.length p) = q_nt (q_e c p).2.1 := if_neg (by rw [e2]; decide)
    rw [e] at hqF
    refine am_r_if_ne (pt := 10) (pf := 8) rfl rfl rfl (fun h5 => by exfalso; omega) (fun h5 => ?_)
    refine am_r_iconst (pc' := 9) rfl rfl ?_
    refine am_r_zret rfl rfl (by first | exact Or.inr rfl | exact Or.inl rfl | exact z_b_01 _ | assumption) ?_
    exact hqF _ hF rfl hp2
def TB (M : Am_M) (c : Int → Int) (n : Int) : Prop := (0 ≤ n ∧ n ≤ 120) ∧ q_C c n ∧ M.1 15 1 = z_I n ∧ (∀ i, 0 ≤ i → i < n → M.1 16 i.toNat = z_I (c i))
theorem ts_tb (h : TS M c n p l) : TB M c n := ⟨h.1, h.2.1, h.2.2.1, h.2.2.2.1⟩
theorem tb_ft (h : TB M c n) (hf : am_ft M M') : TB M' c n := ⟨h.1, h.2.1, by rw [hf.2.1]; exact h.2.2.1, fun i a b => by rw [hf.2.2]; exact h.2.2.2 i a b⟩
theorem ts_0 (h : TB M c n) : TS (am_upI (am_upI M 15 2 (z_I 0)) 15 5 (z_I 0)) c n 0 [] := by
  obtain ⟨h1, h2, h3, h4⟩ := h
  refine ⟨h1, h2, ?_, fun i a b => ?_, by omega, ?_, by simp, ?_, fun i x e => ?_⟩
  · simp [am_upI, h3]
  · simp [am_upI, h4 i a b]
  · simp [am_upI]
  · simp [am_upI]
  · simp at e
theorem c_isText {sL : Nat} {xs : Nat → Int32} {d : Nat} {M : Am_M} {Q : Int32 → Am_M → Prop} (hd : 52 ≤ d) {c : Int → Int} {n : Int} (hB : TB M c n) (hqT : ∀ M', am_ft M M' → q_good c = true → TS M' c n (q_all c).2.1 (q_all c).2.2.1 → Q (z_I 1) M') (hqF : ∀ M', am_ft M M' → q_good c = false → M'.1 15 2 = z_I (q_all c).2.1 → Q (z_I 0) M') : am_bi sL xs d 86 [.ref 15] M Q := by
  obtain ⟨d, rfl⟩ : ∃ e, d = e + 1 := ⟨d - 1, by omega⟩
  have hnb := hB.1
  have hc := hB.2.1
  have hgo : (q_all c).1 = false → q_good c = false := fun q => by unfold q_good; rw [q]; rfl
  have hloop : ∀ (k : Nat) (kk : Int) (a : q_T) (N : Am_M), a.1 = true → am_ft M N → TS N c n a.2.1 a.2.2.1 → (a.2.2.1.length : Int) ≤ a.2.1 + 1 → 0 ≤ kk ∧ kk + k = 120 → (q_tx (q_e c) c k a) = q_all c → am_rw sL xs d am_pX8_isText 2 21 [.ref 15, .int (z_I kk)] [] N (am_pi Q) := by
    intro k
    induction k with
    | zero =>
      intro kk a N ha hF hT hab hk he
      have hcb := ts_cb hT
      have he2 : a = q_all c := he
      refine am_r_iload1 (pc' := 22) rfl rfl ?_
      refine am_r_iconst (pc' := 24) rfl rfl ?_
      refine am_r_icmp_ge (pt := 61) (pf := 27) rfl rfl rfl (fun h24 => ?_) (fun h24 => ?_)
      · refine am_r_aload0 (pc' := 62) rfl rfl ?_
        refine am_r_invI0 (pc' := 65) rfl rfl rfl (Nat.le_of_ble_eq_true rfl) (c_next (by omega) hT ?_)
        refine am_r_iconst (pc' := 66) rfl rfl ?_
        refine am_r_icmp_ne (pt := 73) (pf := 69) rfl rfl rfl (fun h66 => ?_) (fun h66 => ?_)
        · refine am_r_iconst (pc' := 74) rfl rfl ?_
          refine am_r_zret rfl rfl (by first | exact Or.inr rfl | exact Or.inl rfl | exact z_b_01 _ | assumption) ?_
          first | exact hqT _ hF (by unfold q_good; rw [← he2, ha, decide_eq_true (by omega)]; rfl) (by rw [← he2]; exact hT) | exact hqF _ hF (by unfold q_good; rw [← he2, decide_eq_false (by omega), Bool.and_false]) (by rw [← he2]; exact ts_p hT)
        · refine am_r_iconst (pc' := 70) rfl rfl ?_
          refine am_r_goto (pc' := 74) rfl rfl ?_
          refine am_r_zret rfl rfl (by first | exact Or.inr rfl | exact Or.inl rfl | exact z_b_01 _ | assumption) ?_
          first | exact hqT _ hF (by unfold q_good; rw [← he2, ha, decide_eq_true (by omega)]; rfl) (by rw [← he2]; exact hT) | exact hqF _ hF (by unfold q_good; rw [← he2, decide_eq_false (by omega), Bool.and_false]) (by rw [← he2]; exact ts_p hT)
      · exfalso; omega
    | succ k ih =>
      intro kk a N ha hF hT hab hk he
      have hcb := ts_cb hT
      have hpb := ts_pb hT
      refine am_r_iload1 (pc' := 22) rfl rfl ?_
      refine am_r_iconst (pc' := 24) rfl rfl ?_
      refine am_r_icmp_ge (pt := 61) (pf := 27) rfl rfl rfl (fun h24 => ?_) (fun h24 => ?_)
      · exfalso; omega
      · refine am_r_aload0 (pc' := 28) rfl rfl ?_
        refine am_r_invI0 (pc' := 31) rfl rfl rfl (Nat.le_of_ble_eq_true rfl) (c_next (by omega) hT ?_)
        refine am_r_iconst (pc' := 33) rfl rfl ?_
        refine am_r_icmp_ne (pt := 61) (pf := 36) rfl rfl rfl (fun h33 => ?_) (fun h33 => ?_)
        · have he2 : a = q_all c := (by rw [← he, q_tx, if_neg (by omega)])
          refine am_r_aload0 (pc' := 62) rfl rfl ?_
          refine am_r_invI0 (pc' := 65) rfl rfl rfl (Nat.le_of_ble_eq_true rfl) (c_next (by omega) hT ?_)
          refine am_r_iconst (pc' := 66) rfl rfl ?_
          refine am_r_icmp_ne (pt := 73) (pf := 69) rfl rfl rfl (fun h66 => ?_) (fun h66 => ?_)
          · refine am_r_iconst (pc' := 74) rfl rfl ?_
            refine am_r_zret rfl rfl (by first | exact Or.inr rfl | exact Or.inl rfl | exact z_b_01 _ | assumption) ?_
            first | exact hqT _ hF (by unfold q_good; rw [← he2, ha, decide_eq_true (by omega)]; rfl) (by rw [← he2]; exact hT) | exact hqF _ hF (by unfold q_good; rw [← he2, decide_eq_false (by omega), Bool.and_false]) (by rw [← he2]; exact ts_p hT)
          · refine am_r_iconst (pc' := 70) rfl rfl ?_
            refine am_r_goto (pc' := 74) rfl rfl ?_
            refine am_r_zret rfl rfl (by first | exact Or.inr rfl | exact Or.inl rfl | exact z_b_01 _ | assumption) ?_
            first | exact hqT _ hF (by unfold q_good; rw [← he2, ha, decide_eq_true (by omega)]; rfl) (by rw [← he2]; exact hT) | exact hqF _ hF (by unfold q_good; rw [← he2, decide_eq_false (by omega), Bool.and_false]) (by rw [← he2]; exact ts_p hT)
        · refine am_r_aload0 (pc' := 37) rfl rfl ?_
          refine am_r_dup (pc' := 38) rfl rfl rfl ?_
          refine am_r_getIv (f := 2) (pc' := 41) rfl rfl rfl (ts_p hT) ?_
          refine am_r_iconst (pc' := 42) rfl rfl ?_
          refine am_r_iadd (pc' := 43) rfl rfl ?_
          refine am_r_putI (f := 2) (pc' := 46) rfl rfl rfl (by decide) ?_
          have hF := am_ft_up (k := 15) (i := 2) (x := z_I (a.2.1 + 1)) hF (by omega)
          have hT := ts_inc hT (by omega)
          refine am_r_aload0 (pc' := 47) rfl rfl ?_
          refine am_r_invI0 (pc' := 50) rfl rfl rfl (Nat.le_of_ble_eq_true rfl) (c_readsLine (by omega) hT (by omega) ?_ ?_)
          · intro M2 hf2 e2 hT2
            have hF := am_ft_tr hF hf2
            have hg2 := q_ln_gd hc a.2.2.1.length (p := a.2.1 + 1) (by omega) (by omega)
            have hg3 := hg2.2.2 e2
            refine am_r_if_ne (pt := 55) (pf := 53) rfl rfl rfl (fun h50 => ?_) (fun h50 => by exfalso; omega)
            refine am_r_iinc1 (pc' := 58) rfl rfl rfl ?_
            refine am_r_goto (pc' := 21) rfl rfl ?_
            exact ih _ (true, (q_ln (q_e c) c a.2.2.1.length (a.2.1 + 1)).2.1, a.2.2.1 ++ (q_ln (q_e c) c a.2.2.1.length (a.2.1 + 1)).2.2.1, fun ν => q_or (a.2.2.2 ν) ((q_ln (q_e c) c a.2.2.1.length (a.2.1 + 1)).2.2.2 ν)) _ rfl hF hT2 (by simp only [List.length_append]; omega) (by omega) (by rw [← he, q_tx, if_pos ⟨ha, by omega⟩, if_pos e2])
          · intro M2 hf2 e2 hp2
            have hF := am_ft_tr hF hf2
            have e : q_tx (q_e c) c (k + 1) a = q_nt (q_ln (q_e c) c a.2.2.1.length (a.2.1 + 1)).2.1 := by
              rw [q_tx, if_pos ⟨ha, by omega⟩, if_neg (by rw [e2]; decide)]
            rw [e] at he
            refine am_r_if_ne (pt := 55) (pf := 53) rfl rfl rfl (fun h50 => by exfalso; omega) (fun h50 => ?_)
            refine am_r_iconst (pc' := 54) rfl rfl ?_
            refine am_r_zret rfl rfl (by first | exact Or.inr rfl | exact Or.inl rfl | exact z_b_01 _ | assumption) ?_
            exact hqF _ hF (hgo (by rw [← he]; rfl)) (by rw [← he]; exact hp2)
  refine am_bi_of (P := am_pX8_isText) (rt := 2) (nL := 2) (Nat.le_of_ble_eq_true rfl) rfl (Nat.le_of_ble_eq_true rfl) rfl rfl rfl ?_
  refine am_r_aload0 (pc' := 1) rfl rfl ?_
  refine am_r_iconst (pc' := 2) rfl rfl ?_
  refine am_r_putI (f := 2) (pc' := 5) rfl rfl rfl (by decide) ?_
  refine am_r_aload0 (pc' := 6) rfl rfl ?_
  refine am_r_iconst (pc' := 7) rfl rfl ?_
  refine am_r_putI (f := 5) (pc' := 10) rfl rfl rfl (by decide) ?_
  have hT := ts_0 hB
  have hF : am_ft M (am_upI (am_upI M 15 2 (z_I 0)) 15 5 (z_I 0)) := am_ft_up (am_ft_up (am_ft_rf M) (by omega)) (by omega)
  refine am_r_aload0 (pc' := 11) rfl rfl ?_
  refine am_r_invI0 (pc' := 14) rfl rfl rfl (Nat.le_of_ble_eq_true rfl) (c_readsLine (l := []) (by omega) hT (by simp) ?_ ?_)
  · intro M2 hf2 e2 hT2
    have hF := am_ft_tr hF hf2
    have hg2 := q_ln_gd hc 0 (p := 0) (by omega) (by omega)
    have hg3 := hg2.2.2 e2
    refine am_r_if_ne (pt := 19) (pf := 17) rfl rfl rfl (fun h14 => ?_) (fun h14 => by exfalso; omega)
    refine am_r_iconst (pc' := 20) rfl rfl ?_
    refine am_r_istore1 (pc' := 21) rfl rfl rfl ?_
    exact hloop 120 0 (q_ln (q_e c) c 0 0) _ e2 hF hT2 (by omega) (by omega) rfl
  · intro M2 hf2 e2 hp2
    have hF := am_ft_tr hF hf2
    have e : q_all c = (q_ln (q_e c) c 0 0) := by
      unfold q_all
      rw [q_tx, if_neg]
      intro q
      have := q.1.symm.trans e2
      exact absurd this (by decide)
    refine am_r_if_ne (pt := 19) (pf := 17) rfl rfl rfl (fun h14 => by exfalso; omega) (fun h14 => ?_)
    refine am_r_iconst (pc' := 18) rfl rfl ?_
    refine am_r_zret rfl rfl (by first | exact Or.inr rfl | exact Or.inl rfl | exact z_b_01 _ | assumption) ?_
    exact hqF _ hF (hgo (by rw [e]; exact e2)) (by rw [e]; exact hp2)
