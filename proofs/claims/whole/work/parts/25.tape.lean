/-! THE TAPE of the class: reading -/
def TS (M : Am_M) (c : Int → Int) (n p : Int) (l : List (Int × Int)) : Prop := (0 ≤ n ∧ n ≤ 120) ∧ q_C c n ∧ M.1 15 1 = z_I n ∧ (∀ i, 0 ≤ i → i < n → M.1 16 i.toNat = z_I (c i)) ∧ (0 ≤ p ∧ p ≤ n) ∧ M.1 15 2 = z_I p ∧ l.length ≤ 121 ∧ M.1 15 5 = z_I (l.length : Int) ∧ (∀ i x, l[i]? = some x → M.1 17 i = z_I x.1 ∧ M.1 18 i = z_I x.2)
variable {M M' : Am_M} {c : Int → Int} {n p : Int} {l : List (Int × Int)}
theorem ts_nb (h : TS M c n p l) : 0 ≤ n ∧ n ≤ 120 := h.1
theorem ts_c (h : TS M c n p l) : q_C c n := h.2.1
theorem ts_n (h : TS M c n p l) : M.1 15 1 = z_I n := h.2.2.1
theorem ts_b (h : TS M c n p l) {i : Int} (h1 : 0 ≤ i) (h2 : i < n) : M.1 16 i.toNat = z_I (c i) := h.2.2.2.1 i h1 h2
theorem ts_pb (h : TS M c n p l) : 0 ≤ p ∧ p ≤ n := h.2.2.2.2.1
theorem ts_p (h : TS M c n p l) : M.1 15 2 = z_I p := h.2.2.2.2.2.1
theorem ts_l (h : TS M c n p l) : l.length ≤ 121 := h.2.2.2.2.2.2.1
theorem ts_s (h : TS M c n p l) : M.1 15 5 = z_I (l.length : Int) := h.2.2.2.2.2.2.2.1
theorem ts_v (h : TS M c n p l) : ∀ i x, l[i]? = some x → M.1 17 i = z_I x.1 ∧ M.1 18 i = z_I x.2 := h.2.2.2.2.2.2.2.2
theorem ts_cb (h : TS M c n p l) : -1 ≤ c p ∧ c p ≤ 255 ∧ (p < n → 0 ≤ c p) ∧ (n ≤ p → c p = -1) := by
  have h1 := ts_pb h
  have h2 := ts_c h p h1.1
  by_cases e : p < n
  · have := h2.1 e; omega
  · have := h2.2 (by omega); omega
theorem ts_inc (h : TS M c n p l) (hp : ¬ c p = -1) : TS (am_upI M 15 2 (z_I (p + 1))) c n (p + 1) l := by
  have hb := ts_cb h
  obtain ⟨h1, h2, h3, h4, h5, h6, h7, h8, h9⟩ := h
  refine ⟨h1, h2, ?_, fun i a b => ?_, by omega, ?_, h7, ?_, fun i x e => ?_⟩
  · simp [am_upI, h3]
  · simp [am_upI, h4 i a b]
  · simp [am_upI]
  · simp [am_upI, h8]
  · simpa [am_upI] using h9 i x e
theorem ts_add (h : TS M c n p l) (hl : l.length < 121) (s v : Int) : TS (am_upI (am_upI (am_upI M 17 ((l.length : Int)).toNat (z_I s)) 18 ((l.length : Int)).toNat (z_I v)) 15 5 (z_I ((l.length : Int) + 1))) c n p (l ++ [(s, v)]) := by
  obtain ⟨h1, h2, h3, h4, h5, h6, h7, h8, h9⟩ := h
  refine ⟨h1, h2, ?_, fun i a b => ?_, h5, ?_, ?_, ?_, fun i x e => ?_⟩
  · simp [am_upI, h3]
  · simp [am_upI, h4 i a b]
  · simp [am_upI, h6]
  · rw [List.length_append]; simp only [List.length_cons, List.length_nil]; omega
  · rw [List.length_append]; simp [am_upI]
  · by_cases q : i < l.length
    · rw [List.getElem?_append_left q] at e
      have := h9 i x e
      have hne : i ≠ l.length := by omega
      simpa [am_upI, hne] using this
    · rw [List.getElem?_append_right (by omega)] at e
      by_cases q2 : i = l.length
      · subst q2
        simp at e
        subst e
        simp [am_upI]
      · rw [show i - l.length = (i - l.length - 1) + 1 by omega] at e
        simp at e
/-- only the tape's reading has changed -/
def am_ft (M M' : Am_M) : Prop := am_fr 15 18 M M' ∧ M'.1 15 1 = M.1 15 1 ∧ M'.1 16 = M.1 16
theorem am_ft_rf (M : Am_M) : am_ft M M := ⟨am_fr_rf _ _ _, rfl, rfl⟩
theorem am_ft_tr {M M' M'' : Am_M} (h : am_ft M M') (h2 : am_ft M' M'') : am_ft M M'' := ⟨am_fr_tr h.1 h2.1 ⟨Nat.le_refl _, Nat.le_refl _⟩ ⟨Nat.le_refl _, Nat.le_refl _⟩, h2.2.1.trans h.2.1, h2.2.2.trans h.2.2⟩
theorem am_ft_up {M M' : Am_M} (h : am_ft M M') {k i : Nat} {x : Int32} (hk : (k = 15 ∧ i ≠ 1) ∨ k = 17 ∨ k = 18) : am_ft M (am_upI M' k i x) := by
  refine ⟨am_fr_upI h.1 (by omega), ?_, ?_⟩
  · simp only [am_upI]; rw [if_neg (by omega)]; exact h.2.1
  · funext j; simp only [am_upI]; rw [if_neg (by omega)]; exact congrFun h.2.2 j
/-- reading by f -/
def q_rd (sL : Nat) (xs : Nat → Int32) (c : Int → Int) (n : Int) (D j : Nat) (o : Int) (f : Int → q_R) : Prop := ∀ {d : Nat} {M : Am_M} {Q : Int32 → Am_M → Prop} {p : Int} {l : List (Int × Int)}, D ≤ d → TS M c n p l → (l.length : Int) ≤ p → (∀ M', am_ft M M' → (f p).1 = true → TS M' c n (f p).2.1 (l ++ (f p).2.2.1) → Q (z_I 1) M') → (∀ M', am_ft M M' → (f p).1 = false → M'.1 15 2 = z_I (f p).2.1 → Q (z_I 0) M') → am_bi sL xs d j [.ref 15, .int (z_I o)] M Q
theorem c_next {sL : Nat} {xs : Nat → Int32} {d : Nat} {M : Am_M} {Q : Int32 → Am_M → Prop} (hd : 1 ≤ d) {c : Int → Int} {n p : Int} {l : List (Int × Int)} (hT : TS M c n p l)  (hq : Q (z_I (c p)) M) : am_bi sL xs d 87 [.ref 15] M Q := by
  obtain ⟨d, rfl⟩ : ∃ e, d = e + 1 := ⟨d - 1, by omega⟩
  have hnb := ts_nb hT
  have hpb := ts_pb hT
  have hll := ts_l hT
  have hcb := ts_cb hT
  refine am_bi_of (P := am_pX8_next) (rt := 1) (nL := 1) (Nat.le_of_ble_eq_true rfl) rfl (Nat.le_of_ble_eq_true rfl) rfl rfl rfl ?_
  refine am_r_aload0 (pc' := 1) rfl rfl ?_
  refine am_r_getIv (f := 2) (pc' := 4) rfl rfl rfl (ts_p hT) ?_
  refine am_r_if_lt (pt := 30) (pf := 7) rfl rfl rfl (fun h4 => ?_) (fun h4 => ?_)
  · refine am_r_iconst (pc' := 31) rfl rfl ?_
    refine am_r_iret rfl rfl ?_
    first | exact hq | (rw [show c p = -1 by omega] at hq; exact hq) | (rw [hcb.2.2.2 (by omega)] at hq; exact hq)
  · refine am_r_aload0 (pc' := 8) rfl rfl ?_
    refine am_r_getIv (f := 2) (pc' := 11) rfl rfl rfl (ts_p hT) ?_
    refine am_r_aload0 (pc' := 12) rfl rfl ?_
    refine am_r_getIv (f := 1) (pc' := 15) rfl rfl rfl (ts_n hT) ?_
    refine am_r_icmp_ge (pt := 30) (pf := 18) rfl rfl rfl (fun h15 => ?_) (fun h15 => ?_)
    · refine am_r_iconst (pc' := 31) rfl rfl ?_
      refine am_r_iret rfl rfl ?_
      first | exact hq | (rw [show c p = -1 by omega] at hq; exact hq) | (rw [hcb.2.2.2 (by omega)] at hq; exact hq)
    · refine am_r_aload0 (pc' := 19) rfl rfl ?_
      refine am_r_getR (t := 16) (pc' := 22) rfl rfl rfl ?_
      refine am_r_aload0 (pc' := 23) rfl rfl ?_
      refine am_r_getIv (f := 2) (pc' := 26) rfl rfl rfl (ts_p hT) ?_
      refine am_r_iaZv (n := 120) (pc' := 27) rfl rfl rfl (by decide) (ts_b hT (by omega) (by omega)) ?_
      refine am_r_goto (pc' := 31) rfl rfl ?_
      refine am_r_iret rfl rfl ?_
      first | exact hq | (rw [show c p = -1 by omega] at hq; exact hq) | (rw [hcb.2.2.2 (by omega)] at hq; exact hq)
theorem c_draft {sL : Nat} {xs : Nat → Int32} {d : Nat} {M : Am_M} {Q : Am_M → Prop} (hd : 1 ≤ d) {c : Int → Int} {n p : Int} {l : List (Int × Int)} (hT : TS M c n p l) {s v : Int} (hl : l.length < 121) (hq : ∀ M', am_ft M M' → TS M' c n p (l ++ [(s, v)]) → Q M') : am_bv sL xs d 88 [.ref 15, .int (z_I s), .int (z_I v)] M Q := by
  obtain ⟨d, rfl⟩ : ∃ e, d = e + 1 := ⟨d - 1, by omega⟩
  have hnb := ts_nb hT
  have hpb := ts_pb hT
  have hll := ts_l hT
  have hcb := ts_cb hT
  refine am_bv_of (P := am_pX8_draft) (rt := 0) (nL := 3) (Nat.le_of_ble_eq_true rfl) rfl (Nat.le_of_ble_eq_true rfl) rfl rfl rfl ?_
  refine am_r_aload0 (pc' := 1) rfl rfl ?_
  refine am_r_getIv (f := 5) (pc' := 4) rfl rfl rfl (ts_s hT) ?_
  refine am_r_iconst (pc' := 6) rfl rfl ?_
  refine am_r_icmp_ge (pt := 39) (pf := 9) rfl rfl rfl (fun h6 => ?_) (fun h6 => ?_)
  · refine am_r_vret rfl rfl ?_
    first | (exfalso; omega) | exact hq _ (am_ft_up (am_ft_up (am_ft_up (am_ft_rf _) (by omega)) (by omega)) (by omega)) (ts_add hT hl s v)
  · refine am_r_aload0 (pc' := 10) rfl rfl ?_
    refine am_r_getR (t := 17) (pc' := 13) rfl rfl rfl ?_
    refine am_r_aload0 (pc' := 14) rfl rfl ?_
    refine am_r_getIv (f := 5) (pc' := 17) rfl rfl rfl (ts_s hT) ?_
    refine am_r_iload1 (pc' := 18) rfl rfl ?_
    refine am_r_iast (n := 121) (pc' := 19) rfl rfl (rfl) (by decide) ?_
    refine am_r_aload0 (pc' := 20) rfl rfl ?_
    refine am_r_getR (t := 18) (pc' := 23) rfl rfl rfl ?_
    refine am_r_aload0 (pc' := 24) rfl rfl ?_
    refine am_r_getIv (f := 5) (pc' := 27) rfl rfl rfl (show _ = z_I (l.length : Int) by simp [am_upI, ts_s hT]) ?_
    refine am_r_iload2 (pc' := 28) rfl rfl ?_
    refine am_r_iast (n := 121) (pc' := 29) rfl rfl (rfl) (by decide) ?_
    refine am_r_aload0 (pc' := 30) rfl rfl ?_
    refine am_r_dup (pc' := 31) rfl rfl rfl ?_
    refine am_r_getIv (f := 5) (pc' := 34) rfl rfl rfl (show _ = z_I (l.length : Int) by simp [am_upI, ts_s hT]) ?_
    refine am_r_iconst (pc' := 35) rfl rfl ?_
    refine am_r_iadd (pc' := 36) rfl rfl ?_
    refine am_r_putI (f := 5) (pc' := 39) rfl rfl rfl (by decide) ?_
    refine am_r_vret rfl rfl ?_
    first | (exfalso; omega) | exact hq _ (am_ft_up (am_ft_up (am_ft_up (am_ft_rf _) (by omega)) (by omega)) (by omega)) (ts_add hT hl s v)
theorem c_nameOf {sL : Nat} {xs : Nat → Int32} {d : Nat} {M : Am_M} {Q : Int32 → Am_M → Prop} (hd : 1 ≤ d) {x : Int} (hx : -1 ≤ x ∧ x ≤ 255) (hq : Q (z_I (q_nm x)) M) : am_bi sL xs d 34 [.int (z_I x)] M Q := by
  obtain ⟨d, rfl⟩ : ∃ e, d = e + 1 := ⟨d - 1, by omega⟩
  refine am_bi_of (P := am_pX4_nameOf) (rt := 1) (nL := 1) (Nat.le_of_ble_eq_true rfl) rfl (Nat.le_of_ble_eq_true rfl) rfl rfl rfl ?_
  refine am_r_iload0 (pc' := 1) rfl rfl ?_
  rcases (show x = 97 ∨ x = 100 ∨ x = 108 ∨ x = 112 ∨ x = 114 ∨ x = 119 ∨ (¬ x = 97 ∧ ¬ x = 100 ∧ ¬ x = 108 ∧ ¬ x = 112 ∧ ¬ x = 114 ∧ ¬ x = 119) by omega) with rfl | rfl | rfl | rfl | rfl | rfl | hsw1
  · refine am_r_lsw (t := 66) rfl rfl ?_
    refine am_r_iconst (pc' := 67) rfl rfl ?_
    refine am_r_iret rfl rfl ?_
    first | exact hq | (rw [show q_nm x = -1 by unfold q_nm; repeat (rw [if_neg (by omega)])] at hq; exact hq)
  · refine am_r_lsw (t := 68) rfl rfl ?_
    refine am_r_iconst (pc' := 69) rfl rfl ?_
    refine am_r_iret rfl rfl ?_
    first | exact hq | (rw [show q_nm x = -1 by unfold q_nm; repeat (rw [if_neg (by omega)])] at hq; exact hq)
  · refine am_r_lsw (t := 60) rfl rfl ?_
    refine am_r_iconst (pc' := 61) rfl rfl ?_
    refine am_r_iret rfl rfl ?_
    first | exact hq | (rw [show q_nm x = -1 by unfold q_nm; repeat (rw [if_neg (by omega)])] at hq; exact hq)
  · refine am_r_lsw (t := 70) rfl rfl ?_
    refine am_r_iconst (pc' := 71) rfl rfl ?_
    refine am_r_iret rfl rfl ?_
    first | exact hq | (rw [show q_nm x = -1 by unfold q_nm; repeat (rw [if_neg (by omega)])] at hq; exact hq)
  · refine am_r_lsw (t := 64) rfl rfl ?_
    refine am_r_iconst (pc' := 65) rfl rfl ?_
    refine am_r_iret rfl rfl ?_
    first | exact hq | (rw [show q_nm x = -1 by unfold q_nm; repeat (rw [if_neg (by omega)])] at hq; exact hq)
  · refine am_r_lsw (t := 62) rfl rfl ?_
    refine am_r_iconst (pc' := 63) rfl rfl ?_
    refine am_r_iret rfl rfl ?_
    first | exact hq | (rw [show q_nm x = -1 by unfold q_nm; repeat (rw [if_neg (by omega)])] at hq; exact hq)
  · refine am_r_lsw (t := 72) rfl (by simp only [am_sw]; rw [if_neg (by omega), if_neg (by omega), if_neg (by omega), if_neg (by omega), if_neg (by omega), if_neg (by omega)]; rfl) ?_
    refine am_r_iconst (pc' := 73) rfl rfl ?_
    refine am_r_iret rfl rfl ?_
    first | exact hq | (rw [show q_nm x = -1 by unfold q_nm; repeat (rw [if_neg (by omega)])] at hq; exact hq)
theorem c_readNumber {sL : Nat} {xs : Nat → Int32} {d : Nat} {M : Am_M} {Q : Am_M → Prop} (hd : 2 ≤ d) {c : Int → Int} {n p : Int} {l : List (Int × Int)} (hT : TS M c n p l) (hl : (l.length : Int) < 121) (h48 : 48 ≤ c p ∧ c p ≤ 57) (hq : ∀ M', am_ft M M' → TS M' c n (q_num c 4 0 p).2 (l ++ [(1, (q_num c 4 0 p).1)]) → Q M') : am_bv sL xs d 98 [.ref 15] M Q := by
  obtain ⟨d, rfl⟩ : ∃ e, d = e + 1 := ⟨d - 1, by omega⟩
  have hnb := ts_nb hT
  have hpb := ts_pb hT
  have hll := ts_l hT
  have hcb := ts_cb hT
  have hloop : ∀ (k : Nat) (kk v : Int) (p : Int) (N : Am_M), 0 ≤ kk ∧ kk + k = 4 ∧ 0 ≤ v ∧ (v + 1) * 10 ^ k ≤ 10000 → am_ft M N → TS N c n p l → (∀ M', am_ft M M' → TS M' c n (q_num c k v p).2 (l ++ [(1, (q_num c k v p).1)]) → Q M') → am_rw sL xs d am_pX8_readNumber 0 4 [.ref 15, .int (z_I v), .int (z_I kk)] [] N (am_pv Q) := by
    intro k
    induction k with
    | zero =>
      intro kk v p N hk hF hT hq
      have h10 : (v + 1) * 10 ^ 0 = v + 1 := by simp
      have hcb := ts_cb hT
      refine am_r_iload2 (pc' := 5) rfl rfl ?_
      refine am_r_iconst (pc' := 6) rfl rfl ?_
      refine am_r_icmp_ge (pt := 56) (pf := 9) rfl rfl rfl (fun h6 => ?_) (fun h6 => ?_)
      · refine am_r_aload0 (pc' := 57) rfl rfl ?_
        refine am_r_iconst (pc' := 58) rfl rfl ?_
        refine am_r_iload1 (pc' := 59) rfl rfl ?_
        refine am_r_invV2 (pc' := 62) rfl rfl rfl (Nat.le_of_ble_eq_true rfl) (c_draft (by omega) hT (by omega) ?_)
        · intro M3 hf3 hT3
          have hT := hT3
          have hF := am_ft_tr hF hf3
          refine am_r_vret rfl rfl ?_
          exact hq _ hF hT
      · exfalso; omega
    | succ k ih =>
      intro kk v p N hk hF hT hq
      have hcb := ts_cb hT
      have hpb := ts_pb hT
      have h10 : v + 1 ≤ (v + 1) * 10 ^ (k + 1) := by
        have h3 : 1 ≤ (10 : Int) ^ (k + 1) := by have := Int.pow_pos (n := 10) (m := k + 1) (by omega); omega
        have h4 : (v + 1) * 1 ≤ (v + 1) * 10 ^ (k + 1) := Int.mul_le_mul_of_nonneg_left h3 (by omega)
        omega
      have h11 : 48 ≤ c p → c p ≤ 57 → (v * 10 + c p - 48 + 1) * 10 ^ k ≤ (v + 1) * 10 ^ (k + 1) := fun a b => by
        rw [Int.pow_succ, Int.mul_comm (10 ^ k) 10, ← Int.mul_assoc]
        exact Int.mul_le_mul_of_nonneg_right (by omega) (Int.le_of_lt (Int.pow_pos (by omega)))
      refine am_r_iload2 (pc' := 5) rfl rfl ?_
      refine am_r_iconst (pc' := 6) rfl rfl ?_
      refine am_r_icmp_ge (pt := 56) (pf := 9) rfl rfl rfl (fun h6 => ?_) (fun h6 => ?_)
      · refine am_r_aload0 (pc' := 57) rfl rfl ?_
        refine am_r_iconst (pc' := 58) rfl rfl ?_
        refine am_r_iload1 (pc' := 59) rfl rfl ?_
        refine am_r_invV2 (pc' := 62) rfl rfl rfl (Nat.le_of_ble_eq_true rfl) (c_draft (by omega) hT (by omega) ?_)
        · intro M3 hf3 hT3
          have hT := hT3
          have hF := am_ft_tr hF hf3
          rw [show q_num c (k + 1) v p = (v, p) from if_neg (by omega)] at hq
          refine am_r_vret rfl rfl ?_
          exact hq _ hF hT
      · refine am_r_aload0 (pc' := 10) rfl rfl ?_
        refine am_r_invI0 (pc' := 13) rfl rfl rfl (Nat.le_of_ble_eq_true rfl) (c_next (by omega) hT ?_)
        refine am_r_iconst (pc' := 15) rfl rfl ?_
        refine am_r_icmp_lt (pt := 56) (pf := 18) rfl rfl rfl (fun h15 => ?_) (fun h15 => ?_)
        · refine am_r_aload0 (pc' := 57) rfl rfl ?_
          refine am_r_iconst (pc' := 58) rfl rfl ?_
          refine am_r_iload1 (pc' := 59) rfl rfl ?_
          refine am_r_invV2 (pc' := 62) rfl rfl rfl (Nat.le_of_ble_eq_true rfl) (c_draft (by omega) hT (by omega) ?_)
          · intro M3 hf3 hT3
            have hT := hT3
            have hF := am_ft_tr hF hf3
            rw [show q_num c (k + 1) v p = (v, p) from if_neg (by omega)] at hq
            refine am_r_vret rfl rfl ?_
            exact hq _ hF hT
        · refine am_r_aload0 (pc' := 19) rfl rfl ?_
          refine am_r_invI0 (pc' := 22) rfl rfl rfl (Nat.le_of_ble_eq_true rfl) (c_next (by omega) hT ?_)
          refine am_r_iconst (pc' := 24) rfl rfl ?_
          refine am_r_icmp_gt (pt := 56) (pf := 27) rfl rfl rfl (fun h24 => ?_) (fun h24 => ?_)
          · refine am_r_aload0 (pc' := 57) rfl rfl ?_
            refine am_r_iconst (pc' := 58) rfl rfl ?_
            refine am_r_iload1 (pc' := 59) rfl rfl ?_
            refine am_r_invV2 (pc' := 62) rfl rfl rfl (Nat.le_of_ble_eq_true rfl) (c_draft (by omega) hT (by omega) ?_)
            · intro M3 hf3 hT3
              have hT := hT3
              have hF := am_ft_tr hF hf3
              rw [show q_num c (k + 1) v p = (v, p) from if_neg (by omega)] at hq
              refine am_r_vret rfl rfl ?_
              exact hq _ hF hT
          · refine am_r_iload1 (pc' := 28) rfl rfl ?_
            refine am_r_iconst (pc' := 30) rfl rfl ?_
            refine am_r_imul (pc' := 31) rfl rfl ?_
            refine am_r_aload0 (pc' := 32) rfl rfl ?_
            refine am_r_invI0 (pc' := 35) rfl rfl rfl (Nat.le_of_ble_eq_true rfl) (c_next (by omega) hT ?_)
            refine am_r_iadd (pc' := 36) rfl rfl ?_
            refine am_r_iconst (pc' := 38) rfl rfl ?_
            refine am_r_isub (pc' := 39) rfl rfl ?_
            refine am_r_istore1 (pc' := 40) rfl rfl rfl ?_
            refine am_r_aload0 (pc' := 41) rfl rfl ?_
            refine am_r_dup (pc' := 42) rfl rfl rfl ?_
            refine am_r_getIv (f := 2) (pc' := 45) rfl rfl rfl (ts_p hT) ?_
            refine am_r_iconst (pc' := 46) rfl rfl ?_
            refine am_r_iadd (pc' := 47) rfl rfl ?_
            refine am_r_putI (f := 2) (pc' := 50) rfl rfl rfl (by decide) ?_
            refine am_r_iinc2 (pc' := 53) rfl rfl rfl ?_
            refine am_r_goto (pc' := 4) rfl rfl ?_
            exact ih _ _ _ _ (by have := h11 h15 h24; omega) (am_ft_up hF (by omega)) (ts_inc hT (by omega)) (by rw [show q_num c (k + 1) v p = q_num c k (v * 10 + c p - 48) (p + 1) from if_pos ⟨h15, h24⟩] at hq; exact hq)
  refine am_bv_of (P := am_pX8_readNumber) (rt := 0) (nL := 3) (Nat.le_of_ble_eq_true rfl) rfl (Nat.le_of_ble_eq_true rfl) rfl rfl rfl ?_
  refine am_r_iconst (pc' := 1) rfl rfl ?_
  refine am_r_istore1 (pc' := 2) rfl rfl rfl ?_
  refine am_r_iconst (pc' := 3) rfl rfl ?_
  refine am_r_istore2 (pc' := 4) rfl rfl rfl ?_
  exact hloop 4 0 0 p M (by decide) (am_ft_rf _) hT hq
theorem c_readsProduct {sL : Nat} {xs : Nat → Int32} {c : Int → Int} {n o : Int} {D : Nat} {one : Int → q_R} (hg : q_gd n one) (hD : 2 ≤ D) (hs : q_rd sL xs c n D 95 o one) : q_rd sL xs c n (D + 1) 94 o (q_lev one q_i1 c) := by
  intro d M Q p l hd hT hl hqT hqF
  obtain ⟨d, rfl⟩ : ∃ e, d = e + 1 := ⟨d - 1, by omega⟩
  have hnb := ts_nb hT
  have hpb := ts_pb hT
  have hll := ts_l hT
  have hcb := ts_cb hT
  have hloop : ∀ (k : Nat) (kk : Int) (a : q_R) (N : Am_M) (w3 : Value), a.1 = true → am_ft M N → TS N c n a.2.1 (l ++ a.2.2.1) → p ≤ a.2.1 ∧ (a.2.2.1.length : Int) ≤ a.2.1 - p → 0 ≤ kk ∧ kk + k = 120 → (∀ M', am_ft M M' → (q_chain one q_i1 c k a).1 = true → TS M' c n (q_chain one q_i1 c k a).2.1 (l ++ (q_chain one q_i1 c k a).2.2.1) → Q (z_I 1) M') → (∀ M', am_ft M M' → (q_chain one q_i1 c k a).1 = false → M'.1 15 2 = z_I (q_chain one q_i1 c k a).2.1 → Q (z_I 0) M') → am_rw sL xs d am_pX8_readsProduct 2 12 [.ref 15, .int (z_I o), .int (z_I kk), w3] [] N (am_pi Q) := by
    intro k
    induction k with
    | zero =>
      intro kk a N w3 ha hF hT hab hk hqT hqF
      have hcb := ts_cb hT
      refine am_r_iload2 (pc' := 13) rfl rfl ?_
      refine am_r_iconst (pc' := 15) rfl rfl ?_
      refine am_r_icmp_ge (pt := 82) (pf := 18) rfl rfl rfl (fun h15 => ?_) (fun h15 => ?_)
      · refine am_r_iconst (pc' := 83) rfl rfl ?_
        refine am_r_zret rfl rfl (by first | exact Or.inr rfl | exact Or.inl rfl | exact z_b_01 _ | assumption) ?_
        exact hqT _ hF ha hT
      · exfalso; omega
    | succ k ih =>
      intro kk a N w3 ha hF hT hab hk hqT hqF
      have hcb := ts_cb hT
      have hpb := ts_pb hT
      refine am_r_iload2 (pc' := 13) rfl rfl ?_
      refine am_r_iconst (pc' := 15) rfl rfl ?_
      refine am_r_icmp_ge (pt := 82) (pf := 18) rfl rfl rfl (fun h15 => ?_) (fun h15 => ?_)
      · have e : q_chain one q_i1 c (k + 1) a = a := (by rw [q_chain, if_neg]; rintro ⟨_, q⟩; simp only [q_i1, decide_eq_true_eq] at q; omega)
        rw [e] at hqT
        refine am_r_iconst (pc' := 83) rfl rfl ?_
        refine am_r_zret rfl rfl (by first | exact Or.inr rfl | exact Or.inl rfl | exact z_b_01 _ | assumption) ?_
        exact hqT _ hF ha hT
      · refine am_r_aload0 (pc' := 19) rfl rfl ?_
        refine am_r_invI0 (pc' := 22) rfl rfl rfl (Nat.le_of_ble_eq_true rfl) (c_next (by omega) hT ?_)
        refine am_r_iconst (pc' := 24) rfl rfl ?_
        refine am_r_icmp_eq (pt := 45) (pf := 27) rfl rfl rfl (fun h24 => ?_) (fun h24 => ?_)
        · refine am_r_aload0 (pc' := 46) rfl rfl ?_
          refine am_r_invI0 (pc' := 49) rfl rfl rfl (Nat.le_of_ble_eq_true rfl) (c_next (by omega) hT ?_)
          refine am_r_istore3 (pc' := 50) rfl rfl rfl ?_
          refine am_r_aload0 (pc' := 51) rfl rfl ?_
          refine am_r_dup (pc' := 52) rfl rfl rfl ?_
          refine am_r_getIv (f := 2) (pc' := 55) rfl rfl rfl (ts_p hT) ?_
          refine am_r_iconst (pc' := 56) rfl rfl ?_
          refine am_r_iadd (pc' := 57) rfl rfl ?_
          refine am_r_putI (f := 2) (pc' := 60) rfl rfl rfl (by decide) ?_
          have hF := am_ft_up (k := 15) (i := 2) (x := z_I (a.2.1 + 1)) hF (by omega)
          have hT := ts_inc hT (by omega)
          refine am_r_aload0 (pc' := 61) rfl rfl ?_
          refine am_r_iload1 (pc' := 62) rfl rfl ?_
          refine am_r_invI1 (pc' := 65) rfl rfl rfl (Nat.le_of_ble_eq_true rfl) (hs (by omega) hT (by simp only [List.length_append]; omega) ?_ ?_)
          · intro M2 hf2 e2 hT2
            have hT := hT2
            have hF := am_ft_tr hF hf2
            have hi : q_i1 (c a.2.1) = true := (by simp only [q_i1, decide_eq_true_eq]; omega)
            have hg2 := hg (a.2.1 + 1) (by omega) (by omega)
            have hg3 := hg2.2.2 e2
            refine am_r_if_ne (pt := 70) (pf := 68) rfl rfl rfl (fun h65 => ?_) (fun h65 => by exfalso; omega)
            refine am_r_aload0 (pc' := 71) rfl rfl ?_
            refine am_r_iload3 (pc' := 72) rfl rfl ?_
            refine am_r_iconst (pc' := 73) rfl rfl ?_
            refine am_r_invV2 (pc' := 76) rfl rfl rfl (Nat.le_of_ble_eq_true rfl) (c_draft (by omega) hT (by simp only [List.length_append]; omega) ?_)
            · intro M3 hf3 hT3
              have hT := hT3
              have hF := am_ft_tr hF hf3
              refine am_r_iinc2 (pc' := 79) rfl rfl rfl ?_
              refine am_r_goto (pc' := 12) rfl rfl ?_
              have e : q_chain one q_i1 c (k + 1) a = q_chain one q_i1 c k (true, (one (a.2.1 + 1)).2.1, a.2.2.1 ++ (one (a.2.1 + 1)).2.2.1 ++ [(c a.2.1, 0)], fun ν => q_join (c a.2.1) (a.2.2.2 ν) ((one (a.2.1 + 1)).2.2.2 ν)) := (by rw [q_chain, if_pos ⟨ha, hi⟩, if_pos e2])
              rw [e] at hqT hqF
              refine ih _ _ _ _ rfl hF ?_ ?_ (by omega) hqT hqF
              · simp only [List.append_assoc] at hT ⊢
                first | exact hT | (rw [show c a.2.1 = 0 by omega]; exact hT)
              · simp only [List.length_append, List.length_cons, List.length_nil]; omega
          · intro M2 hf2 e2 hp2
            have hF := am_ft_tr hF hf2
            have hi : q_i1 (c a.2.1) = true := (by simp only [q_i1, decide_eq_true_eq]; omega)
            have e : q_chain one q_i1 c (k + 1) a = q_no (one (a.2.1 + 1)).2.1 := (by rw [q_chain, if_pos ⟨ha, hi⟩, if_neg (by rw [e2]; decide)])
            rw [e] at hqF
            refine am_r_if_ne (pt := 70) (pf := 68) rfl rfl rfl (fun h65 => by exfalso; omega) (fun h65 => ?_)
            refine am_r_iconst (pc' := 69) rfl rfl ?_
            refine am_r_zret rfl rfl (by first | exact Or.inr rfl | exact Or.inl rfl | exact z_b_01 _ | assumption) ?_
            exact hqF _ hF rfl hp2
        · refine am_r_aload0 (pc' := 28) rfl rfl ?_
          refine am_r_invI0 (pc' := 31) rfl rfl rfl (Nat.le_of_ble_eq_true rfl) (c_next (by omega) hT ?_)
          refine am_r_iconst (pc' := 33) rfl rfl ?_
          refine am_r_icmp_eq (pt := 45) (pf := 36) rfl rfl rfl (fun h33 => ?_) (fun h33 => ?_)
          · refine am_r_aload0 (pc' := 46) rfl rfl ?_
            refine am_r_invI0 (pc' := 49) rfl rfl rfl (Nat.le_of_ble_eq_true rfl) (c_next (by omega) hT ?_)
            refine am_r_istore3 (pc' := 50) rfl rfl rfl ?_
            refine am_r_aload0 (pc' := 51) rfl rfl ?_
            refine am_r_dup (pc' := 52) rfl rfl rfl ?_
            refine am_r_getIv (f := 2) (pc' := 55) rfl rfl rfl (ts_p hT) ?_
            refine am_r_iconst (pc' := 56) rfl rfl ?_
            refine am_r_iadd (pc' := 57) rfl rfl ?_
            refine am_r_putI (f := 2) (pc' := 60) rfl rfl rfl (by decide) ?_
            have hF := am_ft_up (k := 15) (i := 2) (x := z_I (a.2.1 + 1)) hF (by omega)
            have hT := ts_inc hT (by omega)
            refine am_r_aload0 (pc' := 61) rfl rfl ?_
            refine am_r_iload1 (pc' := 62) rfl rfl ?_
            refine am_r_invI1 (pc' := 65) rfl rfl rfl (Nat.le_of_ble_eq_true rfl) (hs (by omega) hT (by simp only [List.length_append]; omega) ?_ ?_)
            · intro M2 hf2 e2 hT2
              have hT := hT2
              have hF := am_ft_tr hF hf2
              have hi : q_i1 (c a.2.1) = true := (by simp only [q_i1, decide_eq_true_eq]; omega)
              have hg2 := hg (a.2.1 + 1) (by omega) (by omega)
              have hg3 := hg2.2.2 e2
              refine am_r_if_ne (pt := 70) (pf := 68) rfl rfl rfl (fun h65 => ?_) (fun h65 => by exfalso; omega)
              refine am_r_aload0 (pc' := 71) rfl rfl ?_
              refine am_r_iload3 (pc' := 72) rfl rfl ?_
              refine am_r_iconst (pc' := 73) rfl rfl ?_
              refine am_r_invV2 (pc' := 76) rfl rfl rfl (Nat.le_of_ble_eq_true rfl) (c_draft (by omega) hT (by simp only [List.length_append]; omega) ?_)
              · intro M3 hf3 hT3
                have hT := hT3
                have hF := am_ft_tr hF hf3
                refine am_r_iinc2 (pc' := 79) rfl rfl rfl ?_
                refine am_r_goto (pc' := 12) rfl rfl ?_
                have e : q_chain one q_i1 c (k + 1) a = q_chain one q_i1 c k (true, (one (a.2.1 + 1)).2.1, a.2.2.1 ++ (one (a.2.1 + 1)).2.2.1 ++ [(c a.2.1, 0)], fun ν => q_join (c a.2.1) (a.2.2.2 ν) ((one (a.2.1 + 1)).2.2.2 ν)) := (by rw [q_chain, if_pos ⟨ha, hi⟩, if_pos e2])
                rw [e] at hqT hqF
                refine ih _ _ _ _ rfl hF ?_ ?_ (by omega) hqT hqF
                · simp only [List.append_assoc] at hT ⊢
                  first | exact hT | (rw [show c a.2.1 = 0 by omega]; exact hT)
                · simp only [List.length_append, List.length_cons, List.length_nil]; omega
            · intro M2 hf2 e2 hp2
              have hF := am_ft_tr hF hf2
              have hi : q_i1 (c a.2.1) = true := (by simp only [q_i1, decide_eq_true_eq]; omega)
              have e : q_chain one q_i1 c (k + 1) a = q_no (one (a.2.1 + 1)).2.1 := (by rw [q_chain, if_pos ⟨ha, hi⟩, if_neg (by rw [e2]; decide)])
              rw [e] at hqF
              refine am_r_if_ne (pt := 70) (pf := 68) rfl rfl rfl (fun h65 => by exfalso; omega) (fun h65 => ?_)
              refine am_r_iconst (pc' := 69) rfl rfl ?_
              refine am_r_zret rfl rfl (by first | exact Or.inr rfl | exact Or.inl rfl | exact z_b_01 _ | assumption) ?_
              exact hqF _ hF rfl hp2
          · refine am_r_aload0 (pc' := 37) rfl rfl ?_
            refine am_r_invI0 (pc' := 40) rfl rfl rfl (Nat.le_of_ble_eq_true rfl) (c_next (by omega) hT ?_)
            refine am_r_iconst (pc' := 42) rfl rfl ?_
            refine am_r_icmp_ne (pt := 82) (pf := 45) rfl rfl rfl (fun h42 => ?_) (fun h42 => ?_)
            · have e : q_chain one q_i1 c (k + 1) a = a := (by rw [q_chain, if_neg]; rintro ⟨_, q⟩; simp only [q_i1, decide_eq_true_eq] at q; omega)
              rw [e] at hqT
              refine am_r_iconst (pc' := 83) rfl rfl ?_
              refine am_r_zret rfl rfl (by first | exact Or.inr rfl | exact Or.inl rfl | exact z_b_01 _ | assumption) ?_
              exact hqT _ hF ha hT
            · refine am_r_aload0 (pc' := 46) rfl rfl ?_
              refine am_r_invI0 (pc' := 49) rfl rfl rfl (Nat.le_of_ble_eq_true rfl) (c_next (by omega) hT ?_)
              refine am_r_istore3 (pc' := 50) rfl rfl rfl ?_
              refine am_r_aload0 (pc' := 51) rfl rfl ?_
              refine am_r_dup (pc' := 52) rfl rfl rfl ?_
              refine am_r_getIv (f := 2) (pc' := 55) rfl rfl rfl (ts_p hT) ?_
              refine am_r_iconst (pc' := 56) rfl rfl ?_
              refine am_r_iadd (pc' := 57) rfl rfl ?_
              refine am_r_putI (f := 2) (pc' := 60) rfl rfl rfl (by decide) ?_
              have hF := am_ft_up (k := 15) (i := 2) (x := z_I (a.2.1 + 1)) hF (by omega)
              have hT := ts_inc hT (by omega)
              refine am_r_aload0 (pc' := 61) rfl rfl ?_
              refine am_r_iload1 (pc' := 62) rfl rfl ?_
              refine am_r_invI1 (pc' := 65) rfl rfl rfl (Nat.le_of_ble_eq_true rfl) (hs (by omega) hT (by simp only [List.length_append]; omega) ?_ ?_)
              · intro M2 hf2 e2 hT2
                have hT := hT2
                have hF := am_ft_tr hF hf2
                have hi : q_i1 (c a.2.1) = true := (by simp only [q_i1, decide_eq_true_eq]; omega)
                have hg2 := hg (a.2.1 + 1) (by omega) (by omega)
                have hg3 := hg2.2.2 e2
                refine am_r_if_ne (pt := 70) (pf := 68) rfl rfl rfl (fun h65 => ?_) (fun h65 => by exfalso; omega)
                refine am_r_aload0 (pc' := 71) rfl rfl ?_
                refine am_r_iload3 (pc' := 72) rfl rfl ?_
                refine am_r_iconst (pc' := 73) rfl rfl ?_
                refine am_r_invV2 (pc' := 76) rfl rfl rfl (Nat.le_of_ble_eq_true rfl) (c_draft (by omega) hT (by simp only [List.length_append]; omega) ?_)
                · intro M3 hf3 hT3
                  have hT := hT3
                  have hF := am_ft_tr hF hf3
                  refine am_r_iinc2 (pc' := 79) rfl rfl rfl ?_
                  refine am_r_goto (pc' := 12) rfl rfl ?_
                  have e : q_chain one q_i1 c (k + 1) a = q_chain one q_i1 c k (true, (one (a.2.1 + 1)).2.1, a.2.2.1 ++ (one (a.2.1 + 1)).2.2.1 ++ [(c a.2.1, 0)], fun ν => q_join (c a.2.1) (a.2.2.2 ν) ((one (a.2.1 + 1)).2.2.2 ν)) := (by rw [q_chain, if_pos ⟨ha, hi⟩, if_pos e2])
                  rw [e] at hqT hqF
                  refine ih _ _ _ _ rfl hF ?_ ?_ (by omega) hqT hqF
                  · simp only [List.append_assoc] at hT ⊢
                    first | exact hT | (rw [show c a.2.1 = 0 by omega]; exact hT)
                  · simp only [List.length_append, List.length_cons, List.length_nil]; omega
              · intro M2 hf2 e2 hp2
                have hF := am_ft_tr hF hf2
                have hi : q_i1 (c a.2.1) = true := (by simp only [q_i1, decide_eq_true_eq]; omega)
                have e : q_chain one q_i1 c (k + 1) a = q_no (one (a.2.1 + 1)).2.1 := (by rw [q_chain, if_pos ⟨ha, hi⟩, if_neg (by rw [e2]; decide)])
                rw [e] at hqF
                refine am_r_if_ne (pt := 70) (pf := 68) rfl rfl rfl (fun h65 => by exfalso; omega) (fun h65 => ?_)
                refine am_r_iconst (pc' := 69) rfl rfl ?_
                refine am_r_zret rfl rfl (by first | exact Or.inr rfl | exact Or.inl rfl | exact z_b_01 _ | assumption) ?_
                exact hqF _ hF rfl hp2
  refine am_bi_of (P := am_pX8_readsProduct) (rt := 2) (nL := 4) (Nat.le_of_ble_eq_true rfl) rfl (Nat.le_of_ble_eq_true rfl) rfl rfl rfl ?_
  refine am_r_aload0 (pc' := 1) rfl rfl ?_
  refine am_r_iload1 (pc' := 2) rfl rfl ?_
  refine am_r_invI1 (pc' := 5) rfl rfl rfl (Nat.le_of_ble_eq_true rfl) (hs (by omega) hT hl ?_ ?_)
  · intro M2 hf2 e2 hT2
    have hg2 := hg p (by omega) (by omega)
    have hg3 := hg2.2.2 e2
    refine am_r_if_ne (pt := 10) (pf := 8) rfl rfl rfl (fun h5 => ?_) (fun h5 => by exfalso; omega)
    refine am_r_iconst (pc' := 11) rfl rfl ?_
    refine am_r_istore2 (pc' := 12) rfl rfl rfl ?_
    exact hloop 120 0 (one p) _ _ e2 hf2 hT2 (by omega) (by omega) hqT hqF
  · intro M2 hf2 e2 hp2
    have e : q_lev one q_i1 c p = one p := (by unfold q_lev; rw [q_chain, if_neg]; rw [e2]; rintro ⟨q, _⟩; exact absurd q (by decide))
    rw [e] at hqF
    refine am_r_if_ne (pt := 10) (pf := 8) rfl rfl rfl (fun h5 => by exfalso; omega) (fun h5 => ?_)
    refine am_r_iconst (pc' := 9) rfl rfl ?_
    refine am_r_zret rfl rfl (by first | exact Or.inr rfl | exact Or.inl rfl | exact z_b_01 _ | assumption) ?_
    exact hqF _ hf2 e2 hp2
theorem c_readsSum {sL : Nat} {xs : Nat → Int32} {c : Int → Int} {n o : Int} {D : Nat} {one : Int → q_R} (hg : q_gd n one) (hD : 2 ≤ D) (hs : q_rd sL xs c n D 94 o one) : q_rd sL xs c n (D + 1) 93 o (q_lev one q_i2 c) := by
  intro d M Q p l hd hT hl hqT hqF
  obtain ⟨d, rfl⟩ : ∃ e, d = e + 1 := ⟨d - 1, by omega⟩
  have hnb := ts_nb hT
  have hpb := ts_pb hT
  have hll := ts_l hT
  have hcb := ts_cb hT
  have hloop : ∀ (k : Nat) (kk : Int) (a : q_R) (N : Am_M) (w3 : Value), a.1 = true → am_ft M N → TS N c n a.2.1 (l ++ a.2.2.1) → p ≤ a.2.1 ∧ (a.2.2.1.length : Int) ≤ a.2.1 - p → 0 ≤ kk ∧ kk + k = 120 → (∀ M', am_ft M M' → (q_chain one q_i2 c k a).1 = true → TS M' c n (q_chain one q_i2 c k a).2.1 (l ++ (q_chain one q_i2 c k a).2.2.1) → Q (z_I 1) M') → (∀ M', am_ft M M' → (q_chain one q_i2 c k a).1 = false → M'.1 15 2 = z_I (q_chain one q_i2 c k a).2.1 → Q (z_I 0) M') → am_rw sL xs d am_pX8_readsSum 2 12 [.ref 15, .int (z_I o), .int (z_I kk), w3] [] N (am_pi Q) := by
    intro k
    induction k with
    | zero =>
      intro kk a N w3 ha hF hT hab hk hqT hqF
      have hcb := ts_cb hT
      refine am_r_iload2 (pc' := 13) rfl rfl ?_
      refine am_r_iconst (pc' := 15) rfl rfl ?_
      refine am_r_icmp_ge (pt := 73) (pf := 18) rfl rfl rfl (fun h15 => ?_) (fun h15 => ?_)
      · refine am_r_iconst (pc' := 74) rfl rfl ?_
        refine am_r_zret rfl rfl (by first | exact Or.inr rfl | exact Or.inl rfl | exact z_b_01 _ | assumption) ?_
        exact hqT _ hF ha hT
      · exfalso; omega
    | succ k ih =>
      intro kk a N w3 ha hF hT hab hk hqT hqF
      have hcb := ts_cb hT
      have hpb := ts_pb hT
      refine am_r_iload2 (pc' := 13) rfl rfl ?_
      refine am_r_iconst (pc' := 15) rfl rfl ?_
      refine am_r_icmp_ge (pt := 73) (pf := 18) rfl rfl rfl (fun h15 => ?_) (fun h15 => ?_)
      · have e : q_chain one q_i2 c (k + 1) a = a := (by rw [q_chain, if_neg]; rintro ⟨_, q⟩; simp only [q_i2, decide_eq_true_eq] at q; omega)
        rw [e] at hqT
        refine am_r_iconst (pc' := 74) rfl rfl ?_
        refine am_r_zret rfl rfl (by first | exact Or.inr rfl | exact Or.inl rfl | exact z_b_01 _ | assumption) ?_
        exact hqT _ hF ha hT
      · refine am_r_aload0 (pc' := 19) rfl rfl ?_
        refine am_r_invI0 (pc' := 22) rfl rfl rfl (Nat.le_of_ble_eq_true rfl) (c_next (by omega) hT ?_)
        refine am_r_iconst (pc' := 24) rfl rfl ?_
        refine am_r_icmp_eq (pt := 36) (pf := 27) rfl rfl rfl (fun h24 => ?_) (fun h24 => ?_)
        · refine am_r_aload0 (pc' := 37) rfl rfl ?_
          refine am_r_invI0 (pc' := 40) rfl rfl rfl (Nat.le_of_ble_eq_true rfl) (c_next (by omega) hT ?_)
          refine am_r_istore3 (pc' := 41) rfl rfl rfl ?_
          refine am_r_aload0 (pc' := 42) rfl rfl ?_
          refine am_r_dup (pc' := 43) rfl rfl rfl ?_
          refine am_r_getIv (f := 2) (pc' := 46) rfl rfl rfl (ts_p hT) ?_
          refine am_r_iconst (pc' := 47) rfl rfl ?_
          refine am_r_iadd (pc' := 48) rfl rfl ?_
          refine am_r_putI (f := 2) (pc' := 51) rfl rfl rfl (by decide) ?_
          have hF := am_ft_up (k := 15) (i := 2) (x := z_I (a.2.1 + 1)) hF (by omega)
          have hT := ts_inc hT (by omega)
          refine am_r_aload0 (pc' := 52) rfl rfl ?_
          refine am_r_iload1 (pc' := 53) rfl rfl ?_
          refine am_r_invI1 (pc' := 56) rfl rfl rfl (Nat.le_of_ble_eq_true rfl) (hs (by omega) hT (by simp only [List.length_append]; omega) ?_ ?_)
          · intro M2 hf2 e2 hT2
            have hT := hT2
            have hF := am_ft_tr hF hf2
            have hi : q_i2 (c a.2.1) = true := (by simp only [q_i2, decide_eq_true_eq]; omega)
            have hg2 := hg (a.2.1 + 1) (by omega) (by omega)
            have hg3 := hg2.2.2 e2
            refine am_r_if_ne (pt := 61) (pf := 59) rfl rfl rfl (fun h56 => ?_) (fun h56 => by exfalso; omega)
            refine am_r_aload0 (pc' := 62) rfl rfl ?_
            refine am_r_iload3 (pc' := 63) rfl rfl ?_
            refine am_r_iconst (pc' := 64) rfl rfl ?_
            refine am_r_invV2 (pc' := 67) rfl rfl rfl (Nat.le_of_ble_eq_true rfl) (c_draft (by omega) hT (by simp only [List.length_append]; omega) ?_)
            · intro M3 hf3 hT3
              have hT := hT3
              have hF := am_ft_tr hF hf3
              refine am_r_iinc2 (pc' := 70) rfl rfl rfl ?_
              refine am_r_goto (pc' := 12) rfl rfl ?_
              have e : q_chain one q_i2 c (k + 1) a = q_chain one q_i2 c k (true, (one (a.2.1 + 1)).2.1, a.2.2.1 ++ (one (a.2.1 + 1)).2.2.1 ++ [(c a.2.1, 0)], fun ν => q_join (c a.2.1) (a.2.2.2 ν) ((one (a.2.1 + 1)).2.2.2 ν)) := (by rw [q_chain, if_pos ⟨ha, hi⟩, if_pos e2])
              rw [e] at hqT hqF
              refine ih _ _ _ _ rfl hF ?_ ?_ (by omega) hqT hqF
              · simp only [List.append_assoc] at hT ⊢
                first | exact hT | (rw [show c a.2.1 = 0 by omega]; exact hT)
              · simp only [List.length_append, List.length_cons, List.length_nil]; omega
          · intro M2 hf2 e2 hp2
            have hF := am_ft_tr hF hf2
            have hi : q_i2 (c a.2.1) = true := (by simp only [q_i2, decide_eq_true_eq]; omega)
            have e : q_chain one q_i2 c (k + 1) a = q_no (one (a.2.1 + 1)).2.1 := (by rw [q_chain, if_pos ⟨ha, hi⟩, if_neg (by rw [e2]; decide)])
            rw [e] at hqF
            refine am_r_if_ne (pt := 61) (pf := 59) rfl rfl rfl (fun h56 => by exfalso; omega) (fun h56 => ?_)
            refine am_r_iconst (pc' := 60) rfl rfl ?_
            refine am_r_zret rfl rfl (by first | exact Or.inr rfl | exact Or.inl rfl | exact z_b_01 _ | assumption) ?_
            exact hqF _ hF rfl hp2
        · refine am_r_aload0 (pc' := 28) rfl rfl ?_
          refine am_r_invI0 (pc' := 31) rfl rfl rfl (Nat.le_of_ble_eq_true rfl) (c_next (by omega) hT ?_)
          refine am_r_iconst (pc' := 33) rfl rfl ?_
          refine am_r_icmp_ne (pt := 73) (pf := 36) rfl rfl rfl (fun h33 => ?_) (fun h33 => ?_)
          · have e : q_chain one q_i2 c (k + 1) a = a := (by rw [q_chain, if_neg]; rintro ⟨_, q⟩; simp only [q_i2, decide_eq_true_eq] at q; omega)
            rw [e] at hqT
            refine am_r_iconst (pc' := 74) rfl rfl ?_
            refine am_r_zret rfl rfl (by first | exact Or.inr rfl | exact Or.inl rfl | exact z_b_01 _ | assumption) ?_
            exact hqT _ hF ha hT
          · refine am_r_aload0 (pc' := 37) rfl rfl ?_
            refine am_r_invI0 (pc' := 40) rfl rfl rfl (Nat.le_of_ble_eq_true rfl) (c_next (by omega) hT ?_)
            refine am_r_istore3 (pc' := 41) rfl rfl rfl ?_
            refine am_r_aload0 (pc' := 42) rfl rfl ?_
            refine am_r_dup (pc' := 43) rfl rfl rfl ?_
            refine am_r_getIv (f := 2) (pc' := 46) rfl rfl rfl (ts_p hT) ?_
            refine am_r_iconst (pc' := 47) rfl rfl ?_
            refine am_r_iadd (pc' := 48) rfl rfl ?_
            refine am_r_putI (f := 2) (pc' := 51) rfl rfl rfl (by decide) ?_
            have hF := am_ft_up (k := 15) (i := 2) (x := z_I (a.2.1 + 1)) hF (by omega)
            have hT := ts_inc hT (by omega)
            refine am_r_aload0 (pc' := 52) rfl rfl ?_
            refine am_r_iload1 (pc' := 53) rfl rfl ?_
            refine am_r_invI1 (pc' := 56) rfl rfl rfl (Nat.le_of_ble_eq_true rfl) (hs (by omega) hT (by simp only [List.length_append]; omega) ?_ ?_)
            · intro M2 hf2 e2 hT2
              have hT := hT2
              have hF := am_ft_tr hF hf2
              have hi : q_i2 (c a.2.1) = true := (by simp only [q_i2, decide_eq_true_eq]; omega)
              have hg2 := hg (a.2.1 + 1) (by omega) (by omega)
              have hg3 := hg2.2.2 e2
              refine am_r_if_ne (pt := 61) (pf := 59) rfl rfl rfl (fun h56 => ?_) (fun h56 => by exfalso; omega)
              refine am_r_aload0 (pc' := 62) rfl rfl ?_
              refine am_r_iload3 (pc' := 63) rfl rfl ?_
              refine am_r_iconst (pc' := 64) rfl rfl ?_
              refine am_r_invV2 (pc' := 67) rfl rfl rfl (Nat.le_of_ble_eq_true rfl) (c_draft (by omega) hT (by simp only [List.length_append]; omega) ?_)
              · intro M3 hf3 hT3
                have hT := hT3
                have hF := am_ft_tr hF hf3
                refine am_r_iinc2 (pc' := 70) rfl rfl rfl ?_
                refine am_r_goto (pc' := 12) rfl rfl ?_
                have e : q_chain one q_i2 c (k + 1) a = q_chain one q_i2 c k (true, (one (a.2.1 + 1)).2.1, a.2.2.1 ++ (one (a.2.1 + 1)).2.2.1 ++ [(c a.2.1, 0)], fun ν => q_join (c a.2.1) (a.2.2.2 ν) ((one (a.2.1 + 1)).2.2.2 ν)) := (by rw [q_chain, if_pos ⟨ha, hi⟩, if_pos e2])
                rw [e] at hqT hqF
                refine ih _ _ _ _ rfl hF ?_ ?_ (by omega) hqT hqF
                · simp only [List.append_assoc] at hT ⊢
                  first | exact hT | (rw [show c a.2.1 = 0 by omega]; exact hT)
                · simp only [List.length_append, List.length_cons, List.length_nil]; omega
            · intro M2 hf2 e2 hp2
              have hF := am_ft_tr hF hf2
              have hi : q_i2 (c a.2.1) = true := (by simp only [q_i2, decide_eq_true_eq]; omega)
              have e : q_chain one q_i2 c (k + 1) a = q_no (one (a.2.1 + 1)).2.1 := (by rw [q_chain, if_pos ⟨ha, hi⟩, if_neg (by rw [e2]; decide)])
              rw [e] at hqF
              refine am_r_if_ne (pt := 61) (pf := 59) rfl rfl rfl (fun h56 => by exfalso; omega) (fun h56 => ?_)
              refine am_r_iconst (pc' := 60) rfl rfl ?_
              refine am_r_zret rfl rfl (by first | exact Or.inr rfl | exact Or.inl rfl | exact z_b_01 _ | assumption) ?_
              exact hqF _ hF rfl hp2
  refine am_bi_of (P := am_pX8_readsSum) (rt := 2) (nL := 4) (Nat.le_of_ble_eq_true rfl) rfl (Nat.le_of_ble_eq_true rfl) rfl rfl rfl ?_
  refine am_r_aload0 (pc' := 1) rfl rfl ?_
  refine am_r_iload1 (pc' := 2) rfl rfl ?_
  refine am_r_invI1 (pc' := 5) rfl rfl rfl (Nat.le_of_ble_eq_true rfl) (hs (by omega) hT hl ?_ ?_)
  · intro M2 hf2 e2 hT2
    have hg2 := hg p (by omega) (by omega)
    have hg3 := hg2.2.2 e2
    refine am_r_if_ne (pt := 10) (pf := 8) rfl rfl rfl (fun h5 => ?_) (fun h5 => by exfalso; omega)
    refine am_r_iconst (pc' := 11) rfl rfl ?_
    refine am_r_istore2 (pc' := 12) rfl rfl rfl ?_
    exact hloop 120 0 (one p) _ _ e2 hf2 hT2 (by omega) (by omega) hqT hqF
  · intro M2 hf2 e2 hp2
    have e : q_lev one q_i2 c p = one p := (by unfold q_lev; rw [q_chain, if_neg]; rw [e2]; rintro ⟨q, _⟩; exact absurd q (by decide))
    rw [e] at hqF
    refine am_r_if_ne (pt := 10) (pf := 8) rfl rfl rfl (fun h5 => by exfalso; omega) (fun h5 => ?_)
    refine am_r_iconst (pc' := 9) rfl rfl ?_
    refine am_r_zret rfl rfl (by first | exact Or.inr rfl | exact Or.inl rfl | exact z_b_01 _ | assumption) ?_
    exact hqF _ hf2 e2 hp2
theorem c_readsBoth {sL : Nat} {xs : Nat → Int32} {c : Int → Int} {n o : Int} {D : Nat} {one : Int → q_R} (hg : q_gd n one) (hD : 2 ≤ D) (hs : q_rd sL xs c n D 92 o one) : q_rd sL xs c n (D + 1) 91 o (q_lev one q_i3 c) := by
  intro d M Q p l hd hT hl hqT hqF
  obtain ⟨d, rfl⟩ : ∃ e, d = e + 1 := ⟨d - 1, by omega⟩
  have hnb := ts_nb hT
  have hpb := ts_pb hT
  have hll := ts_l hT
  have hcb := ts_cb hT
  have hloop : ∀ (k : Nat) (kk : Int) (a : q_R) (N : Am_M), a.1 = true → am_ft M N → TS N c n a.2.1 (l ++ a.2.2.1) → p ≤ a.2.1 ∧ (a.2.2.1.length : Int) ≤ a.2.1 - p → 0 ≤ kk ∧ kk + k = 120 → (∀ M', am_ft M M' → (q_chain one q_i3 c k a).1 = true → TS M' c n (q_chain one q_i3 c k a).2.1 (l ++ (q_chain one q_i3 c k a).2.2.1) → Q (z_I 1) M') → (∀ M', am_ft M M' → (q_chain one q_i3 c k a).1 = false → M'.1 15 2 = z_I (q_chain one q_i3 c k a).2.1 → Q (z_I 0) M') → am_rw sL xs d am_pX8_readsBoth 2 12 [.ref 15, .int (z_I o), .int (z_I kk)] [] N (am_pi Q) := by
    intro k
    induction k with
    | zero =>
      intro kk a N ha hF hT hab hk hqT hqF
      have hcb := ts_cb hT
      refine am_r_iload2 (pc' := 13) rfl rfl ?_
      refine am_r_iconst (pc' := 15) rfl rfl ?_
      refine am_r_icmp_ge (pt := 60) (pf := 18) rfl rfl rfl (fun h15 => ?_) (fun h15 => ?_)
      · refine am_r_iconst (pc' := 61) rfl rfl ?_
        refine am_r_zret rfl rfl (by first | exact Or.inr rfl | exact Or.inl rfl | exact z_b_01 _ | assumption) ?_
        exact hqT _ hF ha hT
      · exfalso; omega
    | succ k ih =>
      intro kk a N ha hF hT hab hk hqT hqF
      have hcb := ts_cb hT
      have hpb := ts_pb hT
      refine am_r_iload2 (pc' := 13) rfl rfl ?_
      refine am_r_iconst (pc' := 15) rfl rfl ?_
      refine am_r_icmp_ge (pt := 60) (pf := 18) rfl rfl rfl (fun h15 => ?_) (fun h15 => ?_)
      · have e : q_chain one q_i3 c (k + 1) a = a := (by rw [q_chain, if_neg]; rintro ⟨_, q⟩; simp only [q_i3, decide_eq_true_eq] at q; omega)
        rw [e] at hqT
        refine am_r_iconst (pc' := 61) rfl rfl ?_
        refine am_r_zret rfl rfl (by first | exact Or.inr rfl | exact Or.inl rfl | exact z_b_01 _ | assumption) ?_
        exact hqT _ hF ha hT
      · refine am_r_aload0 (pc' := 19) rfl rfl ?_
        refine am_r_invI0 (pc' := 22) rfl rfl rfl (Nat.le_of_ble_eq_true rfl) (c_next (by omega) hT ?_)
        refine am_r_iconst (pc' := 24) rfl rfl ?_
        refine am_r_icmp_ne (pt := 60) (pf := 27) rfl rfl rfl (fun h24 => ?_) (fun h24 => ?_)
        · have e : q_chain one q_i3 c (k + 1) a = a := (by rw [q_chain, if_neg]; rintro ⟨_, q⟩; simp only [q_i3, decide_eq_true_eq] at q; omega)
          rw [e] at hqT
          refine am_r_iconst (pc' := 61) rfl rfl ?_
          refine am_r_zret rfl rfl (by first | exact Or.inr rfl | exact Or.inl rfl | exact z_b_01 _ | assumption) ?_
          exact hqT _ hF ha hT
        · refine am_r_aload0 (pc' := 28) rfl rfl ?_
          refine am_r_dup (pc' := 29) rfl rfl rfl ?_
          refine am_r_getIv (f := 2) (pc' := 32) rfl rfl rfl (ts_p hT) ?_
          refine am_r_iconst (pc' := 33) rfl rfl ?_
          refine am_r_iadd (pc' := 34) rfl rfl ?_
          refine am_r_putI (f := 2) (pc' := 37) rfl rfl rfl (by decide) ?_
          have hF := am_ft_up (k := 15) (i := 2) (x := z_I (a.2.1 + 1)) hF (by omega)
          have hT := ts_inc hT (by omega)
          refine am_r_aload0 (pc' := 38) rfl rfl ?_
          refine am_r_iload1 (pc' := 39) rfl rfl ?_
          refine am_r_invI1 (pc' := 42) rfl rfl rfl (Nat.le_of_ble_eq_true rfl) (hs (by omega) hT (by simp only [List.length_append]; omega) ?_ ?_)
          · intro M2 hf2 e2 hT2
            have hT := hT2
            have hF := am_ft_tr hF hf2
            have hi : q_i3 (c a.2.1) = true := (by simp only [q_i3, decide_eq_true_eq]; omega)
            have hg2 := hg (a.2.1 + 1) (by omega) (by omega)
            have hg3 := hg2.2.2 e2
            refine am_r_if_ne (pt := 47) (pf := 45) rfl rfl rfl (fun h42 => ?_) (fun h42 => by exfalso; omega)
            refine am_r_aload0 (pc' := 48) rfl rfl ?_
            refine am_r_iconst (pc' := 50) rfl rfl ?_
            refine am_r_iconst (pc' := 51) rfl rfl ?_
            refine am_r_invV2 (pc' := 54) rfl rfl rfl (Nat.le_of_ble_eq_true rfl) (c_draft (by omega) hT (by simp only [List.length_append]; omega) ?_)
            · intro M3 hf3 hT3
              have hT := hT3
              have hF := am_ft_tr hF hf3
              refine am_r_iinc2 (pc' := 57) rfl rfl rfl ?_
              refine am_r_goto (pc' := 12) rfl rfl ?_
              have e : q_chain one q_i3 c (k + 1) a = q_chain one q_i3 c k (true, (one (a.2.1 + 1)).2.1, a.2.2.1 ++ (one (a.2.1 + 1)).2.2.1 ++ [(c a.2.1, 0)], fun ν => q_join (c a.2.1) (a.2.2.2 ν) ((one (a.2.1 + 1)).2.2.2 ν)) := (by rw [q_chain, if_pos ⟨ha, hi⟩, if_pos e2])
              rw [e] at hqT hqF
              refine ih _ _ _ rfl hF ?_ ?_ (by omega) hqT hqF
              · simp only [List.append_assoc] at hT ⊢
                first | exact hT | (rw [show c a.2.1 = 38 by omega]; exact hT)
              · simp only [List.length_append, List.length_cons, List.length_nil]; omega
          · intro M2 hf2 e2 hp2
            have hF := am_ft_tr hF hf2
            have hi : q_i3 (c a.2.1) = true := (by simp only [q_i3, decide_eq_true_eq]; omega)
            have e : q_chain one q_i3 c (k + 1) a = q_no (one (a.2.1 + 1)).2.1 := (by rw [q_chain, if_pos ⟨ha, hi⟩, if_neg (by rw [e2]; decide)])
            rw [e] at hqF
            refine am_r_if_ne (pt := 47) (pf := 45) rfl rfl rfl (fun h42 => by exfalso; omega) (fun h42 => ?_)
            refine am_r_iconst (pc' := 46) rfl rfl ?_
            refine am_r_zret rfl rfl (by first | exact Or.inr rfl | exact Or.inl rfl | exact z_b_01 _ | assumption) ?_
            exact hqF _ hF rfl hp2
  refine am_bi_of (P := am_pX8_readsBoth) (rt := 2) (nL := 3) (Nat.le_of_ble_eq_true rfl) rfl (Nat.le_of_ble_eq_true rfl) rfl rfl rfl ?_
  refine am_r_aload0 (pc' := 1) rfl rfl ?_
  refine am_r_iload1 (pc' := 2) rfl rfl ?_
  refine am_r_invI1 (pc' := 5) rfl rfl rfl (Nat.le_of_ble_eq_true rfl) (hs (by omega) hT hl ?_ ?_)
  · intro M2 hf2 e2 hT2
    have hg2 := hg p (by omega) (by omega)
    have hg3 := hg2.2.2 e2
    refine am_r_if_ne (pt := 10) (pf := 8) rfl rfl rfl (fun h5 => ?_) (fun h5 => by exfalso; omega)
    refine am_r_iconst (pc' := 11) rfl rfl ?_
    refine am_r_istore2 (pc' := 12) rfl rfl rfl ?_
    exact hloop 120 0 (one p) _ e2 hf2 hT2 (by omega) (by omega) hqT hqF
  · intro M2 hf2 e2 hp2
    have e : q_lev one q_i3 c p = one p := (by unfold q_lev; rw [q_chain, if_neg]; rw [e2]; rintro ⟨q, _⟩; exact absurd q (by decide))
    rw [e] at hqF
    refine am_r_if_ne (pt := 10) (pf := 8) rfl rfl rfl (fun h5 => by exfalso; omega) (fun h5 => ?_)
    refine am_r_iconst (pc' := 9) rfl rfl ?_
    refine am_r_zret rfl rfl (by first | exact Or.inr rfl | exact Or.inl rfl | exact z_b_01 _ | assumption) ?_
    exact hqF _ hf2 e2 hp2
theorem c_readsEither {sL : Nat} {xs : Nat → Int32} {c : Int → Int} {n o : Int} {D : Nat} {one : Int → q_R} (hg : q_gd n one) (hD : 2 ≤ D) (hs : q_rd sL xs c n D 91 o one) : q_rd sL xs c n (D + 1) 90 o (q_lev one q_i4 c) := by
  intro d M Q p l hd hT hl hqT hqF
  obtain ⟨d, rfl⟩ : ∃ e, d = e + 1 := ⟨d - 1, by omega⟩
  have hnb := ts_nb hT
  have hpb := ts_pb hT
  have hll := ts_l hT
  have hcb := ts_cb hT
  have hloop : ∀ (k : Nat) (kk : Int) (a : q_R) (N : Am_M), a.1 = true → am_ft M N → TS N c n a.2.1 (l ++ a.2.2.1) → p ≤ a.2.1 ∧ (a.2.2.1.length : Int) ≤ a.2.1 - p → 0 ≤ kk ∧ kk + k = 120 → (∀ M', am_ft M M' → (q_chain one q_i4 c k a).1 = true → TS M' c n (q_chain one q_i4 c k a).2.1 (l ++ (q_chain one q_i4 c k a).2.2.1) → Q (z_I 1) M') → (∀ M', am_ft M M' → (q_chain one q_i4 c k a).1 = false → M'.1 15 2 = z_I (q_chain one q_i4 c k a).2.1 → Q (z_I 0) M') → am_rw sL xs d am_pX8_readsEither 2 12 [.ref 15, .int (z_I o), .int (z_I kk)] [] N (am_pi Q) := by
    intro k
    induction k with
    | zero =>
      intro kk a N ha hF hT hab hk hqT hqF
      have hcb := ts_cb hT
      refine am_r_iload2 (pc' := 13) rfl rfl ?_
      refine am_r_iconst (pc' := 15) rfl rfl ?_
      refine am_r_icmp_ge (pt := 60) (pf := 18) rfl rfl rfl (fun h15 => ?_) (fun h15 => ?_)
      · refine am_r_iconst (pc' := 61) rfl rfl ?_
        refine am_r_zret rfl rfl (by first | exact Or.inr rfl | exact Or.inl rfl | exact z_b_01 _ | assumption) ?_
        exact hqT _ hF ha hT
      · exfalso; omega
    | succ k ih =>
      intro kk a N ha hF hT hab hk hqT hqF
      have hcb := ts_cb hT
      have hpb := ts_pb hT
      refine am_r_iload2 (pc' := 13) rfl rfl ?_
      refine am_r_iconst (pc' := 15) rfl rfl ?_
      refine am_r_icmp_ge (pt := 60) (pf := 18) rfl rfl rfl (fun h15 => ?_) (fun h15 => ?_)
      · have e : q_chain one q_i4 c (k + 1) a = a := (by rw [q_chain, if_neg]; rintro ⟨_, q⟩; simp only [q_i4, decide_eq_true_eq] at q; omega)
        rw [e] at hqT
        refine am_r_iconst (pc' := 61) rfl rfl ?_
        refine am_r_zret rfl rfl (by first | exact Or.inr rfl | exact Or.inl rfl | exact z_b_01 _ | assumption) ?_
        exact hqT _ hF ha hT
      · refine am_r_aload0 (pc' := 19) rfl rfl ?_
        refine am_r_invI0 (pc' := 22) rfl rfl rfl (Nat.le_of_ble_eq_true rfl) (c_next (by omega) hT ?_)
        refine am_r_iconst (pc' := 24) rfl rfl ?_
        refine am_r_icmp_ne (pt := 60) (pf := 27) rfl rfl rfl (fun h24 => ?_) (fun h24 => ?_)
        · have e : q_chain one q_i4 c (k + 1) a = a := (by rw [q_chain, if_neg]; rintro ⟨_, q⟩; simp only [q_i4, decide_eq_true_eq] at q; omega)
          rw [e] at hqT
          refine am_r_iconst (pc' := 61) rfl rfl ?_
          refine am_r_zret rfl rfl (by first | exact Or.inr rfl | exact Or.inl rfl | exact z_b_01 _ | assumption) ?_
          exact hqT _ hF ha hT
        · refine am_r_aload0 (pc' := 28) rfl rfl ?_
          refine am_r_dup (pc' := 29) rfl rfl rfl ?_
          refine am_r_getIv (f := 2) (pc' := 32) rfl rfl rfl (ts_p hT) ?_
          refine am_r_iconst (pc' := 33) rfl rfl ?_
          refine am_r_iadd (pc' := 34) rfl rfl ?_
          refine am_r_putI (f := 2) (pc' := 37) rfl rfl rfl (by decide) ?_
          have hF := am_ft_up (k := 15) (i := 2) (x := z_I (a.2.1 + 1)) hF (by omega)
          have hT := ts_inc hT (by omega)
          refine am_r_aload0 (pc' := 38) rfl rfl ?_
          refine am_r_iload1 (pc' := 39) rfl rfl ?_
          refine am_r_invI1 (pc' := 42) rfl rfl rfl (Nat.le_of_ble_eq_true rfl) (hs (by omega) hT (by simp only [List.length_append]; omega) ?_ ?_)
          · intro M2 hf2 e2 hT2
            have hT := hT2
            have hF := am_ft_tr hF hf2
            have hi : q_i4 (c a.2.1) = true := (by simp only [q_i4, decide_eq_true_eq]; omega)
            have hg2 := hg (a.2.1 + 1) (by omega) (by omega)
            have hg3 := hg2.2.2 e2
            refine am_r_if_ne (pt := 47) (pf := 45) rfl rfl rfl (fun h42 => ?_) (fun h42 => by exfalso; omega)
            refine am_r_aload0 (pc' := 48) rfl rfl ?_
            refine am_r_iconst (pc' := 50) rfl rfl ?_
            refine am_r_iconst (pc' := 51) rfl rfl ?_
            refine am_r_invV2 (pc' := 54) rfl rfl rfl (Nat.le_of_ble_eq_true rfl) (c_draft (by omega) hT (by simp only [List.length_append]; omega) ?_)
            · intro M3 hf3 hT3
              have hT := hT3
              have hF := am_ft_tr hF hf3
              refine am_r_iinc2 (pc' := 57) rfl rfl rfl ?_
              refine am_r_goto (pc' := 12) rfl rfl ?_
              have e : q_chain one q_i4 c (k + 1) a = q_chain one q_i4 c k (true, (one (a.2.1 + 1)).2.1, a.2.2.1 ++ (one (a.2.1 + 1)).2.2.1 ++ [(c a.2.1, 0)], fun ν => q_join (c a.2.1) (a.2.2.2 ν) ((one (a.2.1 + 1)).2.2.2 ν)) := (by rw [q_chain, if_pos ⟨ha, hi⟩, if_pos e2])
              rw [e] at hqT hqF
              refine ih _ _ _ rfl hF ?_ ?_ (by omega) hqT hqF
              · simp only [List.append_assoc] at hT ⊢
                first | exact hT | (rw [show c a.2.1 = 124 by omega]; exact hT)
              · simp only [List.length_append, List.length_cons, List.length_nil]; omega
          · intro M2 hf2 e2 hp2
            have hF := am_ft_tr hF hf2
            have hi : q_i4 (c a.2.1) = true := (by simp only [q_i4, decide_eq_true_eq]; omega)
            have e : q_chain one q_i4 c (k + 1) a = q_no (one (a.2.1 + 1)).2.1 := (by rw [q_chain, if_pos ⟨ha, hi⟩, if_neg (by rw [e2]; decide)])
            rw [e] at hqF
            refine am_r_if_ne (pt := 47) (pf := 45) rfl rfl rfl (fun h42 => by exfalso; omega) (fun h42 => ?_)
            refine am_r_iconst (pc' := 46) rfl rfl ?_
            refine am_r_zret rfl rfl (by first | exact Or.inr rfl | exact Or.inl rfl | exact z_b_01 _ | assumption) ?_
            exact hqF _ hF rfl hp2
  refine am_bi_of (P := am_pX8_readsEither) (rt := 2) (nL := 3) (Nat.le_of_ble_eq_true rfl) rfl (Nat.le_of_ble_eq_true rfl) rfl rfl rfl ?_
  refine am_r_aload0 (pc' := 1) rfl rfl ?_
  refine am_r_iload1 (pc' := 2) rfl rfl ?_
  refine am_r_invI1 (pc' := 5) rfl rfl rfl (Nat.le_of_ble_eq_true rfl) (hs (by omega) hT hl ?_ ?_)
  · intro M2 hf2 e2 hT2
    have hg2 := hg p (by omega) (by omega)
    have hg3 := hg2.2.2 e2
    refine am_r_if_ne (pt := 10) (pf := 8) rfl rfl rfl (fun h5 => ?_) (fun h5 => by exfalso; omega)
    refine am_r_iconst (pc' := 11) rfl rfl ?_
    refine am_r_istore2 (pc' := 12) rfl rfl rfl ?_
    exact hloop 120 0 (one p) _ e2 hf2 hT2 (by omega) (by omega) hqT hqF
  · intro M2 hf2 e2 hp2
    have e : q_lev one q_i4 c p = one p := (by unfold q_lev; rw [q_chain, if_neg]; rw [e2]; rintro ⟨q, _⟩; exact absurd q (by decide))
    rw [e] at hqF
    refine am_r_if_ne (pt := 10) (pf := 8) rfl rfl rfl (fun h5 => by exfalso; omega) (fun h5 => ?_)
    refine am_r_iconst (pc' := 9) rfl rfl ?_
    refine am_r_zret rfl rfl (by first | exact Or.inr rfl | exact Or.inl rfl | exact z_b_01 _ | assumption) ?_
    exact hqF _ hf2 e2 hp2
theorem c_readsCompared {sL : Nat} {xs : Nat → Int32} {c : Int → Int} {n o : Int} {D : Nat} {one : Int → q_R} (hg : q_gd n one) (hD : 2 ≤ D) (hs : q_rd sL xs c n D 93 o one) : q_rd sL xs c n (D + 1) 92 o (q_cmp one c) := by
  intro d M Q p l hd hT hl hqT hqF
  obtain ⟨d, rfl⟩ : ∃ e, d = e + 1 := ⟨d - 1, by omega⟩
  have hnb := ts_nb hT
  have hpb := ts_pb hT
  have hll := ts_l hT
  have hcb := ts_cb hT
  have hF := am_ft_rf M
  have hc0 : (one p).1 = true → ¬ (c (one p).2.1 = 60 ∨ c (one p).2.1 = 61 ∨ c (one p).2.1 = 62) → q_cmp one c p = one p := fun _ q => if_neg (fun z => q z.2)
  refine am_bi_of (P := am_pX8_readsCompared) (rt := 2) (nL := 3) (Nat.le_of_ble_eq_true rfl) rfl (Nat.le_of_ble_eq_true rfl) rfl rfl rfl ?_
  refine am_r_aload0 (pc' := 1) rfl rfl ?_
  refine am_r_iload1 (pc' := 2) rfl rfl ?_
  refine am_r_invI1 (pc' := 5) rfl rfl rfl (Nat.le_of_ble_eq_true rfl) (hs (by omega) hT hl ?_ ?_)
  · intro M2 hf2 e2 hT2
    have hT := hT2
    have hF := am_ft_tr hF hf2
    have hg2 := hg p (by omega) (by omega)
    have hg3 := hg2.2.2 e2
    have hcb := ts_cb hT
    refine am_r_if_ne (pt := 10) (pf := 8) rfl rfl rfl (fun h5 => ?_) (fun h5 => by exfalso; omega)
    refine am_r_aload0 (pc' := 11) rfl rfl ?_
    refine am_r_invI0 (pc' := 14) rfl rfl rfl (Nat.le_of_ble_eq_true rfl) (c_next (by omega) hT ?_)
    refine am_r_istore2 (pc' := 15) rfl rfl rfl ?_
    refine am_r_iload2 (pc' := 16) rfl rfl ?_
    refine am_r_iconst (pc' := 18) rfl rfl ?_
    refine am_r_icmp_eq (pt := 35) (pf := 21) rfl rfl rfl (fun h18 => ?_) (fun h18 => ?_)
    · refine am_r_aload0 (pc' := 36) rfl rfl ?_
      refine am_r_dup (pc' := 37) rfl rfl rfl ?_
      refine am_r_getIv (f := 2) (pc' := 40) rfl rfl rfl (ts_p hT) ?_
      refine am_r_iconst (pc' := 41) rfl rfl ?_
      refine am_r_iadd (pc' := 42) rfl rfl ?_
      refine am_r_putI (f := 2) (pc' := 45) rfl rfl rfl (by decide) ?_
      have hF := am_ft_up (k := 15) (i := 2) (x := z_I ((one p).2.1 + 1)) hF (by omega)
      have hT := ts_inc hT (by omega)
      refine am_r_aload0 (pc' := 46) rfl rfl ?_
      refine am_r_iload1 (pc' := 47) rfl rfl ?_
      refine am_r_invI1 (pc' := 50) rfl rfl rfl (Nat.le_of_ble_eq_true rfl) (hs (by omega) hT (by simp only [List.length_append]; omega) ?_ ?_)
      · intro M4 hf4 e4 hT4
        have hT := hT4
        have hF := am_ft_tr hF hf4
        have hg4 := hg ((one p).2.1 + 1) (by omega) (by omega)
        have hg5 := hg4.2.2 e4
        refine am_r_if_ne (pt := 55) (pf := 53) rfl rfl rfl (fun h50 => ?_) (fun h50 => by exfalso; omega)
        refine am_r_aload0 (pc' := 56) rfl rfl ?_
        refine am_r_iload2 (pc' := 57) rfl rfl ?_
        refine am_r_iconst (pc' := 58) rfl rfl ?_
        refine am_r_invV2 (pc' := 61) rfl rfl rfl (Nat.le_of_ble_eq_true rfl) (c_draft (by omega) hT (by simp only [List.length_append]; omega) ?_)
        · intro M3 hf3 hT3
          have hT := hT3
          have hF := am_ft_tr hF hf3
          refine am_r_iconst (pc' := 62) rfl rfl ?_
          refine am_r_zret rfl rfl (by first | exact Or.inr rfl | exact Or.inl rfl | exact z_b_01 _ | assumption) ?_
          have e : q_cmp one c p = (true, (one ((one p).2.1 + 1)).2.1, (one p).2.2.1 ++ (one ((one p).2.1 + 1)).2.2.1 ++ [(c (one p).2.1, 0)], fun ν => q_join (c (one p).2.1) ((one p).2.2.2 ν) ((one ((one p).2.1 + 1)).2.2.2 ν)) := (by unfold q_cmp; rw [if_pos ⟨e2, by omega⟩, if_pos e4])
          rw [e] at hqT
          exact hqT _ hF rfl (by simp only [List.append_assoc] at hT ⊢; exact hT)
      · intro M4 hf4 e4 hp4
        have hF := am_ft_tr hF hf4
        have e : q_cmp one c p = q_no (one ((one p).2.1 + 1)).2.1 := (by unfold q_cmp; rw [if_pos ⟨e2, by omega⟩, if_neg (by rw [e4]; decide)])
        rw [e] at hqF
        refine am_r_if_ne (pt := 55) (pf := 53) rfl rfl rfl (fun h50 => by exfalso; omega) (fun h50 => ?_)
        refine am_r_iconst (pc' := 54) rfl rfl ?_
        refine am_r_zret rfl rfl (by first | exact Or.inr rfl | exact Or.inl rfl | exact z_b_01 _ | assumption) ?_
        exact hqF _ hF rfl hp4
    · refine am_r_iload2 (pc' := 22) rfl rfl ?_
      refine am_r_iconst (pc' := 24) rfl rfl ?_
      refine am_r_icmp_eq (pt := 35) (pf := 27) rfl rfl rfl (fun h24 => ?_) (fun h24 => ?_)
      · refine am_r_aload0 (pc' := 36) rfl rfl ?_
        refine am_r_dup (pc' := 37) rfl rfl rfl ?_
        refine am_r_getIv (f := 2) (pc' := 40) rfl rfl rfl (ts_p hT) ?_
        refine am_r_iconst (pc' := 41) rfl rfl ?_
        refine am_r_iadd (pc' := 42) rfl rfl ?_
        refine am_r_putI (f := 2) (pc' := 45) rfl rfl rfl (by decide) ?_
        have hF := am_ft_up (k := 15) (i := 2) (x := z_I ((one p).2.1 + 1)) hF (by omega)
        have hT := ts_inc hT (by omega)
        refine am_r_aload0 (pc' := 46) rfl rfl ?_
        refine am_r_iload1 (pc' := 47) rfl rfl ?_
        refine am_r_invI1 (pc' := 50) rfl rfl rfl (Nat.le_of_ble_eq_true rfl) (hs (by omega) hT (by simp only [List.length_append]; omega) ?_ ?_)
        · intro M4 hf4 e4 hT4
          have hT := hT4
          have hF := am_ft_tr hF hf4
          have hg4 := hg ((one p).2.1 + 1) (by omega) (by omega)
          have hg5 := hg4.2.2 e4
          refine am_r_if_ne (pt := 55) (pf := 53) rfl rfl rfl (fun h50 => ?_) (fun h50 => by exfalso; omega)
          refine am_r_aload0 (pc' := 56) rfl rfl ?_
          refine am_r_iload2 (pc' := 57) rfl rfl ?_
          refine am_r_iconst (pc' := 58) rfl rfl ?_
          refine am_r_invV2 (pc' := 61) rfl rfl rfl (Nat.le_of_ble_eq_true rfl) (c_draft (by omega) hT (by simp only [List.length_append]; omega) ?_)
          · intro M3 hf3 hT3
            have hT := hT3
            have hF := am_ft_tr hF hf3
            refine am_r_iconst (pc' := 62) rfl rfl ?_
            refine am_r_zret rfl rfl (by first | exact Or.inr rfl | exact Or.inl rfl | exact z_b_01 _ | assumption) ?_
            have e : q_cmp one c p = (true, (one ((one p).2.1 + 1)).2.1, (one p).2.2.1 ++ (one ((one p).2.1 + 1)).2.2.1 ++ [(c (one p).2.1, 0)], fun ν => q_join (c (one p).2.1) ((one p).2.2.2 ν) ((one ((one p).2.1 + 1)).2.2.2 ν)) := (by unfold q_cmp; rw [if_pos ⟨e2, by omega⟩, if_pos e4])
            rw [e] at hqT
            exact hqT _ hF rfl (by simp only [List.append_assoc] at hT ⊢; exact hT)
        · intro M4 hf4 e4 hp4
          have hF := am_ft_tr hF hf4
          have e : q_cmp one c p = q_no (one ((one p).2.1 + 1)).2.1 := (by unfold q_cmp; rw [if_pos ⟨e2, by omega⟩, if_neg (by rw [e4]; decide)])
          rw [e] at hqF
          refine am_r_if_ne (pt := 55) (pf := 53) rfl rfl rfl (fun h50 => by exfalso; omega) (fun h50 => ?_)
          refine am_r_iconst (pc' := 54) rfl rfl ?_
          refine am_r_zret rfl rfl (by first | exact Or.inr rfl | exact Or.inl rfl | exact z_b_01 _ | assumption) ?_
          exact hqF _ hF rfl hp4
      · refine am_r_iload2 (pc' := 28) rfl rfl ?_
        refine am_r_iconst (pc' := 30) rfl rfl ?_
        refine am_r_icmp_eq (pt := 35) (pf := 33) rfl rfl rfl (fun h30 => ?_) (fun h30 => ?_)
        · refine am_r_aload0 (pc' := 36) rfl rfl ?_
          refine am_r_dup (pc' := 37) rfl rfl rfl ?_
          refine am_r_getIv (f := 2) (pc' := 40) rfl rfl rfl (ts_p hT) ?_
          refine am_r_iconst (pc' := 41) rfl rfl ?_
          refine am_r_iadd (pc' := 42) rfl rfl ?_
          refine am_r_putI (f := 2) (pc' := 45) rfl rfl rfl (by decide) ?_
          have hF := am_ft_up (k := 15) (i := 2) (x := z_I ((one p).2.1 + 1)) hF (by omega)
          have hT := ts_inc hT (by omega)
          refine am_r_aload0 (pc' := 46) rfl rfl ?_
          refine am_r_iload1 (pc' := 47) rfl rfl ?_
          refine am_r_invI1 (pc' := 50) rfl rfl rfl (Nat.le_of_ble_eq_true rfl) (hs (by omega) hT (by simp only [List.length_append]; omega) ?_ ?_)
          · intro M4 hf4 e4 hT4
            have hT := hT4
            have hF := am_ft_tr hF hf4
            have hg4 := hg ((one p).2.1 + 1) (by omega) (by omega)
            have hg5 := hg4.2.2 e4
            refine am_r_if_ne (pt := 55) (pf := 53) rfl rfl rfl (fun h50 => ?_) (fun h50 => by exfalso; omega)
            refine am_r_aload0 (pc' := 56) rfl rfl ?_
            refine am_r_iload2 (pc' := 57) rfl rfl ?_
            refine am_r_iconst (pc' := 58) rfl rfl ?_
            refine am_r_invV2 (pc' := 61) rfl rfl rfl (Nat.le_of_ble_eq_true rfl) (c_draft (by omega) hT (by simp only [List.length_append]; omega) ?_)
            · intro M3 hf3 hT3
              have hT := hT3
              have hF := am_ft_tr hF hf3
              refine am_r_iconst (pc' := 62) rfl rfl ?_
              refine am_r_zret rfl rfl (by first | exact Or.inr rfl | exact Or.inl rfl | exact z_b_01 _ | assumption) ?_
              have e : q_cmp one c p = (true, (one ((one p).2.1 + 1)).2.1, (one p).2.2.1 ++ (one ((one p).2.1 + 1)).2.2.1 ++ [(c (one p).2.1, 0)], fun ν => q_join (c (one p).2.1) ((one p).2.2.2 ν) ((one ((one p).2.1 + 1)).2.2.2 ν)) := (by unfold q_cmp; rw [if_pos ⟨e2, by omega⟩, if_pos e4])
              rw [e] at hqT
              exact hqT _ hF rfl (by simp only [List.append_assoc] at hT ⊢; exact hT)
          · intro M4 hf4 e4 hp4
            have hF := am_ft_tr hF hf4
            have e : q_cmp one c p = q_no (one ((one p).2.1 + 1)).2.1 := (by unfold q_cmp; rw [if_pos ⟨e2, by omega⟩, if_neg (by rw [e4]; decide)])
            rw [e] at hqF
            refine am_r_if_ne (pt := 55) (pf := 53) rfl rfl rfl (fun h50 => by exfalso; omega) (fun h50 => ?_)
            refine am_r_iconst (pc' := 54) rfl rfl ?_
            refine am_r_zret rfl rfl (by first | exact Or.inr rfl | exact Or.inl rfl | exact z_b_01 _ | assumption) ?_
            exact hqF _ hF rfl hp4
        · refine am_r_iconst (pc' := 34) rfl rfl ?_
          refine am_r_zret rfl rfl (by first | exact Or.inr rfl | exact Or.inl rfl | exact z_b_01 _ | assumption) ?_
          have e := hc0 e2 (by omega)
          rw [e] at hqT
          exact hqT _ hF e2 hT
  · intro M2 hf2 e2 hp2
    have e : q_cmp one c p = one p := (by unfold q_cmp; rw [if_neg]; rw [e2]; rintro ⟨q, _⟩; exact absurd q (by decide))
    rw [e] at hqF
    refine am_r_if_ne (pt := 10) (pf := 8) rfl rfl rfl (fun h5 => by exfalso; omega) (fun h5 => ?_)
    refine am_r_iconst (pc' := 9) rfl rfl ?_
    refine am_r_zret rfl rfl (by first | exact Or.inr rfl | exact Or.inl rfl | exact z_b_01 _ | assumption) ?_
    exact hqF _ hf2 e2 hp2
