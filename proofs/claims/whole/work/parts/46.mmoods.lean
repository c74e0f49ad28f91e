/-! MOODS, the reference -/
def QM (M : Am_M) (κ : Int → Int) (n : Int) (l : List Int) : Prop := (0 ≤ n ∧ n ≤ 50) ∧ (∀ i, 0 ≤ i ∧ i < n → 0 ≤ κ i ∧ κ i ≤ 7) ∧ M.1 53 29 = z_I n ∧ (∀ i, 0 ≤ i ∧ i < n → M.1 69 i.toNat = z_I (κ i)) ∧ M.1 53 32 = z_I (l.length : Int) ∧ ∀ i x, i < 24 → l[i]? = some x → M.1 70 i = z_I x
theorem qm_nb {M : Am_M} {κ : Int → Int} {n : Int} {l : List Int} (h : QM M κ n l) : 0 ≤ n ∧ n ≤ 50 := h.1
theorem qm_kb {M : Am_M} {κ : Int → Int} {n : Int} {l : List Int} (h : QM M κ n l) {i : Int} (hi : 0 ≤ i ∧ i < n) : 0 ≤ κ i ∧ κ i ≤ 7 := h.2.1 i hi
theorem qm_n {M : Am_M} {κ : Int → Int} {n : Int} {l : List Int} (h : QM M κ n l) : M.1 53 29 = z_I n := h.2.2.1
theorem qm_k {M : Am_M} {κ : Int → Int} {n : Int} {l : List Int} (h : QM M κ n l) {i : Int} (hi : 0 ≤ i ∧ i < n) : M.1 69 i.toNat = z_I (κ i) := h.2.2.2.1 i hi
theorem qm_r {M : Am_M} {κ : Int → Int} {n : Int} {l : List Int} (h : QM M κ n l) : M.1 53 32 = z_I (l.length : Int) := h.2.2.2.2.1
theorem qm_t {M : Am_M} {κ : Int → Int} {n : Int} {l : List Int} (h : QM M κ n l) : ∀ i x, i < 24 → l[i]? = some x → M.1 70 i = z_I x := h.2.2.2.2.2
theorem qm_cg {M M' : Am_M} {κ : Int → Int} {n : Int} {l : List Int} (h : QM M κ n l) (h1 : M'.1 53 29 = M.1 53 29) (h2 : ∀ i, M'.1 69 i = M.1 69 i) (h3 : M'.1 53 32 = M.1 53 32) (h4 : ∀ i, M'.1 70 i = M.1 70 i) : QM M' κ n l := by
  unfold QM at h ⊢
  simp only [h1, h2, h3, h4]
  exact h
theorem qm_as {M : Am_M} {κ : Int → Int} {n : Int} {l r s : List Int} (h : QM M κ n ((l ++ r) ++ s)) : QM M κ n (l ++ (r ++ s)) := by rw [← List.append_assoc]; exact h
def am_fMd (M M' : Am_M) : Prop := (∀ k i, ¬ (k = 53 ∧ (i = 32 ∨ i = 33 ∨ i = 34)) → k ≠ 70 → M'.1 k i = M.1 k i) ∧ M'.2 = M.2
theorem am_fMd_rf (M : Am_M) : am_fMd M M := ⟨fun _ _ _ _ => rfl, rfl⟩
theorem am_fMd_tr {M M' M'' : Am_M} (h : am_fMd M M') (h2 : am_fMd M' M'') : am_fMd M M'' := ⟨fun k i q r => (h2.1 k i q r).trans (h.1 k i q r), h2.2.trans h.2⟩
theorem am_fMd_up {M M' : Am_M} (h : am_fMd M M') {k i : Nat} {x : Int32} (hk : (k = 53 ∧ (i = 32 ∨ i = 33 ∨ i = 34)) ∨ k = 70) : am_fMd M (am_upI M' k i x) := ⟨fun k' j q r => by
  show (if k' = k ∧ j = i then x else M'.1 k' j) = _
  rw [if_neg (by omega)]; exact h.1 k' j q r, h.2⟩
theorem qm_note {M : Am_M} {κ : Int → Int} {n : Int} {l : List Int} (h : QM M κ n l) (c : Int) (t : Bool) (ht : t = true ∨ 24 ≤ l.length) : QM (am_upI (if t = true then am_upI M 70 ((l.length : Int)).toNat (z_I c) else M) 53 32 (z_I ((l.length : Int) + 1))) κ n (l ++ [c]) := by
  obtain ⟨h1, h2, h3, h4, h5, h6⟩ := h
  refine ⟨h1, h2, ?_, fun i hi => ?_, ?_, fun i x hi e => ?_⟩
  · cases t <;> simp [am_upI, h3]
  · have := h4 i hi
    cases t <;> simpa [am_upI] using this
  · rw [List.length_append]; simp [am_upI]
  · by_cases q : i < l.length
    · rw [List.getElem?_append_left q] at e
      have := h6 i x hi e
      have q2 : ¬ i = l.length := by omega
      cases t <;> simpa [am_upI, q2] using this
    · rw [List.getElem?_append_right (by omega)] at e
      by_cases q2 : i = l.length
      · rw [q2] at e ⊢
        simp at e
        rcases ht with ht | ht
        · rw [ht]; simp [am_upI, e]
        · omega
      · rw [show i - l.length = (i - l.length - 1) + 1 by omega] at e
        simp at e
/-- and whose act it is -/
def QO (M : Am_M) (κ : Int → Int) (n : Int) (l : List Int) (K m : Int) : Prop := QM M κ n l ∧ M.1 53 33 = z_I K ∧ M.1 53 34 = z_I m
theorem qo_K {M : Am_M} {κ : Int → Int} {n K m : Int} {l : List Int} (h : QO M κ n l K m) : M.1 53 33 = z_I K := h.2.1
theorem qo_m {M : Am_M} {κ : Int → Int} {n K m : Int} {l : List Int} (h : QO M κ n l K m) : M.1 53 34 = z_I m := h.2.2
theorem qo_as {M : Am_M} {κ : Int → Int} {n K m : Int} {l r s : List Int} (h : QO M κ n ((l ++ r) ++ s) K m) : QO M κ n (l ++ (r ++ s)) K m := ⟨qm_as h.1, h.2⟩
theorem m_isBody2 {sL : Nat} {xs : Nat → Int32} {d : Nat} {M : Am_M} {Q : Int32 → Am_M → Prop} (hd : 2 ≤ d) {κ : Int → Int} {n : Int} {l : List Int} (hO : QM M κ n l) {i : Int} (hi : -2147483648 ≤ i ∧ i < 2147483648)  (hq : Q (z_b (0 ≤ i ∧ i < n)) M) : am_bi sL xs d 239 [.ref 53, .int (z_I i)] M Q := by
  obtain ⟨d, rfl⟩ : ∃ e, d = e + 1 := ⟨d - 1, by omega⟩
  have hnb := qm_nb hO
  refine am_bi_of (P := am_pX11_isBody) (rt := 2) (nL := 2) (Nat.le_of_ble_eq_true rfl) rfl (Nat.le_of_ble_eq_true rfl) rfl rfl rfl ?_
  refine am_r_iload1 (pc' := 1) rfl rfl ?_
  refine am_r_i2l (pc' := 2) rfl rfl ?_
  refine am_r_lconst (z := 0) (pc' := 3) rfl rfl rfl ?_
  refine am_r_aload0 (pc' := 4) rfl rfl ?_
  refine am_r_getIv (f := 29) (pc' := 7) rfl rfl rfl (qm_n hO) ?_
  refine am_r_iconst (pc' := 8) rfl rfl ?_
  refine am_r_isub (pc' := 9) rfl rfl ?_
  refine am_r_i2l (pc' := 10) rfl rfl ?_
  refine am_r_ivsI3 (pc' := 13) rfl rfl rfl (Nat.le_of_ble_eq_true rfl) (m_within (by omega) (by omega) (by omega) (by omega) ?_)
  refine am_r_zret rfl rfl (by first | exact Or.inr rfl | exact Or.inl rfl | exact z_b_01 _ | assumption) ?_
  exact z_b_cg (by omega) hq
theorem m_kindOf2 {sL : Nat} {xs : Nat → Int32} {d : Nat} {M : Am_M} {Q : Int32 → Am_M → Prop} (hd : 1 ≤ d) {κ : Int → Int} {n : Int} {l : List Int} (hO : QM M κ n l) {i : Int} (hi : 0 ≤ i ∧ i < n)  (hq : Q (z_I (κ i)) M) : am_bi sL xs d 240 [.ref 53, .int (z_I i)] M Q := by
  obtain ⟨d, rfl⟩ : ∃ e, d = e + 1 := ⟨d - 1, by omega⟩
  have hnb := qm_nb hO
  refine am_bi_of (P := am_pX11_kindOf) (rt := 1) (nL := 2) (Nat.le_of_ble_eq_true rfl) rfl (Nat.le_of_ble_eq_true rfl) rfl rfl rfl ?_
  refine am_r_aload0 (pc' := 1) rfl rfl ?_
  refine am_r_getR (t := 69) (pc' := 4) rfl rfl rfl ?_
  refine am_r_iload1 (pc' := 5) rfl rfl ?_
  refine am_r_iaZv (n := 50) (pc' := 6) rfl rfl rfl (by decide) (qm_k hO (by omega)) ?_
  refine am_r_iret rfl rfl ?_
  exact hq
theorem m_body2 {sL : Nat} {xs : Nat → Int32} {d : Nat} {M : Am_M} {Q : Int32 → Am_M → Prop} (hd : 2 ≤ d) {κ : Int → Int} {n : Int} {l : List Int} (hO : QM M κ n l) {k : Int} (hk : -2147483648 ≤ k ∧ k < 2147483648)  (hq : ∀ M' : Am_M, (∀ c i, ¬ (c = 53 ∧ i = 29) → c ≠ 69 → M'.1 c i = M.1 c i) ∧ M'.2 = M.2 → QM M' (t_body κ n k) (u_body n k) l → Q (z_I (r_body n k)) M') : am_bi sL xs d 241 [.ref 53, .int (z_I k)] M Q := by
  obtain ⟨d, rfl⟩ : ∃ e, d = e + 1 := ⟨d - 1, by omega⟩
  have hnb := qm_nb hO
  refine am_bi_of (P := am_pX11_body) (rt := 1) (nL := 2) (Nat.le_of_ble_eq_true rfl) rfl (Nat.le_of_ble_eq_true rfl) rfl rfl rfl ?_
  refine am_r_iload1 (pc' := 1) rfl rfl ?_
  refine am_r_i2l (pc' := 2) rfl rfl ?_
  refine am_r_lconst (z := 0) (pc' := 3) rfl rfl rfl ?_
  refine am_r_lconst (z := 7) (pc' := 6) rfl rfl rfl ?_
  refine am_r_ivsI3 (pc' := 9) rfl rfl rfl (Nat.le_of_ble_eq_true rfl) (m_within (by omega) (by omega) (by omega) (by omega) ?_)
  refine am_r_if_neB (pt := 14) (pf := 12) rfl rfl rfl (fun h9 => ?_) (fun h9 => ?_)
  · refine am_r_aload0 (pc' := 15) rfl rfl ?_
    refine am_r_getIv (f := 29) (pc' := 18) rfl rfl rfl (qm_n hO) ?_
    refine am_r_iconst (pc' := 20) rfl rfl ?_
    refine am_r_icmp_ne (pt := 26) (pf := 23) rfl rfl rfl (fun h20 => ?_) (fun h20 => ?_)
    · refine am_r_aload0 (pc' := 27) rfl rfl ?_
      refine am_r_getR (t := 69) (pc' := 30) rfl rfl rfl ?_
      refine am_r_aload0 (pc' := 31) rfl rfl ?_
      refine am_r_getIv (f := 29) (pc' := 34) rfl rfl rfl (qm_n hO) ?_
      refine am_r_iload1 (pc' := 35) rfl rfl ?_
      refine am_r_iast (n := 50) (pc' := 36) rfl rfl (rfl) (by decide) ?_
      refine am_r_aload0 (pc' := 37) rfl rfl ?_
      refine am_r_dup (pc' := 38) rfl rfl rfl ?_
      refine am_r_getIv (f := 29) (pc' := 41) rfl rfl rfl (show _ = z_I n by simpa [am_upI] using qm_n hO) ?_
      refine am_r_iconst (pc' := 42) rfl rfl ?_
      refine am_r_iadd (pc' := 43) rfl rfl ?_
      refine am_r_putI (f := 29) (pc' := 46) rfl rfl rfl (by decide) ?_
      refine am_r_aload0 (pc' := 47) rfl rfl ?_
      refine am_r_getIv (f := 29) (pc' := 50) rfl rfl rfl (show _ = z_I (n + 1) by simp [am_upI]) ?_
      refine am_r_iconst (pc' := 51) rfl rfl ?_
      refine am_r_isub (pc' := 52) rfl rfl ?_
      refine am_r_iret rfl rfl ?_
      have e : (0 ≤ k ∧ k < 8) ∧ n < 50 := ⟨by omega, by omega⟩
      rw [show t_body κ n k = (fun i => if i = n then k else κ i) from if_pos e, show u_body n k = n + 1 from if_pos e, show r_body n k = n from (if_pos e.1).trans (if_pos e.2)] at hq
      refine am_q (by omega) (hq _ ⟨fun c i q r => ?_, rfl⟩ ?_)
      · simp only [am_upI]
        rw [if_neg (by omega), if_neg (by omega)]
      · obtain ⟨h1, h2, h3, h4, h5, h6⟩ := hO
        refine ⟨by omega, fun i hi => ?_, ?_, fun i hi => ?_, ?_, fun i x hi e => ?_⟩
        · by_cases q : i = n
          · simp only [if_pos q]; omega
          · simp only [if_neg q]; exact h2 i (by omega)
        · simp [am_upI]
        · by_cases q : i = n
          · simp only [if_pos q]
            rw [q]
            simp [am_upI]
          · simp only [if_neg q]
            have := h4 i (by omega)
            have q2 : ¬ i.toNat = n.toNat := by omega
            simpa [am_upI, q2] using this
        · simpa [am_upI] using h5
        · have := h6 i x hi e
          simpa [am_upI] using this
    · refine am_r_iconst (pc' := 25) rfl rfl ?_
      refine am_r_iret rfl rfl ?_
      have e : ¬ ((0 ≤ k ∧ k < 8) ∧ n < 50) := by omega
      rw [show t_body κ n k = κ from if_neg e, show u_body n k = n from if_neg e, show r_body n k = -3 from (if_pos (by omega)).trans (if_neg (by omega))] at hq
      exact hq M ⟨fun _ _ _ _ => rfl, rfl⟩ hO
  · refine am_r_iconst (pc' := 13) rfl rfl ?_
    refine am_r_iret rfl rfl ?_
    have e : ¬ ((0 ≤ k ∧ k < 8) ∧ n < 50) := by omega
    rw [show t_body κ n k = κ from if_neg e, show u_body n k = n from if_neg e, show r_body n k = -1 from if_neg (by omega)] at hq
    exact hq M ⟨fun _ _ _ _ => rfl, rfl⟩ hO
theorem m_trace {sL : Nat} {xs : Nat → Int32} {d : Nat} {M : Am_M} {Q : Int32 → Am_M → Prop} (hd : 1 ≤ d) {κ : Int → Int} {n : Int} {l : List Int} (hO : QM M κ n l) (hl : l.length ≤ 1000) {i : Int} (hi : -2147483648 ≤ i ∧ i < 2147483648)  (hq : Q (z_I (r_trace l i)) M) : am_bi sL xs d 249 [.ref 53, .int (z_I i)] M Q := by
  obtain ⟨d, rfl⟩ : ∃ e, d = e + 1 := ⟨d - 1, by omega⟩
  have hnb := qm_nb hO
  refine am_bi_of (P := am_pX11_trace) (rt := 1) (nL := 2) (Nat.le_of_ble_eq_true rfl) rfl (Nat.le_of_ble_eq_true rfl) rfl rfl rfl ?_
  refine am_r_iload1 (pc' := 1) rfl rfl ?_
  refine am_r_if_lt (pt := 27) (pf := 4) rfl rfl rfl (fun h1 => ?_) (fun h1 => ?_)
  · refine am_r_iconst (pc' := 28) rfl rfl ?_
    refine am_r_iret rfl rfl ?_
    first
    | (rw [show r_trace l i = l.getD i.toNat 0 from if_pos (by omega)] at hq; exact hq)
    | (rw [show r_trace l i = -1 from if_neg (by omega)] at hq; exact hq)
  · refine am_r_iload1 (pc' := 5) rfl rfl ?_
    refine am_r_aload0 (pc' := 6) rfl rfl ?_
    refine am_r_getIv (f := 32) (pc' := 9) rfl rfl rfl (qm_r hO) ?_
    refine am_r_icmp_ge (pt := 27) (pf := 12) rfl rfl rfl (fun h9 => ?_) (fun h9 => ?_)
    · refine am_r_iconst (pc' := 28) rfl rfl ?_
      refine am_r_iret rfl rfl ?_
      first
      | (rw [show r_trace l i = l.getD i.toNat 0 from if_pos (by omega)] at hq; exact hq)
      | (rw [show r_trace l i = -1 from if_neg (by omega)] at hq; exact hq)
    · refine am_r_iload1 (pc' := 13) rfl rfl ?_
      refine am_r_iconst (pc' := 15) rfl rfl ?_
      refine am_r_icmp_ge (pt := 27) (pf := 18) rfl rfl rfl (fun h15 => ?_) (fun h15 => ?_)
      · refine am_r_iconst (pc' := 28) rfl rfl ?_
        refine am_r_iret rfl rfl ?_
        first
        | (rw [show r_trace l i = l.getD i.toNat 0 from if_pos (by omega)] at hq; exact hq)
        | (rw [show r_trace l i = -1 from if_neg (by omega)] at hq; exact hq)
      · refine am_r_aload0 (pc' := 19) rfl rfl ?_
        refine am_r_getR (t := 70) (pc' := 22) rfl rfl rfl ?_
        refine am_r_iload1 (pc' := 23) rfl rfl ?_
        refine am_r_iaZv (n := 24) (pc' := 24) rfl rfl rfl (by decide) (qm_t hO i.toNat (l.getD i.toNat 0) (by omega) (by rw [List.getD_eq_getElem?_getD, List.getElem?_eq_getElem (by omega)]; rfl)) ?_
        refine am_r_goto (pc' := 28) rfl rfl ?_
        refine am_r_iret rfl rfl ?_
        first
        | (rw [show r_trace l i = l.getD i.toNat 0 from if_pos (by omega)] at hq; exact hq)
        | (rw [show r_trace l i = -1 from if_neg (by omega)] at hq; exact hq)
theorem m_runs2 {sL : Nat} {xs : Nat → Int32} {d : Nat} {M : Am_M} {Q : Am_M → Prop} (hd : 1 ≤ d) {κ : Int → Int} {n K m : Int} {l : List Int} (hO : QO M κ n l K m) {c : Int} (hl : l.length ≤ 1000) (hq : ∀ M', am_fMd M M' → QO M' κ n (l ++ [c]) K m → Q M') : am_bv sL xs d 243 [.ref 53, .int (z_I c)] M Q := by
  obtain ⟨d, rfl⟩ : ∃ e, d = e + 1 := ⟨d - 1, by omega⟩
  refine am_bv_of (P := am_pX11_runs) (rt := 0) (nL := 2) (Nat.le_of_ble_eq_true rfl) rfl (Nat.le_of_ble_eq_true rfl) rfl rfl rfl ?_
  refine am_r_aload0 (pc' := 1) rfl rfl ?_
  refine am_r_getIv (f := 32) (pc' := 4) rfl rfl rfl (qm_r hO.1) ?_
  refine am_r_iconst (pc' := 6) rfl rfl ?_
  refine am_r_icmp_ge (pt := 19) (pf := 9) rfl rfl rfl (fun h6 => ?_) (fun h6 => ?_)
  · refine am_r_aload0 (pc' := 20) rfl rfl ?_
    refine am_r_dup (pc' := 21) rfl rfl rfl ?_
    refine am_r_getIv (f := 32) (pc' := 24) rfl rfl rfl (by first | exact qm_r hO.1 | (show _ = z_I (l.length : Int); simpa [am_upI] using qm_r hO.1)) ?_
    refine am_r_iconst (pc' := 25) rfl rfl ?_
    refine am_r_iadd (pc' := 26) rfl rfl ?_
    refine am_r_putI (f := 32) (pc' := 29) rfl rfl rfl (by decide) ?_
    refine am_r_vret rfl rfl ?_
    first
    | exact hq _ (am_fMd_up (am_fMd_up (am_fMd_rf _) (by omega)) (by omega)) ⟨qm_note hO.1 c true (Or.inl rfl), by simpa [am_upI] using qo_K hO, by simpa [am_upI] using qo_m hO⟩
    | exact hq _ (am_fMd_up (am_fMd_rf _) (by omega)) ⟨qm_note hO.1 c false (Or.inr (by omega)), by simpa [am_upI] using qo_K hO, by simpa [am_upI] using qo_m hO⟩
  · refine am_r_aload0 (pc' := 10) rfl rfl ?_
    refine am_r_getR (t := 70) (pc' := 13) rfl rfl rfl ?_
    refine am_r_aload0 (pc' := 14) rfl rfl ?_
    refine am_r_getIv (f := 32) (pc' := 17) rfl rfl rfl (qm_r hO.1) ?_
    refine am_r_iload1 (pc' := 18) rfl rfl ?_
    refine am_r_iast (n := 24) (pc' := 19) rfl rfl (rfl) (by decide) ?_
    refine am_r_aload0 (pc' := 20) rfl rfl ?_
    refine am_r_dup (pc' := 21) rfl rfl rfl ?_
    refine am_r_getIv (f := 32) (pc' := 24) rfl rfl rfl (by first | exact qm_r hO.1 | (show _ = z_I (l.length : Int); simpa [am_upI] using qm_r hO.1)) ?_
    refine am_r_iconst (pc' := 25) rfl rfl ?_
    refine am_r_iadd (pc' := 26) rfl rfl ?_
    refine am_r_putI (f := 32) (pc' := 29) rfl rfl rfl (by decide) ?_
    refine am_r_vret rfl rfl ?_
    first
    | exact hq _ (am_fMd_up (am_fMd_up (am_fMd_rf _) (by omega)) (by omega)) ⟨qm_note hO.1 c true (Or.inl rfl), by simpa [am_upI] using qo_K hO, by simpa [am_upI] using qo_m hO⟩
    | exact hq _ (am_fMd_up (am_fMd_rf _) (by omega)) ⟨qm_note hO.1 c false (Or.inr (by omega)), by simpa [am_upI] using qo_K hO, by simpa [am_upI] using qo_m hO⟩
theorem m_dr0 {sL : Nat} {xs : Nat → Int32} {d : Nat} {M : Am_M} {Q : Int32 → Am_M → Prop} (hd : 2 ≤ d) {κ : Int → Int} {n K m : Int} {l : List Int} (hO : QO M κ n l K m) {x : Int32} (hl : l.length ≤ 960) {k : Int} (hk : 0 ≤ k ∧ k ≤ 7) (hb : k = 0 ∨ k = 2 ∨ k = 3 ∨ k = 5) (hq : ∀ M', am_fMd M M' → QO M' κ n (l ++ (o_d k m x).2) K m → Q (o_d k m x).1 M') : am_bi sL xs d 244 [.ref 53, .int (z_I k), .int x] M Q := by
  obtain ⟨d, rfl⟩ : ∃ e, d = e + 1 := ⟨d - 1, by omega⟩
  refine am_bi_of (P := am_pX11_drawsAs) (rt := 1) (nL := 3) (Nat.le_of_ble_eq_true rfl) rfl (Nat.le_of_ble_eq_true rfl) rfl rfl rfl ?_
  refine am_r_iload1 (pc' := 1) rfl rfl ?_
  refine am_r_iconst (pc' := 2) rfl rfl ?_
  refine am_r_icmp_eq (pt := 16) (pf := 5) rfl rfl rfl (fun h2 => ?_) (fun h2 => ?_)
  · exfalso; omega
  · refine am_r_iload1 (pc' := 6) rfl rfl ?_
    refine am_r_iconst (pc' := 7) rfl rfl ?_
    refine am_r_icmp_eq (pt := 16) (pf := 10) rfl rfl rfl (fun h7 => ?_) (fun h7 => ?_)
    · exfalso; omega
    · refine am_r_iload1 (pc' := 11) rfl rfl ?_
      refine am_r_iconst (pc' := 13) rfl rfl ?_
      refine am_r_icmp_ne (pt := 31) (pf := 16) rfl rfl rfl (fun h13 => ?_) (fun h13 => ?_)
      · refine am_r_iload1 (pc' := 32) rfl rfl ?_
        refine am_r_iconst (pc' := 34) rfl rfl ?_
        refine am_r_icmp_ne (pt := 52) (pf := 37) rfl rfl rfl (fun h34 => ?_) (fun h34 => ?_)
        · refine am_r_aload0 (pc' := 53) rfl rfl ?_
          refine am_r_iconst (pc' := 54) rfl rfl ?_
          refine am_r_invV1 (pc' := 57) rfl rfl rfl (Nat.le_of_ble_eq_true rfl) (m_runs2 (c := 1) (by omega) hO (by omega) ?_)
          · intro M2 hf2 hO2
            have hl2 : (l ++ [(1 : Int)]).length = l.length + 1 := by simp
            refine am_r_iload2 (pc' := 58) rfl rfl ?_
            refine am_r_aload0 (pc' := 59) rfl rfl ?_
            refine am_r_getIv (f := 34) (pc' := 62) rfl rfl rfl (qo_m hO2) ?_
            refine am_r_iaddR (pc' := 63) rfl rfl ?_
            refine am_r_iret rfl rfl ?_
            rw [show o_d k m x = (x + z_I m, [1]) from (if_neg (by omega)).trans (if_neg (by omega))] at hq
            exact hq M2 hf2 hO2
        · exfalso; omega
      · exfalso; omega
theorem m_dr {sL : Nat} {xs : Nat → Int32} {d : Nat} {M : Am_M} {Q : Int32 → Am_M → Prop} (hd : 3 ≤ d) {κ : Int → Int} {n K m : Int} {l : List Int} (hO : QO M κ n l K m) {x : Int32} (hl : l.length ≤ 950) {k : Int} (hk : 0 ≤ k ∧ k ≤ 7) (hq : ∀ M', am_fMd M M' → QO M' κ n (l ++ (o_d k m x).2) K m → Q (o_d k m x).1 M') : am_bi sL xs d 244 [.ref 53, .int (z_I k), .int x] M Q := by
  obtain ⟨d, rfl⟩ : ∃ e, d = e + 1 := ⟨d - 1, by omega⟩
  refine am_bi_of (P := am_pX11_drawsAs) (rt := 1) (nL := 3) (Nat.le_of_ble_eq_true rfl) rfl (Nat.le_of_ble_eq_true rfl) rfl rfl rfl ?_
  refine am_r_iload1 (pc' := 1) rfl rfl ?_
  refine am_r_iconst (pc' := 2) rfl rfl ?_
  refine am_r_icmp_eq (pt := 16) (pf := 5) rfl rfl rfl (fun h2 => ?_) (fun h2 => ?_)
  · refine am_r_aload0 (pc' := 17) rfl rfl ?_
    refine am_r_iconst (pc' := 19) rfl rfl ?_
    refine am_r_invV1 (pc' := 22) rfl rfl rfl (Nat.le_of_ble_eq_true rfl) (m_runs2 (c := 20) (by omega) hO (by omega) ?_)
    · intro M2 hf2 hO2
      have hl2 : (l ++ [(20 : Int)]).length = l.length + 1 := by simp
      refine am_r_aload0 (pc' := 23) rfl rfl ?_
      refine am_r_iconst (pc' := 24) rfl rfl ?_
      refine am_r_iload2 (pc' := 25) rfl rfl ?_
      refine am_r_invI2 (pc' := 28) rfl rfl rfl (Nat.le_of_ble_eq_true rfl) (m_dr0 (by omega) hO2 (by omega) (by omega) (by omega) ?_)
      · intro M4 hf4 hO4
        refine am_r_iconst (pc' := 29) rfl rfl ?_
        refine am_r_iaddR (pc' := 30) rfl rfl ?_
        refine am_r_iret rfl rfl ?_
        rw [show o_d k m x = (x + z_I m + z_I 3, [20, 1]) from if_pos (by omega)] at hq
        exact hq M4 (am_fMd_tr hf2 hf4) (qo_as hO4)
  · refine am_r_iload1 (pc' := 6) rfl rfl ?_
    refine am_r_iconst (pc' := 7) rfl rfl ?_
    refine am_r_icmp_eq (pt := 16) (pf := 10) rfl rfl rfl (fun h7 => ?_) (fun h7 => ?_)
    · refine am_r_aload0 (pc' := 17) rfl rfl ?_
      refine am_r_iconst (pc' := 19) rfl rfl ?_
      refine am_r_invV1 (pc' := 22) rfl rfl rfl (Nat.le_of_ble_eq_true rfl) (m_runs2 (c := 20) (by omega) hO (by omega) ?_)
      · intro M2 hf2 hO2
        have hl2 : (l ++ [(20 : Int)]).length = l.length + 1 := by simp
        refine am_r_aload0 (pc' := 23) rfl rfl ?_
        refine am_r_iconst (pc' := 24) rfl rfl ?_
        refine am_r_iload2 (pc' := 25) rfl rfl ?_
        refine am_r_invI2 (pc' := 28) rfl rfl rfl (Nat.le_of_ble_eq_true rfl) (m_dr0 (by omega) hO2 (by omega) (by omega) (by omega) ?_)
        · intro M4 hf4 hO4
          refine am_r_iconst (pc' := 29) rfl rfl ?_
          refine am_r_iaddR (pc' := 30) rfl rfl ?_
          refine am_r_iret rfl rfl ?_
          rw [show o_d k m x = (x + z_I m + z_I 3, [20, 1]) from if_pos (by omega)] at hq
          exact hq M4 (am_fMd_tr hf2 hf4) (qo_as hO4)
    · refine am_r_iload1 (pc' := 11) rfl rfl ?_
      refine am_r_iconst (pc' := 13) rfl rfl ?_
      refine am_r_icmp_ne (pt := 31) (pf := 16) rfl rfl rfl (fun h13 => ?_) (fun h13 => ?_)
      · refine am_r_iload1 (pc' := 32) rfl rfl ?_
        refine am_r_iconst (pc' := 34) rfl rfl ?_
        refine am_r_icmp_ne (pt := 52) (pf := 37) rfl rfl rfl (fun h34 => ?_) (fun h34 => ?_)
        · refine am_r_aload0 (pc' := 53) rfl rfl ?_
          refine am_r_iconst (pc' := 54) rfl rfl ?_
          refine am_r_invV1 (pc' := 57) rfl rfl rfl (Nat.le_of_ble_eq_true rfl) (m_runs2 (c := 1) (by omega) hO (by omega) ?_)
          · intro M2 hf2 hO2
            have hl2 : (l ++ [(1 : Int)]).length = l.length + 1 := by simp
            refine am_r_iload2 (pc' := 58) rfl rfl ?_
            refine am_r_aload0 (pc' := 59) rfl rfl ?_
            refine am_r_getIv (f := 34) (pc' := 62) rfl rfl rfl (qo_m hO2) ?_
            refine am_r_iaddR (pc' := 63) rfl rfl ?_
            refine am_r_iret rfl rfl ?_
            rw [show o_d k m x = (x + z_I m, [1]) from (if_neg (by omega)).trans (if_neg (by omega))] at hq
            exact hq M2 hf2 hO2
        · refine am_r_aload0 (pc' := 38) rfl rfl ?_
          refine am_r_iconst (pc' := 40) rfl rfl ?_
          refine am_r_invV1 (pc' := 43) rfl rfl rfl (Nat.le_of_ble_eq_true rfl) (m_runs2 (c := 70) (by omega) hO (by omega) ?_)
          · intro M2 hf2 hO2
            have hl2 : (l ++ [(70 : Int)]).length = l.length + 1 := by simp
            refine am_r_aload0 (pc' := 44) rfl rfl ?_
            refine am_r_iconst (pc' := 45) rfl rfl ?_
            refine am_r_iload2 (pc' := 46) rfl rfl ?_
            refine am_r_invI2 (pc' := 49) rfl rfl rfl (Nat.le_of_ble_eq_true rfl) (m_dr0 (by omega) hO2 (by omega) (by omega) (by omega) ?_)
            · intro M4 hf4 hO4
              refine am_r_iconst (pc' := 50) rfl rfl ?_
              refine am_r_imulR (pc' := 51) rfl rfl ?_
              refine am_r_iret rfl rfl ?_
              rw [show o_d k m x = ((x + z_I m) * z_I 2, [70, 1]) from (if_neg (by omega)).trans (if_pos (by omega))] at hq
              exact hq M4 (am_fMd_tr hf2 hf4) (qo_as hO4)
      · refine am_r_aload0 (pc' := 17) rfl rfl ?_
        refine am_r_iconst (pc' := 19) rfl rfl ?_
        refine am_r_invV1 (pc' := 22) rfl rfl rfl (Nat.le_of_ble_eq_true rfl) (m_runs2 (c := 20) (by omega) hO (by omega) ?_)
        · intro M2 hf2 hO2
          have hl2 : (l ++ [(20 : Int)]).length = l.length + 1 := by simp
          refine am_r_aload0 (pc' := 23) rfl rfl ?_
          refine am_r_iconst (pc' := 24) rfl rfl ?_
          refine am_r_iload2 (pc' := 25) rfl rfl ?_
          refine am_r_invI2 (pc' := 28) rfl rfl rfl (Nat.le_of_ble_eq_true rfl) (m_dr0 (by omega) hO2 (by omega) (by omega) (by omega) ?_)
          · intro M4 hf4 hO4
            refine am_r_iconst (pc' := 29) rfl rfl ?_
            refine am_r_iaddR (pc' := 30) rfl rfl ?_
            refine am_r_iret rfl rfl ?_
            rw [show o_d k m x = (x + z_I m + z_I 3, [20, 1]) from if_pos (by omega)] at hq
            exact hq M4 (am_fMd_tr hf2 hf4) (qo_as hO4)
theorem m_sh0 {sL : Nat} {xs : Nat → Int32} {d : Nat} {M : Am_M} {Q : Int32 → Am_M → Prop} (hd : 4 ≤ d) {κ : Int → Int} {n K m : Int} {l : List Int} (hO : QO M κ n l K m) {x : Int32} (hl : l.length ≤ 900) (hK : 0 ≤ K ∧ K ≤ 7) {k : Int} (hk : 0 ≤ k ∧ k ≤ 7) (hb : k = 0 ∨ k = 1 ∨ k = 2 ∨ k = 6) (hq : ∀ M', am_fMd M M' → QO M' κ n (l ++ (o_s k K m x).2) K m → Q (o_s k K m x).1 M') : am_bi sL xs d 246 [.ref 53, .int (z_I k), .int x] M Q := by
  obtain ⟨d, rfl⟩ : ∃ e, d = e + 1 := ⟨d - 1, by omega⟩
  refine am_bi_of (P := am_pX11_shunsAs) (rt := 1) (nL := 4) (Nat.le_of_ble_eq_true rfl) rfl (Nat.le_of_ble_eq_true rfl) rfl rfl rfl ?_
  refine am_r_iload1 (pc' := 1) rfl rfl ?_
  refine am_r_iconst (pc' := 2) rfl rfl ?_
  refine am_r_icmp_eq (pt := 10) (pf := 5) rfl rfl rfl (fun h2 => ?_) (fun h2 => ?_)
  · exfalso; omega
  · refine am_r_iload1 (pc' := 6) rfl rfl ?_
    refine am_r_iconst (pc' := 7) rfl rfl ?_
    refine am_r_icmp_ne (pt := 25) (pf := 10) rfl rfl rfl (fun h7 => ?_) (fun h7 => ?_)
    · refine am_r_iload1 (pc' := 26) rfl rfl ?_
      refine am_r_iconst (pc' := 27) rfl rfl ?_
      refine am_r_icmp_eq (pt := 36) (pf := 30) rfl rfl rfl (fun h27 => ?_) (fun h27 => ?_)
      · exfalso; omega
      · refine am_r_iload1 (pc' := 31) rfl rfl ?_
        refine am_r_iconst (pc' := 33) rfl rfl ?_
        refine am_r_icmp_ne (pt := 61) (pf := 36) rfl rfl rfl (fun h33 => ?_) (fun h33 => ?_)
        · refine am_r_aload0 (pc' := 62) rfl rfl ?_
          refine am_r_iconst (pc' := 64) rfl rfl ?_
          refine am_r_invV1 (pc' := 67) rfl rfl rfl (Nat.le_of_ble_eq_true rfl) (m_runs2 (c := 11) (by omega) hO (by omega) ?_)
          · intro M2 hf2 hO2
            have hl2 : (l ++ [(11 : Int)]).length = l.length + 1 := by simp
            refine am_r_iload2 (pc' := 68) rfl rfl ?_
            refine am_r_aload0 (pc' := 69) rfl rfl ?_
            refine am_r_getIv (f := 34) (pc' := 72) rfl rfl rfl (qo_m hO2) ?_
            refine am_r_ixorR (pc' := 73) rfl rfl ?_
            refine am_r_iret rfl rfl ?_
            rw [show o_s k K m x = (x ^^^ z_I m, [11]) from (if_neg (by omega)).trans (if_neg (by omega))] at hq
            exact hq M2 hf2 hO2
        · exfalso; omega
    · exfalso; omega
theorem m_sh {sL : Nat} {xs : Nat → Int32} {d : Nat} {M : Am_M} {Q : Int32 → Am_M → Prop} (hd : 5 ≤ d) {κ : Int → Int} {n K m : Int} {l : List Int} (hO : QO M κ n l K m) {x : Int32} (hl : l.length ≤ 880) (hK : 0 ≤ K ∧ K ≤ 7) {k : Int} (hk : 0 ≤ k ∧ k ≤ 7) (hq : ∀ M', am_fMd M M' → QO M' κ n (l ++ (o_s k K m x).2) K m → Q (o_s k K m x).1 M') : am_bi sL xs d 246 [.ref 53, .int (z_I k), .int x] M Q := by
  obtain ⟨d, rfl⟩ : ∃ e, d = e + 1 := ⟨d - 1, by omega⟩
  refine am_bi_of (P := am_pX11_shunsAs) (rt := 1) (nL := 4) (Nat.le_of_ble_eq_true rfl) rfl (Nat.le_of_ble_eq_true rfl) rfl rfl rfl ?_
  refine am_r_iload1 (pc' := 1) rfl rfl ?_
  refine am_r_iconst (pc' := 2) rfl rfl ?_
  refine am_r_icmp_eq (pt := 10) (pf := 5) rfl rfl rfl (fun h2 => ?_) (fun h2 => ?_)
  · refine am_r_aload0 (pc' := 11) rfl rfl ?_
    refine am_r_iconst (pc' := 13) rfl rfl ?_
    refine am_r_invV1 (pc' := 16) rfl rfl rfl (Nat.le_of_ble_eq_true rfl) (m_runs2 (c := 40) (by omega) hO (by omega) ?_)
    · intro M2 hf2 hO2
      have hl2 : (l ++ [(40 : Int)]).length = l.length + 1 := by simp
      refine am_r_aload0 (pc' := 17) rfl rfl ?_
      refine am_r_iconst (pc' := 18) rfl rfl ?_
      refine am_r_iload2 (pc' := 19) rfl rfl ?_
      refine am_r_invI2 (pc' := 22) rfl rfl rfl (Nat.le_of_ble_eq_true rfl) (m_sh0 (by omega) hO2 (by omega) hK (by omega) (by omega) ?_)
      · intro M4 hf4 hO4
        refine am_r_iconst (pc' := 23) rfl rfl ?_
        refine am_r_imulR (pc' := 24) rfl rfl ?_
        refine am_r_iret rfl rfl ?_
        rw [show o_s k K m x = ((x ^^^ z_I m) * z_I 3, [40, 11]) from if_pos (by omega)] at hq
        exact hq M4 (am_fMd_tr hf2 hf4) (qo_as hO4)
  · refine am_r_iload1 (pc' := 6) rfl rfl ?_
    refine am_r_iconst (pc' := 7) rfl rfl ?_
    refine am_r_icmp_ne (pt := 25) (pf := 10) rfl rfl rfl (fun h7 => ?_) (fun h7 => ?_)
    · refine am_r_iload1 (pc' := 26) rfl rfl ?_
      refine am_r_iconst (pc' := 27) rfl rfl ?_
      refine am_r_icmp_eq (pt := 36) (pf := 30) rfl rfl rfl (fun h27 => ?_) (fun h27 => ?_)
      · refine am_r_aload0 (pc' := 37) rfl rfl ?_
        refine am_r_iconst (pc' := 39) rfl rfl ?_
        refine am_r_invV1 (pc' := 42) rfl rfl rfl (Nat.le_of_ble_eq_true rfl) (m_runs2 (c := 50) (by omega) hO (by omega) ?_)
        · intro M2 hf2 hO2
          have hl2 : (l ++ [(50 : Int)]).length = l.length + 1 := by simp
          refine am_r_aload0 (pc' := 43) rfl rfl ?_
          refine am_r_iconst (pc' := 44) rfl rfl ?_
          refine am_r_iload2 (pc' := 45) rfl rfl ?_
          refine am_r_invI2 (pc' := 48) rfl rfl rfl (Nat.le_of_ble_eq_true rfl) (m_sh0 (by omega) hO2 (by omega) hK (by omega) (by omega) ?_)
          · intro M4 hf4 hO4
            have hl4 : ((l ++ [(50 : Int)]) ++ (o_s 1 K m x).2).length = l.length + 2 := by rw [List.length_append, hl2]; rfl
            refine am_r_istore3 (pc' := 49) rfl rfl rfl ?_
            refine am_r_iload3 (pc' := 50) rfl rfl ?_
            refine am_r_aload0 (pc' := 51) rfl rfl ?_
            refine am_r_aload0 (pc' := 52) rfl rfl ?_
            refine am_r_getIv (f := 33) (pc' := 55) rfl rfl rfl (qo_K hO4) ?_
            refine am_r_iconst (pc' := 56) rfl rfl ?_
            refine am_r_invI2 (pc' := 59) rfl rfl rfl (Nat.le_of_ble_eq_true rfl) (m_dr (by omega) hO4 (by omega) hK ?_)
            · intro M6 hf6 hO6
              refine am_r_isubR (pc' := 60) rfl rfl ?_
              refine am_r_iret rfl rfl ?_
              rw [show o_s k K m x = ((x ^^^ z_I m) - (o_d K m (z_I 2)).1, 50 :: 11 :: (o_d K m (z_I 2)).2) from (if_neg (by omega)).trans (if_pos (by omega))] at hq
              exact hq M6 (am_fMd_tr (am_fMd_tr hf2 hf4) hf6) (qo_as (qo_as hO6))
      · refine am_r_iload1 (pc' := 31) rfl rfl ?_
        refine am_r_iconst (pc' := 33) rfl rfl ?_
        refine am_r_icmp_ne (pt := 61) (pf := 36) rfl rfl rfl (fun h33 => ?_) (fun h33 => ?_)
        · refine am_r_aload0 (pc' := 62) rfl rfl ?_
          refine am_r_iconst (pc' := 64) rfl rfl ?_
          refine am_r_invV1 (pc' := 67) rfl rfl rfl (Nat.le_of_ble_eq_true rfl) (m_runs2 (c := 11) (by omega) hO (by omega) ?_)
          · intro M2 hf2 hO2
            have hl2 : (l ++ [(11 : Int)]).length = l.length + 1 := by simp
            refine am_r_iload2 (pc' := 68) rfl rfl ?_
            refine am_r_aload0 (pc' := 69) rfl rfl ?_
            refine am_r_getIv (f := 34) (pc' := 72) rfl rfl rfl (qo_m hO2) ?_
            refine am_r_ixorR (pc' := 73) rfl rfl ?_
            refine am_r_iret rfl rfl ?_
            rw [show o_s k K m x = (x ^^^ z_I m, [11]) from (if_neg (by omega)).trans (if_neg (by omega))] at hq
            exact hq M2 hf2 hO2
        · refine am_r_aload0 (pc' := 37) rfl rfl ?_
          refine am_r_iconst (pc' := 39) rfl rfl ?_
          refine am_r_invV1 (pc' := 42) rfl rfl rfl (Nat.le_of_ble_eq_true rfl) (m_runs2 (c := 50) (by omega) hO (by omega) ?_)
          · intro M2 hf2 hO2
            have hl2 : (l ++ [(50 : Int)]).length = l.length + 1 := by simp
            refine am_r_aload0 (pc' := 43) rfl rfl ?_
            refine am_r_iconst (pc' := 44) rfl rfl ?_
            refine am_r_iload2 (pc' := 45) rfl rfl ?_
            refine am_r_invI2 (pc' := 48) rfl rfl rfl (Nat.le_of_ble_eq_true rfl) (m_sh0 (by omega) hO2 (by omega) hK (by omega) (by omega) ?_)
            · intro M4 hf4 hO4
              have hl4 : ((l ++ [(50 : Int)]) ++ (o_s 1 K m x).2).length = l.length + 2 := by rw [List.length_append, hl2]; rfl
              refine am_r_istore3 (pc' := 49) rfl rfl rfl ?_
              refine am_r_iload3 (pc' := 50) rfl rfl ?_
              refine am_r_aload0 (pc' := 51) rfl rfl ?_
              refine am_r_aload0 (pc' := 52) rfl rfl ?_
              refine am_r_getIv (f := 33) (pc' := 55) rfl rfl rfl (qo_K hO4) ?_
              refine am_r_iconst (pc' := 56) rfl rfl ?_
              refine am_r_invI2 (pc' := 59) rfl rfl rfl (Nat.le_of_ble_eq_true rfl) (m_dr (by omega) hO4 (by omega) hK ?_)
              · intro M6 hf6 hO6
                refine am_r_isubR (pc' := 60) rfl rfl ?_
                refine am_r_iret rfl rfl ?_
                rw [show o_s k K m x = ((x ^^^ z_I m) - (o_d K m (z_I 2)).1, 50 :: 11 :: (o_d K m (z_I 2)).2) from (if_neg (by omega)).trans (if_pos (by omega))] at hq
                exact hq M6 (am_fMd_tr (am_fMd_tr hf2 hf4) hf6) (qo_as (qo_as hO6))
    · refine am_r_aload0 (pc' := 11) rfl rfl ?_
      refine am_r_iconst (pc' := 13) rfl rfl ?_
      refine am_r_invV1 (pc' := 16) rfl rfl rfl (Nat.le_of_ble_eq_true rfl) (m_runs2 (c := 40) (by omega) hO (by omega) ?_)
      · intro M2 hf2 hO2
        have hl2 : (l ++ [(40 : Int)]).length = l.length + 1 := by simp
        refine am_r_aload0 (pc' := 17) rfl rfl ?_
        refine am_r_iconst (pc' := 18) rfl rfl ?_
        refine am_r_iload2 (pc' := 19) rfl rfl ?_
        refine am_r_invI2 (pc' := 22) rfl rfl rfl (Nat.le_of_ble_eq_true rfl) (m_sh0 (by omega) hO2 (by omega) hK (by omega) (by omega) ?_)
        · intro M4 hf4 hO4
          refine am_r_iconst (pc' := 23) rfl rfl ?_
          refine am_r_imulR (pc' := 24) rfl rfl ?_
          refine am_r_iret rfl rfl ?_
          rw [show o_s k K m x = ((x ^^^ z_I m) * z_I 3, [40, 11]) from if_pos (by omega)] at hq
          exact hq M4 (am_fMd_tr hf2 hf4) (qo_as hO4)
theorem m_me0 {sL : Nat} {xs : Nat → Int32} {d : Nat} {M : Am_M} {Q : Int32 → Am_M → Prop} (hd : 6 ≤ d) {κ : Int → Int} {n K m : Int} {l : List Int} (hO : QO M κ n l K m) {x : Int32} (hl : l.length ≤ 850) (hK : 0 ≤ K ∧ K ≤ 7) {k : Int} (hk : 0 ≤ k ∧ k ≤ 7) (hb : k = 0 ∨ k = 1 ∨ k = 4 ∨ k = 6) (hq : ∀ M', am_fMd M M' → QO M' κ n (l ++ (o_m k K m x).2) K m → Q (o_m k K m x).1 M') : am_bi sL xs d 245 [.ref 53, .int (z_I k), .int x] M Q := by
  obtain ⟨d, rfl⟩ : ∃ e, d = e + 1 := ⟨d - 1, by omega⟩
  refine am_bi_of (P := am_pX11_meetsAs) (rt := 1) (nL := 4) (Nat.le_of_ble_eq_true rfl) rfl (Nat.le_of_ble_eq_true rfl) rfl rfl rfl ?_
  refine am_r_iload1 (pc' := 1) rfl rfl ?_
  refine am_r_iconst (pc' := 2) rfl rfl ?_
  refine am_r_icmp_eq (pt := 10) (pf := 5) rfl rfl rfl (fun h2 => ?_) (fun h2 => ?_)
  · exfalso; omega
  · refine am_r_iload1 (pc' := 6) rfl rfl ?_
    refine am_r_iconst (pc' := 7) rfl rfl ?_
    refine am_r_icmp_ne (pt := 25) (pf := 10) rfl rfl rfl (fun h7 => ?_) (fun h7 => ?_)
    · refine am_r_iload1 (pc' := 26) rfl rfl ?_
      refine am_r_iconst (pc' := 27) rfl rfl ?_
      refine am_r_icmp_ne (pt := 44) (pf := 30) rfl rfl rfl (fun h27 => ?_) (fun h27 => ?_)
      · refine am_r_iload1 (pc' := 45) rfl rfl ?_
        refine am_r_iconst (pc' := 47) rfl rfl ?_
        refine am_r_icmp_ne (pt := 75) (pf := 50) rfl rfl rfl (fun h47 => ?_) (fun h47 => ?_)
        · refine am_r_aload0 (pc' := 76) rfl rfl ?_
          refine am_r_iconst (pc' := 78) rfl rfl ?_
          refine am_r_invV1 (pc' := 81) rfl rfl rfl (Nat.le_of_ble_eq_true rfl) (m_runs2 (c := 10) (by omega) hO (by omega) ?_)
          · intro M2 hf2 hO2
            have hl2 : (l ++ [(10 : Int)]).length = l.length + 1 := by simp
            refine am_r_aload0 (pc' := 82) rfl rfl ?_
            refine am_r_aload0 (pc' := 83) rfl rfl ?_
            refine am_r_getIv (f := 33) (pc' := 86) rfl rfl rfl (qo_K hO2) ?_
            refine am_r_iload2 (pc' := 87) rfl rfl ?_
            refine am_r_invI2 (pc' := 90) rfl rfl rfl (Nat.le_of_ble_eq_true rfl) (m_dr (by omega) hO2 (by omega) hK ?_)
            · intro M4 hf4 hO4
              refine am_r_iconst (pc' := 91) rfl rfl ?_
              refine am_r_imulR (pc' := 92) rfl rfl ?_
              refine am_r_iret rfl rfl ?_
              rw [show o_m k K m x = o_m0 K m x from (if_neg (by omega)).trans ((if_neg (by omega)).trans (if_neg (by omega)))] at hq
              exact hq M4 (am_fMd_tr hf2 hf4) (qo_as hO4)
        · exfalso; omega
      · exfalso; omega
    · exfalso; omega
theorem m_me2 {sL : Nat} {xs : Nat → Int32} {d : Nat} {M : Am_M} {Q : Int32 → Am_M → Prop} (hd : 7 ≤ d) {κ : Int → Int} {n K m : Int} {l : List Int} (hO : QO M κ n l K m) {x : Int32} (hl : l.length ≤ 840) (hK : 0 ≤ K ∧ K ≤ 7) (hq : ∀ M', am_fMd M M' → QO M' κ n (l ++ (o_m 2 K m x).2) K m → Q (o_m 2 K m x).1 M') : am_bi sL xs d 245 [.ref 53, .int (z_I 2), .int x] M Q := by
  obtain ⟨d, rfl⟩ : ∃ e, d = e + 1 := ⟨d - 1, by omega⟩
  refine am_bi_of (P := am_pX11_meetsAs) (rt := 1) (nL := 4) (Nat.le_of_ble_eq_true rfl) rfl (Nat.le_of_ble_eq_true rfl) rfl rfl rfl ?_
  refine am_r_iload1 (pc' := 1) rfl rfl ?_
  refine am_r_iconst (pc' := 2) rfl rfl ?_
  refine am_r_icmp_eq (pt := 10) (pf := 5) rfl rfl rfl (fun h2 => ?_) (fun h2 => ?_)
  · exfalso; omega
  · refine am_r_iload1 (pc' := 6) rfl rfl ?_
    refine am_r_iconst (pc' := 7) rfl rfl ?_
    refine am_r_icmp_ne (pt := 25) (pf := 10) rfl rfl rfl (fun h7 => ?_) (fun h7 => ?_)
    · refine am_r_iload1 (pc' := 26) rfl rfl ?_
      refine am_r_iconst (pc' := 27) rfl rfl ?_
      refine am_r_icmp_ne (pt := 44) (pf := 30) rfl rfl rfl (fun h27 => ?_) (fun h27 => ?_)
      · exfalso; omega
      · refine am_r_aload0 (pc' := 31) rfl rfl ?_
        refine am_r_iconst (pc' := 33) rfl rfl ?_
        refine am_r_invV1 (pc' := 36) rfl rfl rfl (Nat.le_of_ble_eq_true rfl) (m_runs2 (c := 30) (by omega) hO (by omega) ?_)
        · intro M2 hf2 hO2
          have hl2 : (l ++ [(30 : Int)]).length = l.length + 1 := by simp
          refine am_r_aload0 (pc' := 37) rfl rfl ?_
          refine am_r_iconst (pc' := 38) rfl rfl ?_
          refine am_r_iload2 (pc' := 39) rfl rfl ?_
          refine am_r_invI2 (pc' := 42) rfl rfl rfl (Nat.le_of_ble_eq_true rfl) (m_me0 (by omega) hO2 (by omega) hK (by omega) (by omega) ?_)
          · intro M4 hf4 hO4
            refine am_r_inegR (pc' := 43) rfl rfl ?_
            refine am_r_iret rfl rfl ?_
            exact hq M4 (am_fMd_tr hf2 hf4) (qo_as hO4)
    · exfalso; omega
theorem m_me {sL : Nat} {xs : Nat → Int32} {d : Nat} {M : Am_M} {Q : Int32 → Am_M → Prop} (hd : 8 ≤ d) {κ : Int → Int} {n K m : Int} {l : List Int} (hO : QO M κ n l K m) {x : Int32} (hl : l.length ≤ 820) (hK : 0 ≤ K ∧ K ≤ 7) {k : Int} (hk : 0 ≤ k ∧ k ≤ 7) (hq : ∀ M', am_fMd M M' → QO M' κ n (l ++ (o_m k K m x).2) K m → Q (o_m k K m x).1 M') : am_bi sL xs d 245 [.ref 53, .int (z_I k), .int x] M Q := by
  obtain ⟨d, rfl⟩ : ∃ e, d = e + 1 := ⟨d - 1, by omega⟩
  refine am_bi_of (P := am_pX11_meetsAs) (rt := 1) (nL := 4) (Nat.le_of_ble_eq_true rfl) rfl (Nat.le_of_ble_eq_true rfl) rfl rfl rfl ?_
  refine am_r_iload1 (pc' := 1) rfl rfl ?_
  refine am_r_iconst (pc' := 2) rfl rfl ?_
  refine am_r_icmp_eq (pt := 10) (pf := 5) rfl rfl rfl (fun h2 => ?_) (fun h2 => ?_)
  · refine am_r_aload0 (pc' := 11) rfl rfl ?_
    refine am_r_iconst (pc' := 13) rfl rfl ?_
    refine am_r_invV1 (pc' := 16) rfl rfl rfl (Nat.le_of_ble_eq_true rfl) (m_runs2 (c := 41) (by omega) hO (by omega) ?_)
    · intro M2 hf2 hO2
      have hl2 : (l ++ [(41 : Int)]).length = l.length + 1 := by simp
      refine am_r_aload0 (pc' := 17) rfl rfl ?_
      refine am_r_iconst (pc' := 18) rfl rfl ?_
      refine am_r_iload2 (pc' := 19) rfl rfl ?_
      refine am_r_iconst (pc' := 20) rfl rfl ?_
      refine am_r_iaddR (pc' := 21) rfl rfl ?_
      refine am_r_invI2 (pc' := 24) rfl rfl rfl (Nat.le_of_ble_eq_true rfl) (m_me2 (by omega) hO2 (by omega) hK ?_)
      · intro M4 hf4 hO4
        refine am_r_iret rfl rfl ?_
        rw [show o_m k K m x = ((o_m2 K m (x + z_I 1)).1, 41 :: (o_m2 K m (x + z_I 1)).2) from (if_neg (by omega)).trans (if_pos (by omega))] at hq
        exact hq M4 (am_fMd_tr hf2 hf4) (qo_as hO4)
  · refine am_r_iload1 (pc' := 6) rfl rfl ?_
    refine am_r_iconst (pc' := 7) rfl rfl ?_
    refine am_r_icmp_ne (pt := 25) (pf := 10) rfl rfl rfl (fun h7 => ?_) (fun h7 => ?_)
    · refine am_r_iload1 (pc' := 26) rfl rfl ?_
      refine am_r_iconst (pc' := 27) rfl rfl ?_
      refine am_r_icmp_ne (pt := 44) (pf := 30) rfl rfl rfl (fun h27 => ?_) (fun h27 => ?_)
      · refine am_r_iload1 (pc' := 45) rfl rfl ?_
        refine am_r_iconst (pc' := 47) rfl rfl ?_
        refine am_r_icmp_ne (pt := 75) (pf := 50) rfl rfl rfl (fun h47 => ?_) (fun h47 => ?_)
        · refine am_r_aload0 (pc' := 76) rfl rfl ?_
          refine am_r_iconst (pc' := 78) rfl rfl ?_
          refine am_r_invV1 (pc' := 81) rfl rfl rfl (Nat.le_of_ble_eq_true rfl) (m_runs2 (c := 10) (by omega) hO (by omega) ?_)
          · intro M2 hf2 hO2
            have hl2 : (l ++ [(10 : Int)]).length = l.length + 1 := by simp
            refine am_r_aload0 (pc' := 82) rfl rfl ?_
            refine am_r_aload0 (pc' := 83) rfl rfl ?_
            refine am_r_getIv (f := 33) (pc' := 86) rfl rfl rfl (qo_K hO2) ?_
            refine am_r_iload2 (pc' := 87) rfl rfl ?_
            refine am_r_invI2 (pc' := 90) rfl rfl rfl (Nat.le_of_ble_eq_true rfl) (m_dr (by omega) hO2 (by omega) hK ?_)
            · intro M4 hf4 hO4
              refine am_r_iconst (pc' := 91) rfl rfl ?_
              refine am_r_imulR (pc' := 92) rfl rfl ?_
              refine am_r_iret rfl rfl ?_
              rw [show o_m k K m x = o_m0 K m x from (if_neg (by omega)).trans ((if_neg (by omega)).trans (if_neg (by omega)))] at hq
              exact hq M4 (am_fMd_tr hf2 hf4) (qo_as hO4)
        · refine am_r_aload0 (pc' := 51) rfl rfl ?_
          refine am_r_iconst (pc' := 53) rfl rfl ?_
          refine am_r_invV1 (pc' := 56) rfl rfl rfl (Nat.le_of_ble_eq_true rfl) (m_runs2 (c := 80) (by omega) hO (by omega) ?_)
          · intro M2 hf2 hO2
            have hl2 : (l ++ [(80 : Int)]).length = l.length + 1 := by simp
            refine am_r_aload0 (pc' := 57) rfl rfl ?_
            refine am_r_iconst (pc' := 58) rfl rfl ?_
            refine am_r_iload2 (pc' := 59) rfl rfl ?_
            refine am_r_invI2 (pc' := 62) rfl rfl rfl (Nat.le_of_ble_eq_true rfl) (m_me0 (by omega) hO2 (by omega) hK (by omega) (by omega) ?_)
            · intro M4 hf4 hO4
              have hl4 : ((l ++ [(80 : Int)]) ++ (o_m 4 K m x).2).length ≤ l.length + 9 := by rw [List.length_append, hl2]; have := o_m_l 4 K m x; omega
              refine am_r_istore3 (pc' := 63) rfl rfl rfl ?_
              refine am_r_iload3 (pc' := 64) rfl rfl ?_
              refine am_r_aload0 (pc' := 65) rfl rfl ?_
              refine am_r_aload0 (pc' := 66) rfl rfl ?_
              refine am_r_getIv (f := 33) (pc' := 69) rfl rfl rfl (qo_K hO4) ?_
              refine am_r_iconst (pc' := 70) rfl rfl ?_
              refine am_r_invI2 (pc' := 73) rfl rfl rfl (Nat.le_of_ble_eq_true rfl) (m_sh (by omega) hO4 (by omega) hK hK ?_)
              · intro M6 hf6 hO6
                refine am_r_iaddR (pc' := 74) rfl rfl ?_
                refine am_r_iret rfl rfl ?_
                rw [show o_m k K m x = ((o_m0 K m x).1 + (o_s K K m (z_I 2)).1, 80 :: ((o_m0 K m x).2 ++ (o_s K K m (z_I 2)).2)) from (if_neg (by omega)).trans ((if_neg (by omega)).trans (if_pos (by omega)))] at hq
                exact hq M6 (am_fMd_tr (am_fMd_tr hf2 hf4) hf6) (qo_as (qo_as hO6))
      · refine am_r_aload0 (pc' := 31) rfl rfl ?_
        refine am_r_iconst (pc' := 33) rfl rfl ?_
        refine am_r_invV1 (pc' := 36) rfl rfl rfl (Nat.le_of_ble_eq_true rfl) (m_runs2 (c := 30) (by omega) hO (by omega) ?_)
        · intro M2 hf2 hO2
          have hl2 : (l ++ [(30 : Int)]).length = l.length + 1 := by simp
          refine am_r_aload0 (pc' := 37) rfl rfl ?_
          refine am_r_iconst (pc' := 38) rfl rfl ?_
          refine am_r_iload2 (pc' := 39) rfl rfl ?_
          refine am_r_invI2 (pc' := 42) rfl rfl rfl (Nat.le_of_ble_eq_true rfl) (m_me0 (by omega) hO2 (by omega) hK (by omega) (by omega) ?_)
          · intro M4 hf4 hO4
            refine am_r_inegR (pc' := 43) rfl rfl ?_
            refine am_r_iret rfl rfl ?_
            rw [show o_m k K m x = o_m2 K m x from if_pos (by omega)] at hq
            exact hq M4 (am_fMd_tr hf2 hf4) (qo_as hO4)
    · refine am_r_aload0 (pc' := 11) rfl rfl ?_
      refine am_r_iconst (pc' := 13) rfl rfl ?_
      refine am_r_invV1 (pc' := 16) rfl rfl rfl (Nat.le_of_ble_eq_true rfl) (m_runs2 (c := 41) (by omega) hO (by omega) ?_)
      · intro M2 hf2 hO2
        have hl2 : (l ++ [(41 : Int)]).length = l.length + 1 := by simp
        refine am_r_aload0 (pc' := 17) rfl rfl ?_
        refine am_r_iconst (pc' := 18) rfl rfl ?_
        refine am_r_iload2 (pc' := 19) rfl rfl ?_
        refine am_r_iconst (pc' := 20) rfl rfl ?_
        refine am_r_iaddR (pc' := 21) rfl rfl ?_
        refine am_r_invI2 (pc' := 24) rfl rfl rfl (Nat.le_of_ble_eq_true rfl) (m_me2 (by omega) hO2 (by omega) hK ?_)
        · intro M4 hf4 hO4
          refine am_r_iret rfl rfl ?_
          rw [show o_m k K m x = ((o_m2 K m (x + z_I 1)).1, 41 :: (o_m2 K m (x + z_I 1)).2) from (if_neg (by omega)).trans (if_pos (by omega))] at hq
          exact hq M4 (am_fMd_tr hf2 hf4) (qo_as hO4)
theorem m_te0 {sL : Nat} {xs : Nat → Int32} {d : Nat} {M : Am_M} {Q : Int32 → Am_M → Prop} (hd : 9 ≤ d) {κ : Int → Int} {n K m : Int} {l : List Int} (hO : QO M κ n l K m) {x : Int32} (hl : l.length ≤ 780) (hK : 0 ≤ K ∧ K ≤ 7) {k : Int} (hk : 0 ≤ k ∧ k ≤ 7) (hb : ¬ k = 5 ∧ ¬ k = 7) (hq : ∀ M', am_fMd M M' → QO M' κ n (l ++ (o_t k K m x).2) K m → Q (o_t k K m x).1 M') : am_bi sL xs d 247 [.ref 53, .int (z_I k), .int x] M Q := by
  obtain ⟨d, rfl⟩ : ∃ e, d = e + 1 := ⟨d - 1, by omega⟩
  refine am_bi_of (P := am_pX11_tellsAs) (rt := 1) (nL := 4) (Nat.le_of_ble_eq_true rfl) rfl (Nat.le_of_ble_eq_true rfl) rfl rfl rfl ?_
  refine am_r_iload1 (pc' := 1) rfl rfl ?_
  refine am_r_iconst (pc' := 2) rfl rfl ?_
  refine am_r_icmp_ne (pt := 20) (pf := 5) rfl rfl rfl (fun h2 => ?_) (fun h2 => ?_)
  · refine am_r_iload1 (pc' := 21) rfl rfl ?_
    refine am_r_iconst (pc' := 23) rfl rfl ?_
    refine am_r_icmp_ne (pt := 41) (pf := 26) rfl rfl rfl (fun h23 => ?_) (fun h23 => ?_)
    · refine am_r_aload0 (pc' := 42) rfl rfl ?_
      refine am_r_iconst (pc' := 43) rfl rfl ?_
      refine am_r_invV1 (pc' := 46) rfl rfl rfl (Nat.le_of_ble_eq_true rfl) (m_runs2 (c := 2) (by omega) hO (by omega) ?_)
      · intro M2 hf2 hO2
        have hl2 : (l ++ [(2 : Int)]).length = l.length + 1 := by simp
        refine am_r_aload0 (pc' := 47) rfl rfl ?_
        refine am_r_aload0 (pc' := 48) rfl rfl ?_
        refine am_r_getIv (f := 33) (pc' := 51) rfl rfl rfl (qo_K hO2) ?_
        refine am_r_iload2 (pc' := 52) rfl rfl ?_
        refine am_r_invI2 (pc' := 55) rfl rfl rfl (Nat.le_of_ble_eq_true rfl) (m_me (by omega) hO2 (by omega) hK hK ?_)
        · intro M4 hf4 hO4
          have hl4 : ((l ++ [(2 : Int)]) ++ (o_m K K m x).2).length ≤ l.length + 9 := by rw [List.length_append, hl2]; have := o_m_l K K m x; omega
          refine am_r_istore3 (pc' := 56) rfl rfl rfl ?_
          refine am_r_iload3 (pc' := 57) rfl rfl ?_
          refine am_r_aload0 (pc' := 58) rfl rfl ?_
          refine am_r_aload0 (pc' := 59) rfl rfl ?_
          refine am_r_getIv (f := 33) (pc' := 62) rfl rfl rfl (qo_K hO4) ?_
          refine am_r_iconst (pc' := 63) rfl rfl ?_
          refine am_r_invI2 (pc' := 66) rfl rfl rfl (Nat.le_of_ble_eq_true rfl) (m_sh (by omega) hO4 (by omega) hK hK ?_)
          · intro M6 hf6 hO6
            refine am_r_isubR (pc' := 67) rfl rfl ?_
            refine am_r_iret rfl rfl ?_
            rw [show o_t k K m x = o_t0 K m x from (if_neg (by omega)).trans (if_neg (by omega))] at hq
            exact hq M6 (am_fMd_tr (am_fMd_tr hf2 hf4) hf6) (qo_as (qo_as hO6))
    · exfalso; omega
  · exfalso; omega
theorem m_te {sL : Nat} {xs : Nat → Int32} {d : Nat} {M : Am_M} {Q : Int32 → Am_M → Prop} (hd : 10 ≤ d) {κ : Int → Int} {n K m : Int} {l : List Int} (hO : QO M κ n l K m) {x : Int32} (hl : l.length ≤ 770) (hK : 0 ≤ K ∧ K ≤ 7) {k : Int} (hk : 0 ≤ k ∧ k ≤ 7) (hq : ∀ M', am_fMd M M' → QO M' κ n (l ++ (o_t k K m x).2) K m → Q (o_t k K m x).1 M') : am_bi sL xs d 247 [.ref 53, .int (z_I k), .int x] M Q := by
  obtain ⟨d, rfl⟩ : ∃ e, d = e + 1 := ⟨d - 1, by omega⟩
  refine am_bi_of (P := am_pX11_tellsAs) (rt := 1) (nL := 4) (Nat.le_of_ble_eq_true rfl) rfl (Nat.le_of_ble_eq_true rfl) rfl rfl rfl ?_
  refine am_r_iload1 (pc' := 1) rfl rfl ?_
  refine am_r_iconst (pc' := 2) rfl rfl ?_
  refine am_r_icmp_ne (pt := 20) (pf := 5) rfl rfl rfl (fun h2 => ?_) (fun h2 => ?_)
  · refine am_r_iload1 (pc' := 21) rfl rfl ?_
    refine am_r_iconst (pc' := 23) rfl rfl ?_
    refine am_r_icmp_ne (pt := 41) (pf := 26) rfl rfl rfl (fun h23 => ?_) (fun h23 => ?_)
    · refine am_r_aload0 (pc' := 42) rfl rfl ?_
      refine am_r_iconst (pc' := 43) rfl rfl ?_
      refine am_r_invV1 (pc' := 46) rfl rfl rfl (Nat.le_of_ble_eq_true rfl) (m_runs2 (c := 2) (by omega) hO (by omega) ?_)
      · intro M2 hf2 hO2
        have hl2 : (l ++ [(2 : Int)]).length = l.length + 1 := by simp
        refine am_r_aload0 (pc' := 47) rfl rfl ?_
        refine am_r_aload0 (pc' := 48) rfl rfl ?_
        refine am_r_getIv (f := 33) (pc' := 51) rfl rfl rfl (qo_K hO2) ?_
        refine am_r_iload2 (pc' := 52) rfl rfl ?_
        refine am_r_invI2 (pc' := 55) rfl rfl rfl (Nat.le_of_ble_eq_true rfl) (m_me (by omega) hO2 (by omega) hK hK ?_)
        · intro M4 hf4 hO4
          have hl4 : ((l ++ [(2 : Int)]) ++ (o_m K K m x).2).length ≤ l.length + 9 := by rw [List.length_append, hl2]; have := o_m_l K K m x; omega
          refine am_r_istore3 (pc' := 56) rfl rfl rfl ?_
          refine am_r_iload3 (pc' := 57) rfl rfl ?_
          refine am_r_aload0 (pc' := 58) rfl rfl ?_
          refine am_r_aload0 (pc' := 59) rfl rfl ?_
          refine am_r_getIv (f := 33) (pc' := 62) rfl rfl rfl (qo_K hO4) ?_
          refine am_r_iconst (pc' := 63) rfl rfl ?_
          refine am_r_invI2 (pc' := 66) rfl rfl rfl (Nat.le_of_ble_eq_true rfl) (m_sh (by omega) hO4 (by omega) hK hK ?_)
          · intro M6 hf6 hO6
            refine am_r_isubR (pc' := 67) rfl rfl ?_
            refine am_r_iret rfl rfl ?_
            rw [show o_t k K m x = o_t0 K m x from (if_neg (by omega)).trans (if_neg (by omega))] at hq
            exact hq M6 (am_fMd_tr (am_fMd_tr hf2 hf4) hf6) (qo_as (qo_as hO6))
    · refine am_r_aload0 (pc' := 27) rfl rfl ?_
      refine am_r_iconst (pc' := 29) rfl rfl ?_
      refine am_r_invV1 (pc' := 32) rfl rfl rfl (Nat.le_of_ble_eq_true rfl) (m_runs2 (c := 81) (by omega) hO (by omega) ?_)
      · intro M2 hf2 hO2
        have hl2 : (l ++ [(81 : Int)]).length = l.length + 1 := by simp
        refine am_r_aload0 (pc' := 33) rfl rfl ?_
        refine am_r_iconst (pc' := 34) rfl rfl ?_
        refine am_r_iload2 (pc' := 35) rfl rfl ?_
        refine am_r_invI2 (pc' := 38) rfl rfl rfl (Nat.le_of_ble_eq_true rfl) (m_te0 (by omega) hO2 (by omega) hK (by omega) (by omega) ?_)
        · intro M4 hf4 hO4
          refine am_r_iconst (pc' := 39) rfl rfl ?_
          refine am_r_isubR (pc' := 40) rfl rfl ?_
          refine am_r_iret rfl rfl ?_
          rw [show o_t k K m x = ((o_t0 K m x).1 - z_I 1, 81 :: (o_t0 K m x).2) from (if_neg (by omega)).trans (if_pos (by omega))] at hq
          exact hq M4 (am_fMd_tr hf2 hf4) (qo_as hO4)
  · refine am_r_aload0 (pc' := 6) rfl rfl ?_
    refine am_r_iconst (pc' := 8) rfl rfl ?_
    refine am_r_invV1 (pc' := 11) rfl rfl rfl (Nat.le_of_ble_eq_true rfl) (m_runs2 (c := 60) (by omega) hO (by omega) ?_)
    · intro M2 hf2 hO2
      have hl2 : (l ++ [(60 : Int)]).length = l.length + 1 := by simp
      refine am_r_aload0 (pc' := 12) rfl rfl ?_
      refine am_r_iconst (pc' := 13) rfl rfl ?_
      refine am_r_iload2 (pc' := 14) rfl rfl ?_
      refine am_r_invI2 (pc' := 17) rfl rfl rfl (Nat.le_of_ble_eq_true rfl) (m_te0 (by omega) hO2 (by omega) hK (by omega) (by omega) ?_)
      · intro M4 hf4 hO4
        refine am_r_iconst (pc' := 18) rfl rfl ?_
        refine am_r_ixorR (pc' := 19) rfl rfl ?_
        refine am_r_iret rfl rfl ?_
        rw [show o_t k K m x = ((o_t0 K m x).1 ^^^ z_I 5, 60 :: (o_t0 K m x).2) from if_pos (by omega)] at hq
        exact hq M4 (am_fMd_tr hf2 hf4) (qo_as hO4)
theorem qm_0 {M : Am_M} {κ : Int → Int} {n : Int} {l : List Int} (h : QM M κ n l) : QM (am_upI M 53 32 (z_I 0)) κ n [] := by
  obtain ⟨h1, h2, h3, h4, h5, h6⟩ := h
  refine ⟨h1, h2, ?_, fun i hi => ?_, ?_, fun i x hi e => ?_⟩
  · simp [am_upI, h3]
  · have := h4 i hi
    simpa [am_upI] using this
  · simp [am_upI]
  · simp at e
theorem qm_ow {M : Am_M} {κ : Int → Int} {n : Int} {l : List Int} (h : QM M κ n l) {i : Nat} {x : Int32} (hi : i = 33 ∨ i = 34) : QM (am_upI M 53 i x) κ n l := qm_cg h (am_up_1 _ _ _ _ _ (by omega)) (fun j => am_up_1 _ _ _ _ _ (by omega)) (am_up_1 _ _ _ _ _ (by omega)) (fun j => am_up_1 _ _ _ _ _ (by omega))
theorem m_act2 {sL : Nat} {xs : Nat → Int32} {d : Nat} {M : Am_M} {Q : Int32 → Am_M → Prop} (hd : 11 ≤ d) {κ : Int → Int} {n : Int} {l : List Int} (hO : QM M κ n l) {m : Int} (hm : -2147483648 ≤ m ∧ m < 2147483648) {w : Int} (hw : -2147483648 ≤ w ∧ w < 2147483648) {x : Int32} (hq : ∀ M', am_fMd M M' → QM M' κ n (t_act κ n m w x) → Q (r_act κ n m w x) M') : am_bi sL xs d 248 [.ref 53, .int (z_I m), .int (z_I w), .int x] M Q := by
  obtain ⟨d, rfl⟩ : ∃ e, d = e + 1 := ⟨d - 1, by omega⟩
  have hnb := qm_nb hO
  have hO := qm_0 hO
  refine am_bi_of (P := am_pX11_act) (rt := 1) (nL := 4) (Nat.le_of_ble_eq_true rfl) rfl (Nat.le_of_ble_eq_true rfl) rfl rfl rfl ?_
  refine am_r_aload0 (pc' := 1) rfl rfl ?_
  refine am_r_iconst (pc' := 2) rfl rfl ?_
  refine am_r_putI (f := 32) (pc' := 5) rfl rfl rfl (by decide) ?_
  refine am_r_aload0 (pc' := 6) rfl rfl ?_
  refine am_r_iload1 (pc' := 7) rfl rfl ?_
  refine am_r_invI1 (pc' := 10) rfl rfl rfl (Nat.le_of_ble_eq_true rfl) (m_isBody2 (by omega) hO (by omega) ?_)
  refine am_r_if_neB (pt := 15) (pf := 13) rfl rfl rfl (fun h10 => ?_) (fun h10 => ?_)
  · refine am_r_aload0 (pc' := 16) rfl rfl ?_
    refine am_r_aload0 (pc' := 17) rfl rfl ?_
    refine am_r_getR (t := 69) (pc' := 20) rfl rfl rfl ?_
    refine am_r_iload1 (pc' := 21) rfl rfl ?_
    refine am_r_iaZv (n := 50) (pc' := 22) rfl rfl rfl (by decide) (qm_k hO (by omega)) ?_
    refine am_r_putI (f := 33) (pc' := 25) rfl rfl rfl (by decide) ?_
    refine am_r_aload0 (pc' := 26) rfl rfl ?_
    refine am_r_iload1 (pc' := 27) rfl rfl ?_
    refine am_r_putI (f := 34) (pc' := 30) rfl rfl rfl (by decide) ?_
    refine am_r_iload2 (pc' := 31) rfl rfl ?_
    have hE : QO (am_upI (am_upI (am_upI M 53 32 (z_I 0)) 53 33 (z_I (κ m))) 53 34 (z_I m)) κ n [] (κ m) m := ⟨qm_ow (qm_ow hO (by omega)) (by omega), by simp [am_upI], by simp [am_upI]⟩
    have hFE : am_fMd M (am_upI (am_upI (am_upI M 53 32 (z_I 0)) 53 33 (z_I (κ m))) 53 34 (z_I m)) := am_fMd_up (am_fMd_up (am_fMd_up (am_fMd_rf M) (by omega)) (by omega)) (by omega)
    rcases (show w = 0 ∨ w = 1 ∨ w = 2 ∨ w = 3 ∨ (¬ w = 0 ∧ ¬ w = 1 ∧ ¬ w = 2 ∧ ¬ w = 3) by omega) with rfl | rfl | rfl | rfl | hsw
    · rw [show r_act κ n m 0 x = (o_a 0 (κ m) m x).1 from if_pos (by omega), show t_act κ n m 0 x = (o_a 0 (κ m) m x).2 from if_pos (by omega)] at hq
      refine am_r_tsw (t := 60) rfl rfl ?_
      refine am_r_aload0 (pc' := 61) rfl rfl ?_
      refine am_r_aload0 (pc' := 62) rfl rfl ?_
      refine am_r_getIv (f := 33) (pc' := 65) rfl rfl rfl (qo_K hE) ?_
      refine am_r_iload3 (pc' := 66) rfl rfl ?_
      refine am_r_invI2 (pc' := 69) rfl rfl rfl (Nat.le_of_ble_eq_true rfl) (m_dr (l := []) (by omega) hE (by simp) (qm_kb hO (by omega)) ?_)
      · intro M4 hf4 hO4
        refine am_r_iret rfl rfl ?_
        exact hq M4 (am_fMd_tr hFE hf4) hO4.1
    · rw [show r_act κ n m 1 x = (o_a 1 (κ m) m x).1 from if_pos (by omega), show t_act κ n m 1 x = (o_a 1 (κ m) m x).2 from if_pos (by omega)] at hq
      refine am_r_tsw (t := 70) rfl rfl ?_
      refine am_r_aload0 (pc' := 71) rfl rfl ?_
      refine am_r_aload0 (pc' := 72) rfl rfl ?_
      refine am_r_getIv (f := 33) (pc' := 75) rfl rfl rfl (qo_K hE) ?_
      refine am_r_iload3 (pc' := 76) rfl rfl ?_
      refine am_r_invI2 (pc' := 79) rfl rfl rfl (Nat.le_of_ble_eq_true rfl) (m_me (l := []) (by omega) hE (by simp) (qm_kb hO (by omega)) (qm_kb hO (by omega)) ?_)
      · intro M4 hf4 hO4
        refine am_r_iret rfl rfl ?_
        exact hq M4 (am_fMd_tr hFE hf4) hO4.1
    · rw [show r_act κ n m 2 x = (o_a 2 (κ m) m x).1 from if_pos (by omega), show t_act κ n m 2 x = (o_a 2 (κ m) m x).2 from if_pos (by omega)] at hq
      refine am_r_tsw (t := 80) rfl rfl ?_
      refine am_r_aload0 (pc' := 81) rfl rfl ?_
      refine am_r_aload0 (pc' := 82) rfl rfl ?_
      refine am_r_getIv (f := 33) (pc' := 85) rfl rfl rfl (qo_K hE) ?_
      refine am_r_iload3 (pc' := 86) rfl rfl ?_
      refine am_r_invI2 (pc' := 89) rfl rfl rfl (Nat.le_of_ble_eq_true rfl) (m_sh (l := []) (by omega) hE (by simp) (qm_kb hO (by omega)) (qm_kb hO (by omega)) ?_)
      · intro M4 hf4 hO4
        refine am_r_iret rfl rfl ?_
        exact hq M4 (am_fMd_tr hFE hf4) hO4.1
    · rw [show r_act κ n m 3 x = (o_a 3 (κ m) m x).1 from if_pos (by omega), show t_act κ n m 3 x = (o_a 3 (κ m) m x).2 from if_pos (by omega)] at hq
      refine am_r_tsw (t := 90) rfl rfl ?_
      refine am_r_aload0 (pc' := 91) rfl rfl ?_
      refine am_r_aload0 (pc' := 92) rfl rfl ?_
      refine am_r_getIv (f := 33) (pc' := 95) rfl rfl rfl (qo_K hE) ?_
      refine am_r_iload3 (pc' := 96) rfl rfl ?_
      refine am_r_invI2 (pc' := 99) rfl rfl rfl (Nat.le_of_ble_eq_true rfl) (m_te (l := []) (by omega) hE (by simp) (qm_kb hO (by omega)) (qm_kb hO (by omega)) ?_)
      · intro M4 hf4 hO4
        refine am_r_iret rfl rfl ?_
        exact hq M4 (am_fMd_tr hFE hf4) hO4.1
    · refine am_r_tsw (t := 100) rfl (by rw [if_pos (by omega)]; rfl) ?_
      refine am_r_iconst (pc' := 101) rfl rfl ?_
      refine am_r_iret rfl rfl ?_
      rw [show r_act κ n m w x = z_I 0 from if_neg (by omega), show t_act κ n m w x = [] from if_neg (by omega)] at hq
      exact hq _ hFE hE.1
  · refine am_r_iconst (pc' := 14) rfl rfl ?_
    refine am_r_iret rfl rfl ?_
    rw [show r_act κ n m w x = z_I 0 from if_neg (by omega), show t_act κ n m w x = [] from if_neg (by omega)] at hq
    exact hq _ (am_fMd_up (am_fMd_rf M) (by omega)) hO
