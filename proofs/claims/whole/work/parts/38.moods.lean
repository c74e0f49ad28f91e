/-! MOODS: what an act comes to, whose bodies run; the class -/
abbrev o_R : Type := Int32 × List Int
def o_d (k n : Int) (x : Int32) : o_R := if k = 1 ∨ k = 4 ∨ k = 7 then (x + z_I n + z_I 3, [20, 1]) else if k = 6 then ((x + z_I n) * z_I 2, [70, 1]) else (x + z_I n, [1])
def o_s (k K n : Int) (x : Int32) : o_R := if k = 3 ∨ k = 5 then ((x ^^^ z_I n) * z_I 3, [40, 11]) else if k = 4 ∨ k = 7 then ((x ^^^ z_I n) - (o_d K n (z_I 2)).1, 50 :: 11 :: (o_d K n (z_I 2)).2) else (x ^^^ z_I n, [11])
def o_m0 (K n : Int) (x : Int32) : o_R := ((o_d K n x).1 * z_I 2, 10 :: (o_d K n x).2)
def o_m2 (K n : Int) (x : Int32) : o_R := (-(o_m0 K n x).1, 30 :: (o_m0 K n x).2)
def o_m (k K n : Int) (x : Int32) : o_R := if k = 2 then o_m2 K n x else if k = 3 ∨ k = 5 then ((o_m2 K n (x + z_I 1)).1, 41 :: (o_m2 K n (x + z_I 1)).2) else if k = 7 then ((o_m0 K n x).1 + (o_s K K n (z_I 2)).1, 80 :: ((o_m0 K n x).2 ++ (o_s K K n (z_I 2)).2)) else o_m0 K n x
def o_t0 (K n : Int) (x : Int32) : o_R := ((o_m K K n x).1 - (o_s K K n (z_I 1)).1, 2 :: ((o_m K K n x).2 ++ (o_s K K n (z_I 1)).2))
def o_t (k K n : Int) (x : Int32) : o_R := if k = 5 then ((o_t0 K n x).1 ^^^ z_I 5, 60 :: (o_t0 K n x).2) else if k = 7 then ((o_t0 K n x).1 - z_I 1, 81 :: (o_t0 K n x).2) else o_t0 K n x
def o_a (w K n : Int) (x : Int32) : o_R := if w = 0 then o_d K n x else if w = 1 then o_m K K n x else if w = 2 then o_s K K n x else o_t K K n x
theorem o_d_l (k n : Int) (x : Int32) : (o_d k n x).2.length ≤ 2 := by
  unfold o_d
  repeat' split
  all_goals simp
theorem o_s_l (k K n : Int) (x : Int32) : (o_s k K n x).2.length ≤ 4 := by
  have := o_d_l K n (z_I 2)
  unfold o_s
  repeat' split
  all_goals simp
  omega
theorem o_m_l (k K n : Int) (x : Int32) : (o_m k K n x).2.length ≤ 8 := by
  have h1 := o_d_l K n x
  have h2 := o_d_l K n (x + z_I 1)
  have h3 := o_s_l K K n (z_I 2)
  unfold o_m o_m2 o_m0
  repeat' split
  all_goals simp
  all_goals omega
/-- kinds of the moods kept, how many, what ran -/
def OK (M : Am_M) (κ : Int → Int) (n : Int) (l : List Int) : Prop := (0 ≤ n ∧ n ≤ 50) ∧ (∀ i, 0 ≤ i ∧ i < n → 0 ≤ κ i ∧ κ i ≤ 7) ∧ M.1 50 1 = z_I n ∧ (∀ i, 0 ≤ i ∧ i < n → M.1 51 i.toNat = z_I (κ i)) ∧ M.1 50 3 = z_I (l.length : Int) ∧ ∀ i x, i < 24 → l[i]? = some x → M.1 52 i = z_I x
theorem ok_nb {M : Am_M} {κ : Int → Int} {n : Int} {l : List Int} (h : OK M κ n l) : 0 ≤ n ∧ n ≤ 50 := h.1
theorem ok_kb {M : Am_M} {κ : Int → Int} {n : Int} {l : List Int} (h : OK M κ n l) {i : Int} (hi : 0 ≤ i ∧ i < n) : 0 ≤ κ i ∧ κ i ≤ 7 := h.2.1 i hi
theorem ok_n {M : Am_M} {κ : Int → Int} {n : Int} {l : List Int} (h : OK M κ n l) : M.1 50 1 = z_I n := h.2.2.1
theorem ok_k {M : Am_M} {κ : Int → Int} {n : Int} {l : List Int} (h : OK M κ n l) {i : Int} (hi : 0 ≤ i ∧ i < n) : M.1 51 i.toNat = z_I (κ i) := h.2.2.2.1 i hi
theorem ok_r {M : Am_M} {κ : Int → Int} {n : Int} {l : List Int} (h : OK M κ n l) : M.1 50 3 = z_I (l.length : Int) := h.2.2.2.2.1
theorem ok_t {M : Am_M} {κ : Int → Int} {n : Int} {l : List Int} (h : OK M κ n l) : ∀ i x, i < 24 → l[i]? = some x → M.1 52 i = z_I x := h.2.2.2.2.2
theorem ok_cg {M M' : Am_M} {κ : Int → Int} {n : Int} {l : List Int} (h : OK M κ n l) (h0 : M'.1 50 = M.1 50) (h1 : M'.1 51 = M.1 51) (h2 : M'.1 52 = M.1 52) : OK M' κ n l := by
  unfold OK at h ⊢
  rw [h0, h1, h2]
  exact h
theorem ok_as {M : Am_M} {κ : Int → Int} {n : Int} {l r s : List Int} (h : OK M κ n ((l ++ r) ++ s)) : OK M κ n (l ++ (r ++ s)) := by rw [← List.append_assoc]; exact h
def o_A (k : Int) : Int := ([-1, 0, 0, 2, 1, 3, 0, 4] : List Int).getD k.toNat 0
def o_O (i : Int) : Int := ([1, 10, 11, 2, 20, 0, 0, 0, 0, 30, 0, 0, 0, 41, 40, 0, 0, 0, 50, 0, 0, 0, 0, 60, 70, 0, 0, 0, 0, 80, 0, 81] : List Int).getD i.toNat 0
theorem o_A_e {k : Int} (h : 0 ≤ k ∧ k < 8) : am_fA k.toNat = z_I (o_A k) ∧ -1 ≤ o_A k ∧ o_A k < 8 := by
  have key : ∀ j : Nat, j < 8 → am_fA j = z_I (o_A (j : Int)) ∧ -1 ≤ o_A (j : Int) ∧ o_A (j : Int) < 8 := by decide +kernel
  have := key k.toNat (by omega)
  rwa [show ((k.toNat : Nat) : Int) = k by omega] at this
theorem o_O_e {k : Int} (h : 0 ≤ k ∧ k < 32) : am_fO k.toNat = z_I (o_O k) ∧ 0 ≤ o_O k ∧ o_O k ≤ 81 := by
  have key : ∀ j : Nat, j < 32 → am_fO j = z_I (o_O (j : Int)) ∧ 0 ≤ o_O (j : Int) ∧ o_O (j : Int) ≤ 81 := by decide +kernel
  have := key k.toNat (by omega)
  rwa [show ((k.toNat : Nat) : Int) = k by omega] at this
def o_cf (w : Int) : Nat → Int → Int
  | 0, _ => 0
  | j + 1, k => if k < 0 then 0 else if o_O (k * 4 + w) = 0 then o_cf w j (o_A k) else o_O (k * 4 + w)
/-- under a wanted kind -/
def o_u (w : Int) : Nat → Int → Bool
  | 0, _ => false
  | j + 1, k => if k < 0 then false else if k = w then true else o_u w j (o_A k)
theorem c_isKind {sL : Nat} {xs : Nat → Int32} {d : Nat} {M : Am_M} {Q : Int32 → Am_M → Prop} (hd : 1 ≤ d) {k : Int} (hk : -2147483648 ≤ k ∧ k < 2147483648)  (hq : Q (z_b (0 ≤ k ∧ k < 8)) M) : am_bi sL xs d 42 [.int (z_I k)] M Q := by
  obtain ⟨d, rfl⟩ : ∃ e, d = e + 1 := ⟨d - 1, by omega⟩
  refine am_bi_of (P := am_pX5_isKind) (rt := 2) (nL := 1) (Nat.le_of_ble_eq_true rfl) rfl (Nat.le_of_ble_eq_true rfl) rfl rfl rfl ?_
  refine am_r_iload0 (pc' := 1) rfl rfl ?_
  refine am_r_if_lt (pt := 14) (pf := 4) rfl rfl rfl (fun h1 => ?_) (fun h1 => ?_)
  · refine am_r_iconst (pc' := 15) rfl rfl ?_
    refine am_r_zret rfl rfl (by first | exact Or.inr rfl | exact Or.inl rfl | exact z_b_01 _ | assumption) ?_
    first | (rw [z_bT (by omega)] at hq; exact hq) | (rw [z_bF (by omega)] at hq; exact hq)
  · refine am_r_iload0 (pc' := 5) rfl rfl ?_
    refine am_r_iconst (pc' := 7) rfl rfl ?_
    refine am_r_icmp_ge (pt := 14) (pf := 10) rfl rfl rfl (fun h7 => ?_) (fun h7 => ?_)
    · refine am_r_iconst (pc' := 15) rfl rfl ?_
      refine am_r_zret rfl rfl (by first | exact Or.inr rfl | exact Or.inl rfl | exact z_b_01 _ | assumption) ?_
      first | (rw [z_bT (by omega)] at hq; exact hq) | (rw [z_bF (by omega)] at hq; exact hq)
    · refine am_r_iconst (pc' := 11) rfl rfl ?_
      refine am_r_goto (pc' := 15) rfl rfl ?_
      refine am_r_zret rfl rfl (by first | exact Or.inr rfl | exact Or.inl rfl | exact z_b_01 _ | assumption) ?_
      first | (rw [z_bT (by omega)] at hq; exact hq) | (rw [z_bF (by omega)] at hq; exact hq)
theorem c_hasMood {sL : Nat} {xs : Nat → Int32} {d : Nat} {M : Am_M} {Q : Int32 → Am_M → Prop} (hd : 1 ≤ d) {κ : Int → Int} {n : Int} {l : List Int} (hO : OK M κ n l) {i : Int} (hi : -2147483648 ≤ i ∧ i < 2147483648)  (hq : Q (z_b (0 ≤ i ∧ i < n)) M) : am_bi sL xs d 44 [.ref 50, .int (z_I i)] M Q := by
  obtain ⟨d, rfl⟩ : ∃ e, d = e + 1 := ⟨d - 1, by omega⟩
  have hnb := ok_nb hO
  refine am_bi_of (P := am_pX5_has) (rt := 2) (nL := 2) (Nat.le_of_ble_eq_true rfl) rfl (Nat.le_of_ble_eq_true rfl) rfl rfl rfl ?_
  refine am_r_iload1 (pc' := 1) rfl rfl ?_
  refine am_r_if_lt (pt := 16) (pf := 4) rfl rfl rfl (fun h1 => ?_) (fun h1 => ?_)
  · refine am_r_iconst (pc' := 17) rfl rfl ?_
    refine am_r_zret rfl rfl (by first | exact Or.inr rfl | exact Or.inl rfl | exact z_b_01 _ | assumption) ?_
    first | (rw [z_bT (by omega)] at hq; exact hq) | (rw [z_bF (by omega)] at hq; exact hq)
  · refine am_r_iload1 (pc' := 5) rfl rfl ?_
    refine am_r_aload0 (pc' := 6) rfl rfl ?_
    refine am_r_getIv (f := 1) (pc' := 9) rfl rfl rfl (ok_n hO) ?_
    refine am_r_icmp_ge (pt := 16) (pf := 12) rfl rfl rfl (fun h9 => ?_) (fun h9 => ?_)
    · refine am_r_iconst (pc' := 17) rfl rfl ?_
      refine am_r_zret rfl rfl (by first | exact Or.inr rfl | exact Or.inl rfl | exact z_b_01 _ | assumption) ?_
      first | (rw [z_bT (by omega)] at hq; exact hq) | (rw [z_bF (by omega)] at hq; exact hq)
    · refine am_r_iconst (pc' := 13) rfl rfl ?_
      refine am_r_goto (pc' := 17) rfl rfl ?_
      refine am_r_zret rfl rfl (by first | exact Or.inr rfl | exact Or.inl rfl | exact z_b_01 _ | assumption) ?_
      first | (rw [z_bT (by omega)] at hq; exact hq) | (rw [z_bF (by omega)] at hq; exact hq)
theorem c_codeFrom {sL : Nat} {xs : Nat → Int32} {d : Nat} {M : Am_M} {Q : Int32 → Am_M → Prop} (hd : 2 ≤ d) {k w : Int} (hk : 0 ≤ k ∧ k ≤ 7) (hw : 0 ≤ w ∧ w ≤ 3) (hq : Q (z_I (o_cf w 8 k)) M) : am_bi sL xs d 50 [.int (z_I k), .int (z_I w)] M Q := by
  obtain ⟨d, rfl⟩ : ∃ e, d = e + 1 := ⟨d - 1, by omega⟩
  have hloop : ∀ (j : Nat) (i u : Int) (w4 : Value), i + j = 8 ∧ 0 ≤ i → -1 ≤ u ∧ u < 8 → Q (z_I (o_cf w j u)) M → am_rw sL xs d am_pX5_codeFrom 1 4 [.int (z_I k), .int (z_I w), .int (z_I u), .int (z_I i), w4] [] M (am_pi Q) := by
    intro j
    induction j with
    | zero =>
      intro i u w4 hi hu hq
      refine am_r_iload3 (pc' := 5) rfl rfl ?_
      refine am_r_iconst (pc' := 7) rfl rfl ?_
      refine am_r_icmp_ge (pt := 48) (pf := 10) rfl rfl rfl (fun h7 => ?_) (fun h7 => ?_)
      · refine am_r_iconst (pc' := 49) rfl rfl ?_
        refine am_r_iret rfl rfl ?_
        exact hq
      · exfalso; omega
    | succ j ih =>
      intro i u w4 hi hu hq
      have hA := fun z : 0 ≤ u => o_A_e (k := u) (by omega)
      have hO := fun z : 0 ≤ u => o_O_e (k := u * 4 + w) (by omega)
      refine am_r_iload3 (pc' := 5) rfl rfl ?_
      refine am_r_iconst (pc' := 7) rfl rfl ?_
      refine am_r_icmp_ge (pt := 48) (pf := 10) rfl rfl rfl (fun h7 => ?_) (fun h7 => ?_)
      · refine am_r_iconst (pc' := 49) rfl rfl ?_
        refine am_r_iret rfl rfl ?_
        first | (exfalso; omega) | (rw [show o_cf w (j + 1) u = 0 from if_pos (by omega)] at hq; exact hq)
      · refine am_r_iload2 (pc' := 11) rfl rfl ?_
        refine am_r_ivsI1 (pc' := 14) rfl rfl rfl (Nat.le_of_ble_eq_true rfl) (c_isKind (by omega) (by omega) ?_)
        refine am_r_if_eqB (pt := 48) (pf := 17) rfl rfl rfl (fun h14 => ?_) (fun h14 => ?_)
        · refine am_r_iconst (pc' := 49) rfl rfl ?_
          refine am_r_iret rfl rfl ?_
          first | (exfalso; omega) | (rw [show o_cf w (j + 1) u = 0 from if_pos (by omega)] at hq; exact hq)
        · refine am_r_gets (pc' := 20) rfl rfl ?_
          refine am_r_iload2 (pc' := 21) rfl rfl ?_
          refine am_r_iconst (pc' := 22) rfl rfl ?_
          refine am_r_imul (pc' := 23) rfl rfl ?_
          refine am_r_iload1 (pc' := 24) rfl rfl ?_
          refine am_r_iadd (pc' := 25) rfl rfl ?_
          refine am_r_stO (pc' := 26) rfl rfl ((hO (by omega)).1) ?_
          have hO2 := hO (by omega)
          refine am_r_istore4 (pc' := 28) rfl rfl rfl ?_
          refine am_r_iload4 (pc' := 30) rfl rfl ?_
          refine am_r_if_eq (pt := 36) (pf := 33) rfl rfl rfl (fun h30 => ?_) (fun h30 => ?_)
          · refine am_r_gets (pc' := 39) rfl rfl ?_
            refine am_r_iload2 (pc' := 40) rfl rfl ?_
            refine am_r_stA (pc' := 41) rfl rfl ((hA (by omega)).1) ?_
            have hA2 := hA (by omega)
            refine am_r_istore2 (pc' := 42) rfl rfl rfl ?_
            refine am_r_iinc3 (pc' := 45) rfl rfl rfl ?_
            refine am_r_goto (pc' := 4) rfl rfl ?_
            exact ih _ _ _ (by omega) (by omega) (by rw [show o_cf w (j + 1) u = o_cf w j (o_A u) from (if_neg (by omega)).trans (if_pos h30)] at hq; exact hq)
          · refine am_r_iload4 (pc' := 35) rfl rfl ?_
            refine am_r_iret rfl rfl ?_
            rw [show o_cf w (j + 1) u = o_O (u * 4 + w) from (if_neg (by omega)).trans (if_neg h30)] at hq
            exact hq
  refine am_bi_of (P := am_pX5_codeFrom) (rt := 1) (nL := 5) (Nat.le_of_ble_eq_true rfl) rfl (Nat.le_of_ble_eq_true rfl) rfl rfl rfl ?_
  refine am_r_iload0 (pc' := 1) rfl rfl ?_
  refine am_r_istore2 (pc' := 2) rfl rfl rfl ?_
  refine am_r_iconst (pc' := 3) rfl rfl ?_
  refine am_r_istore3 (pc' := 4) rfl rfl rfl ?_
  exact hloop 8 0 k _ (by omega) (by omega) hq
theorem c_isUnder {sL : Nat} {xs : Nat → Int32} {d : Nat} {M : Am_M} {Q : Int32 → Am_M → Prop} (hd : 2 ≤ d) {k w : Int} (hk : 0 ≤ k ∧ k ≤ 7) (hw : 0 ≤ w ∧ w ≤ 7) (hq : Q (z_b (o_u w 8 k = true)) M) : am_bi sL xs d 43 [.int (z_I k), .int (z_I w)] M Q := by
  obtain ⟨d, rfl⟩ : ∃ e, d = e + 1 := ⟨d - 1, by omega⟩
  have hloop : ∀ (j : Nat) (i u : Int), i + j = 8 ∧ 0 ≤ i → -1 ≤ u ∧ u < 8 → Q (z_b (o_u w j u = true)) M → am_rw sL xs d am_pX5_isUnder 2 4 [.int (z_I k), .int (z_I w), .int (z_I u), .int (z_I i)] [] M (am_pi Q) := by
    intro j
    induction j with
    | zero =>
      intro i u hi hu hq
      refine am_r_iload3 (pc' := 5) rfl rfl ?_
      refine am_r_iconst (pc' := 7) rfl rfl ?_
      refine am_r_icmp_ge (pt := 36) (pf := 10) rfl rfl rfl (fun h7 => ?_) (fun h7 => ?_)
      · refine am_r_iconst (pc' := 37) rfl rfl ?_
        refine am_r_zret rfl rfl (by first | exact Or.inr rfl | exact Or.inl rfl | exact z_b_01 _ | assumption) ?_
        exact hq
      · exfalso; omega
    | succ j ih =>
      intro i u hi hu hq
      have hA := fun z : 0 ≤ u => o_A_e (k := u) (by omega)
      refine am_r_iload3 (pc' := 5) rfl rfl ?_
      refine am_r_iconst (pc' := 7) rfl rfl ?_
      refine am_r_icmp_ge (pt := 36) (pf := 10) rfl rfl rfl (fun h7 => ?_) (fun h7 => ?_)
      · refine am_r_iconst (pc' := 37) rfl rfl ?_
        refine am_r_zret rfl rfl (by first | exact Or.inr rfl | exact Or.inl rfl | exact z_b_01 _ | assumption) ?_
        first | (exfalso; omega) | (rw [show o_u w (j + 1) u = false from if_pos (by omega)] at hq; exact hq)
      · refine am_r_iload2 (pc' := 11) rfl rfl ?_
        refine am_r_ivsI1 (pc' := 14) rfl rfl rfl (Nat.le_of_ble_eq_true rfl) (c_isKind (by omega) (by omega) ?_)
        refine am_r_if_eqB (pt := 36) (pf := 17) rfl rfl rfl (fun h14 => ?_) (fun h14 => ?_)
        · refine am_r_iconst (pc' := 37) rfl rfl ?_
          refine am_r_zret rfl rfl (by first | exact Or.inr rfl | exact Or.inl rfl | exact z_b_01 _ | assumption) ?_
          first | (exfalso; omega) | (rw [show o_u w (j + 1) u = false from if_pos (by omega)] at hq; exact hq)
        · refine am_r_iload2 (pc' := 18) rfl rfl ?_
          refine am_r_iload1 (pc' := 19) rfl rfl ?_
          refine am_r_icmp_ne (pt := 24) (pf := 22) rfl rfl rfl (fun h19 => ?_) (fun h19 => ?_)
          · refine am_r_gets (pc' := 27) rfl rfl ?_
            refine am_r_iload2 (pc' := 28) rfl rfl ?_
            refine am_r_stA (pc' := 29) rfl rfl ((hA (by omega)).1) ?_
            have hA2 := hA (by omega)
            refine am_r_istore2 (pc' := 30) rfl rfl rfl ?_
            refine am_r_iinc3 (pc' := 33) rfl rfl rfl ?_
            refine am_r_goto (pc' := 4) rfl rfl ?_
            exact ih _ _ (by omega) (by omega) (by rw [show o_u w (j + 1) u = o_u w j (o_A u) from (if_neg (by omega)).trans (if_neg h19)] at hq; exact hq)
          · refine am_r_iconst (pc' := 23) rfl rfl ?_
            refine am_r_zret rfl rfl (by first | exact Or.inr rfl | exact Or.inl rfl | exact z_b_01 _ | assumption) ?_
            rw [show o_u w (j + 1) u = true from (if_neg (by omega)).trans (if_pos h19)] at hq
            exact hq
  refine am_bi_of (P := am_pX5_isUnder) (rt := 2) (nL := 4) (Nat.le_of_ble_eq_true rfl) rfl (Nat.le_of_ble_eq_true rfl) rfl rfl rfl ?_
  refine am_r_iload0 (pc' := 1) rfl rfl ?_
  refine am_r_istore2 (pc' := 2) rfl rfl rfl ?_
  refine am_r_iconst (pc' := 3) rfl rfl ?_
  refine am_r_istore3 (pc' := 4) rfl rfl rfl ?_
  exact hloop 8 0 k (by omega) (by omega) hq
theorem ok_note {M : Am_M} {κ : Int → Int} {n : Int} {l : List Int} (h : OK M κ n l) (c : Int) (t : Bool) (ht : t = true ∨ 24 ≤ l.length) : OK (am_upI (if t = true then am_upI M 52 ((l.length : Int)).toNat (z_I c) else M) 50 3 (z_I ((l.length : Int) + 1))) κ n (l ++ [c]) := by
  obtain ⟨h1, h2, h3, h4, h5, h6⟩ := h
  refine ⟨h1, h2, ?_, fun i hi => ?_, ?_, fun i x hi e => ?_⟩
  · cases t <;> simp [am_upI, h3]
  · have := h4 i hi
    cases t <;> simpa [am_upI] using this
  · rw [List.length_append]; simp [am_upI]
  · by_cases q : i < l.length
    · rw [List.getElem?_append_left q] at e
      have := h6 i x hi e
      have q2 : ¬ i = l.length := by omega
      cases t <;> simpa [am_upI, q2] using this
    · rw [List.getElem?_append_right (by omega)] at e
      by_cases q2 : i = l.length
      · rw [q2] at e ⊢
        simp at e
        rcases ht with ht | ht
        · rw [ht]; simp [am_upI, e]
        · omega
      · rw [show i - l.length = (i - l.length - 1) + 1 by omega] at e
        simp at e
theorem c_note {sL : Nat} {xs : Nat → Int32} {d : Nat} {M : Am_M} {Q : Am_M → Prop} (hd : 1 ≤ d) {κ : Int → Int} {n : Int} {l : List Int} (hO : OK M κ n l) {c : Int} (hl : l.length ≤ 1000) (hq : ∀ M', am_fr 50 52 M M' → OK M' κ n (l ++ [c]) → Q M') : am_bv sL xs d 51 [.ref 50, .int (z_I c)] M Q := by
  obtain ⟨d, rfl⟩ : ∃ e, d = e + 1 := ⟨d - 1, by omega⟩
  refine am_bv_of (P := am_pX5_note) (rt := 0) (nL := 2) (Nat.le_of_ble_eq_true rfl) rfl (Nat.le_of_ble_eq_true rfl) rfl rfl rfl ?_
  refine am_r_aload0 (pc' := 1) rfl rfl ?_
  refine am_r_getIv (f := 3) (pc' := 4) rfl rfl rfl (ok_r hO) ?_
  refine am_r_iconst (pc' := 6) rfl rfl ?_
  refine am_r_icmp_ge (pt := 19) (pf := 9) rfl rfl rfl (fun h6 => ?_) (fun h6 => ?_)
  · refine am_r_aload0 (pc' := 20) rfl rfl ?_
    refine am_r_dup (pc' := 21) rfl rfl rfl ?_
    refine am_r_getIv (f := 3) (pc' := 24) rfl rfl rfl (by first | exact ok_r hO | (show _ = z_I (l.length : Int); simpa [am_upI] using ok_r hO)) ?_
    refine am_r_iconst (pc' := 25) rfl rfl ?_
    refine am_r_iadd (pc' := 26) rfl rfl ?_
    refine am_r_putI (f := 3) (pc' := 29) rfl rfl rfl (by decide) ?_
    refine am_r_vret rfl rfl ?_
    first | exact hq _ (am_fr_upI (am_fr_upI (am_fr_rf _ _ _) (by omega)) (by omega)) (ok_note hO c true (Or.inl rfl)) | exact hq _ (am_fr_upI (am_fr_rf _ _ _) (by omega)) (ok_note hO c false (Or.inr (by omega)))
  · refine am_r_aload0 (pc' := 10) rfl rfl ?_
    refine am_r_getR (t := 52) (pc' := 13) rfl rfl rfl ?_
    refine am_r_aload0 (pc' := 14) rfl rfl ?_
    refine am_r_getIv (f := 3) (pc' := 17) rfl rfl rfl (ok_r hO) ?_
    refine am_r_iload1 (pc' := 18) rfl rfl ?_
    refine am_r_iast (n := 24) (pc' := 19) rfl rfl (rfl) (by decide) ?_
    refine am_r_aload0 (pc' := 20) rfl rfl ?_
    refine am_r_dup (pc' := 21) rfl rfl rfl ?_
    refine am_r_getIv (f := 3) (pc' := 24) rfl rfl rfl (by first | exact ok_r hO | (show _ = z_I (l.length : Int); simpa [am_upI] using ok_r hO)) ?_
    refine am_r_iconst (pc' := 25) rfl rfl ?_
    refine am_r_iadd (pc' := 26) rfl rfl ?_
    refine am_r_putI (f := 3) (pc' := 29) rfl rfl rfl (by decide) ?_
    refine am_r_vret rfl rfl ?_
    first | exact hq _ (am_fr_upI (am_fr_upI (am_fr_rf _ _ _) (by omega)) (by omega)) (ok_note hO c true (Or.inl rfl)) | exact hq _ (am_fr_upI (am_fr_rf _ _ _) (by omega)) (ok_note hO c false (Or.inr (by omega)))
theorem am_bi_mono {sL : Nat} {xs : Nat → Int32} {d j : Nat} {as : List Value} {M : Am_M} {Q Q' : Int32 → Am_M → Prop} (h : am_bi sL xs d j as M Q) (k : ∀ x M', Q x M' → Q' x M') : am_bi sL xs d j as M Q' := by
  obtain ⟨x, M', h1, h2⟩ := h
  exact ⟨x, M', h1, k x M' h2⟩
theorem c_b1 {sL : Nat} {xs : Nat → Int32} {d : Nat} {M : Am_M} {Q : Int32 → Am_M → Prop} (hd : 1 ≤ d) {κ : Int → Int} {n : Int} {l : List Int} (hO : OK M κ n l) {m : Int} {x : Int32} {dp : Int} (hm : 0 ≤ m ∧ m < n) (hl : l.length ≤ 960) (hdp : 0 ≤ dp ∧ dp ≤ 39) (hq : ∀ M', am_fr 50 52 M M' → OK M' κ n (l ++ []) → Q (x + z_I m) M') : am_bi sL xs d 52 [.ref 50, .int (z_I 1), .int (z_I m), .int x, .int (z_I dp)] M Q := by
  obtain ⟨d, rfl⟩ : ∃ e, d = e + 1 := ⟨d - 1, by omega⟩
  have hnb := ok_nb hO
  refine am_bi_of (P := am_pX5_drawing) (rt := 1) (nL := 5) (Nat.le_of_ble_eq_true rfl) rfl (Nat.le_of_ble_eq_true rfl) rfl rfl rfl ?_
  refine am_r_iload1 (pc' := 1) rfl rfl ?_
  refine am_r_lsw (t := 55) rfl rfl ?_
  refine am_r_iload3 (pc' := 56) rfl rfl ?_
  refine am_r_iload2 (pc' := 57) rfl rfl ?_
  refine am_r_iaddR (pc' := 58) rfl rfl ?_
  refine am_r_iret rfl rfl ?_
  refine hq M (am_fr_rf _ _ _) ?_
  rw [List.append_nil]
  exact hO
theorem c_r0_0 {sL : Nat} {xs : Nat → Int32} {d : Nat} {M : Am_M} {Q : Int32 → Am_M → Prop} (hd : 3 ≤ d) {κ : Int → Int} {n : Int} {l : List Int} (hO : OK M κ n l) {m : Int} {x : Int32} {dp : Int} (hm : 0 ≤ m ∧ m < n) (hl : l.length ≤ 950) (hdp : 0 ≤ dp ∧ dp ≤ 38) (hq : ∀ M', am_fr 50 52 M M' → OK M' κ n (l ++ (o_d 0 m x).2) → Q (o_d 0 m x).1 M') : am_bi sL xs d 49 [.ref 50, .int (z_I 0), .int (z_I m), .int (z_I 0), .int x, .int (z_I dp)] M Q := by
  obtain ⟨d, rfl⟩ : ∃ e, d = e + 1 := ⟨d - 1, by omega⟩
  have hnb := ok_nb hO
  refine am_bi_of (P := am_pX5_ranFrom) (rt := 1) (nL := 7) (Nat.le_of_ble_eq_true rfl) rfl (Nat.le_of_ble_eq_true rfl) rfl rfl rfl ?_
  refine am_r_iload5 (pc' := 2) rfl rfl ?_
  refine am_r_iconst (pc' := 4) rfl rfl ?_
  refine am_r_icmp_le (pt := 9) (pf := 7) rfl rfl rfl (fun h4 => ?_) (fun h4 => ?_)
  · refine am_r_iload1 (pc' := 10) rfl rfl ?_
    refine am_r_iload3 (pc' := 11) rfl rfl ?_
    refine am_r_ivsI2 (pc' := 14) rfl rfl rfl (Nat.le_of_ble_eq_true rfl) (c_codeFrom (by omega) (by omega) (by omega) ?_)
    rw [show o_cf 0 8 0 = 1 by decide +kernel]
    refine am_r_istore6 (pc' := 16) rfl rfl rfl ?_
    refine am_r_aload0 (pc' := 17) rfl rfl ?_
    refine am_r_iload6 (pc' := 19) rfl rfl ?_
    refine am_r_invV1 (pc' := 22) rfl rfl rfl (Nat.le_of_ble_eq_true rfl) (c_note (by omega) hO (by omega) ?_)
    · intro M2 hf2 hO2
      have hl2 : (l ++ [(1 : Int)]).length = l.length + 1 := by simp
      refine am_r_iload3 (pc' := 23) rfl rfl ?_
      refine am_r_tsw (t := 48) rfl rfl ?_
      refine am_r_aload0 (pc' := 49) rfl rfl ?_
      refine am_r_iload6 (pc' := 51) rfl rfl ?_
      refine am_r_iload2 (pc' := 52) rfl rfl ?_
      refine am_r_iload4 (pc' := 54) rfl rfl ?_
      refine am_r_iload5 (pc' := 56) rfl rfl ?_
      refine am_r_iconst (pc' := 57) rfl rfl ?_
      refine am_r_iadd (pc' := 58) rfl rfl ?_
      refine am_r_invI4 (pc' := 61) rfl rfl rfl (Nat.le_of_ble_eq_true rfl) (c_b1 (by omega) hO2 hm (by omega) (by omega) ?_)
      · intro M4 hf4 hO4
        refine am_r_iret rfl rfl ?_
        exact hq M4 (am_fr_tr (lo := 50) (hi := 52) hf2 hf4 (by omega) (by omega)) (ok_as hO4)
  · exfalso; omega
theorem c_r0_2 {sL : Nat} {xs : Nat → Int32} {d : Nat} {M : Am_M} {Q : Int32 → Am_M → Prop} (hd : 3 ≤ d) {κ : Int → Int} {n : Int} {l : List Int} (hO : OK M κ n l) {m : Int} {x : Int32} {dp : Int} (hm : 0 ≤ m ∧ m < n) (hl : l.length ≤ 950) (hdp : 0 ≤ dp ∧ dp ≤ 38) (hq : ∀ M', am_fr 50 52 M M' → OK M' κ n (l ++ (o_d 2 m x).2) → Q (o_d 2 m x).1 M') : am_bi sL xs d 49 [.ref 50, .int (z_I 2), .int (z_I m), .int (z_I 0), .int x, .int (z_I dp)] M Q := by
  obtain ⟨d, rfl⟩ : ∃ e, d = e + 1 := ⟨d - 1, by omega⟩
  have hnb := ok_nb hO
  refine am_bi_of (P := am_pX5_ranFrom) (rt := 1) (nL := 7) (Nat.le_of_ble_eq_true rfl) rfl (Nat.le_of_ble_eq_true rfl) rfl rfl rfl ?_
  refine am_r_iload5 (pc' := 2) rfl rfl ?_
  refine am_r_iconst (pc' := 4) rfl rfl ?_
  refine am_r_icmp_le (pt := 9) (pf := 7) rfl rfl rfl (fun h4 => ?_) (fun h4 => ?_)
  · refine am_r_iload1 (pc' := 10) rfl rfl ?_
    refine am_r_iload3 (pc' := 11) rfl rfl ?_
    refine am_r_ivsI2 (pc' := 14) rfl rfl rfl (Nat.le_of_ble_eq_true rfl) (c_codeFrom (by omega) (by omega) (by omega) ?_)
    rw [show o_cf 0 8 2 = 1 by decide +kernel]
    refine am_r_istore6 (pc' := 16) rfl rfl rfl ?_
    refine am_r_aload0 (pc' := 17) rfl rfl ?_
    refine am_r_iload6 (pc' := 19) rfl rfl ?_
    refine am_r_invV1 (pc' := 22) rfl rfl rfl (Nat.le_of_ble_eq_true rfl) (c_note (by omega) hO (by omega) ?_)
    · intro M2 hf2 hO2
      have hl2 : (l ++ [(1 : Int)]).length = l.length + 1 := by simp
      refine am_r_iload3 (pc' := 23) rfl rfl ?_
      refine am_r_tsw (t := 48) rfl rfl ?_
      refine am_r_aload0 (pc' := 49) rfl rfl ?_
      refine am_r_iload6 (pc' := 51) rfl rfl ?_
      refine am_r_iload2 (pc' := 52) rfl rfl ?_
      refine am_r_iload4 (pc' := 54) rfl rfl ?_
      refine am_r_iload5 (pc' := 56) rfl rfl ?_
      refine am_r_iconst (pc' := 57) rfl rfl ?_
      refine am_r_iadd (pc' := 58) rfl rfl ?_
      refine am_r_invI4 (pc' := 61) rfl rfl rfl (Nat.le_of_ble_eq_true rfl) (c_b1 (by omega) hO2 hm (by omega) (by omega) ?_)
      · intro M4 hf4 hO4
        refine am_r_iret rfl rfl ?_
        exact hq M4 (am_fr_tr (lo := 50) (hi := 52) hf2 hf4 (by omega) (by omega)) (ok_as hO4)
  · exfalso; omega
theorem c_r0_3 {sL : Nat} {xs : Nat → Int32} {d : Nat} {M : Am_M} {Q : Int32 → Am_M → Prop} (hd : 3 ≤ d) {κ : Int → Int} {n : Int} {l : List Int} (hO : OK M κ n l) {m : Int} {x : Int32} {dp : Int} (hm : 0 ≤ m ∧ m < n) (hl : l.length ≤ 950) (hdp : 0 ≤ dp ∧ dp ≤ 38) (hq : ∀ M', am_fr 50 52 M M' → OK M' κ n (l ++ (o_d 3 m x).2) → Q (o_d 3 m x).1 M') : am_bi sL xs d 49 [.ref 50, .int (z_I 3), .int (z_I m), .int (z_I 0), .int x, .int (z_I dp)] M Q := by
  obtain ⟨d, rfl⟩ : ∃ e, d = e + 1 := ⟨d - 1, by omega⟩
  have hnb := ok_nb hO
  refine am_bi_of (P := am_pX5_ranFrom) (rt := 1) (nL := 7) (Nat.le_of_ble_eq_true rfl) rfl (Nat.le_of_ble_eq_true rfl) rfl rfl rfl ?_
  refine am_r_iload5 (pc' := 2) rfl rfl ?_
  refine am_r_iconst (pc' := 4) rfl rfl ?_
  refine am_r_icmp_le (pt := 9) (pf := 7) rfl rfl rfl (fun h4 => ?_) (fun h4 => ?_)
  · refine am_r_iload1 (pc' := 10) rfl rfl ?_
    refine am_r_iload3 (pc' := 11) rfl rfl ?_
    refine am_r_ivsI2 (pc' := 14) rfl rfl rfl (Nat.le_of_ble_eq_true rfl) (c_codeFrom (by omega) (by omega) (by omega) ?_)
    rw [show o_cf 0 8 3 = 1 by decide +kernel]
    refine am_r_istore6 (pc' := 16) rfl rfl rfl ?_
    refine am_r_aload0 (pc' := 17) rfl rfl ?_
    refine am_r_iload6 (pc' := 19) rfl rfl ?_
    refine am_r_invV1 (pc' := 22) rfl rfl rfl (Nat.le_of_ble_eq_true rfl) (c_note (by omega) hO (by omega) ?_)
    · intro M2 hf2 hO2
      have hl2 : (l ++ [(1 : Int)]).length = l.length + 1 := by simp
      refine am_r_iload3 (pc' := 23) rfl rfl ?_
      refine am_r_tsw (t := 48) rfl rfl ?_
      refine am_r_aload0 (pc' := 49) rfl rfl ?_
      refine am_r_iload6 (pc' := 51) rfl rfl ?_
      refine am_r_iload2 (pc' := 52) rfl rfl ?_
      refine am_r_iload4 (pc' := 54) rfl rfl ?_
      refine am_r_iload5 (pc' := 56) rfl rfl ?_
      refine am_r_iconst (pc' := 57) rfl rfl ?_
      refine am_r_iadd (pc' := 58) rfl rfl ?_
      refine am_r_invI4 (pc' := 61) rfl rfl rfl (Nat.le_of_ble_eq_true rfl) (c_b1 (by omega) hO2 hm (by omega) (by omega) ?_)
      · intro M4 hf4 hO4
        refine am_r_iret rfl rfl ?_
        exact hq M4 (am_fr_tr (lo := 50) (hi := 52) hf2 hf4 (by omega) (by omega)) (ok_as hO4)
  · exfalso; omega
theorem c_r0_5 {sL : Nat} {xs : Nat → Int32} {d : Nat} {M : Am_M} {Q : Int32 → Am_M → Prop} (hd : 3 ≤ d) {κ : Int → Int} {n : Int} {l : List Int} (hO : OK M κ n l) {m : Int} {x : Int32} {dp : Int} (hm : 0 ≤ m ∧ m < n) (hl : l.length ≤ 950) (hdp : 0 ≤ dp ∧ dp ≤ 38) (hq : ∀ M', am_fr 50 52 M M' → OK M' κ n (l ++ (o_d 5 m x).2) → Q (o_d 5 m x).1 M') : am_bi sL xs d 49 [.ref 50, .int (z_I 5), .int (z_I m), .int (z_I 0), .int x, .int (z_I dp)] M Q := by
  obtain ⟨d, rfl⟩ : ∃ e, d = e + 1 := ⟨d - 1, by omega⟩
  have hnb := ok_nb hO
  refine am_bi_of (P := am_pX5_ranFrom) (rt := 1) (nL := 7) (Nat.le_of_ble_eq_true rfl) rfl (Nat.le_of_ble_eq_true rfl) rfl rfl rfl ?_
  refine am_r_iload5 (pc' := 2) rfl rfl ?_
  refine am_r_iconst (pc' := 4) rfl rfl ?_
  refine am_r_icmp_le (pt := 9) (pf := 7) rfl rfl rfl (fun h4 => ?_) (fun h4 => ?_)
  · refine am_r_iload1 (pc' := 10) rfl rfl ?_
    refine am_r_iload3 (pc' := 11) rfl rfl ?_
    refine am_r_ivsI2 (pc' := 14) rfl rfl rfl (Nat.le_of_ble_eq_true rfl) (c_codeFrom (by omega) (by omega) (by omega) ?_)
    rw [show o_cf 0 8 5 = 1 by decide +kernel]
    refine am_r_istore6 (pc' := 16) rfl rfl rfl ?_
    refine am_r_aload0 (pc' := 17) rfl rfl ?_
    refine am_r_iload6 (pc' := 19) rfl rfl ?_
    refine am_r_invV1 (pc' := 22) rfl rfl rfl (Nat.le_of_ble_eq_true rfl) (c_note (by omega) hO (by omega) ?_)
    · intro M2 hf2 hO2
      have hl2 : (l ++ [(1 : Int)]).length = l.length + 1 := by simp
      refine am_r_iload3 (pc' := 23) rfl rfl ?_
      refine am_r_tsw (t := 48) rfl rfl ?_
      refine am_r_aload0 (pc' := 49) rfl rfl ?_
      refine am_r_iload6 (pc' := 51) rfl rfl ?_
      refine am_r_iload2 (pc' := 52) rfl rfl ?_
      refine am_r_iload4 (pc' := 54) rfl rfl ?_
      refine am_r_iload5 (pc' := 56) rfl rfl ?_
      refine am_r_iconst (pc' := 57) rfl rfl ?_
      refine am_r_iadd (pc' := 58) rfl rfl ?_
      refine am_r_invI4 (pc' := 61) rfl rfl rfl (Nat.le_of_ble_eq_true rfl) (c_b1 (by omega) hO2 hm (by omega) (by omega) ?_)
      · intro M4 hf4 hO4
        refine am_r_iret rfl rfl ?_
        exact hq M4 (am_fr_tr (lo := 50) (hi := 52) hf2 hf4 (by omega) (by omega)) (ok_as hO4)
  · exfalso; omega
theorem c_u0_1 {sL : Nat} {xs : Nat → Int32} {d : Nat} {M : Am_M} {Q : Int32 → Am_M → Prop} (hd : 4 ≤ d) {κ : Int → Int} {n : Int} {l : List Int} (hO : OK M κ n l) {m : Int} {x : Int32} {dp : Int} (hm : 0 ≤ m ∧ m < n) (hl : l.length ≤ 945) (hdp : 0 ≤ dp ∧ dp ≤ 38) (hq : ∀ M', am_fr 50 52 M M' → OK M' κ n (l ++ (o_d 0 m x).2) → Q (o_d 0 m x).1 M') : am_bi sL xs d 48 [.ref 50, .int (z_I 1), .int (z_I m), .int (z_I 0), .int x, .int (z_I dp)] M Q := by
  obtain ⟨d, rfl⟩ : ∃ e, d = e + 1 := ⟨d - 1, by omega⟩
  refine am_bi_of (P := am_pX5_above) (rt := 1) (nL := 6) (Nat.le_of_ble_eq_true rfl) rfl (Nat.le_of_ble_eq_true rfl) rfl rfl rfl ?_
  refine am_r_aload0 (pc' := 1) rfl rfl ?_
  refine am_r_gets (pc' := 4) rfl rfl ?_
  refine am_r_iload1 (pc' := 5) rfl rfl ?_
  refine am_r_stA (pc' := 6) rfl rfl (show _ = z_I 0 by decide +kernel) ?_
  refine am_r_iload2 (pc' := 7) rfl rfl ?_
  refine am_r_iload3 (pc' := 8) rfl rfl ?_
  refine am_r_iload4 (pc' := 10) rfl rfl ?_
  refine am_r_iload5 (pc' := 12) rfl rfl ?_
  refine am_r_invI5 (pc' := 15) rfl rfl rfl (Nat.le_of_ble_eq_true rfl) (c_r0_0 (by omega) hO hm (by omega) (by omega) ?_)
  · intro M4 hf4 hO4
    refine am_r_iret rfl rfl ?_
    exact hq M4 hf4 hO4
theorem c_u0_6 {sL : Nat} {xs : Nat → Int32} {d : Nat} {M : Am_M} {Q : Int32 → Am_M → Prop} (hd : 4 ≤ d) {κ : Int → Int} {n : Int} {l : List Int} (hO : OK M κ n l) {m : Int} {x : Int32} {dp : Int} (hm : 0 ≤ m ∧ m < n) (hl : l.length ≤ 945) (hdp : 0 ≤ dp ∧ dp ≤ 38) (hq : ∀ M', am_fr 50 52 M M' → OK M' κ n (l ++ (o_d 0 m x).2) → Q (o_d 0 m x).1 M') : am_bi sL xs d 48 [.ref 50, .int (z_I 6), .int (z_I m), .int (z_I 0), .int x, .int (z_I dp)] M Q := by
  obtain ⟨d, rfl⟩ : ∃ e, d = e + 1 := ⟨d - 1, by omega⟩
  refine am_bi_of (P := am_pX5_above) (rt := 1) (nL := 6) (Nat.le_of_ble_eq_true rfl) rfl (Nat.le_of_ble_eq_true rfl) rfl rfl rfl ?_
  refine am_r_aload0 (pc' := 1) rfl rfl ?_
  refine am_r_gets (pc' := 4) rfl rfl ?_
  refine am_r_iload1 (pc' := 5) rfl rfl ?_
  refine am_r_stA (pc' := 6) rfl rfl (show _ = z_I 0 by decide +kernel) ?_
  refine am_r_iload2 (pc' := 7) rfl rfl ?_
  refine am_r_iload3 (pc' := 8) rfl rfl ?_
  refine am_r_iload4 (pc' := 10) rfl rfl ?_
  refine am_r_iload5 (pc' := 12) rfl rfl ?_
  refine am_r_invI5 (pc' := 15) rfl rfl rfl (Nat.le_of_ble_eq_true rfl) (c_r0_0 (by omega) hO hm (by omega) (by omega) ?_)
  · intro M4 hf4 hO4
    refine am_r_iret rfl rfl ?_
    exact hq M4 hf4 hO4
theorem c_b20 {sL : Nat} {xs : Nat → Int32} {d : Nat} {M : Am_M} {Q : Int32 → Am_M → Prop} (hd : 5 ≤ d) {κ : Int → Int} {n : Int} {l : List Int} (hO : OK M κ n l) {m : Int} {x : Int32} {dp : Int} (hm : 0 ≤ m ∧ m < n) (hl : l.length ≤ 940) (hdp : 0 ≤ dp ∧ dp ≤ 38) (hq : ∀ M', am_fr 50 52 M M' → OK M' κ n (l ++ [1]) → Q (x + z_I m + z_I 3) M') : am_bi sL xs d 52 [.ref 50, .int (z_I 20), .int (z_I m), .int x, .int (z_I dp)] M Q := by
  obtain ⟨d, rfl⟩ : ∃ e, d = e + 1 := ⟨d - 1, by omega⟩
  have hnb := ok_nb hO
  refine am_bi_of (P := am_pX5_drawing) (rt := 1) (nL := 5) (Nat.le_of_ble_eq_true rfl) rfl (Nat.le_of_ble_eq_true rfl) rfl rfl rfl ?_
  refine am_r_iload1 (pc' := 1) rfl rfl ?_
  refine am_r_lsw (t := 28) rfl rfl ?_
  refine am_r_aload0 (pc' := 29) rfl rfl ?_
  refine am_r_iconst (pc' := 30) rfl rfl ?_
  refine am_r_iload2 (pc' := 31) rfl rfl ?_
  refine am_r_iconst (pc' := 32) rfl rfl ?_
  refine am_r_iload3 (pc' := 33) rfl rfl ?_
  refine am_r_iload4 (pc' := 35) rfl rfl ?_
  refine am_r_invI5 (pc' := 38) rfl rfl rfl (Nat.le_of_ble_eq_true rfl) (c_u0_1 (by omega) hO hm (by omega) (by omega) ?_)
  · intro M4 hf4 hO4
    refine am_r_iconst (pc' := 39) rfl rfl ?_
    refine am_r_iaddR (pc' := 40) rfl rfl ?_
    refine am_r_iret rfl rfl ?_
    exact hq M4 hf4 hO4
theorem c_b70 {sL : Nat} {xs : Nat → Int32} {d : Nat} {M : Am_M} {Q : Int32 → Am_M → Prop} (hd : 5 ≤ d) {κ : Int → Int} {n : Int} {l : List Int} (hO : OK M κ n l) {m : Int} {x : Int32} {dp : Int} (hm : 0 ≤ m ∧ m < n) (hl : l.length ≤ 940) (hdp : 0 ≤ dp ∧ dp ≤ 38) (hq : ∀ M', am_fr 50 52 M M' → OK M' κ n (l ++ [1]) → Q ((x + z_I m) * z_I 2) M') : am_bi sL xs d 52 [.ref 50, .int (z_I 70), .int (z_I m), .int x, .int (z_I dp)] M Q := by
  obtain ⟨d, rfl⟩ : ∃ e, d = e + 1 := ⟨d - 1, by omega⟩
  have hnb := ok_nb hO
  refine am_bi_of (P := am_pX5_drawing) (rt := 1) (nL := 5) (Nat.le_of_ble_eq_true rfl) rfl (Nat.le_of_ble_eq_true rfl) rfl rfl rfl ?_
  refine am_r_iload1 (pc' := 1) rfl rfl ?_
  refine am_r_lsw (t := 41) rfl rfl ?_
  refine am_r_aload0 (pc' := 42) rfl rfl ?_
  refine am_r_iconst (pc' := 44) rfl rfl ?_
  refine am_r_iload2 (pc' := 45) rfl rfl ?_
  refine am_r_iconst (pc' := 46) rfl rfl ?_
  refine am_r_iload3 (pc' := 47) rfl rfl ?_
  refine am_r_iload4 (pc' := 49) rfl rfl ?_
  refine am_r_invI5 (pc' := 52) rfl rfl rfl (Nat.le_of_ble_eq_true rfl) (c_u0_6 (by omega) hO hm (by omega) (by omega) ?_)
  · intro M4 hf4 hO4
    refine am_r_iconst (pc' := 53) rfl rfl ?_
    refine am_r_imulR (pc' := 54) rfl rfl ?_
    refine am_r_iret rfl rfl ?_
    exact hq M4 hf4 hO4
theorem c_r0_1 {sL : Nat} {xs : Nat → Int32} {d : Nat} {M : Am_M} {Q : Int32 → Am_M → Prop} (hd : 6 ≤ d) {κ : Int → Int} {n : Int} {l : List Int} (hO : OK M κ n l) {m : Int} {x : Int32} {dp : Int} (hm : 0 ≤ m ∧ m < n) (hl : l.length ≤ 930) (hdp : 0 ≤ dp ∧ dp ≤ 37) (hq : ∀ M', am_fr 50 52 M M' → OK M' κ n (l ++ (o_d 1 m x).2) → Q (o_d 1 m x).1 M') : am_bi sL xs d 49 [.ref 50, .int (z_I 1), .int (z_I m), .int (z_I 0), .int x, .int (z_I dp)] M Q := by
  obtain ⟨d, rfl⟩ : ∃ e, d = e + 1 := ⟨d - 1, by omega⟩
  have hnb := ok_nb hO
  refine am_bi_of (P := am_pX5_ranFrom) (rt := 1) (nL := 7) (Nat.le_of_ble_eq_true rfl) rfl (Nat.le_of_ble_eq_true rfl) rfl rfl rfl ?_
  refine am_r_iload5 (pc' := 2) rfl rfl ?_
  refine am_r_iconst (pc' := 4) rfl rfl ?_
  refine am_r_icmp_le (pt := 9) (pf := 7) rfl rfl rfl (fun h4 => ?_) (fun h4 => ?_)
  · refine am_r_iload1 (pc' := 10) rfl rfl ?_
    refine am_r_iload3 (pc' := 11) rfl rfl ?_
    refine am_r_ivsI2 (pc' := 14) rfl rfl rfl (Nat.le_of_ble_eq_true rfl) (c_codeFrom (by omega) (by omega) (by omega) ?_)
    rw [show o_cf 0 8 1 = 20 by decide +kernel]
    refine am_r_istore6 (pc' := 16) rfl rfl rfl ?_
    refine am_r_aload0 (pc' := 17) rfl rfl ?_
    refine am_r_iload6 (pc' := 19) rfl rfl ?_
    refine am_r_invV1 (pc' := 22) rfl rfl rfl (Nat.le_of_ble_eq_true rfl) (c_note (by omega) hO (by omega) ?_)
    · intro M2 hf2 hO2
      have hl2 : (l ++ [(20 : Int)]).length = l.length + 1 := by simp
      refine am_r_iload3 (pc' := 23) rfl rfl ?_
      refine am_r_tsw (t := 48) rfl rfl ?_
      refine am_r_aload0 (pc' := 49) rfl rfl ?_
      refine am_r_iload6 (pc' := 51) rfl rfl ?_
      refine am_r_iload2 (pc' := 52) rfl rfl ?_
      refine am_r_iload4 (pc' := 54) rfl rfl ?_
      refine am_r_iload5 (pc' := 56) rfl rfl ?_
      refine am_r_iconst (pc' := 57) rfl rfl ?_
      refine am_r_iadd (pc' := 58) rfl rfl ?_
      refine am_r_invI4 (pc' := 61) rfl rfl rfl (Nat.le_of_ble_eq_true rfl) (c_b20 (by omega) hO2 hm (by omega) (by omega) ?_)
      · intro M4 hf4 hO4
        refine am_r_iret rfl rfl ?_
        exact hq M4 (am_fr_tr (lo := 50) (hi := 52) hf2 hf4 (by omega) (by omega)) (ok_as hO4)
  · exfalso; omega
theorem c_r0_4 {sL : Nat} {xs : Nat → Int32} {d : Nat} {M : Am_M} {Q : Int32 → Am_M → Prop} (hd : 6 ≤ d) {κ : Int → Int} {n : Int} {l : List Int} (hO : OK M κ n l) {m : Int} {x : Int32} {dp : Int} (hm : 0 ≤ m ∧ m < n) (hl : l.length ≤ 930) (hdp : 0 ≤ dp ∧ dp ≤ 37) (hq : ∀ M', am_fr 50 52 M M' → OK M' κ n (l ++ (o_d 4 m x).2) → Q (o_d 4 m x).1 M') : am_bi sL xs d 49 [.ref 50, .int (z_I 4), .int (z_I m), .int (z_I 0), .int x, .int (z_I dp)] M Q := by
  obtain ⟨d, rfl⟩ : ∃ e, d = e + 1 := ⟨d - 1, by omega⟩
  have hnb := ok_nb hO
  refine am_bi_of (P := am_pX5_ranFrom) (rt := 1) (nL := 7) (Nat.le_of_ble_eq_true rfl) rfl (Nat.le_of_ble_eq_true rfl) rfl rfl rfl ?_
  refine am_r_iload5 (pc' := 2) rfl rfl ?_
  refine am_r_iconst (pc' := 4) rfl rfl ?_
  refine am_r_icmp_le (pt := 9) (pf := 7) rfl rfl rfl (fun h4 => ?_) (fun h4 => ?_)
  · refine am_r_iload1 (pc' := 10) rfl rfl ?_
    refine am_r_iload3 (pc' := 11) rfl rfl ?_
    refine am_r_ivsI2 (pc' := 14) rfl rfl rfl (Nat.le_of_ble_eq_true rfl) (c_codeFrom (by omega) (by omega) (by omega) ?_)
    rw [show o_cf 0 8 4 = 20 by decide +kernel]
    refine am_r_istore6 (pc' := 16) rfl rfl rfl ?_
    refine am_r_aload0 (pc' := 17) rfl rfl ?_
    refine am_r_iload6 (pc' := 19) rfl rfl ?_
    refine am_r_invV1 (pc' := 22) rfl rfl rfl (Nat.le_of_ble_eq_true rfl) (c_note (by omega) hO (by omega) ?_)
    · intro M2 hf2 hO2
      have hl2 : (l ++ [(20 : Int)]).length = l.length + 1 := by simp
      refine am_r_iload3 (pc' := 23) rfl rfl ?_
      refine am_r_tsw (t := 48) rfl rfl ?_
      refine am_r_aload0 (pc' := 49) rfl rfl ?_
      refine am_r_iload6 (pc' := 51) rfl rfl ?_
      refine am_r_iload2 (pc' := 52) rfl rfl ?_
      refine am_r_iload4 (pc' := 54) rfl rfl ?_
      refine am_r_iload5 (pc' := 56) rfl rfl ?_
      refine am_r_iconst (pc' := 57) rfl rfl ?_
      refine am_r_iadd (pc' := 58) rfl rfl ?_
      refine am_r_invI4 (pc' := 61) rfl rfl rfl (Nat.le_of_ble_eq_true rfl) (c_b20 (by omega) hO2 hm (by omega) (by omega) ?_)
      · intro M4 hf4 hO4
        refine am_r_iret rfl rfl ?_
        exact hq M4 (am_fr_tr (lo := 50) (hi := 52) hf2 hf4 (by omega) (by omega)) (ok_as hO4)
  · exfalso; omega
theorem c_r0_7 {sL : Nat} {xs : Nat → Int32} {d : Nat} {M : Am_M} {Q : Int32 → Am_M → Prop} (hd : 6 ≤ d) {κ : Int → Int} {n : Int} {l : List Int} (hO : OK M κ n l) {m : Int} {x : Int32} {dp : Int} (hm : 0 ≤ m ∧ m < n) (hl : l.length ≤ 930) (hdp : 0 ≤ dp ∧ dp ≤ 37) (hq : ∀ M', am_fr 50 52 M M' → OK M' κ n (l ++ (o_d 7 m x).2) → Q (o_d 7 m x).1 M') : am_bi sL xs d 49 [.ref 50, .int (z_I 7), .int (z_I m), .int (z_I 0), .int x, .int (z_I dp)] M Q := by
  obtain ⟨d, rfl⟩ : ∃ e, d = e + 1 := ⟨d - 1, by omega⟩
  have hnb := ok_nb hO
  refine am_bi_of (P := am_pX5_ranFrom) (rt := 1) (nL := 7) (Nat.le_of_ble_eq_true rfl) rfl (Nat.le_of_ble_eq_true rfl) rfl rfl rfl ?_
  refine am_r_iload5 (pc' := 2) rfl rfl ?_
  refine am_r_iconst (pc' := 4) rfl rfl ?_
  refine am_r_icmp_le (pt := 9) (pf := 7) rfl rfl rfl (fun h4 => ?_) (fun h4 => ?_)
  · refine am_r_iload1 (pc' := 10) rfl rfl ?_
    refine am_r_iload3 (pc' := 11) rfl rfl ?_
    refine am_r_ivsI2 (pc' := 14) rfl rfl rfl (Nat.le_of_ble_eq_true rfl) (c_codeFrom (by omega) (by omega) (by omega) ?_)
    rw [show o_cf 0 8 7 = 20 by decide +kernel]
    refine am_r_istore6 (pc' := 16) rfl rfl rfl ?_
    refine am_r_aload0 (pc' := 17) rfl rfl ?_
    refine am_r_iload6 (pc' := 19) rfl rfl ?_
    refine am_r_invV1 (pc' := 22) rfl rfl rfl (Nat.le_of_ble_eq_true rfl) (c_note (by omega) hO (by omega) ?_)
    · intro M2 hf2 hO2
      have hl2 : (l ++ [(20 : Int)]).length = l.length + 1 := by simp
      refine am_r_iload3 (pc' := 23) rfl rfl ?_
      refine am_r_tsw (t := 48) rfl rfl ?_
      refine am_r_aload0 (pc' := 49) rfl rfl ?_
      refine am_r_iload6 (pc' := 51) rfl rfl ?_
      refine am_r_iload2 (pc' := 52) rfl rfl ?_
      refine am_r_iload4 (pc' := 54) rfl rfl ?_
      refine am_r_iload5 (pc' := 56) rfl rfl ?_
      refine am_r_iconst (pc' := 57) rfl rfl ?_
      refine am_r_iadd (pc' := 58) rfl rfl ?_
      refine am_r_invI4 (pc' := 61) rfl rfl rfl (Nat.le_of_ble_eq_true rfl) (c_b20 (by omega) hO2 hm (by omega) (by omega) ?_)
      · intro M4 hf4 hO4
        refine am_r_iret rfl rfl ?_
        exact hq M4 (am_fr_tr (lo := 50) (hi := 52) hf2 hf4 (by omega) (by omega)) (ok_as hO4)
  · exfalso; omega
theorem c_r0_6 {sL : Nat} {xs : Nat → Int32} {d : Nat} {M : Am_M} {Q : Int32 → Am_M → Prop} (hd : 6 ≤ d) {κ : Int → Int} {n : Int} {l : List Int} (hO : OK M κ n l) {m : Int} {x : Int32} {dp : Int} (hm : 0 ≤ m ∧ m < n) (hl : l.length ≤ 930) (hdp : 0 ≤ dp ∧ dp ≤ 37) (hq : ∀ M', am_fr 50 52 M M' → OK M' κ n (l ++ (o_d 6 m x).2) → Q (o_d 6 m x).1 M') : am_bi sL xs d 49 [.ref 50, .int (z_I 6), .int (z_I m), .int (z_I 0), .int x, .int (z_I dp)] M Q := by
  obtain ⟨d, rfl⟩ : ∃ e, d = e + 1 := ⟨d - 1, by omega⟩
  have hnb := ok_nb hO
  refine am_bi_of (P := am_pX5_ranFrom) (rt := 1) (nL := 7) (Nat.le_of_ble_eq_true rfl) rfl (Nat.le_of_ble_eq_true rfl) rfl rfl rfl ?_
  refine am_r_iload5 (pc' := 2) rfl rfl ?_
  refine am_r_iconst (pc' := 4) rfl rfl ?_
  refine am_r_icmp_le (pt := 9) (pf := 7) rfl rfl rfl (fun h4 => ?_) (fun h4 => ?_)
  · refine am_r_iload1 (pc' := 10) rfl rfl ?_
    refine am_r_iload3 (pc' := 11) rfl rfl ?_
    refine am_r_ivsI2 (pc' := 14) rfl rfl rfl (Nat.le_of_ble_eq_true rfl) (c_codeFrom (by omega) (by omega) (by omega) ?_)
    rw [show o_cf 0 8 6 = 70 by decide +kernel]
    refine am_r_istore6 (pc' := 16) rfl rfl rfl ?_
    refine am_r_aload0 (pc' := 17) rfl rfl ?_
    refine am_r_iload6 (pc' := 19) rfl rfl ?_
    refine am_r_invV1 (pc' := 22) rfl rfl rfl (Nat.le_of_ble_eq_true rfl) (c_note (by omega) hO (by omega) ?_)
    · intro M2 hf2 hO2
      have hl2 : (l ++ [(70 : Int)]).length = l.length + 1 := by simp
      refine am_r_iload3 (pc' := 23) rfl rfl ?_
      refine am_r_tsw (t := 48) rfl rfl ?_
      refine am_r_aload0 (pc' := 49) rfl rfl ?_
      refine am_r_iload6 (pc' := 51) rfl rfl ?_
      refine am_r_iload2 (pc' := 52) rfl rfl ?_
      refine am_r_iload4 (pc' := 54) rfl rfl ?_
      refine am_r_iload5 (pc' := 56) rfl rfl ?_
      refine am_r_iconst (pc' := 57) rfl rfl ?_
      refine am_r_iadd (pc' := 58) rfl rfl ?_
      refine am_r_invI4 (pc' := 61) rfl rfl rfl (Nat.le_of_ble_eq_true rfl) (c_b70 (by omega) hO2 hm (by omega) (by omega) ?_)
      · intro M4 hf4 hO4
        refine am_r_iret rfl rfl ?_
        exact hq M4 (am_fr_tr (lo := 50) (hi := 52) hf2 hf4 (by omega) (by omega)) (ok_as hO4)
  · exfalso; omega
theorem c_own0 {sL : Nat} {xs : Nat → Int32} {d : Nat} {M : Am_M} {Q : Int32 → Am_M → Prop} (hd : 7 ≤ d) {κ : Int → Int} {n : Int} {l : List Int} (hO : OK M κ n l) {m : Int} {x : Int32} {dp : Int} (hm : 0 ≤ m ∧ m < n) (hl : l.length ≤ 930) (hdp : 0 ≤ dp ∧ dp ≤ 37) (hq : ∀ M', am_fr 50 52 M M' → OK M' κ n (l ++ (o_d (κ m) m x).2) → Q (o_d (κ m) m x).1 M') : am_bi sL xs d 47 [.ref 50, .int (z_I m), .int (z_I 0), .int x, .int (z_I dp)] M Q := by
  obtain ⟨d, rfl⟩ : ∃ e, d = e + 1 := ⟨d - 1, by omega⟩
  have hkb := ok_kb hO hm
  have hkv := ok_k hO hm
  have hnb := ok_nb hO
  refine am_bi_of (P := am_pX5_own) (rt := 1) (nL := 5) (Nat.le_of_ble_eq_true rfl) rfl (Nat.le_of_ble_eq_true rfl) rfl rfl rfl ?_
  have hgo : am_bi sL xs d 49 [.ref 50, .int (z_I (κ m)), .int (z_I m), .int (z_I 0), .int x, .int (z_I dp)] M Q := by
    rcases (show κ m = 0 ∨ κ m = 1 ∨ κ m = 2 ∨ κ m = 3 ∨ κ m = 4 ∨ κ m = 5 ∨ κ m = 6 ∨ κ m = 7 by omega) with hk | hk | hk | hk | hk | hk | hk | hk
    · rw [hk]
      refine c_r0_0 (by omega) hO hm (by omega) (by omega) ?_
      rw [hk] at hq
      exact hq
    · rw [hk]
      refine c_r0_1 (by omega) hO hm (by omega) (by omega) ?_
      rw [hk] at hq
      exact hq
    · rw [hk]
      refine c_r0_2 (by omega) hO hm (by omega) (by omega) ?_
      rw [hk] at hq
      exact hq
    · rw [hk]
      refine c_r0_3 (by omega) hO hm (by omega) (by omega) ?_
      rw [hk] at hq
      exact hq
    · rw [hk]
      refine c_r0_4 (by omega) hO hm (by omega) (by omega) ?_
      rw [hk] at hq
      exact hq
    · rw [hk]
      refine c_r0_5 (by omega) hO hm (by omega) (by omega) ?_
      rw [hk] at hq
      exact hq
    · rw [hk]
      refine c_r0_6 (by omega) hO hm (by omega) (by omega) ?_
      rw [hk] at hq
      exact hq
    · rw [hk]
      refine c_r0_7 (by omega) hO hm (by omega) (by omega) ?_
      rw [hk] at hq
      exact hq
  refine am_r_aload0 (pc' := 1) rfl rfl ?_
  refine am_r_aload0 (pc' := 2) rfl rfl ?_
  refine am_r_getR (t := 51) (pc' := 5) rfl rfl rfl ?_
  refine am_r_iload1 (pc' := 6) rfl rfl ?_
  refine am_r_iaZv (n := 50) (pc' := 7) rfl rfl rfl (by decide) (hkv) ?_
  refine am_r_iload1 (pc' := 8) rfl rfl ?_
  refine am_r_iload2 (pc' := 9) rfl rfl ?_
  refine am_r_iload3 (pc' := 10) rfl rfl ?_
  refine am_r_iload4 (pc' := 12) rfl rfl ?_
  refine am_r_invI5 (pc' := 15) rfl rfl rfl (Nat.le_of_ble_eq_true rfl) (am_bi_mono hgo ?_)
  · intro x4 M4 h4
    refine am_r_iret rfl rfl ?_
    exact h4
theorem c_b11 {sL : Nat} {xs : Nat → Int32} {d : Nat} {M : Am_M} {Q : Int32 → Am_M → Prop} (hd : 1 ≤ d) {κ : Int → Int} {n : Int} {l : List Int} (hO : OK M κ n l) {m : Int} {x : Int32} {dp : Int} (hm : 0 ≤ m ∧ m < n) (hl : l.length ≤ 890) (hdp : 0 ≤ dp ∧ dp ≤ 37) (hq : ∀ M', am_fr 50 52 M M' → OK M' κ n (l ++ []) → Q (x ^^^ z_I m) M') : am_bi sL xs d 54 [.ref 50, .int (z_I 11), .int (z_I m), .int x, .int (z_I dp)] M Q := by
  obtain ⟨d, rfl⟩ : ∃ e, d = e + 1 := ⟨d - 1, by omega⟩
  have hnb := ok_nb hO
  refine am_bi_of (P := am_pX5_shunning) (rt := 1) (nL := 5) (Nat.le_of_ble_eq_true rfl) rfl (Nat.le_of_ble_eq_true rfl) rfl rfl rfl ?_
  refine am_r_iload1 (pc' := 1) rfl rfl ?_
  refine am_r_lsw (t := 62) rfl rfl ?_
  refine am_r_iload3 (pc' := 63) rfl rfl ?_
  refine am_r_iload2 (pc' := 64) rfl rfl ?_
  refine am_r_ixorR (pc' := 65) rfl rfl ?_
  refine am_r_iret rfl rfl ?_
  refine hq M (am_fr_rf _ _ _) ?_
  rw [List.append_nil]
  exact hO
theorem c_r2_0 {sL : Nat} {xs : Nat → Int32} {d : Nat} {M : Am_M} {Q : Int32 → Am_M → Prop} (hd : 3 ≤ d) {κ : Int → Int} {n : Int} {l : List Int} (hO : OK M κ n l) {m : Int} {x : Int32} {dp : Int} (hm : 0 ≤ m ∧ m < n) (hl : l.length ≤ 880) (hdp : 0 ≤ dp ∧ dp ≤ 36) (hq : ∀ M', am_fr 50 52 M M' → OK M' κ n (l ++ (o_s 0 (κ m) m x).2) → Q (o_s 0 (κ m) m x).1 M') : am_bi sL xs d 49 [.ref 50, .int (z_I 0), .int (z_I m), .int (z_I 2), .int x, .int (z_I dp)] M Q := by
  obtain ⟨d, rfl⟩ : ∃ e, d = e + 1 := ⟨d - 1, by omega⟩
  have hnb := ok_nb hO
  refine am_bi_of (P := am_pX5_ranFrom) (rt := 1) (nL := 7) (Nat.le_of_ble_eq_true rfl) rfl (Nat.le_of_ble_eq_true rfl) rfl rfl rfl ?_
  refine am_r_iload5 (pc' := 2) rfl rfl ?_
  refine am_r_iconst (pc' := 4) rfl rfl ?_
  refine am_r_icmp_le (pt := 9) (pf := 7) rfl rfl rfl (fun h4 => ?_) (fun h4 => ?_)
  · refine am_r_iload1 (pc' := 10) rfl rfl ?_
    refine am_r_iload3 (pc' := 11) rfl rfl ?_
    refine am_r_ivsI2 (pc' := 14) rfl rfl rfl (Nat.le_of_ble_eq_true rfl) (c_codeFrom (by omega) (by omega) (by omega) ?_)
    rw [show o_cf 2 8 0 = 11 by decide +kernel]
    refine am_r_istore6 (pc' := 16) rfl rfl rfl ?_
    refine am_r_aload0 (pc' := 17) rfl rfl ?_
    refine am_r_iload6 (pc' := 19) rfl rfl ?_
    refine am_r_invV1 (pc' := 22) rfl rfl rfl (Nat.le_of_ble_eq_true rfl) (c_note (by omega) hO (by omega) ?_)
    · intro M2 hf2 hO2
      have hl2 : (l ++ [(11 : Int)]).length = l.length + 1 := by simp
      refine am_r_iload3 (pc' := 23) rfl rfl ?_
      refine am_r_tsw (t := 76) rfl rfl ?_
      refine am_r_aload0 (pc' := 77) rfl rfl ?_
      refine am_r_iload6 (pc' := 79) rfl rfl ?_
      refine am_r_iload2 (pc' := 80) rfl rfl ?_
      refine am_r_iload4 (pc' := 82) rfl rfl ?_
      refine am_r_iload5 (pc' := 84) rfl rfl ?_
      refine am_r_iconst (pc' := 85) rfl rfl ?_
      refine am_r_iadd (pc' := 86) rfl rfl ?_
      refine am_r_invI4 (pc' := 89) rfl rfl rfl (Nat.le_of_ble_eq_true rfl) (c_b11 (by omega) hO2 hm (by omega) (by omega) ?_)
      · intro M4 hf4 hO4
        refine am_r_iret rfl rfl ?_
        exact hq M4 (am_fr_tr (lo := 50) (hi := 52) hf2 hf4 (by omega) (by omega)) (ok_as hO4)
  · exfalso; omega
theorem c_r2_1 {sL : Nat} {xs : Nat → Int32} {d : Nat} {M : Am_M} {Q : Int32 → Am_M → Prop} (hd : 3 ≤ d) {κ : Int → Int} {n : Int} {l : List Int} (hO : OK M κ n l) {m : Int} {x : Int32} {dp : Int} (hm : 0 ≤ m ∧ m < n) (hl : l.length ≤ 880) (hdp : 0 ≤ dp ∧ dp ≤ 36) (hq : ∀ M', am_fr 50 52 M M' → OK M' κ n (l ++ (o_s 1 (κ m) m x).2) → Q (o_s 1 (κ m) m x).1 M') : am_bi sL xs d 49 [.ref 50, .int (z_I 1), .int (z_I m), .int (z_I 2), .int x, .int (z_I dp)] M Q := by
  obtain ⟨d, rfl⟩ : ∃ e, d = e + 1 := ⟨d - 1, by omega⟩
  have hnb := ok_nb hO
  refine am_bi_of (P := am_pX5_ranFrom) (rt := 1) (nL := 7) (Nat.le_of_ble_eq_true rfl) rfl (Nat.le_of_ble_eq_true rfl) rfl rfl rfl ?_
  refine am_r_iload5 (pc' := 2) rfl rfl ?_
  refine am_r_iconst (pc' := 4) rfl rfl ?_
  refine am_r_icmp_le (pt := 9) (pf := 7) rfl rfl rfl (fun h4 => ?_) (fun h4 => ?_)
  · refine am_r_iload1 (pc' := 10) rfl rfl ?_
    refine am_r_iload3 (pc' := 11) rfl rfl ?_
    refine am_r_ivsI2 (pc' := 14) rfl rfl rfl (Nat.le_of_ble_eq_true rfl) (c_codeFrom (by omega) (by omega) (by omega) ?_)
    rw [show o_cf 2 8 1 = 11 by decide +kernel]
    refine am_r_istore6 (pc' := 16) rfl rfl rfl ?_
    refine am_r_aload0 (pc' := 17) rfl rfl ?_
    refine am_r_iload6 (pc' := 19) rfl rfl ?_
    refine am_r_invV1 (pc' := 22) rfl rfl rfl (Nat.le_of_ble_eq_true rfl) (c_note (by omega) hO (by omega) ?_)
    · intro M2 hf2 hO2
      have hl2 : (l ++ [(11 : Int)]).length = l.length + 1 := by simp
      refine am_r_iload3 (pc' := 23) rfl rfl ?_
      refine am_r_tsw (t := 76) rfl rfl ?_
      refine am_r_aload0 (pc' := 77) rfl rfl ?_
      refine am_r_iload6 (pc' := 79) rfl rfl ?_
      refine am_r_iload2 (pc' := 80) rfl rfl ?_
      refine am_r_iload4 (pc' := 82) rfl rfl ?_
      refine am_r_iload5 (pc' := 84) rfl rfl ?_
      refine am_r_iconst (pc' := 85) rfl rfl ?_
      refine am_r_iadd (pc' := 86) rfl rfl ?_
      refine am_r_invI4 (pc' := 89) rfl rfl rfl (Nat.le_of_ble_eq_true rfl) (c_b11 (by omega) hO2 hm (by omega) (by omega) ?_)
      · intro M4 hf4 hO4
        refine am_r_iret rfl rfl ?_
        exact hq M4 (am_fr_tr (lo := 50) (hi := 52) hf2 hf4 (by omega) (by omega)) (ok_as hO4)
  · exfalso; omega
theorem c_r2_2 {sL : Nat} {xs : Nat → Int32} {d : Nat} {M : Am_M} {Q : Int32 → Am_M → Prop} (hd : 3 ≤ d) {κ : Int → Int} {n : Int} {l : List Int} (hO : OK M κ n l) {m : Int} {x : Int32} {dp : Int} (hm : 0 ≤ m ∧ m < n) (hl : l.length ≤ 880) (hdp : 0 ≤ dp ∧ dp ≤ 36) (hq : ∀ M', am_fr 50 52 M M' → OK M' κ n (l ++ (o_s 2 (κ m) m x).2) → Q (o_s 2 (κ m) m x).1 M') : am_bi sL xs d 49 [.ref 50, .int (z_I 2), .int (z_I m), .int (z_I 2), .int x, .int (z_I dp)] M Q := by
  obtain ⟨d, rfl⟩ : ∃ e, d = e + 1 := ⟨d - 1, by omega⟩
  have hnb := ok_nb hO
  refine am_bi_of (P := am_pX5_ranFrom) (rt := 1) (nL := 7) (Nat.le_of_ble_eq_true rfl) rfl (Nat.le_of_ble_eq_true rfl) rfl rfl rfl ?_
  refine am_r_iload5 (pc' := 2) rfl rfl ?_
  refine am_r_iconst (pc' := 4) rfl rfl ?_
  refine am_r_icmp_le (pt := 9) (pf := 7) rfl rfl rfl (fun h4 => ?_) (fun h4 => ?_)
  · refine am_r_iload1 (pc' := 10) rfl rfl ?_
    refine am_r_iload3 (pc' := 11) rfl rfl ?_
    refine am_r_ivsI2 (pc' := 14) rfl rfl rfl (Nat.le_of_ble_eq_true rfl) (c_codeFrom (by omega) (by omega) (by omega) ?_)
    rw [show o_cf 2 8 2 = 11 by decide +kernel]
    refine am_r_istore6 (pc' := 16) rfl rfl rfl ?_
    refine am_r_aload0 (pc' := 17) rfl rfl ?_
    refine am_r_iload6 (pc' := 19) rfl rfl ?_
    refine am_r_invV1 (pc' := 22) rfl rfl rfl (Nat.le_of_ble_eq_true rfl) (c_note (by omega) hO (by omega) ?_)
    · intro M2 hf2 hO2
      have hl2 : (l ++ [(11 : Int)]).length = l.length + 1 := by simp
      refine am_r_iload3 (pc' := 23) rfl rfl ?_
      refine am_r_tsw (t := 76) rfl rfl ?_
      refine am_r_aload0 (pc' := 77) rfl rfl ?_
      refine am_r_iload6 (pc' := 79) rfl rfl ?_
      refine am_r_iload2 (pc' := 80) rfl rfl ?_
      refine am_r_iload4 (pc' := 82) rfl rfl ?_
      refine am_r_iload5 (pc' := 84) rfl rfl ?_
      refine am_r_iconst (pc' := 85) rfl rfl ?_
      refine am_r_iadd (pc' := 86) rfl rfl ?_
      refine am_r_invI4 (pc' := 89) rfl rfl rfl (Nat.le_of_ble_eq_true rfl) (c_b11 (by omega) hO2 hm (by omega) (by omega) ?_)
      · intro M4 hf4 hO4
        refine am_r_iret rfl rfl ?_
        exact hq M4 (am_fr_tr (lo := 50) (hi := 52) hf2 hf4 (by omega) (by omega)) (ok_as hO4)
  · exfalso; omega
theorem c_r2_6 {sL : Nat} {xs : Nat → Int32} {d : Nat} {M : Am_M} {Q : Int32 → Am_M → Prop} (hd : 3 ≤ d) {κ : Int → Int} {n : Int} {l : List Int} (hO : OK M κ n l) {m : Int} {x : Int32} {dp : Int} (hm : 0 ≤ m ∧ m < n) (hl : l.length ≤ 880) (hdp : 0 ≤ dp ∧ dp ≤ 36) (hq : ∀ M', am_fr 50 52 M M' → OK M' κ n (l ++ (o_s 6 (κ m) m x).2) → Q (o_s 6 (κ m) m x).1 M') : am_bi sL xs d 49 [.ref 50, .int (z_I 6), .int (z_I m), .int (z_I 2), .int x, .int (z_I dp)] M Q := by
  obtain ⟨d, rfl⟩ : ∃ e, d = e + 1 := ⟨d - 1, by omega⟩
  have hnb := ok_nb hO
  refine am_bi_of (P := am_pX5_ranFrom) (rt := 1) (nL := 7) (Nat.le_of_ble_eq_true rfl) rfl (Nat.le_of_ble_eq_true rfl) rfl rfl rfl ?_
  refine am_r_iload5 (pc' := 2) rfl rfl ?_
  refine am_r_iconst (pc' := 4) rfl rfl ?_
  refine am_r_icmp_le (pt := 9) (pf := 7) rfl rfl rfl (fun h4 => ?_) (fun h4 => ?_)
  · refine am_r_iload1 (pc' := 10) rfl rfl ?_
    refine am_r_iload3 (pc' := 11) rfl rfl ?_
    refine am_r_ivsI2 (pc' := 14) rfl rfl rfl (Nat.le_of_ble_eq_true rfl) (c_codeFrom (by omega) (by omega) (by omega) ?_)
    rw [show o_cf 2 8 6 = 11 by decide +kernel]
    refine am_r_istore6 (pc' := 16) rfl rfl rfl ?_
    refine am_r_aload0 (pc' := 17) rfl rfl ?_
    refine am_r_iload6 (pc' := 19) rfl rfl ?_
    refine am_r_invV1 (pc' := 22) rfl rfl rfl (Nat.le_of_ble_eq_true rfl) (c_note (by omega) hO (by omega) ?_)
    · intro M2 hf2 hO2
      have hl2 : (l ++ [(11 : Int)]).length = l.length + 1 := by simp
      refine am_r_iload3 (pc' := 23) rfl rfl ?_
      refine am_r_tsw (t := 76) rfl rfl ?_
      refine am_r_aload0 (pc' := 77) rfl rfl ?_
      refine am_r_iload6 (pc' := 79) rfl rfl ?_
      refine am_r_iload2 (pc' := 80) rfl rfl ?_
      refine am_r_iload4 (pc' := 82) rfl rfl ?_
      refine am_r_iload5 (pc' := 84) rfl rfl ?_
      refine am_r_iconst (pc' := 85) rfl rfl ?_
      refine am_r_iadd (pc' := 86) rfl rfl ?_
      refine am_r_invI4 (pc' := 89) rfl rfl rfl (Nat.le_of_ble_eq_true rfl) (c_b11 (by omega) hO2 hm (by omega) (by omega) ?_)
      · intro M4 hf4 hO4
        refine am_r_iret rfl rfl ?_
        exact hq M4 (am_fr_tr (lo := 50) (hi := 52) hf2 hf4 (by omega) (by omega)) (ok_as hO4)
  · exfalso; omega
theorem c_u2_3 {sL : Nat} {xs : Nat → Int32} {d : Nat} {M : Am_M} {Q : Int32 → Am_M → Prop} (hd : 4 ≤ d) {κ : Int → Int} {n : Int} {l : List Int} (hO : OK M κ n l) {m : Int} {x : Int32} {dp : Int} (hm : 0 ≤ m ∧ m < n) (hl : l.length ≤ 870) (hdp : 0 ≤ dp ∧ dp ≤ 36) (hq : ∀ M', am_fr 50 52 M M' → OK M' κ n (l ++ (o_s 2 (κ m) m x).2) → Q (o_s 2 (κ m) m x).1 M') : am_bi sL xs d 48 [.ref 50, .int (z_I 3), .int (z_I m), .int (z_I 2), .int x, .int (z_I dp)] M Q := by
  obtain ⟨d, rfl⟩ : ∃ e, d = e + 1 := ⟨d - 1, by omega⟩
  refine am_bi_of (P := am_pX5_above) (rt := 1) (nL := 6) (Nat.le_of_ble_eq_true rfl) rfl (Nat.le_of_ble_eq_true rfl) rfl rfl rfl ?_
  refine am_r_aload0 (pc' := 1) rfl rfl ?_
  refine am_r_gets (pc' := 4) rfl rfl ?_
  refine am_r_iload1 (pc' := 5) rfl rfl ?_
  refine am_r_stA (pc' := 6) rfl rfl (show _ = z_I 2 by decide +kernel) ?_
  refine am_r_iload2 (pc' := 7) rfl rfl ?_
  refine am_r_iload3 (pc' := 8) rfl rfl ?_
  refine am_r_iload4 (pc' := 10) rfl rfl ?_
  refine am_r_iload5 (pc' := 12) rfl rfl ?_
  refine am_r_invI5 (pc' := 15) rfl rfl rfl (Nat.le_of_ble_eq_true rfl) (c_r2_2 (by omega) hO hm (by omega) (by omega) ?_)
  · intro M4 hf4 hO4
    refine am_r_iret rfl rfl ?_
    exact hq M4 hf4 hO4
theorem c_u2_4 {sL : Nat} {xs : Nat → Int32} {d : Nat} {M : Am_M} {Q : Int32 → Am_M → Prop} (hd : 4 ≤ d) {κ : Int → Int} {n : Int} {l : List Int} (hO : OK M κ n l) {m : Int} {x : Int32} {dp : Int} (hm : 0 ≤ m ∧ m < n) (hl : l.length ≤ 870) (hdp : 0 ≤ dp ∧ dp ≤ 36) (hq : ∀ M', am_fr 50 52 M M' → OK M' κ n (l ++ (o_s 1 (κ m) m x).2) → Q (o_s 1 (κ m) m x).1 M') : am_bi sL xs d 48 [.ref 50, .int (z_I 4), .int (z_I m), .int (z_I 2), .int x, .int (z_I dp)] M Q := by
  obtain ⟨d, rfl⟩ : ∃ e, d = e + 1 := ⟨d - 1, by omega⟩
  refine am_bi_of (P := am_pX5_above) (rt := 1) (nL := 6) (Nat.le_of_ble_eq_true rfl) rfl (Nat.le_of_ble_eq_true rfl) rfl rfl rfl ?_
  refine am_r_aload0 (pc' := 1) rfl rfl ?_
  refine am_r_gets (pc' := 4) rfl rfl ?_
  refine am_r_iload1 (pc' := 5) rfl rfl ?_
  refine am_r_stA (pc' := 6) rfl rfl (show _ = z_I 1 by decide +kernel) ?_
  refine am_r_iload2 (pc' := 7) rfl rfl ?_
  refine am_r_iload3 (pc' := 8) rfl rfl ?_
  refine am_r_iload4 (pc' := 10) rfl rfl ?_
  refine am_r_iload5 (pc' := 12) rfl rfl ?_
  refine am_r_invI5 (pc' := 15) rfl rfl rfl (Nat.le_of_ble_eq_true rfl) (c_r2_1 (by omega) hO hm (by omega) (by omega) ?_)
  · intro M4 hf4 hO4
    refine am_r_iret rfl rfl ?_
    exact hq M4 hf4 hO4
theorem c_b40 {sL : Nat} {xs : Nat → Int32} {d : Nat} {M : Am_M} {Q : Int32 → Am_M → Prop} (hd : 5 ≤ d) {κ : Int → Int} {n : Int} {l : List Int} (hO : OK M κ n l) {m : Int} {x : Int32} {dp : Int} (hm : 0 ≤ m ∧ m < n) (hl : l.length ≤ 860) (hdp : 0 ≤ dp ∧ dp ≤ 36) (hq : ∀ M', am_fr 50 52 M M' → OK M' κ n (l ++ [11]) → Q ((x ^^^ z_I m) * z_I 3) M') : am_bi sL xs d 54 [.ref 50, .int (z_I 40), .int (z_I m), .int x, .int (z_I dp)] M Q := by
  obtain ⟨d, rfl⟩ : ∃ e, d = e + 1 := ⟨d - 1, by omega⟩
  have hnb := ok_nb hO
  refine am_bi_of (P := am_pX5_shunning) (rt := 1) (nL := 5) (Nat.le_of_ble_eq_true rfl) rfl (Nat.le_of_ble_eq_true rfl) rfl rfl rfl ?_
  refine am_r_iload1 (pc' := 1) rfl rfl ?_
  refine am_r_lsw (t := 28) rfl rfl ?_
  refine am_r_aload0 (pc' := 29) rfl rfl ?_
  refine am_r_iconst (pc' := 30) rfl rfl ?_
  refine am_r_iload2 (pc' := 31) rfl rfl ?_
  refine am_r_iconst (pc' := 32) rfl rfl ?_
  refine am_r_iload3 (pc' := 33) rfl rfl ?_
  refine am_r_iload4 (pc' := 35) rfl rfl ?_
  refine am_r_invI5 (pc' := 38) rfl rfl rfl (Nat.le_of_ble_eq_true rfl) (c_u2_3 (by omega) hO hm (by omega) (by omega) ?_)
  · intro M4 hf4 hO4
    refine am_r_iconst (pc' := 39) rfl rfl ?_
    refine am_r_imulR (pc' := 40) rfl rfl ?_
    refine am_r_iret rfl rfl ?_
    exact hq M4 hf4 hO4
theorem c_b50 {sL : Nat} {xs : Nat → Int32} {d : Nat} {M : Am_M} {Q : Int32 → Am_M → Prop} (hd : 8 ≤ d) {κ : Int → Int} {n : Int} {l : List Int} (hO : OK M κ n l) {m : Int} {x : Int32} {dp : Int} (hm : 0 ≤ m ∧ m < n) (hl : l.length ≤ 860) (hdp : 0 ≤ dp ∧ dp ≤ 36) (hq : ∀ M', am_fr 50 52 M M' → OK M' κ n (l ++ (11 :: (o_d (κ m) m (z_I 2)).2)) → Q ((x ^^^ z_I m) - (o_d (κ m) m (z_I 2)).1) M') : am_bi sL xs d 54 [.ref 50, .int (z_I 50), .int (z_I m), .int x, .int (z_I dp)] M Q := by
  obtain ⟨d, rfl⟩ : ∃ e, d = e + 1 := ⟨d - 1, by omega⟩
  have hnb := ok_nb hO
  refine am_bi_of (P := am_pX5_shunning) (rt := 1) (nL := 5) (Nat.le_of_ble_eq_true rfl) rfl (Nat.le_of_ble_eq_true rfl) rfl rfl rfl ?_
  refine am_r_iload1 (pc' := 1) rfl rfl ?_
  refine am_r_lsw (t := 41) rfl rfl ?_
  refine am_r_aload0 (pc' := 42) rfl rfl ?_
  refine am_r_iconst (pc' := 43) rfl rfl ?_
  refine am_r_iload2 (pc' := 44) rfl rfl ?_
  refine am_r_iconst (pc' := 45) rfl rfl ?_
  refine am_r_iload3 (pc' := 46) rfl rfl ?_
  refine am_r_iload4 (pc' := 48) rfl rfl ?_
  refine am_r_invI5 (pc' := 51) rfl rfl rfl (Nat.le_of_ble_eq_true rfl) (c_u2_4 (by omega) hO hm (by omega) (by omega) ?_)
  · intro M4 hf4 hO4
    have hl4 : (l ++ (o_s 1 (κ m) m x).2).length = l.length + 1 := by rw [List.length_append]; rfl
    refine am_r_aload0 (pc' := 52) rfl rfl ?_
    refine am_r_iload2 (pc' := 53) rfl rfl ?_
    refine am_r_iconst (pc' := 54) rfl rfl ?_
    refine am_r_iconst (pc' := 55) rfl rfl ?_
    refine am_r_iload4 (pc' := 57) rfl rfl ?_
    refine am_r_invI4 (pc' := 60) rfl rfl rfl (Nat.le_of_ble_eq_true rfl) (c_own0 (by omega) hO4 hm (by omega) (by omega) ?_)
    · intro M6 hf6 hO6
      refine am_r_isubR (pc' := 61) rfl rfl ?_
      refine am_r_iret rfl rfl ?_
      exact hq M6 (am_fr_tr (lo := 50) (hi := 52) hf4 hf6 (by omega) (by omega)) (ok_as hO6)
theorem c_r2_3 {sL : Nat} {xs : Nat → Int32} {d : Nat} {M : Am_M} {Q : Int32 → Am_M → Prop} (hd : 6 ≤ d) {κ : Int → Int} {n : Int} {l : List Int} (hO : OK M κ n l) {m : Int} {x : Int32} {dp : Int} (hm : 0 ≤ m ∧ m < n) (hl : l.length ≤ 850) (hdp : 0 ≤ dp ∧ dp ≤ 35) (hq : ∀ M', am_fr 50 52 M M' → OK M' κ n (l ++ (o_s 3 (κ m) m x).2) → Q (o_s 3 (κ m) m x).1 M') : am_bi sL xs d 49 [.ref 50, .int (z_I 3), .int (z_I m), .int (z_I 2), .int x, .int (z_I dp)] M Q := by
  obtain ⟨d, rfl⟩ : ∃ e, d = e + 1 := ⟨d - 1, by omega⟩
  have hnb := ok_nb hO
  refine am_bi_of (P := am_pX5_ranFrom) (rt := 1) (nL := 7) (Nat.le_of_ble_eq_true rfl) rfl (Nat.le_of_ble_eq_true rfl) rfl rfl rfl ?_
  refine am_r_iload5 (pc' := 2) rfl rfl ?_
  refine am_r_iconst (pc' := 4) rfl rfl ?_
  refine am_r_icmp_le (pt := 9) (pf := 7) rfl rfl rfl (fun h4 => ?_) (fun h4 => ?_)
  · refine am_r_iload1 (pc' := 10) rfl rfl ?_
    refine am_r_iload3 (pc' := 11) rfl rfl ?_
    refine am_r_ivsI2 (pc' := 14) rfl rfl rfl (Nat.le_of_ble_eq_true rfl) (c_codeFrom (by omega) (by omega) (by omega) ?_)
    rw [show o_cf 2 8 3 = 40 by decide +kernel]
    refine am_r_istore6 (pc' := 16) rfl rfl rfl ?_
    refine am_r_aload0 (pc' := 17) rfl rfl ?_
    refine am_r_iload6 (pc' := 19) rfl rfl ?_
    refine am_r_invV1 (pc' := 22) rfl rfl rfl (Nat.le_of_ble_eq_true rfl) (c_note (by omega) hO (by omega) ?_)
    · intro M2 hf2 hO2
      have hl2 : (l ++ [(40 : Int)]).length = l.length + 1 := by simp
      refine am_r_iload3 (pc' := 23) rfl rfl ?_
      refine am_r_tsw (t := 76) rfl rfl ?_
      refine am_r_aload0 (pc' := 77) rfl rfl ?_
      refine am_r_iload6 (pc' := 79) rfl rfl ?_
      refine am_r_iload2 (pc' := 80) rfl rfl ?_
      refine am_r_iload4 (pc' := 82) rfl rfl ?_
      refine am_r_iload5 (pc' := 84) rfl rfl ?_
      refine am_r_iconst (pc' := 85) rfl rfl ?_
      refine am_r_iadd (pc' := 86) rfl rfl ?_
      refine am_r_invI4 (pc' := 89) rfl rfl rfl (Nat.le_of_ble_eq_true rfl) (c_b40 (by omega) hO2 hm (by omega) (by omega) ?_)
      · intro M4 hf4 hO4
        refine am_r_iret rfl rfl ?_
        exact hq M4 (am_fr_tr (lo := 50) (hi := 52) hf2 hf4 (by omega) (by omega)) (ok_as hO4)
  · exfalso; omega
theorem c_r2_5 {sL : Nat} {xs : Nat → Int32} {d : Nat} {M : Am_M} {Q : Int32 → Am_M → Prop} (hd : 6 ≤ d) {κ : Int → Int} {n : Int} {l : List Int} (hO : OK M κ n l) {m : Int} {x : Int32} {dp : Int} (hm : 0 ≤ m ∧ m < n) (hl : l.length ≤ 850) (hdp : 0 ≤ dp ∧ dp ≤ 35) (hq : ∀ M', am_fr 50 52 M M' → OK M' κ n (l ++ (o_s 5 (κ m) m x).2) → Q (o_s 5 (κ m) m x).1 M') : am_bi sL xs d 49 [.ref 50, .int (z_I 5), .int (z_I m), .int (z_I 2), .int x, .int (z_I dp)] M Q := by
  obtain ⟨d, rfl⟩ : ∃ e, d = e + 1 := ⟨d - 1, by omega⟩
  have hnb := ok_nb hO
  refine am_bi_of (P := am_pX5_ranFrom) (rt := 1) (nL := 7) (Nat.le_of_ble_eq_true rfl) rfl (Nat.le_of_ble_eq_true rfl) rfl rfl rfl ?_
  refine am_r_iload5 (pc' := 2) rfl rfl ?_
  refine am_r_iconst (pc' := 4) rfl rfl ?_
  refine am_r_icmp_le (pt := 9) (pf := 7) rfl rfl rfl (fun h4 => ?_) (fun h4 => ?_)
  · refine am_r_iload1 (pc' := 10) rfl rfl ?_
    refine am_r_iload3 (pc' := 11) rfl rfl ?_
    refine am_r_ivsI2 (pc' := 14) rfl rfl rfl (Nat.le_of_ble_eq_true rfl) (c_codeFrom (by omega) (by omega) (by omega) ?_)
    rw [show o_cf 2 8 5 = 40 by decide +kernel]
    refine am_r_istore6 (pc' := 16) rfl rfl rfl ?_
    refine am_r_aload0 (pc' := 17) rfl rfl ?_
    refine am_r_iload6 (pc' := 19) rfl rfl ?_
    refine am_r_invV1 (pc' := 22) rfl rfl rfl (Nat.le_of_ble_eq_true rfl) (c_note (by omega) hO (by omega) ?_)
    · intro M2 hf2 hO2
      have hl2 : (l ++ [(40 : Int)]).length = l.length + 1 := by simp
      refine am_r_iload3 (pc' := 23) rfl rfl ?_
      refine am_r_tsw (t := 76) rfl rfl ?_
      refine am_r_aload0 (pc' := 77) rfl rfl ?_
      refine am_r_iload6 (pc' := 79) rfl rfl ?_
      refine am_r_iload2 (pc' := 80) rfl rfl ?_
      refine am_r_iload4 (pc' := 82) rfl rfl ?_
      refine am_r_iload5 (pc' := 84) rfl rfl ?_
      refine am_r_iconst (pc' := 85) rfl rfl ?_
      refine am_r_iadd (pc' := 86) rfl rfl ?_
      refine am_r_invI4 (pc' := 89) rfl rfl rfl (Nat.le_of_ble_eq_true rfl) (c_b40 (by omega) hO2 hm (by omega) (by omega) ?_)
      · intro M4 hf4 hO4
        refine am_r_iret rfl rfl ?_
        exact hq M4 (am_fr_tr (lo := 50) (hi := 52) hf2 hf4 (by omega) (by omega)) (ok_as hO4)
  · exfalso; omega
theorem c_r2_4 {sL : Nat} {xs : Nat → Int32} {d : Nat} {M : Am_M} {Q : Int32 → Am_M → Prop} (hd : 9 ≤ d) {κ : Int → Int} {n : Int} {l : List Int} (hO : OK M κ n l) {m : Int} {x : Int32} {dp : Int} (hm : 0 ≤ m ∧ m < n) (hl : l.length ≤ 850) (hdp : 0 ≤ dp ∧ dp ≤ 35) (hq : ∀ M', am_fr 50 52 M M' → OK M' κ n (l ++ (o_s 4 (κ m) m x).2) → Q (o_s 4 (κ m) m x).1 M') : am_bi sL xs d 49 [.ref 50, .int (z_I 4), .int (z_I m), .int (z_I 2), .int x, .int (z_I dp)] M Q := by
  obtain ⟨d, rfl⟩ : ∃ e, d = e + 1 := ⟨d - 1, by omega⟩
  have hnb := ok_nb hO
  refine am_bi_of (P := am_pX5_ranFrom) (rt := 1) (nL := 7) (Nat.le_of_ble_eq_true rfl) rfl (Nat.le_of_ble_eq_true rfl) rfl rfl rfl ?_
  refine am_r_iload5 (pc' := 2) rfl rfl ?_
  refine am_r_iconst (pc' := 4) rfl rfl ?_
  refine am_r_icmp_le (pt := 9) (pf := 7) rfl rfl rfl (fun h4 => ?_) (fun h4 => ?_)
  · refine am_r_iload1 (pc' := 10) rfl rfl ?_
    refine am_r_iload3 (pc' := 11) rfl rfl ?_
    refine am_r_ivsI2 (pc' := 14) rfl rfl rfl (Nat.le_of_ble_eq_true rfl) (c_codeFrom (by omega) (by omega) (by omega) ?_)
    rw [show o_cf 2 8 4 = 50 by decide +kernel]
    refine am_r_istore6 (pc' := 16) rfl rfl rfl ?_
    refine am_r_aload0 (pc' := 17) rfl rfl ?_
    refine am_r_iload6 (pc' := 19) rfl rfl ?_
    refine am_r_invV1 (pc' := 22) rfl rfl rfl (Nat.le_of_ble_eq_true rfl) (c_note (by omega) hO (by omega) ?_)
    · intro M2 hf2 hO2
      have hl2 : (l ++ [(50 : Int)]).length = l.length + 1 := by simp
      refine am_r_iload3 (pc' := 23) rfl rfl ?_
      refine am_r_tsw (t := 76) rfl rfl ?_
      refine am_r_aload0 (pc' := 77) rfl rfl ?_
      refine am_r_iload6 (pc' := 79) rfl rfl ?_
      refine am_r_iload2 (pc' := 80) rfl rfl ?_
      refine am_r_iload4 (pc' := 82) rfl rfl ?_
      refine am_r_iload5 (pc' := 84) rfl rfl ?_
      refine am_r_iconst (pc' := 85) rfl rfl ?_
      refine am_r_iadd (pc' := 86) rfl rfl ?_
      refine am_r_invI4 (pc' := 89) rfl rfl rfl (Nat.le_of_ble_eq_true rfl) (c_b50 (by omega) hO2 hm (by omega) (by omega) ?_)
      · intro M4 hf4 hO4
        refine am_r_iret rfl rfl ?_
        exact hq M4 (am_fr_tr (lo := 50) (hi := 52) hf2 hf4 (by omega) (by omega)) (ok_as hO4)
  · exfalso; omega
theorem c_r2_7 {sL : Nat} {xs : Nat → Int32} {d : Nat} {M : Am_M} {Q : Int32 → Am_M → Prop} (hd : 9 ≤ d) {κ : Int → Int} {n : Int} {l : List Int} (hO : OK M κ n l) {m : Int} {x : Int32} {dp : Int} (hm : 0 ≤ m ∧ m < n) (hl : l.length ≤ 850) (hdp : 0 ≤ dp ∧ dp ≤ 35) (hq : ∀ M', am_fr 50 52 M M' → OK M' κ n (l ++ (o_s 7 (κ m) m x).2) → Q (o_s 7 (κ m) m x).1 M') : am_bi sL xs d 49 [.ref 50, .int (z_I 7), .int (z_I m), .int (z_I 2), .int x, .int (z_I dp)] M Q := by
  obtain ⟨d, rfl⟩ : ∃ e, d = e + 1 := ⟨d - 1, by omega⟩
  have hnb := ok_nb hO
  refine am_bi_of (P := am_pX5_ranFrom) (rt := 1) (nL := 7) (Nat.le_of_ble_eq_true rfl) rfl (Nat.le_of_ble_eq_true rfl) rfl rfl rfl ?_
  refine am_r_iload5 (pc' := 2) rfl rfl ?_
  refine am_r_iconst (pc' := 4) rfl rfl ?_
  refine am_r_icmp_le (pt := 9) (pf := 7) rfl rfl rfl (fun h4 => ?_) (fun h4 => ?_)
  · refine am_r_iload1 (pc' := 10) rfl rfl ?_
    refine am_r_iload3 (pc' := 11) rfl rfl ?_
    refine am_r_ivsI2 (pc' := 14) rfl rfl rfl (Nat.le_of_ble_eq_true rfl) (c_codeFrom (by omega) (by omega) (by omega) ?_)
    rw [show o_cf 2 8 7 = 50 by decide +kernel]
    refine am_r_istore6 (pc' := 16) rfl rfl rfl ?_
    refine am_r_aload0 (pc' := 17) rfl rfl ?_
    refine am_r_iload6 (pc' := 19) rfl rfl ?_
    refine am_r_invV1 (pc' := 22) rfl rfl rfl (Nat.le_of_ble_eq_true rfl) (c_note (by omega) hO (by omega) ?_)
    · intro M2 hf2 hO2
      have hl2 : (l ++ [(50 : Int)]).length = l.length + 1 := by simp
      refine am_r_iload3 (pc' := 23) rfl rfl ?_
      refine am_r_tsw (t := 76) rfl rfl ?_
      refine am_r_aload0 (pc' := 77) rfl rfl ?_
      refine am_r_iload6 (pc' := 79) rfl rfl ?_
      refine am_r_iload2 (pc' := 80) rfl rfl ?_
      refine am_r_iload4 (pc' := 82) rfl rfl ?_
      refine am_r_iload5 (pc' := 84) rfl rfl ?_
      refine am_r_iconst (pc' := 85) rfl rfl ?_
      refine am_r_iadd (pc' := 86) rfl rfl ?_
      refine am_r_invI4 (pc' := 89) rfl rfl rfl (Nat.le_of_ble_eq_true rfl) (c_b50 (by omega) hO2 hm (by omega) (by omega) ?_)
      · intro M4 hf4 hO4
        refine am_r_iret rfl rfl ?_
        exact hq M4 (am_fr_tr (lo := 50) (hi := 52) hf2 hf4 (by omega) (by omega)) (ok_as hO4)
  · exfalso; omega
theorem c_own2 {sL : Nat} {xs : Nat → Int32} {d : Nat} {M : Am_M} {Q : Int32 → Am_M → Prop} (hd : 10 ≤ d) {κ : Int → Int} {n : Int} {l : List Int} (hO : OK M κ n l) {m : Int} {x : Int32} {dp : Int} (hm : 0 ≤ m ∧ m < n) (hl : l.length ≤ 850) (hdp : 0 ≤ dp ∧ dp ≤ 35) (hq : ∀ M', am_fr 50 52 M M' → OK M' κ n (l ++ (o_s (κ m) (κ m) m x).2) → Q (o_s (κ m) (κ m) m x).1 M') : am_bi sL xs d 47 [.ref 50, .int (z_I m), .int (z_I 2), .int x, .int (z_I dp)] M Q := by
  obtain ⟨d, rfl⟩ : ∃ e, d = e + 1 := ⟨d - 1, by omega⟩
  have hkb := ok_kb hO hm
  have hkv := ok_k hO hm
  have hnb := ok_nb hO
  refine am_bi_of (P := am_pX5_own) (rt := 1) (nL := 5) (Nat.le_of_ble_eq_true rfl) rfl (Nat.le_of_ble_eq_true rfl) rfl rfl rfl ?_
  have hgo : am_bi sL xs d 49 [.ref 50, .int (z_I (κ m)), .int (z_I m), .int (z_I 2), .int x, .int (z_I dp)] M Q := by
    rcases (show κ m = 0 ∨ κ m = 1 ∨ κ m = 2 ∨ κ m = 3 ∨ κ m = 4 ∨ κ m = 5 ∨ κ m = 6 ∨ κ m = 7 by omega) with hk | hk | hk | hk | hk | hk | hk | hk
    · rw [hk]
      refine c_r2_0 (by omega) hO hm (by omega) (by omega) ?_
      intro M4 hf4 hO4
      have e : (o_s (κ m) (κ m) m x) = (o_s 0 (κ m) m x) := congrArg (fun k => (o_s k (κ m) m x)) hk
      rw [e] at hq
      exact hq M4 hf4 hO4
    · rw [hk]
      refine c_r2_1 (by omega) hO hm (by omega) (by omega) ?_
      intro M4 hf4 hO4
      have e : (o_s (κ m) (κ m) m x) = (o_s 1 (κ m) m x) := congrArg (fun k => (o_s k (κ m) m x)) hk
      rw [e] at hq
      exact hq M4 hf4 hO4
    · rw [hk]
      refine c_r2_2 (by omega) hO hm (by omega) (by omega) ?_
      intro M4 hf4 hO4
      have e : (o_s (κ m) (κ m) m x) = (o_s 2 (κ m) m x) := congrArg (fun k => (o_s k (κ m) m x)) hk
      rw [e] at hq
      exact hq M4 hf4 hO4
    · rw [hk]
      refine c_r2_3 (by omega) hO hm (by omega) (by omega) ?_
      intro M4 hf4 hO4
      have e : (o_s (κ m) (κ m) m x) = (o_s 3 (κ m) m x) := congrArg (fun k => (o_s k (κ m) m x)) hk
      rw [e] at hq
      exact hq M4 hf4 hO4
    · rw [hk]
      refine c_r2_4 (by omega) hO hm (by omega) (by omega) ?_
      intro M4 hf4 hO4
      have e : (o_s (κ m) (κ m) m x) = (o_s 4 (κ m) m x) := congrArg (fun k => (o_s k (κ m) m x)) hk
      rw [e] at hq
      exact hq M4 hf4 hO4
    · rw [hk]
      refine c_r2_5 (by omega) hO hm (by omega) (by omega) ?_
      intro M4 hf4 hO4
      have e : (o_s (κ m) (κ m) m x) = (o_s 5 (κ m) m x) := congrArg (fun k => (o_s k (κ m) m x)) hk
      rw [e] at hq
      exact hq M4 hf4 hO4
    · rw [hk]
      refine c_r2_6 (by omega) hO hm (by omega) (by omega) ?_
      intro M4 hf4 hO4
      have e : (o_s (κ m) (κ m) m x) = (o_s 6 (κ m) m x) := congrArg (fun k => (o_s k (κ m) m x)) hk
      rw [e] at hq
      exact hq M4 hf4 hO4
    · rw [hk]
      refine c_r2_7 (by omega) hO hm (by omega) (by omega) ?_
      intro M4 hf4 hO4
      have e : (o_s (κ m) (κ m) m x) = (o_s 7 (κ m) m x) := congrArg (fun k => (o_s k (κ m) m x)) hk
      rw [e] at hq
      exact hq M4 hf4 hO4
  refine am_r_aload0 (pc' := 1) rfl rfl ?_
  refine am_r_aload0 (pc' := 2) rfl rfl ?_
  refine am_r_getR (t := 51) (pc' := 5) rfl rfl rfl ?_
  refine am_r_iload1 (pc' := 6) rfl rfl ?_
  refine am_r_iaZv (n := 50) (pc' := 7) rfl rfl rfl (by decide) (hkv) ?_
  refine am_r_iload1 (pc' := 8) rfl rfl ?_
  refine am_r_iload2 (pc' := 9) rfl rfl ?_
  refine am_r_iload3 (pc' := 10) rfl rfl ?_
  refine am_r_iload4 (pc' := 12) rfl rfl ?_
  refine am_r_invI5 (pc' := 15) rfl rfl rfl (Nat.le_of_ble_eq_true rfl) (am_bi_mono hgo ?_)
  · intro x4 M4 h4
    refine am_r_iret rfl rfl ?_
    exact h4
theorem c_b10 {sL : Nat} {xs : Nat → Int32} {d : Nat} {M : Am_M} {Q : Int32 → Am_M → Prop} (hd : 8 ≤ d) {κ : Int → Int} {n : Int} {l : List Int} (hO : OK M κ n l) {m : Int} {x : Int32} {dp : Int} (hm : 0 ≤ m ∧ m < n) (hl : l.length ≤ 800) (hdp : 0 ≤ dp ∧ dp ≤ 36) (hq : ∀ M', am_fr 50 52 M M' → OK M' κ n (l ++ (o_d (κ m) m x).2) → Q ((o_d (κ m) m x).1 * z_I 2) M') : am_bi sL xs d 53 [.ref 50, .int (z_I 10), .int (z_I m), .int x, .int (z_I dp)] M Q := by
  obtain ⟨d, rfl⟩ : ∃ e, d = e + 1 := ⟨d - 1, by omega⟩
  have hnb := ok_nb hO
  refine am_bi_of (P := am_pX5_meeting) (rt := 1) (nL := 5) (Nat.le_of_ble_eq_true rfl) rfl (Nat.le_of_ble_eq_true rfl) rfl rfl rfl ?_
  refine am_r_iload1 (pc' := 1) rfl rfl ?_
  refine am_r_lsw (t := 83) rfl rfl ?_
  refine am_r_aload0 (pc' := 84) rfl rfl ?_
  refine am_r_iload2 (pc' := 85) rfl rfl ?_
  refine am_r_iconst (pc' := 86) rfl rfl ?_
  refine am_r_iload3 (pc' := 87) rfl rfl ?_
  refine am_r_iload4 (pc' := 89) rfl rfl ?_
  refine am_r_invI4 (pc' := 92) rfl rfl rfl (Nat.le_of_ble_eq_true rfl) (c_own0 (by omega) hO hm (by omega) (by omega) ?_)
  · intro M4 hf4 hO4
    refine am_r_iconst (pc' := 93) rfl rfl ?_
    refine am_r_imulR (pc' := 94) rfl rfl ?_
    refine am_r_iret rfl rfl ?_
    exact hq M4 hf4 hO4
theorem c_r1_0 {sL : Nat} {xs : Nat → Int32} {d : Nat} {M : Am_M} {Q : Int32 → Am_M → Prop} (hd : 9 ≤ d) {κ : Int → Int} {n : Int} {l : List Int} (hO : OK M κ n l) {m : Int} {x : Int32} {dp : Int} (hm : 0 ≤ m ∧ m < n) (hl : l.length ≤ 790) (hdp : 0 ≤ dp ∧ dp ≤ 35) (hq : ∀ M', am_fr 50 52 M M' → OK M' κ n (l ++ (o_m 0 (κ m) m x).2) → Q (o_m 0 (κ m) m x).1 M') : am_bi sL xs d 49 [.ref 50, .int (z_I 0), .int (z_I m), .int (z_I 1), .int x, .int (z_I dp)] M Q := by
  obtain ⟨d, rfl⟩ : ∃ e, d = e + 1 := ⟨d - 1, by omega⟩
  have hnb := ok_nb hO
  refine am_bi_of (P := am_pX5_ranFrom) (rt := 1) (nL := 7) (Nat.le_of_ble_eq_true rfl) rfl (Nat.le_of_ble_eq_true rfl) rfl rfl rfl ?_
  refine am_r_iload5 (pc' := 2) rfl rfl ?_
  refine am_r_iconst (pc' := 4) rfl rfl ?_
  refine am_r_icmp_le (pt := 9) (pf := 7) rfl rfl rfl (fun h4 => ?_) (fun h4 => ?_)
  · refine am_r_iload1 (pc' := 10) rfl rfl ?_
    refine am_r_iload3 (pc' := 11) rfl rfl ?_
    refine am_r_ivsI2 (pc' := 14) rfl rfl rfl (Nat.le_of_ble_eq_true rfl) (c_codeFrom (by omega) (by omega) (by omega) ?_)
    rw [show o_cf 1 8 0 = 10 by decide +kernel]
    refine am_r_istore6 (pc' := 16) rfl rfl rfl ?_
    refine am_r_aload0 (pc' := 17) rfl rfl ?_
    refine am_r_iload6 (pc' := 19) rfl rfl ?_
    refine am_r_invV1 (pc' := 22) rfl rfl rfl (Nat.le_of_ble_eq_true rfl) (c_note (by omega) hO (by omega) ?_)
    · intro M2 hf2 hO2
      have hl2 : (l ++ [(10 : Int)]).length = l.length + 1 := by simp
      refine am_r_iload3 (pc' := 23) rfl rfl ?_
      refine am_r_tsw (t := 62) rfl rfl ?_
      refine am_r_aload0 (pc' := 63) rfl rfl ?_
      refine am_r_iload6 (pc' := 65) rfl rfl ?_
      refine am_r_iload2 (pc' := 66) rfl rfl ?_
      refine am_r_iload4 (pc' := 68) rfl rfl ?_
      refine am_r_iload5 (pc' := 70) rfl rfl ?_
      refine am_r_iconst (pc' := 71) rfl rfl ?_
      refine am_r_iadd (pc' := 72) rfl rfl ?_
      refine am_r_invI4 (pc' := 75) rfl rfl rfl (Nat.le_of_ble_eq_true rfl) (c_b10 (by omega) hO2 hm (by omega) (by omega) ?_)
      · intro M4 hf4 hO4
        refine am_r_iret rfl rfl ?_
        exact hq M4 (am_fr_tr (lo := 50) (hi := 52) hf2 hf4 (by omega) (by omega)) (ok_as hO4)
  · exfalso; omega
theorem c_r1_1 {sL : Nat} {xs : Nat → Int32} {d : Nat} {M : Am_M} {Q : Int32 → Am_M → Prop} (hd : 9 ≤ d) {κ : Int → Int} {n : Int} {l : List Int} (hO : OK M κ n l) {m : Int} {x : Int32} {dp : Int} (hm : 0 ≤ m ∧ m < n) (hl : l.length ≤ 790) (hdp : 0 ≤ dp ∧ dp ≤ 35) (hq : ∀ M', am_fr 50 52 M M' → OK M' κ n (l ++ (o_m 1 (κ m) m x).2) → Q (o_m 1 (κ m) m x).1 M') : am_bi sL xs d 49 [.ref 50, .int (z_I 1), .int (z_I m), .int (z_I 1), .int x, .int (z_I dp)] M Q := by
  obtain ⟨d, rfl⟩ : ∃ e, d = e + 1 := ⟨d - 1, by omega⟩
  have hnb := ok_nb hO
  refine am_bi_of (P := am_pX5_ranFrom) (rt := 1) (nL := 7) (Nat.le_of_ble_eq_true rfl) rfl (Nat.le_of_ble_eq_true rfl) rfl rfl rfl ?_
  refine am_r_iload5 (pc' := 2) rfl rfl ?_
  refine am_r_iconst (pc' := 4) rfl rfl ?_
  refine am_r_icmp_le (pt := 9) (pf := 7) rfl rfl rfl (fun h4 => ?_) (fun h4 => ?_)
  · refine am_r_iload1 (pc' := 10) rfl rfl ?_
    refine am_r_iload3 (pc' := 11) rfl rfl ?_
    refine am_r_ivsI2 (pc' := 14) rfl rfl rfl (Nat.le_of_ble_eq_true rfl) (c_codeFrom (by omega) (by omega) (by omega) ?_)
    rw [show o_cf 1 8 1 = 10 by decide +kernel]
    refine am_r_istore6 (pc' := 16) rfl rfl rfl ?_
    refine am_r_aload0 (pc' := 17) rfl rfl ?_
    refine am_r_iload6 (pc' := 19) rfl rfl ?_
    refine am_r_invV1 (pc' := 22) rfl rfl rfl (Nat.le_of_ble_eq_true rfl) (c_note (by omega) hO (by omega) ?_)
    · intro M2 hf2 hO2
      have hl2 : (l ++ [(10 : Int)]).length = l.length + 1 := by simp
      refine am_r_iload3 (pc' := 23) rfl rfl ?_
      refine am_r_tsw (t := 62) rfl rfl ?_
      refine am_r_aload0 (pc' := 63) rfl rfl ?_
      refine am_r_iload6 (pc' := 65) rfl rfl ?_
      refine am_r_iload2 (pc' := 66) rfl rfl ?_
      refine am_r_iload4 (pc' := 68) rfl rfl ?_
      refine am_r_iload5 (pc' := 70) rfl rfl ?_
      refine am_r_iconst (pc' := 71) rfl rfl ?_
      refine am_r_iadd (pc' := 72) rfl rfl ?_
      refine am_r_invI4 (pc' := 75) rfl rfl rfl (Nat.le_of_ble_eq_true rfl) (c_b10 (by omega) hO2 hm (by omega) (by omega) ?_)
      · intro M4 hf4 hO4
        refine am_r_iret rfl rfl ?_
        exact hq M4 (am_fr_tr (lo := 50) (hi := 52) hf2 hf4 (by omega) (by omega)) (ok_as hO4)
  · exfalso; omega
theorem c_r1_4 {sL : Nat} {xs : Nat → Int32} {d : Nat} {M : Am_M} {Q : Int32 → Am_M → Prop} (hd : 9 ≤ d) {κ : Int → Int} {n : Int} {l : List Int} (hO : OK M κ n l) {m : Int} {x : Int32} {dp : Int} (hm : 0 ≤ m ∧ m < n) (hl : l.length ≤ 790) (hdp : 0 ≤ dp ∧ dp ≤ 35) (hq : ∀ M', am_fr 50 52 M M' → OK M' κ n (l ++ (o_m 4 (κ m) m x).2) → Q (o_m 4 (κ m) m x).1 M') : am_bi sL xs d 49 [.ref 50, .int (z_I 4), .int (z_I m), .int (z_I 1), .int x, .int (z_I dp)] M Q := by
  obtain ⟨d, rfl⟩ : ∃ e, d = e + 1 := ⟨d - 1, by omega⟩
  have hnb := ok_nb hO
  refine am_bi_of (P := am_pX5_ranFrom) (rt := 1) (nL := 7) (Nat.le_of_ble_eq_true rfl) rfl (Nat.le_of_ble_eq_true rfl) rfl rfl rfl ?_
  refine am_r_iload5 (pc' := 2) rfl rfl ?_
  refine am_r_iconst (pc' := 4) rfl rfl ?_
  refine am_r_icmp_le (pt := 9) (pf := 7) rfl rfl rfl (fun h4 => ?_) (fun h4 => ?_)
  · refine am_r_iload1 (pc' := 10) rfl rfl ?_
    refine am_r_iload3 (pc' := 11) rfl rfl ?_
    refine am_r_ivsI2 (pc' := 14) rfl rfl rfl (Nat.le_of_ble_eq_true rfl) (c_codeFrom (by omega) (by omega) (by omega) ?_)
    rw [show o_cf 1 8 4 = 10 by decide +kernel]
    refine am_r_istore6 (pc' := 16) rfl rfl rfl ?_
    refine am_r_aload0 (pc' := 17) rfl rfl ?_
    refine am_r_iload6 (pc' := 19) rfl rfl ?_
    refine am_r_invV1 (pc' := 22) rfl rfl rfl (Nat.le_of_ble_eq_true rfl) (c_note (by omega) hO (by omega) ?_)
    · intro M2 hf2 hO2
      have hl2 : (l ++ [(10 : Int)]).length = l.length + 1 := by simp
      refine am_r_iload3 (pc' := 23) rfl rfl ?_
      refine am_r_tsw (t := 62) rfl rfl ?_
      refine am_r_aload0 (pc' := 63) rfl rfl ?_
      refine am_r_iload6 (pc' := 65) rfl rfl ?_
      refine am_r_iload2 (pc' := 66) rfl rfl ?_
      refine am_r_iload4 (pc' := 68) rfl rfl ?_
      refine am_r_iload5 (pc' := 70) rfl rfl ?_
      refine am_r_iconst (pc' := 71) rfl rfl ?_
      refine am_r_iadd (pc' := 72) rfl rfl ?_
      refine am_r_invI4 (pc' := 75) rfl rfl rfl (Nat.le_of_ble_eq_true rfl) (c_b10 (by omega) hO2 hm (by omega) (by omega) ?_)
      · intro M4 hf4 hO4
        refine am_r_iret rfl rfl ?_
        exact hq M4 (am_fr_tr (lo := 50) (hi := 52) hf2 hf4 (by omega) (by omega)) (ok_as hO4)
  · exfalso; omega
theorem c_r1_6 {sL : Nat} {xs : Nat → Int32} {d : Nat} {M : Am_M} {Q : Int32 → Am_M → Prop} (hd : 9 ≤ d) {κ : Int → Int} {n : Int} {l : List Int} (hO : OK M κ n l) {m : Int} {x : Int32} {dp : Int} (hm : 0 ≤ m ∧ m < n) (hl : l.length ≤ 790) (hdp : 0 ≤ dp ∧ dp ≤ 35) (hq : ∀ M', am_fr 50 52 M M' → OK M' κ n (l ++ (o_m 6 (κ m) m x).2) → Q (o_m 6 (κ m) m x).1 M') : am_bi sL xs d 49 [.ref 50, .int (z_I 6), .int (z_I m), .int (z_I 1), .int x, .int (z_I dp)] M Q := by
  obtain ⟨d, rfl⟩ : ∃ e, d = e + 1 := ⟨d - 1, by omega⟩
  have hnb := ok_nb hO
  refine am_bi_of (P := am_pX5_ranFrom) (rt := 1) (nL := 7) (Nat.le_of_ble_eq_true rfl) rfl (Nat.le_of_ble_eq_true rfl) rfl rfl rfl ?_
  refine am_r_iload5 (pc' := 2) rfl rfl ?_
  refine am_r_iconst (pc' := 4) rfl rfl ?_
  refine am_r_icmp_le (pt := 9) (pf := 7) rfl rfl rfl (fun h4 => ?_) (fun h4 => ?_)
  · refine am_r_iload1 (pc' := 10) rfl rfl ?_
    refine am_r_iload3 (pc' := 11) rfl rfl ?_
    refine am_r_ivsI2 (pc' := 14) rfl rfl rfl (Nat.le_of_ble_eq_true rfl) (c_codeFrom (by omega) (by omega) (by omega) ?_)
    rw [show o_cf 1 8 6 = 10 by decide +kernel]
    refine am_r_istore6 (pc' := 16) rfl rfl rfl ?_
    refine am_r_aload0 (pc' := 17) rfl rfl ?_
    refine am_r_iload6 (pc' := 19) rfl rfl ?_
    refine am_r_invV1 (pc' := 22) rfl rfl rfl (Nat.le_of_ble_eq_true rfl) (c_note (by omega) hO (by omega) ?_)
    · intro M2 hf2 hO2
      have hl2 : (l ++ [(10 : Int)]).length = l.length + 1 := by simp
      refine am_r_iload3 (pc' := 23) rfl rfl ?_
      refine am_r_tsw (t := 62) rfl rfl ?_
      refine am_r_aload0 (pc' := 63) rfl rfl ?_
      refine am_r_iload6 (pc' := 65) rfl rfl ?_
      refine am_r_iload2 (pc' := 66) rfl rfl ?_
      refine am_r_iload4 (pc' := 68) rfl rfl ?_
      refine am_r_iload5 (pc' := 70) rfl rfl ?_
      refine am_r_iconst (pc' := 71) rfl rfl ?_
      refine am_r_iadd (pc' := 72) rfl rfl ?_
      refine am_r_invI4 (pc' := 75) rfl rfl rfl (Nat.le_of_ble_eq_true rfl) (c_b10 (by omega) hO2 hm (by omega) (by omega) ?_)
      · intro M4 hf4 hO4
        refine am_r_iret rfl rfl ?_
        exact hq M4 (am_fr_tr (lo := 50) (hi := 52) hf2 hf4 (by omega) (by omega)) (ok_as hO4)
  · exfalso; omega
theorem c_u1_2 {sL : Nat} {xs : Nat → Int32} {d : Nat} {M : Am_M} {Q : Int32 → Am_M → Prop} (hd : 10 ≤ d) {κ : Int → Int} {n : Int} {l : List Int} (hO : OK M κ n l) {m : Int} {x : Int32} {dp : Int} (hm : 0 ≤ m ∧ m < n) (hl : l.length ≤ 785) (hdp : 0 ≤ dp ∧ dp ≤ 35) (hq : ∀ M', am_fr 50 52 M M' → OK M' κ n (l ++ (o_m 0 (κ m) m x).2) → Q (o_m 0 (κ m) m x).1 M') : am_bi sL xs d 48 [.ref 50, .int (z_I 2), .int (z_I m), .int (z_I 1), .int x, .int (z_I dp)] M Q := by
  obtain ⟨d, rfl⟩ : ∃ e, d = e + 1 := ⟨d - 1, by omega⟩
  refine am_bi_of (P := am_pX5_above) (rt := 1) (nL := 6) (Nat.le_of_ble_eq_true rfl) rfl (Nat.le_of_ble_eq_true rfl) rfl rfl rfl ?_
  refine am_r_aload0 (pc' := 1) rfl rfl ?_
  refine am_r_gets (pc' := 4) rfl rfl ?_
  refine am_r_iload1 (pc' := 5) rfl rfl ?_
  refine am_r_stA (pc' := 6) rfl rfl (show _ = z_I 0 by decide +kernel) ?_
  refine am_r_iload2 (pc' := 7) rfl rfl ?_
  refine am_r_iload3 (pc' := 8) rfl rfl ?_
  refine am_r_iload4 (pc' := 10) rfl rfl ?_
  refine am_r_iload5 (pc' := 12) rfl rfl ?_
  refine am_r_invI5 (pc' := 15) rfl rfl rfl (Nat.le_of_ble_eq_true rfl) (c_r1_0 (by omega) hO hm (by omega) (by omega) ?_)
  · intro M4 hf4 hO4
    refine am_r_iret rfl rfl ?_
    exact hq M4 hf4 hO4
theorem c_b30 {sL : Nat} {xs : Nat → Int32} {d : Nat} {M : Am_M} {Q : Int32 → Am_M → Prop} (hd : 11 ≤ d) {κ : Int → Int} {n : Int} {l : List Int} (hO : OK M κ n l) {m : Int} {x : Int32} {dp : Int} (hm : 0 ≤ m ∧ m < n) (hl : l.length ≤ 780) (hdp : 0 ≤ dp ∧ dp ≤ 35) (hq : ∀ M', am_fr 50 52 M M' → OK M' κ n (l ++ (o_m0 (κ m) m x).2) → Q (-(o_m0 (κ m) m x).1) M') : am_bi sL xs d 53 [.ref 50, .int (z_I 30), .int (z_I m), .int x, .int (z_I dp)] M Q := by
  obtain ⟨d, rfl⟩ : ∃ e, d = e + 1 := ⟨d - 1, by omega⟩
  have hnb := ok_nb hO
  refine am_bi_of (P := am_pX5_meeting) (rt := 1) (nL := 5) (Nat.le_of_ble_eq_true rfl) rfl (Nat.le_of_ble_eq_true rfl) rfl rfl rfl ?_
  refine am_r_iload1 (pc' := 1) rfl rfl ?_
  refine am_r_lsw (t := 36) rfl rfl ?_
  refine am_r_aload0 (pc' := 37) rfl rfl ?_
  refine am_r_iconst (pc' := 38) rfl rfl ?_
  refine am_r_iload2 (pc' := 39) rfl rfl ?_
  refine am_r_iconst (pc' := 40) rfl rfl ?_
  refine am_r_iload3 (pc' := 41) rfl rfl ?_
  refine am_r_iload4 (pc' := 43) rfl rfl ?_
  refine am_r_invI5 (pc' := 46) rfl rfl rfl (Nat.le_of_ble_eq_true rfl) (c_u1_2 (by omega) hO hm (by omega) (by omega) ?_)
  · intro M4 hf4 hO4
    refine am_r_inegR (pc' := 47) rfl rfl ?_
    refine am_r_iret rfl rfl ?_
    exact hq M4 hf4 hO4
theorem c_r1_2 {sL : Nat} {xs : Nat → Int32} {d : Nat} {M : Am_M} {Q : Int32 → Am_M → Prop} (hd : 12 ≤ d) {κ : Int → Int} {n : Int} {l : List Int} (hO : OK M κ n l) {m : Int} {x : Int32} {dp : Int} (hm : 0 ≤ m ∧ m < n) (hl : l.length ≤ 770) (hdp : 0 ≤ dp ∧ dp ≤ 34) (hq : ∀ M', am_fr 50 52 M M' → OK M' κ n (l ++ (o_m 2 (κ m) m x).2) → Q (o_m 2 (κ m) m x).1 M') : am_bi sL xs d 49 [.ref 50, .int (z_I 2), .int (z_I m), .int (z_I 1), .int x, .int (z_I dp)] M Q := by
  obtain ⟨d, rfl⟩ : ∃ e, d = e + 1 := ⟨d - 1, by omega⟩
  have hnb := ok_nb hO
  refine am_bi_of (P := am_pX5_ranFrom) (rt := 1) (nL := 7) (Nat.le_of_ble_eq_true rfl) rfl (Nat.le_of_ble_eq_true rfl) rfl rfl rfl ?_
  refine am_r_iload5 (pc' := 2) rfl rfl ?_
  refine am_r_iconst (pc' := 4) rfl rfl ?_
  refine am_r_icmp_le (pt := 9) (pf := 7) rfl rfl rfl (fun h4 => ?_) (fun h4 => ?_)
  · refine am_r_iload1 (pc' := 10) rfl rfl ?_
    refine am_r_iload3 (pc' := 11) rfl rfl ?_
    refine am_r_ivsI2 (pc' := 14) rfl rfl rfl (Nat.le_of_ble_eq_true rfl) (c_codeFrom (by omega) (by omega) (by omega) ?_)
    rw [show o_cf 1 8 2 = 30 by decide +kernel]
    refine am_r_istore6 (pc' := 16) rfl rfl rfl ?_
    refine am_r_aload0 (pc' := 17) rfl rfl ?_
    refine am_r_iload6 (pc' := 19) rfl rfl ?_
    refine am_r_invV1 (pc' := 22) rfl rfl rfl (Nat.le_of_ble_eq_true rfl) (c_note (by omega) hO (by omega) ?_)
    · intro M2 hf2 hO2
      have hl2 : (l ++ [(30 : Int)]).length = l.length + 1 := by simp
      refine am_r_iload3 (pc' := 23) rfl rfl ?_
      refine am_r_tsw (t := 62) rfl rfl ?_
      refine am_r_aload0 (pc' := 63) rfl rfl ?_
      refine am_r_iload6 (pc' := 65) rfl rfl ?_
      refine am_r_iload2 (pc' := 66) rfl rfl ?_
      refine am_r_iload4 (pc' := 68) rfl rfl ?_
      refine am_r_iload5 (pc' := 70) rfl rfl ?_
      refine am_r_iconst (pc' := 71) rfl rfl ?_
      refine am_r_iadd (pc' := 72) rfl rfl ?_
      refine am_r_invI4 (pc' := 75) rfl rfl rfl (Nat.le_of_ble_eq_true rfl) (c_b30 (by omega) hO2 hm (by omega) (by omega) ?_)
      · intro M4 hf4 hO4
        refine am_r_iret rfl rfl ?_
        exact hq M4 (am_fr_tr (lo := 50) (hi := 52) hf2 hf4 (by omega) (by omega)) (ok_as hO4)
  · exfalso; omega
theorem c_u1_3 {sL : Nat} {xs : Nat → Int32} {d : Nat} {M : Am_M} {Q : Int32 → Am_M → Prop} (hd : 13 ≤ d) {κ : Int → Int} {n : Int} {l : List Int} (hO : OK M κ n l) {m : Int} {x : Int32} {dp : Int} (hm : 0 ≤ m ∧ m < n) (hl : l.length ≤ 765) (hdp : 0 ≤ dp ∧ dp ≤ 34) (hq : ∀ M', am_fr 50 52 M M' → OK M' κ n (l ++ (o_m 2 (κ m) m x).2) → Q (o_m 2 (κ m) m x).1 M') : am_bi sL xs d 48 [.ref 50, .int (z_I 3), .int (z_I m), .int (z_I 1), .int x, .int (z_I dp)] M Q := by
  obtain ⟨d, rfl⟩ : ∃ e, d = e + 1 := ⟨d - 1, by omega⟩
  refine am_bi_of (P := am_pX5_above) (rt := 1) (nL := 6) (Nat.le_of_ble_eq_true rfl) rfl (Nat.le_of_ble_eq_true rfl) rfl rfl rfl ?_
  refine am_r_aload0 (pc' := 1) rfl rfl ?_
  refine am_r_gets (pc' := 4) rfl rfl ?_
  refine am_r_iload1 (pc' := 5) rfl rfl ?_
  refine am_r_stA (pc' := 6) rfl rfl (show _ = z_I 2 by decide +kernel) ?_
  refine am_r_iload2 (pc' := 7) rfl rfl ?_
  refine am_r_iload3 (pc' := 8) rfl rfl ?_
  refine am_r_iload4 (pc' := 10) rfl rfl ?_
  refine am_r_iload5 (pc' := 12) rfl rfl ?_
  refine am_r_invI5 (pc' := 15) rfl rfl rfl (Nat.le_of_ble_eq_true rfl) (c_r1_2 (by omega) hO hm (by omega) (by omega) ?_)
  · intro M4 hf4 hO4
    refine am_r_iret rfl rfl ?_
    exact hq M4 hf4 hO4
theorem c_b41 {sL : Nat} {xs : Nat → Int32} {d : Nat} {M : Am_M} {Q : Int32 → Am_M → Prop} (hd : 14 ≤ d) {κ : Int → Int} {n : Int} {l : List Int} (hO : OK M κ n l) {m : Int} {x : Int32} {dp : Int} (hm : 0 ≤ m ∧ m < n) (hl : l.length ≤ 760) (hdp : 0 ≤ dp ∧ dp ≤ 34) (hq : ∀ M', am_fr 50 52 M M' → OK M' κ n (l ++ (o_m2 (κ m) m (x + z_I 1)).2) → Q (o_m2 (κ m) m (x + z_I 1)).1 M') : am_bi sL xs d 53 [.ref 50, .int (z_I 41), .int (z_I m), .int x, .int (z_I dp)] M Q := by
  obtain ⟨d, rfl⟩ : ∃ e, d = e + 1 := ⟨d - 1, by omega⟩
  have hnb := ok_nb hO
  refine am_bi_of (P := am_pX5_meeting) (rt := 1) (nL := 5) (Nat.le_of_ble_eq_true rfl) rfl (Nat.le_of_ble_eq_true rfl) rfl rfl rfl ?_
  refine am_r_iload1 (pc' := 1) rfl rfl ?_
  refine am_r_lsw (t := 48) rfl rfl ?_
  refine am_r_aload0 (pc' := 49) rfl rfl ?_
  refine am_r_iconst (pc' := 50) rfl rfl ?_
  refine am_r_iload2 (pc' := 51) rfl rfl ?_
  refine am_r_iconst (pc' := 52) rfl rfl ?_
  refine am_r_iload3 (pc' := 53) rfl rfl ?_
  refine am_r_iconst (pc' := 54) rfl rfl ?_
  refine am_r_iaddR (pc' := 55) rfl rfl ?_
  refine am_r_iload4 (pc' := 57) rfl rfl ?_
  refine am_r_invI5 (pc' := 60) rfl rfl rfl (Nat.le_of_ble_eq_true rfl) (c_u1_3 (by omega) hO hm (by omega) (by omega) ?_)
  · intro M4 hf4 hO4
    refine am_r_iret rfl rfl ?_
    exact hq M4 hf4 hO4
theorem c_r1_3 {sL : Nat} {xs : Nat → Int32} {d : Nat} {M : Am_M} {Q : Int32 → Am_M → Prop} (hd : 15 ≤ d) {κ : Int → Int} {n : Int} {l : List Int} (hO : OK M κ n l) {m : Int} {x : Int32} {dp : Int} (hm : 0 ≤ m ∧ m < n) (hl : l.length ≤ 750) (hdp : 0 ≤ dp ∧ dp ≤ 33) (hq : ∀ M', am_fr 50 52 M M' → OK M' κ n (l ++ (o_m 3 (κ m) m x).2) → Q (o_m 3 (κ m) m x).1 M') : am_bi sL xs d 49 [.ref 50, .int (z_I 3), .int (z_I m), .int (z_I 1), .int x, .int (z_I dp)] M Q := by
  obtain ⟨d, rfl⟩ : ∃ e, d = e + 1 := ⟨d - 1, by omega⟩
  have hnb := ok_nb hO
  refine am_bi_of (P := am_pX5_ranFrom) (rt := 1) (nL := 7) (Nat.le_of_ble_eq_true rfl) rfl (Nat.le_of_ble_eq_true rfl) rfl rfl rfl ?_
  refine am_r_iload5 (pc' := 2) rfl rfl ?_
  refine am_r_iconst (pc' := 4) rfl rfl ?_
  refine am_r_icmp_le (pt := 9) (pf := 7) rfl rfl rfl (fun h4 => ?_) (fun h4 => ?_)
  · refine am_r_iload1 (pc' := 10) rfl rfl ?_
    refine am_r_iload3 (pc' := 11) rfl rfl ?_
    refine am_r_ivsI2 (pc' := 14) rfl rfl rfl (Nat.le_of_ble_eq_true rfl) (c_codeFrom (by omega) (by omega) (by omega) ?_)
    rw [show o_cf 1 8 3 = 41 by decide +kernel]
    refine am_r_istore6 (pc' := 16) rfl rfl rfl ?_
    refine am_r_aload0 (pc' := 17) rfl rfl ?_
    refine am_r_iload6 (pc' := 19) rfl rfl ?_
    refine am_r_invV1 (pc' := 22) rfl rfl rfl (Nat.le_of_ble_eq_true rfl) (c_note (by omega) hO (by omega) ?_)
    · intro M2 hf2 hO2
      have hl2 : (l ++ [(41 : Int)]).length = l.length + 1 := by simp
      refine am_r_iload3 (pc' := 23) rfl rfl ?_
      refine am_r_tsw (t := 62) rfl rfl ?_
      refine am_r_aload0 (pc' := 63) rfl rfl ?_
      refine am_r_iload6 (pc' := 65) rfl rfl ?_
      refine am_r_iload2 (pc' := 66) rfl rfl ?_
      refine am_r_iload4 (pc' := 68) rfl rfl ?_
      refine am_r_iload5 (pc' := 70) rfl rfl ?_
      refine am_r_iconst (pc' := 71) rfl rfl ?_
      refine am_r_iadd (pc' := 72) rfl rfl ?_
      refine am_r_invI4 (pc' := 75) rfl rfl rfl (Nat.le_of_ble_eq_true rfl) (c_b41 (by omega) hO2 hm (by omega) (by omega) ?_)
      · intro M4 hf4 hO4
        refine am_r_iret rfl rfl ?_
        exact hq M4 (am_fr_tr (lo := 50) (hi := 52) hf2 hf4 (by omega) (by omega)) (ok_as hO4)
  · exfalso; omega
theorem c_r1_5 {sL : Nat} {xs : Nat → Int32} {d : Nat} {M : Am_M} {Q : Int32 → Am_M → Prop} (hd : 15 ≤ d) {κ : Int → Int} {n : Int} {l : List Int} (hO : OK M κ n l) {m : Int} {x : Int32} {dp : Int} (hm : 0 ≤ m ∧ m < n) (hl : l.length ≤ 750) (hdp : 0 ≤ dp ∧ dp ≤ 33) (hq : ∀ M', am_fr 50 52 M M' → OK M' κ n (l ++ (o_m 5 (κ m) m x).2) → Q (o_m 5 (κ m) m x).1 M') : am_bi sL xs d 49 [.ref 50, .int (z_I 5), .int (z_I m), .int (z_I 1), .int x, .int (z_I dp)] M Q := by
  obtain ⟨d, rfl⟩ : ∃ e, d = e + 1 := ⟨d - 1, by omega⟩
  have hnb := ok_nb hO
  refine am_bi_of (P := am_pX5_ranFrom) (rt := 1) (nL := 7) (Nat.le_of_ble_eq_true rfl) rfl (Nat.le_of_ble_eq_true rfl) rfl rfl rfl ?_
  refine am_r_iload5 (pc' := 2) rfl rfl ?_
  refine am_r_iconst (pc' := 4) rfl rfl ?_
  refine am_r_icmp_le (pt := 9) (pf := 7) rfl rfl rfl (fun h4 => ?_) (fun h4 => ?_)
  · refine am_r_iload1 (pc' := 10) rfl rfl ?_
    refine am_r_iload3 (pc' := 11) rfl rfl ?_
    refine am_r_ivsI2 (pc' := 14) rfl rfl rfl (Nat.le_of_ble_eq_true rfl) (c_codeFrom (by omega) (by omega) (by omega) ?_)
    rw [show o_cf 1 8 5 = 41 by decide +kernel]
    refine am_r_istore6 (pc' := 16) rfl rfl rfl ?_
    refine am_r_aload0 (pc' := 17) rfl rfl ?_
    refine am_r_iload6 (pc' := 19) rfl rfl ?_
    refine am_r_invV1 (pc' := 22) rfl rfl rfl (Nat.le_of_ble_eq_true rfl) (c_note (by omega) hO (by omega) ?_)
    · intro M2 hf2 hO2
      have hl2 : (l ++ [(41 : Int)]).length = l.length + 1 := by simp
      refine am_r_iload3 (pc' := 23) rfl rfl ?_
      refine am_r_tsw (t := 62) rfl rfl ?_
      refine am_r_aload0 (pc' := 63) rfl rfl ?_
      refine am_r_iload6 (pc' := 65) rfl rfl ?_
      refine am_r_iload2 (pc' := 66) rfl rfl ?_
      refine am_r_iload4 (pc' := 68) rfl rfl ?_
      refine am_r_iload5 (pc' := 70) rfl rfl ?_
      refine am_r_iconst (pc' := 71) rfl rfl ?_
      refine am_r_iadd (pc' := 72) rfl rfl ?_
      refine am_r_invI4 (pc' := 75) rfl rfl rfl (Nat.le_of_ble_eq_true rfl) (c_b41 (by omega) hO2 hm (by omega) (by omega) ?_)
      · intro M4 hf4 hO4
        refine am_r_iret rfl rfl ?_
        exact hq M4 (am_fr_tr (lo := 50) (hi := 52) hf2 hf4 (by omega) (by omega)) (ok_as hO4)
  · exfalso; omega
theorem c_u1_7 {sL : Nat} {xs : Nat → Int32} {d : Nat} {M : Am_M} {Q : Int32 → Am_M → Prop} (hd : 10 ≤ d) {κ : Int → Int} {n : Int} {l : List Int} (hO : OK M κ n l) {m : Int} {x : Int32} {dp : Int} (hm : 0 ≤ m ∧ m < n) (hl : l.length ≤ 765) (hdp : 0 ≤ dp ∧ dp ≤ 34) (hq : ∀ M', am_fr 50 52 M M' → OK M' κ n (l ++ (o_m 4 (κ m) m x).2) → Q (o_m 4 (κ m) m x).1 M') : am_bi sL xs d 48 [.ref 50, .int (z_I 7), .int (z_I m), .int (z_I 1), .int x, .int (z_I dp)] M Q := by
  obtain ⟨d, rfl⟩ : ∃ e, d = e + 1 := ⟨d - 1, by omega⟩
  refine am_bi_of (P := am_pX5_above) (rt := 1) (nL := 6) (Nat.le_of_ble_eq_true rfl) rfl (Nat.le_of_ble_eq_true rfl) rfl rfl rfl ?_
  refine am_r_aload0 (pc' := 1) rfl rfl ?_
  refine am_r_gets (pc' := 4) rfl rfl ?_
  refine am_r_iload1 (pc' := 5) rfl rfl ?_
  refine am_r_stA (pc' := 6) rfl rfl (show _ = z_I 4 by decide +kernel) ?_
  refine am_r_iload2 (pc' := 7) rfl rfl ?_
  refine am_r_iload3 (pc' := 8) rfl rfl ?_
  refine am_r_iload4 (pc' := 10) rfl rfl ?_
  refine am_r_iload5 (pc' := 12) rfl rfl ?_
  refine am_r_invI5 (pc' := 15) rfl rfl rfl (Nat.le_of_ble_eq_true rfl) (c_r1_4 (by omega) hO hm (by omega) (by omega) ?_)
  · intro M4 hf4 hO4
    refine am_r_iret rfl rfl ?_
    exact hq M4 hf4 hO4
theorem c_b80 {sL : Nat} {xs : Nat → Int32} {d : Nat} {M : Am_M} {Q : Int32 → Am_M → Prop} (hd : 12 ≤ d) {κ : Int → Int} {n : Int} {l : List Int} (hO : OK M κ n l) {m : Int} {x : Int32} {dp : Int} (hm : 0 ≤ m ∧ m < n) (hl : l.length ≤ 750) (hdp : 0 ≤ dp ∧ dp ≤ 34) (hq : ∀ M', am_fr 50 52 M M' → OK M' κ n (l ++ ((o_m0 (κ m) m x).2 ++ (o_s (κ m) (κ m) m (z_I 2)).2)) → Q ((o_m0 (κ m) m x).1 + (o_s (κ m) (κ m) m (z_I 2)).1) M') : am_bi sL xs d 53 [.ref 50, .int (z_I 80), .int (z_I m), .int x, .int (z_I dp)] M Q := by
  obtain ⟨d, rfl⟩ : ∃ e, d = e + 1 := ⟨d - 1, by omega⟩
  have hnb := ok_nb hO
  refine am_bi_of (P := am_pX5_meeting) (rt := 1) (nL := 5) (Nat.le_of_ble_eq_true rfl) rfl (Nat.le_of_ble_eq_true rfl) rfl rfl rfl ?_
  refine am_r_iload1 (pc' := 1) rfl rfl ?_
  refine am_r_lsw (t := 61) rfl rfl ?_
  refine am_r_aload0 (pc' := 62) rfl rfl ?_
  refine am_r_iconst (pc' := 64) rfl rfl ?_
  refine am_r_iload2 (pc' := 65) rfl rfl ?_
  refine am_r_iconst (pc' := 66) rfl rfl ?_
  refine am_r_iload3 (pc' := 67) rfl rfl ?_
  refine am_r_iload4 (pc' := 69) rfl rfl ?_
  refine am_r_invI5 (pc' := 72) rfl rfl rfl (Nat.le_of_ble_eq_true rfl) (c_u1_7 (by omega) hO hm (by omega) (by omega) ?_)
  · intro M4 hf4 hO4
    have hl4 : (l ++ (o_m 4 (κ m) m x).2).length ≤ l.length + 8 := by rw [List.length_append]; have := o_m_l 4 (κ m) m x; omega
    refine am_r_aload0 (pc' := 73) rfl rfl ?_
    refine am_r_iload2 (pc' := 74) rfl rfl ?_
    refine am_r_iconst (pc' := 75) rfl rfl ?_
    refine am_r_iconst (pc' := 76) rfl rfl ?_
    refine am_r_iload4 (pc' := 78) rfl rfl ?_
    refine am_r_invI4 (pc' := 81) rfl rfl rfl (Nat.le_of_ble_eq_true rfl) (c_own2 (by omega) hO4 hm (by omega) (by omega) ?_)
    · intro M6 hf6 hO6
      refine am_r_iaddR (pc' := 82) rfl rfl ?_
      refine am_r_iret rfl rfl ?_
      exact hq M6 (am_fr_tr (lo := 50) (hi := 52) hf4 hf6 (by omega) (by omega)) (ok_as hO6)
theorem c_r1_7 {sL : Nat} {xs : Nat → Int32} {d : Nat} {M : Am_M} {Q : Int32 → Am_M → Prop} (hd : 13 ≤ d) {κ : Int → Int} {n : Int} {l : List Int} (hO : OK M κ n l) {m : Int} {x : Int32} {dp : Int} (hm : 0 ≤ m ∧ m < n) (hl : l.length ≤ 740) (hdp : 0 ≤ dp ∧ dp ≤ 33) (hq : ∀ M', am_fr 50 52 M M' → OK M' κ n (l ++ (o_m 7 (κ m) m x).2) → Q (o_m 7 (κ m) m x).1 M') : am_bi sL xs d 49 [.ref 50, .int (z_I 7), .int (z_I m), .int (z_I 1), .int x, .int (z_I dp)] M Q := by
  obtain ⟨d, rfl⟩ : ∃ e, d = e + 1 := ⟨d - 1, by omega⟩
  have hnb := ok_nb hO
  refine am_bi_of (P := am_pX5_ranFrom) (rt := 1) (nL := 7) (Nat.le_of_ble_eq_true rfl) rfl (Nat.le_of_ble_eq_true rfl) rfl rfl rfl ?_
  refine am_r_iload5 (pc' := 2) rfl rfl ?_
  refine am_r_iconst (pc' := 4) rfl rfl ?_
  refine am_r_icmp_le (pt := 9) (pf := 7) rfl rfl rfl (fun h4 => ?_) (fun h4 => ?_)
  · refine am_r_iload1 (pc' := 10) rfl rfl ?_
    refine am_r_iload3 (pc' := 11) rfl rfl ?_
    refine am_r_ivsI2 (pc' := 14) rfl rfl rfl (Nat.le_of_ble_eq_true rfl) (c_codeFrom (by omega) (by omega) (by omega) ?_)
    rw [show o_cf 1 8 7 = 80 by decide +kernel]
    refine am_r_istore6 (pc' := 16) rfl rfl rfl ?_
    refine am_r_aload0 (pc' := 17) rfl rfl ?_
    refine am_r_iload6 (pc' := 19) rfl rfl ?_
    refine am_r_invV1 (pc' := 22) rfl rfl rfl (Nat.le_of_ble_eq_true rfl) (c_note (by omega) hO (by omega) ?_)
    · intro M2 hf2 hO2
      have hl2 : (l ++ [(80 : Int)]).length = l.length + 1 := by simp
      refine am_r_iload3 (pc' := 23) rfl rfl ?_
      refine am_r_tsw (t := 62) rfl rfl ?_
      refine am_r_aload0 (pc' := 63) rfl rfl ?_
      refine am_r_iload6 (pc' := 65) rfl rfl ?_
      refine am_r_iload2 (pc' := 66) rfl rfl ?_
      refine am_r_iload4 (pc' := 68) rfl rfl ?_
      refine am_r_iload5 (pc' := 70) rfl rfl ?_
      refine am_r_iconst (pc' := 71) rfl rfl ?_
      refine am_r_iadd (pc' := 72) rfl rfl ?_
      refine am_r_invI4 (pc' := 75) rfl rfl rfl (Nat.le_of_ble_eq_true rfl) (c_b80 (by omega) hO2 hm (by omega) (by omega) ?_)
      · intro M4 hf4 hO4
        refine am_r_iret rfl rfl ?_
        exact hq M4 (am_fr_tr (lo := 50) (hi := 52) hf2 hf4 (by omega) (by omega)) (ok_as hO4)
  · exfalso; omega
theorem c_own1 {sL : Nat} {xs : Nat → Int32} {d : Nat} {M : Am_M} {Q : Int32 → Am_M → Prop} (hd : 16 ≤ d) {κ : Int → Int} {n : Int} {l : List Int} (hO : OK M κ n l) {m : Int} {x : Int32} {dp : Int} (hm : 0 ≤ m ∧ m < n) (hl : l.length ≤ 740) (hdp : 0 ≤ dp ∧ dp ≤ 33) (hq : ∀ M', am_fr 50 52 M M' → OK M' κ n (l ++ (o_m (κ m) (κ m) m x).2) → Q (o_m (κ m) (κ m) m x).1 M') : am_bi sL xs d 47 [.ref 50, .int (z_I m), .int (z_I 1), .int x, .int (z_I dp)] M Q := by
  obtain ⟨d, rfl⟩ : ∃ e, d = e + 1 := ⟨d - 1, by omega⟩
  have hkb := ok_kb hO hm
  have hkv := ok_k hO hm
  have hnb := ok_nb hO
  refine am_bi_of (P := am_pX5_own) (rt := 1) (nL := 5) (Nat.le_of_ble_eq_true rfl) rfl (Nat.le_of_ble_eq_true rfl) rfl rfl rfl ?_
  have hgo : am_bi sL xs d 49 [.ref 50, .int (z_I (κ m)), .int (z_I m), .int (z_I 1), .int x, .int (z_I dp)] M Q := by
    rcases (show κ m = 0 ∨ κ m = 1 ∨ κ m = 2 ∨ κ m = 3 ∨ κ m = 4 ∨ κ m = 5 ∨ κ m = 6 ∨ κ m = 7 by omega) with hk | hk | hk | hk | hk | hk | hk | hk
    · rw [hk]
      refine c_r1_0 (by omega) hO hm (by omega) (by omega) ?_
      intro M4 hf4 hO4
      have e : (o_m (κ m) (κ m) m x) = (o_m 0 (κ m) m x) := congrArg (fun k => (o_m k (κ m) m x)) hk
      rw [e] at hq
      exact hq M4 hf4 hO4
    · rw [hk]
      refine c_r1_1 (by omega) hO hm (by omega) (by omega) ?_
      intro M4 hf4 hO4
      have e : (o_m (κ m) (κ m) m x) = (o_m 1 (κ m) m x) := congrArg (fun k => (o_m k (κ m) m x)) hk
      rw [e] at hq
      exact hq M4 hf4 hO4
    · rw [hk]
      refine c_r1_2 (by omega) hO hm (by omega) (by omega) ?_
      intro M4 hf4 hO4
      have e : (o_m (κ m) (κ m) m x) = (o_m 2 (κ m) m x) := congrArg (fun k => (o_m k (κ m) m x)) hk
      rw [e] at hq
      exact hq M4 hf4 hO4
    · rw [hk]
      refine c_r1_3 (by omega) hO hm (by omega) (by omega) ?_
      intro M4 hf4 hO4
      have e : (o_m (κ m) (κ m) m x) = (o_m 3 (κ m) m x) := congrArg (fun k => (o_m k (κ m) m x)) hk
      rw [e] at hq
      exact hq M4 hf4 hO4
    · rw [hk]
      refine c_r1_4 (by omega) hO hm (by omega) (by omega) ?_
      intro M4 hf4 hO4
      have e : (o_m (κ m) (κ m) m x) = (o_m 4 (κ m) m x) := congrArg (fun k => (o_m k (κ m) m x)) hk
      rw [e] at hq
      exact hq M4 hf4 hO4
    · rw [hk]
      refine c_r1_5 (by omega) hO hm (by omega) (by omega) ?_
      intro M4 hf4 hO4
      have e : (o_m (κ m) (κ m) m x) = (o_m 5 (κ m) m x) := congrArg (fun k => (o_m k (κ m) m x)) hk
      rw [e] at hq
      exact hq M4 hf4 hO4
    · rw [hk]
      refine c_r1_6 (by omega) hO hm (by omega) (by omega) ?_
      intro M4 hf4 hO4
      have e : (o_m (κ m) (κ m) m x) = (o_m 6 (κ m) m x) := congrArg (fun k => (o_m k (κ m) m x)) hk
      rw [e] at hq
      exact hq M4 hf4 hO4
    · rw [hk]
      refine c_r1_7 (by omega) hO hm (by omega) (by omega) ?_
      intro M4 hf4 hO4
      have e : (o_m (κ m) (κ m) m x) = (o_m 7 (κ m) m x) := congrArg (fun k => (o_m k (κ m) m x)) hk
      rw [e] at hq
      exact hq M4 hf4 hO4
  refine am_r_aload0 (pc' := 1) rfl rfl ?_
  refine am_r_aload0 (pc' := 2) rfl rfl ?_
  refine am_r_getR (t := 51) (pc' := 5) rfl rfl rfl ?_
  refine am_r_iload1 (pc' := 6) rfl rfl ?_
  refine am_r_iaZv (n := 50) (pc' := 7) rfl rfl rfl (by decide) (hkv) ?_
  refine am_r_iload1 (pc' := 8) rfl rfl ?_
  refine am_r_iload2 (pc' := 9) rfl rfl ?_
  refine am_r_iload3 (pc' := 10) rfl rfl ?_
  refine am_r_iload4 (pc' := 12) rfl rfl ?_
  refine am_r_invI5 (pc' := 15) rfl rfl rfl (Nat.le_of_ble_eq_true rfl) (am_bi_mono hgo ?_)
  · intro x4 M4 h4
    refine am_r_iret rfl rfl ?_
    exact h4
theorem c_b2 {sL : Nat} {xs : Nat → Int32} {d : Nat} {M : Am_M} {Q : Int32 → Am_M → Prop} (hd : 17 ≤ d) {κ : Int → Int} {n : Int} {l : List Int} (hO : OK M κ n l) {m : Int} {x : Int32} {dp : Int} (hm : 0 ≤ m ∧ m < n) (hl : l.length ≤ 700) (hdp : 0 ≤ dp ∧ dp ≤ 33) (hq : ∀ M', am_fr 50 52 M M' → OK M' κ n (l ++ ((o_m (κ m) (κ m) m x).2 ++ (o_s (κ m) (κ m) m (z_I 1)).2)) → Q ((o_m (κ m) (κ m) m x).1 - (o_s (κ m) (κ m) m (z_I 1)).1) M') : am_bi sL xs d 55 [.ref 50, .int (z_I 2), .int (z_I m), .int x, .int (z_I dp)] M Q := by
  obtain ⟨d, rfl⟩ : ∃ e, d = e + 1 := ⟨d - 1, by omega⟩
  have hnb := ok_nb hO
  refine am_bi_of (P := am_pX5_telling) (rt := 1) (nL := 5) (Nat.le_of_ble_eq_true rfl) rfl (Nat.le_of_ble_eq_true rfl) rfl rfl rfl ?_
  refine am_r_iload1 (pc' := 1) rfl rfl ?_
  refine am_r_lsw (t := 55) rfl rfl ?_
  refine am_r_aload0 (pc' := 56) rfl rfl ?_
  refine am_r_iload2 (pc' := 57) rfl rfl ?_
  refine am_r_iconst (pc' := 58) rfl rfl ?_
  refine am_r_iload3 (pc' := 59) rfl rfl ?_
  refine am_r_iload4 (pc' := 61) rfl rfl ?_
  refine am_r_invI4 (pc' := 64) rfl rfl rfl (Nat.le_of_ble_eq_true rfl) (c_own1 (by omega) hO hm (by omega) (by omega) ?_)
  · intro M4 hf4 hO4
    have hl4 : (l ++ (o_m (κ m) (κ m) m x).2).length ≤ l.length + 8 := by rw [List.length_append]; have := o_m_l (κ m) (κ m) m x; omega
    refine am_r_aload0 (pc' := 65) rfl rfl ?_
    refine am_r_iload2 (pc' := 66) rfl rfl ?_
    refine am_r_iconst (pc' := 67) rfl rfl ?_
    refine am_r_iconst (pc' := 68) rfl rfl ?_
    refine am_r_iload4 (pc' := 70) rfl rfl ?_
    refine am_r_invI4 (pc' := 73) rfl rfl rfl (Nat.le_of_ble_eq_true rfl) (c_own2 (by omega) hO4 hm (by omega) (by omega) ?_)
    · intro M6 hf6 hO6
      refine am_r_isubR (pc' := 74) rfl rfl ?_
      refine am_r_iret rfl rfl ?_
      exact hq M6 (am_fr_tr (lo := 50) (hi := 52) hf4 hf6 (by omega) (by omega)) (ok_as hO6)
theorem c_r3_0 {sL : Nat} {xs : Nat → Int32} {d : Nat} {M : Am_M} {Q : Int32 → Am_M → Prop} (hd : 18 ≤ d) {κ : Int → Int} {n : Int} {l : List Int} (hO : OK M κ n l) {m : Int} {x : Int32} {dp : Int} (hm : 0 ≤ m ∧ m < n) (hl : l.length ≤ 690) (hdp : 0 ≤ dp ∧ dp ≤ 32) (hq : ∀ M', am_fr 50 52 M M' → OK M' κ n (l ++ (o_t 0 (κ m) m x).2) → Q (o_t 0 (κ m) m x).1 M') : am_bi sL xs d 49 [.ref 50, .int (z_I 0), .int (z_I m), .int (z_I 3), .int x, .int (z_I dp)] M Q := by
  obtain ⟨d, rfl⟩ : ∃ e, d = e + 1 := ⟨d - 1, by omega⟩
  have hnb := ok_nb hO
  refine am_bi_of (P := am_pX5_ranFrom) (rt := 1) (nL := 7) (Nat.le_of_ble_eq_true rfl) rfl (Nat.le_of_ble_eq_true rfl) rfl rfl rfl ?_
  refine am_r_iload5 (pc' := 2) rfl rfl ?_
  refine am_r_iconst (pc' := 4) rfl rfl ?_
  refine am_r_icmp_le (pt := 9) (pf := 7) rfl rfl rfl (fun h4 => ?_) (fun h4 => ?_)
  · refine am_r_iload1 (pc' := 10) rfl rfl ?_
    refine am_r_iload3 (pc' := 11) rfl rfl ?_
    refine am_r_ivsI2 (pc' := 14) rfl rfl rfl (Nat.le_of_ble_eq_true rfl) (c_codeFrom (by omega) (by omega) (by omega) ?_)
    rw [show o_cf 3 8 0 = 2 by decide +kernel]
    refine am_r_istore6 (pc' := 16) rfl rfl rfl ?_
    refine am_r_aload0 (pc' := 17) rfl rfl ?_
    refine am_r_iload6 (pc' := 19) rfl rfl ?_
    refine am_r_invV1 (pc' := 22) rfl rfl rfl (Nat.le_of_ble_eq_true rfl) (c_note (by omega) hO (by omega) ?_)
    · intro M2 hf2 hO2
      have hl2 : (l ++ [(2 : Int)]).length = l.length + 1 := by simp
      refine am_r_iload3 (pc' := 23) rfl rfl ?_
      refine am_r_tsw (t := 90) rfl rfl ?_
      refine am_r_aload0 (pc' := 91) rfl rfl ?_
      refine am_r_iload6 (pc' := 93) rfl rfl ?_
      refine am_r_iload2 (pc' := 94) rfl rfl ?_
      refine am_r_iload4 (pc' := 96) rfl rfl ?_
      refine am_r_iload5 (pc' := 98) rfl rfl ?_
      refine am_r_iconst (pc' := 99) rfl rfl ?_
      refine am_r_iadd (pc' := 100) rfl rfl ?_
      refine am_r_invI4 (pc' := 103) rfl rfl rfl (Nat.le_of_ble_eq_true rfl) (c_b2 (by omega) hO2 hm (by omega) (by omega) ?_)
      · intro M4 hf4 hO4
        refine am_r_iret rfl rfl ?_
        exact hq M4 (am_fr_tr (lo := 50) (hi := 52) hf2 hf4 (by omega) (by omega)) (ok_as hO4)
  · exfalso; omega
theorem c_r3_1 {sL : Nat} {xs : Nat → Int32} {d : Nat} {M : Am_M} {Q : Int32 → Am_M → Prop} (hd : 18 ≤ d) {κ : Int → Int} {n : Int} {l : List Int} (hO : OK M κ n l) {m : Int} {x : Int32} {dp : Int} (hm : 0 ≤ m ∧ m < n) (hl : l.length ≤ 690) (hdp : 0 ≤ dp ∧ dp ≤ 32) (hq : ∀ M', am_fr 50 52 M M' → OK M' κ n (l ++ (o_t 1 (κ m) m x).2) → Q (o_t 1 (κ m) m x).1 M') : am_bi sL xs d 49 [.ref 50, .int (z_I 1), .int (z_I m), .int (z_I 3), .int x, .int (z_I dp)] M Q := by
  obtain ⟨d, rfl⟩ : ∃ e, d = e + 1 := ⟨d - 1, by omega⟩
  have hnb := ok_nb hO
  refine am_bi_of (P := am_pX5_ranFrom) (rt := 1) (nL := 7) (Nat.le_of_ble_eq_true rfl) rfl (Nat.le_of_ble_eq_true rfl) rfl rfl rfl ?_
  refine am_r_iload5 (pc' := 2) rfl rfl ?_
  refine am_r_iconst (pc' := 4) rfl rfl ?_
  refine am_r_icmp_le (pt := 9) (pf := 7) rfl rfl rfl (fun h4 => ?_) (fun h4 => ?_)
  · refine am_r_iload1 (pc' := 10) rfl rfl ?_
    refine am_r_iload3 (pc' := 11) rfl rfl ?_
    refine am_r_ivsI2 (pc' := 14) rfl rfl rfl (Nat.le_of_ble_eq_true rfl) (c_codeFrom (by omega) (by omega) (by omega) ?_)
    rw [show o_cf 3 8 1 = 2 by decide +kernel]
    refine am_r_istore6 (pc' := 16) rfl rfl rfl ?_
    refine am_r_aload0 (pc' := 17) rfl rfl ?_
    refine am_r_iload6 (pc' := 19) rfl rfl ?_
    refine am_r_invV1 (pc' := 22) rfl rfl rfl (Nat.le_of_ble_eq_true rfl) (c_note (by omega) hO (by omega) ?_)
    · intro M2 hf2 hO2
      have hl2 : (l ++ [(2 : Int)]).length = l.length + 1 := by simp
      refine am_r_iload3 (pc' := 23) rfl rfl ?_
      refine am_r_tsw (t := 90) rfl rfl ?_
      refine am_r_aload0 (pc' := 91) rfl rfl ?_
      refine am_r_iload6 (pc' := 93) rfl rfl ?_
      refine am_r_iload2 (pc' := 94) rfl rfl ?_
      refine am_r_iload4 (pc' := 96) rfl rfl ?_
      refine am_r_iload5 (pc' := 98) rfl rfl ?_
      refine am_r_iconst (pc' := 99) rfl rfl ?_
      refine am_r_iadd (pc' := 100) rfl rfl ?_
      refine am_r_invI4 (pc' := 103) rfl rfl rfl (Nat.le_of_ble_eq_true rfl) (c_b2 (by omega) hO2 hm (by omega) (by omega) ?_)
      · intro M4 hf4 hO4
        refine am_r_iret rfl rfl ?_
        exact hq M4 (am_fr_tr (lo := 50) (hi := 52) hf2 hf4 (by omega) (by omega)) (ok_as hO4)
  · exfalso; omega
theorem c_r3_2 {sL : Nat} {xs : Nat → Int32} {d : Nat} {M : Am_M} {Q : Int32 → Am_M → Prop} (hd : 18 ≤ d) {κ : Int → Int} {n : Int} {l : List Int} (hO : OK M κ n l) {m : Int} {x : Int32} {dp : Int} (hm : 0 ≤ m ∧ m < n) (hl : l.length ≤ 690) (hdp : 0 ≤ dp ∧ dp ≤ 32) (hq : ∀ M', am_fr 50 52 M M' → OK M' κ n (l ++ (o_t 2 (κ m) m x).2) → Q (o_t 2 (κ m) m x).1 M') : am_bi sL xs d 49 [.ref 50, .int (z_I 2), .int (z_I m), .int (z_I 3), .int x, .int (z_I dp)] M Q := by
  obtain ⟨d, rfl⟩ : ∃ e, d = e + 1 := ⟨d - 1, by omega⟩
  have hnb := ok_nb hO
  refine am_bi_of (P := am_pX5_ranFrom) (rt := 1) (nL := 7) (Nat.le_of_ble_eq_true rfl) rfl (Nat.le_of_ble_eq_true rfl) rfl rfl rfl ?_
  refine am_r_iload5 (pc' := 2) rfl rfl ?_
  refine am_r_iconst (pc' := 4) rfl rfl ?_
  refine am_r_icmp_le (pt := 9) (pf := 7) rfl rfl rfl (fun h4 => ?_) (fun h4 => ?_)
  · refine am_r_iload1 (pc' := 10) rfl rfl ?_
    refine am_r_iload3 (pc' := 11) rfl rfl ?_
    refine am_r_ivsI2 (pc' := 14) rfl rfl rfl (Nat.le_of_ble_eq_true rfl) (c_codeFrom (by omega) (by omega) (by omega) ?_)
    rw [show o_cf 3 8 2 = 2 by decide +kernel]
    refine am_r_istore6 (pc' := 16) rfl rfl rfl ?_
    refine am_r_aload0 (pc' := 17) rfl rfl ?_
    refine am_r_iload6 (pc' := 19) rfl rfl ?_
    refine am_r_invV1 (pc' := 22) rfl rfl rfl (Nat.le_of_ble_eq_true rfl) (c_note (by omega) hO (by omega) ?_)
    · intro M2 hf2 hO2
      have hl2 : (l ++ [(2 : Int)]).length = l.length + 1 := by simp
      refine am_r_iload3 (pc' := 23) rfl rfl ?_
      refine am_r_tsw (t := 90) rfl rfl ?_
      refine am_r_aload0 (pc' := 91) rfl rfl ?_
      refine am_r_iload6 (pc' := 93) rfl rfl ?_
      refine am_r_iload2 (pc' := 94) rfl rfl ?_
      refine am_r_iload4 (pc' := 96) rfl rfl ?_
      refine am_r_iload5 (pc' := 98) rfl rfl ?_
      refine am_r_iconst (pc' := 99) rfl rfl ?_
      refine am_r_iadd (pc' := 100) rfl rfl ?_
      refine am_r_invI4 (pc' := 103) rfl rfl rfl (Nat.le_of_ble_eq_true rfl) (c_b2 (by omega) hO2 hm (by omega) (by omega) ?_)
      · intro M4 hf4 hO4
        refine am_r_iret rfl rfl ?_
        exact hq M4 (am_fr_tr (lo := 50) (hi := 52) hf2 hf4 (by omega) (by omega)) (ok_as hO4)
  · exfalso; omega
theorem c_r3_3 {sL : Nat} {xs : Nat → Int32} {d : Nat} {M : Am_M} {Q : Int32 → Am_M → Prop} (hd : 18 ≤ d) {κ : Int → Int} {n : Int} {l : List Int} (hO : OK M κ n l) {m : Int} {x : Int32} {dp : Int} (hm : 0 ≤ m ∧ m < n) (hl : l.length ≤ 690) (hdp : 0 ≤ dp ∧ dp ≤ 32) (hq : ∀ M', am_fr 50 52 M M' → OK M' κ n (l ++ (o_t 3 (κ m) m x).2) → Q (o_t 3 (κ m) m x).1 M') : am_bi sL xs d 49 [.ref 50, .int (z_I 3), .int (z_I m), .int (z_I 3), .int x, .int (z_I dp)] M Q := by
  obtain ⟨d, rfl⟩ : ∃ e, d = e + 1 := ⟨d - 1, by omega⟩
  have hnb := ok_nb hO
  refine am_bi_of (P := am_pX5_ranFrom) (rt := 1) (nL := 7) (Nat.le_of_ble_eq_true rfl) rfl (Nat.le_of_ble_eq_true rfl) rfl rfl rfl ?_
  refine am_r_iload5 (pc' := 2) rfl rfl ?_
  refine am_r_iconst (pc' := 4) rfl rfl ?_
  refine am_r_icmp_le (pt := 9) (pf := 7) rfl rfl rfl (fun h4 => ?_) (fun h4 => ?_)
  · refine am_r_iload1 (pc' := 10) rfl rfl ?_
    refine am_r_iload3 (pc' := 11) rfl rfl ?_
    refine am_r_ivsI2 (pc' := 14) rfl rfl rfl (Nat.le_of_ble_eq_true rfl) (c_codeFrom (by omega) (by omega) (by omega) ?_)
    rw [show o_cf 3 8 3 = 2 by decide +kernel]
    refine am_r_istore6 (pc' := 16) rfl rfl rfl ?_
    refine am_r_aload0 (pc' := 17) rfl rfl ?_
    refine am_r_iload6 (pc' := 19) rfl rfl ?_
    refine am_r_invV1 (pc' := 22) rfl rfl rfl (Nat.le_of_ble_eq_true rfl) (c_note (by omega) hO (by omega) ?_)
    · intro M2 hf2 hO2
      have hl2 : (l ++ [(2 : Int)]).length = l.length + 1 := by simp
      refine am_r_iload3 (pc' := 23) rfl rfl ?_
      refine am_r_tsw (t := 90) rfl rfl ?_
      refine am_r_aload0 (pc' := 91) rfl rfl ?_
      refine am_r_iload6 (pc' := 93) rfl rfl ?_
      refine am_r_iload2 (pc' := 94) rfl rfl ?_
      refine am_r_iload4 (pc' := 96) rfl rfl ?_
      refine am_r_iload5 (pc' := 98) rfl rfl ?_
      refine am_r_iconst (pc' := 99) rfl rfl ?_
      refine am_r_iadd (pc' := 100) rfl rfl ?_
      refine am_r_invI4 (pc' := 103) rfl rfl rfl (Nat.le_of_ble_eq_true rfl) (c_b2 (by omega) hO2 hm (by omega) (by omega) ?_)
      · intro M4 hf4 hO4
        refine am_r_iret rfl rfl ?_
        exact hq M4 (am_fr_tr (lo := 50) (hi := 52) hf2 hf4 (by omega) (by omega)) (ok_as hO4)
  · exfalso; omega
theorem c_r3_4 {sL : Nat} {xs : Nat → Int32} {d : Nat} {M : Am_M} {Q : Int32 → Am_M → Prop} (hd : 18 ≤ d) {κ : Int → Int} {n : Int} {l : List Int} (hO : OK M κ n l) {m : Int} {x : Int32} {dp : Int} (hm : 0 ≤ m ∧ m < n) (hl : l.length ≤ 690) (hdp : 0 ≤ dp ∧ dp ≤ 32) (hq : ∀ M', am_fr 50 52 M M' → OK M' κ n (l ++ (o_t 4 (κ m) m x).2) → Q (o_t 4 (κ m) m x).1 M') : am_bi sL xs d 49 [.ref 50, .int (z_I 4), .int (z_I m), .int (z_I 3), .int x, .int (z_I dp)] M Q := by
  obtain ⟨d, rfl⟩ : ∃ e, d = e + 1 := ⟨d - 1, by omega⟩
  have hnb := ok_nb hO
  refine am_bi_of (P := am_pX5_ranFrom) (rt := 1) (nL := 7) (Nat.le_of_ble_eq_true rfl) rfl (Nat.le_of_ble_eq_true rfl) rfl rfl rfl ?_
  refine am_r_iload5 (pc' := 2) rfl rfl ?_
  refine am_r_iconst (pc' := 4) rfl rfl ?_
  refine am_r_icmp_le (pt := 9) (pf := 7) rfl rfl rfl (fun h4 => ?_) (fun h4 => ?_)
  · refine am_r_iload1 (pc' := 10) rfl rfl ?_
    refine am_r_iload3 (pc' := 11) rfl rfl ?_
    refine am_r_ivsI2 (pc' := 14) rfl rfl rfl (Nat.le_of_ble_eq_true rfl) (c_codeFrom (by omega) (by omega) (by omega) ?_)
    rw [show o_cf 3 8 4 = 2 by decide +kernel]
    refine am_r_istore6 (pc' := 16) rfl rfl rfl ?_
    refine am_r_aload0 (pc' := 17) rfl rfl ?_
    refine am_r_iload6 (pc' := 19) rfl rfl ?_
    refine am_r_invV1 (pc' := 22) rfl rfl rfl (Nat.le_of_ble_eq_true rfl) (c_note (by omega) hO (by omega) ?_)
    · intro M2 hf2 hO2
      have hl2 : (l ++ [(2 : Int)]).length = l.length + 1 := by simp
      refine am_r_iload3 (pc' := 23) rfl rfl ?_
      refine am_r_tsw (t := 90) rfl rfl ?_
      refine am_r_aload0 (pc' := 91) rfl rfl ?_
      refine am_r_iload6 (pc' := 93) rfl rfl ?_
      refine am_r_iload2 (pc' := 94) rfl rfl ?_
      refine am_r_iload4 (pc' := 96) rfl rfl ?_
      refine am_r_iload5 (pc' := 98) rfl rfl ?_
      refine am_r_iconst (pc' := 99) rfl rfl ?_
      refine am_r_iadd (pc' := 100) rfl rfl ?_
      refine am_r_invI4 (pc' := 103) rfl rfl rfl (Nat.le_of_ble_eq_true rfl) (c_b2 (by omega) hO2 hm (by omega) (by omega) ?_)
      · intro M4 hf4 hO4
        refine am_r_iret rfl rfl ?_
        exact hq M4 (am_fr_tr (lo := 50) (hi := 52) hf2 hf4 (by omega) (by omega)) (ok_as hO4)
  · exfalso; omega
theorem c_r3_6 {sL : Nat} {xs : Nat → Int32} {d : Nat} {M : Am_M} {Q : Int32 → Am_M → Prop} (hd : 18 ≤ d) {κ : Int → Int} {n : Int} {l : List Int} (hO : OK M κ n l) {m : Int} {x : Int32} {dp : Int} (hm : 0 ≤ m ∧ m < n) (hl : l.length ≤ 690) (hdp : 0 ≤ dp ∧ dp ≤ 32) (hq : ∀ M', am_fr 50 52 M M' → OK M' κ n (l ++ (o_t 6 (κ m) m x).2) → Q (o_t 6 (κ m) m x).1 M') : am_bi sL xs d 49 [.ref 50, .int (z_I 6), .int (z_I m), .int (z_I 3), .int x, .int (z_I dp)] M Q := by
  obtain ⟨d, rfl⟩ : ∃ e, d = e + 1 := ⟨d - 1, by omega⟩
  have hnb := ok_nb hO
  refine am_bi_of (P := am_pX5_ranFrom) (rt := 1) (nL := 7) (Nat.le_of_ble_eq_true rfl) rfl (Nat.le_of_ble_eq_true rfl) rfl rfl rfl ?_
  refine am_r_iload5 (pc' := 2) rfl rfl ?_
  refine am_r_iconst (pc' := 4) rfl rfl ?_
  refine am_r_icmp_le (pt := 9) (pf := 7) rfl rfl rfl (fun h4 => ?_) (fun h4 => ?_)
  · refine am_r_iload1 (pc' := 10) rfl rfl ?_
    refine am_r_iload3 (pc' := 11) rfl rfl ?_
    refine am_r_ivsI2 (pc' := 14) rfl rfl rfl (Nat.le_of_ble_eq_true rfl) (c_codeFrom (by omega) (by omega) (by omega) ?_)
    rw [show o_cf 3 8 6 = 2 by decide +kernel]
    refine am_r_istore6 (pc' := 16) rfl rfl rfl ?_
    refine am_r_aload0 (pc' := 17) rfl rfl ?_
    refine am_r_iload6 (pc' := 19) rfl rfl ?_
    refine am_r_invV1 (pc' := 22) rfl rfl rfl (Nat.le_of_ble_eq_true rfl) (c_note (by omega) hO (by omega) ?_)
    · intro M2 hf2 hO2
      have hl2 : (l ++ [(2 : Int)]).length = l.length + 1 := by simp
      refine am_r_iload3 (pc' := 23) rfl rfl ?_
      refine am_r_tsw (t := 90) rfl rfl ?_
      refine am_r_aload0 (pc' := 91) rfl rfl ?_
      refine am_r_iload6 (pc' := 93) rfl rfl ?_
      refine am_r_iload2 (pc' := 94) rfl rfl ?_
      refine am_r_iload4 (pc' := 96) rfl rfl ?_
      refine am_r_iload5 (pc' := 98) rfl rfl ?_
      refine am_r_iconst (pc' := 99) rfl rfl ?_
      refine am_r_iadd (pc' := 100) rfl rfl ?_
      refine am_r_invI4 (pc' := 103) rfl rfl rfl (Nat.le_of_ble_eq_true rfl) (c_b2 (by omega) hO2 hm (by omega) (by omega) ?_)
      · intro M4 hf4 hO4
        refine am_r_iret rfl rfl ?_
        exact hq M4 (am_fr_tr (lo := 50) (hi := 52) hf2 hf4 (by omega) (by omega)) (ok_as hO4)
  · exfalso; omega
theorem c_u3_5 {sL : Nat} {xs : Nat → Int32} {d : Nat} {M : Am_M} {Q : Int32 → Am_M → Prop} (hd : 19 ≤ d) {κ : Int → Int} {n : Int} {l : List Int} (hO : OK M κ n l) {m : Int} {x : Int32} {dp : Int} (hm : 0 ≤ m ∧ m < n) (hl : l.length ≤ 680) (hdp : 0 ≤ dp ∧ dp ≤ 32) (hq : ∀ M', am_fr 50 52 M M' → OK M' κ n (l ++ (o_t 3 (κ m) m x).2) → Q (o_t 3 (κ m) m x).1 M') : am_bi sL xs d 48 [.ref 50, .int (z_I 5), .int (z_I m), .int (z_I 3), .int x, .int (z_I dp)] M Q := by
  obtain ⟨d, rfl⟩ : ∃ e, d = e + 1 := ⟨d - 1, by omega⟩
  refine am_bi_of (P := am_pX5_above) (rt := 1) (nL := 6) (Nat.le_of_ble_eq_true rfl) rfl (Nat.le_of_ble_eq_true rfl) rfl rfl rfl ?_
  refine am_r_aload0 (pc' := 1) rfl rfl ?_
  refine am_r_gets (pc' := 4) rfl rfl ?_
  refine am_r_iload1 (pc' := 5) rfl rfl ?_
  refine am_r_stA (pc' := 6) rfl rfl (show _ = z_I 3 by decide +kernel) ?_
  refine am_r_iload2 (pc' := 7) rfl rfl ?_
  refine am_r_iload3 (pc' := 8) rfl rfl ?_
  refine am_r_iload4 (pc' := 10) rfl rfl ?_
  refine am_r_iload5 (pc' := 12) rfl rfl ?_
  refine am_r_invI5 (pc' := 15) rfl rfl rfl (Nat.le_of_ble_eq_true rfl) (c_r3_3 (by omega) hO hm (by omega) (by omega) ?_)
  · intro M4 hf4 hO4
    refine am_r_iret rfl rfl ?_
    exact hq M4 hf4 hO4
theorem c_u3_7 {sL : Nat} {xs : Nat → Int32} {d : Nat} {M : Am_M} {Q : Int32 → Am_M → Prop} (hd : 19 ≤ d) {κ : Int → Int} {n : Int} {l : List Int} (hO : OK M κ n l) {m : Int} {x : Int32} {dp : Int} (hm : 0 ≤ m ∧ m < n) (hl : l.length ≤ 680) (hdp : 0 ≤ dp ∧ dp ≤ 32) (hq : ∀ M', am_fr 50 52 M M' → OK M' κ n (l ++ (o_t 4 (κ m) m x).2) → Q (o_t 4 (κ m) m x).1 M') : am_bi sL xs d 48 [.ref 50, .int (z_I 7), .int (z_I m), .int (z_I 3), .int x, .int (z_I dp)] M Q := by
  obtain ⟨d, rfl⟩ : ∃ e, d = e + 1 := ⟨d - 1, by omega⟩
  refine am_bi_of (P := am_pX5_above) (rt := 1) (nL := 6) (Nat.le_of_ble_eq_true rfl) rfl (Nat.le_of_ble_eq_true rfl) rfl rfl rfl ?_
  refine am_r_aload0 (pc' := 1) rfl rfl ?_
  refine am_r_gets (pc' := 4) rfl rfl ?_
  refine am_r_iload1 (pc' := 5) rfl rfl ?_
  refine am_r_stA (pc' := 6) rfl rfl (show _ = z_I 4 by decide +kernel) ?_
  refine am_r_iload2 (pc' := 7) rfl rfl ?_
  refine am_r_iload3 (pc' := 8) rfl rfl ?_
  refine am_r_iload4 (pc' := 10) rfl rfl ?_
  refine am_r_iload5 (pc' := 12) rfl rfl ?_
  refine am_r_invI5 (pc' := 15) rfl rfl rfl (Nat.le_of_ble_eq_true rfl) (c_r3_4 (by omega) hO hm (by omega) (by omega) ?_)
  · intro M4 hf4 hO4
    refine am_r_iret rfl rfl ?_
    exact hq M4 hf4 hO4
theorem c_b60 {sL : Nat} {xs : Nat → Int32} {d : Nat} {M : Am_M} {Q : Int32 → Am_M → Prop} (hd : 20 ≤ d) {κ : Int → Int} {n : Int} {l : List Int} (hO : OK M κ n l) {m : Int} {x : Int32} {dp : Int} (hm : 0 ≤ m ∧ m < n) (hl : l.length ≤ 670) (hdp : 0 ≤ dp ∧ dp ≤ 32) (hq : ∀ M', am_fr 50 52 M M' → OK M' κ n (l ++ (o_t0 (κ m) m x).2) → Q ((o_t0 (κ m) m x).1 ^^^ z_I 5) M') : am_bi sL xs d 55 [.ref 50, .int (z_I 60), .int (z_I m), .int x, .int (z_I dp)] M Q := by
  obtain ⟨d, rfl⟩ : ∃ e, d = e + 1 := ⟨d - 1, by omega⟩
  have hnb := ok_nb hO
  refine am_bi_of (P := am_pX5_telling) (rt := 1) (nL := 5) (Nat.le_of_ble_eq_true rfl) rfl (Nat.le_of_ble_eq_true rfl) rfl rfl rfl ?_
  refine am_r_iload1 (pc' := 1) rfl rfl ?_
  refine am_r_lsw (t := 28) rfl rfl ?_
  refine am_r_aload0 (pc' := 29) rfl rfl ?_
  refine am_r_iconst (pc' := 30) rfl rfl ?_
  refine am_r_iload2 (pc' := 31) rfl rfl ?_
  refine am_r_iconst (pc' := 32) rfl rfl ?_
  refine am_r_iload3 (pc' := 33) rfl rfl ?_
  refine am_r_iload4 (pc' := 35) rfl rfl ?_
  refine am_r_invI5 (pc' := 38) rfl rfl rfl (Nat.le_of_ble_eq_true rfl) (c_u3_5 (by omega) hO hm (by omega) (by omega) ?_)
  · intro M4 hf4 hO4
    refine am_r_iconst (pc' := 39) rfl rfl ?_
    refine am_r_ixorR (pc' := 40) rfl rfl ?_
    refine am_r_iret rfl rfl ?_
    exact hq M4 hf4 hO4
theorem c_b81 {sL : Nat} {xs : Nat → Int32} {d : Nat} {M : Am_M} {Q : Int32 → Am_M → Prop} (hd : 20 ≤ d) {κ : Int → Int} {n : Int} {l : List Int} (hO : OK M κ n l) {m : Int} {x : Int32} {dp : Int} (hm : 0 ≤ m ∧ m < n) (hl : l.length ≤ 670) (hdp : 0 ≤ dp ∧ dp ≤ 32) (hq : ∀ M', am_fr 50 52 M M' → OK M' κ n (l ++ (o_t0 (κ m) m x).2) → Q ((o_t0 (κ m) m x).1 - z_I 1) M') : am_bi sL xs d 55 [.ref 50, .int (z_I 81), .int (z_I m), .int x, .int (z_I dp)] M Q := by
  obtain ⟨d, rfl⟩ : ∃ e, d = e + 1 := ⟨d - 1, by omega⟩
  have hnb := ok_nb hO
  refine am_bi_of (P := am_pX5_telling) (rt := 1) (nL := 5) (Nat.le_of_ble_eq_true rfl) rfl (Nat.le_of_ble_eq_true rfl) rfl rfl rfl ?_
  refine am_r_iload1 (pc' := 1) rfl rfl ?_
  refine am_r_lsw (t := 41) rfl rfl ?_
  refine am_r_aload0 (pc' := 42) rfl rfl ?_
  refine am_r_iconst (pc' := 44) rfl rfl ?_
  refine am_r_iload2 (pc' := 45) rfl rfl ?_
  refine am_r_iconst (pc' := 46) rfl rfl ?_
  refine am_r_iload3 (pc' := 47) rfl rfl ?_
  refine am_r_iload4 (pc' := 49) rfl rfl ?_
  refine am_r_invI5 (pc' := 52) rfl rfl rfl (Nat.le_of_ble_eq_true rfl) (c_u3_7 (by omega) hO hm (by omega) (by omega) ?_)
  · intro M4 hf4 hO4
    refine am_r_iconst (pc' := 53) rfl rfl ?_
    refine am_r_isubR (pc' := 54) rfl rfl ?_
    refine am_r_iret rfl rfl ?_
    exact hq M4 hf4 hO4
theorem c_r3_5 {sL : Nat} {xs : Nat → Int32} {d : Nat} {M : Am_M} {Q : Int32 → Am_M → Prop} (hd : 21 ≤ d) {κ : Int → Int} {n : Int} {l : List Int} (hO : OK M κ n l) {m : Int} {x : Int32} {dp : Int} (hm : 0 ≤ m ∧ m < n) (hl : l.length ≤ 660) (hdp : 0 ≤ dp ∧ dp ≤ 31) (hq : ∀ M', am_fr 50 52 M M' → OK M' κ n (l ++ (o_t 5 (κ m) m x).2) → Q (o_t 5 (κ m) m x).1 M') : am_bi sL xs d 49 [.ref 50, .int (z_I 5), .int (z_I m), .int (z_I 3), .int x, .int (z_I dp)] M Q := by
  obtain ⟨d, rfl⟩ : ∃ e, d = e + 1 := ⟨d - 1, by omega⟩
  have hnb := ok_nb hO
  refine am_bi_of (P := am_pX5_ranFrom) (rt := 1) (nL := 7) (Nat.le_of_ble_eq_true rfl) rfl (Nat.le_of_ble_eq_true rfl) rfl rfl rfl ?_
  refine am_r_iload5 (pc' := 2) rfl rfl ?_
  refine am_r_iconst (pc' := 4) rfl rfl ?_
  refine am_r_icmp_le (pt := 9) (pf := 7) rfl rfl rfl (fun h4 => ?_) (fun h4 => ?_)
  · refine am_r_iload1 (pc' := 10) rfl rfl ?_
    refine am_r_iload3 (pc' := 11) rfl rfl ?_
    refine am_r_ivsI2 (pc' := 14) rfl rfl rfl (Nat.le_of_ble_eq_true rfl) (c_codeFrom (by omega) (by omega) (by omega) ?_)
    rw [show o_cf 3 8 5 = 60 by decide +kernel]
    refine am_r_istore6 (pc' := 16) rfl rfl rfl ?_
    refine am_r_aload0 (pc' := 17) rfl rfl ?_
    refine am_r_iload6 (pc' := 19) rfl rfl ?_
    refine am_r_invV1 (pc' := 22) rfl rfl rfl (Nat.le_of_ble_eq_true rfl) (c_note (by omega) hO (by omega) ?_)
    · intro M2 hf2 hO2
      have hl2 : (l ++ [(60 : Int)]).length = l.length + 1 := by simp
      refine am_r_iload3 (pc' := 23) rfl rfl ?_
      refine am_r_tsw (t := 90) rfl rfl ?_
      refine am_r_aload0 (pc' := 91) rfl rfl ?_
      refine am_r_iload6 (pc' := 93) rfl rfl ?_
      refine am_r_iload2 (pc' := 94) rfl rfl ?_
      refine am_r_iload4 (pc' := 96) rfl rfl ?_
      refine am_r_iload5 (pc' := 98) rfl rfl ?_
      refine am_r_iconst (pc' := 99) rfl rfl ?_
      refine am_r_iadd (pc' := 100) rfl rfl ?_
      refine am_r_invI4 (pc' := 103) rfl rfl rfl (Nat.le_of_ble_eq_true rfl) (c_b60 (by omega) hO2 hm (by omega) (by omega) ?_)
      · intro M4 hf4 hO4
        refine am_r_iret rfl rfl ?_
        exact hq M4 (am_fr_tr (lo := 50) (hi := 52) hf2 hf4 (by omega) (by omega)) (ok_as hO4)
  · exfalso; omega
theorem c_r3_7 {sL : Nat} {xs : Nat → Int32} {d : Nat} {M : Am_M} {Q : Int32 → Am_M → Prop} (hd : 21 ≤ d) {κ : Int → Int} {n : Int} {l : List Int} (hO : OK M κ n l) {m : Int} {x : Int32} {dp : Int} (hm : 0 ≤ m ∧ m < n) (hl : l.length ≤ 660) (hdp : 0 ≤ dp ∧ dp ≤ 31) (hq : ∀ M', am_fr 50 52 M M' → OK M' κ n (l ++ (o_t 7 (κ m) m x).2) → Q (o_t 7 (κ m) m x).1 M') : am_bi sL xs d 49 [.ref 50, .int (z_I 7), .int (z_I m), .int (z_I 3), .int x, .int (z_I dp)] M Q := by
  obtain ⟨d, rfl⟩ : ∃ e, d = e + 1 := ⟨d - 1, by omega⟩
  have hnb := ok_nb hO
  refine am_bi_of (P := am_pX5_ranFrom) (rt := 1) (nL := 7) (Nat.le_of_ble_eq_true rfl) rfl (Nat.le_of_ble_eq_true rfl) rfl rfl rfl ?_
  refine am_r_iload5 (pc' := 2) rfl rfl ?_
  refine am_r_iconst (pc' := 4) rfl rfl ?_
  refine am_r_icmp_le (pt := 9) (pf := 7) rfl rfl rfl (fun h4 => ?_) (fun h4 => ?_)
  · refine am_r_iload1 (pc' := 10) rfl rfl ?_
    refine am_r_iload3 (pc' := 11) rfl rfl ?_
    refine am_r_ivsI2 (pc' := 14) rfl rfl rfl (Nat.le_of_ble_eq_true rfl) (c_codeFrom (by omega) (by omega) (by omega) ?_)
    rw [show o_cf 3 8 7 = 81 by decide +kernel]
    refine am_r_istore6 (pc' := 16) rfl rfl rfl ?_
    refine am_r_aload0 (pc' := 17) rfl rfl ?_
    refine am_r_iload6 (pc' := 19) rfl rfl ?_
    refine am_r_invV1 (pc' := 22) rfl rfl rfl (Nat.le_of_ble_eq_true rfl) (c_note (by omega) hO (by omega) ?_)
    · intro M2 hf2 hO2
      have hl2 : (l ++ [(81 : Int)]).length = l.length + 1 := by simp
      refine am_r_iload3 (pc' := 23) rfl rfl ?_
      refine am_r_tsw (t := 90) rfl rfl ?_
      refine am_r_aload0 (pc' := 91) rfl rfl ?_
      refine am_r_iload6 (pc' := 93) rfl rfl ?_
      refine am_r_iload2 (pc' := 94) rfl rfl ?_
      refine am_r_iload4 (pc' := 96) rfl rfl ?_
      refine am_r_iload5 (pc' := 98) rfl rfl ?_
      refine am_r_iconst (pc' := 99) rfl rfl ?_
      refine am_r_iadd (pc' := 100) rfl rfl ?_
      refine am_r_invI4 (pc' := 103) rfl rfl rfl (Nat.le_of_ble_eq_true rfl) (c_b81 (by omega) hO2 hm (by omega) (by omega) ?_)
      · intro M4 hf4 hO4
        refine am_r_iret rfl rfl ?_
        exact hq M4 (am_fr_tr (lo := 50) (hi := 52) hf2 hf4 (by omega) (by omega)) (ok_as hO4)
  · exfalso; omega
theorem c_own3 {sL : Nat} {xs : Nat → Int32} {d : Nat} {M : Am_M} {Q : Int32 → Am_M → Prop} (hd : 22 ≤ d) {κ : Int → Int} {n : Int} {l : List Int} (hO : OK M κ n l) {m : Int} {x : Int32} {dp : Int} (hm : 0 ≤ m ∧ m < n) (hl : l.length ≤ 660) (hdp : 0 ≤ dp ∧ dp ≤ 31) (hq : ∀ M', am_fr 50 52 M M' → OK M' κ n (l ++ (o_t (κ m) (κ m) m x).2) → Q (o_t (κ m) (κ m) m x).1 M') : am_bi sL xs d 47 [.ref 50, .int (z_I m), .int (z_I 3), .int x, .int (z_I dp)] M Q := by
  obtain ⟨d, rfl⟩ : ∃ e, d = e + 1 := ⟨d - 1, by omega⟩
  have hkb := ok_kb hO hm
  have hkv := ok_k hO hm
  have hnb := ok_nb hO
  refine am_bi_of (P := am_pX5_own) (rt := 1) (nL := 5) (Nat.le_of_ble_eq_true rfl) rfl (Nat.le_of_ble_eq_true rfl) rfl rfl rfl ?_
  have hgo : am_bi sL xs d 49 [.ref 50, .int (z_I (κ m)), .int (z_I m), .int (z_I 3), .int x, .int (z_I dp)] M Q := by
    rcases (show κ m = 0 ∨ κ m = 1 ∨ κ m = 2 ∨ κ m = 3 ∨ κ m = 4 ∨ κ m = 5 ∨ κ m = 6 ∨ κ m = 7 by omega) with hk | hk | hk | hk | hk | hk | hk | hk
    · rw [hk]
      refine c_r3_0 (by omega) hO hm (by omega) (by omega) ?_
      intro M4 hf4 hO4
      have e : (o_t (κ m) (κ m) m x) = (o_t 0 (κ m) m x) := congrArg (fun k => (o_t k (κ m) m x)) hk
      rw [e] at hq
      exact hq M4 hf4 hO4
    · rw [hk]
      refine c_r3_1 (by omega) hO hm (by omega) (by omega) ?_
      intro M4 hf4 hO4
      have e : (o_t (κ m) (κ m) m x) = (o_t 1 (κ m) m x) := congrArg (fun k => (o_t k (κ m) m x)) hk
      rw [e] at hq
      exact hq M4 hf4 hO4
    · rw [hk]
      refine c_r3_2 (by omega) hO hm (by omega) (by omega) ?_
      intro M4 hf4 hO4
      have e : (o_t (κ m) (κ m) m x) = (o_t 2 (κ m) m x) := congrArg (fun k => (o_t k (κ m) m x)) hk
      rw [e] at hq
      exact hq M4 hf4 hO4
    · rw [hk]
      refine c_r3_3 (by omega) hO hm (by omega) (by omega) ?_
      intro M4 hf4 hO4
      have e : (o_t (κ m) (κ m) m x) = (o_t 3 (κ m) m x) := congrArg (fun k => (o_t k (κ m) m x)) hk
      rw [e] at hq
      exact hq M4 hf4 hO4
    · rw [hk]
      refine c_r3_4 (by omega) hO hm (by omega) (by omega) ?_
      intro M4 hf4 hO4
      have e : (o_t (κ m) (κ m) m x) = (o_t 4 (κ m) m x) := congrArg (fun k => (o_t k (κ m) m x)) hk
      rw [e] at hq
      exact hq M4 hf4 hO4
    · rw [hk]
      refine c_r3_5 (by omega) hO hm (by omega) (by omega) ?_
      intro M4 hf4 hO4
      have e : (o_t (κ m) (κ m) m x) = (o_t 5 (κ m) m x) := congrArg (fun k => (o_t k (κ m) m x)) hk
      rw [e] at hq
      exact hq M4 hf4 hO4
    · rw [hk]
      refine c_r3_6 (by omega) hO hm (by omega) (by omega) ?_
      intro M4 hf4 hO4
      have e : (o_t (κ m) (κ m) m x) = (o_t 6 (κ m) m x) := congrArg (fun k => (o_t k (κ m) m x)) hk
      rw [e] at hq
      exact hq M4 hf4 hO4
    · rw [hk]
      refine c_r3_7 (by omega) hO hm (by omega) (by omega) ?_
      intro M4 hf4 hO4
      have e : (o_t (κ m) (κ m) m x) = (o_t 7 (κ m) m x) := congrArg (fun k => (o_t k (κ m) m x)) hk
      rw [e] at hq
      exact hq M4 hf4 hO4
  refine am_r_aload0 (pc' := 1) rfl rfl ?_
  refine am_r_aload0 (pc' := 2) rfl rfl ?_
  refine am_r_getR (t := 51) (pc' := 5) rfl rfl rfl ?_
  refine am_r_iload1 (pc' := 6) rfl rfl ?_
  refine am_r_iaZv (n := 50) (pc' := 7) rfl rfl rfl (by decide) (hkv) ?_
  refine am_r_iload1 (pc' := 8) rfl rfl ?_
  refine am_r_iload2 (pc' := 9) rfl rfl ?_
  refine am_r_iload3 (pc' := 10) rfl rfl ?_
  refine am_r_iload4 (pc' := 12) rfl rfl ?_
  refine am_r_invI5 (pc' := 15) rfl rfl rfl (Nat.le_of_ble_eq_true rfl) (am_bi_mono hgo ?_)
  · intro x4 M4 h4
    refine am_r_iret rfl rfl ?_
    exact h4
def r_act (κ : Int → Int) (n m w : Int) (x : Int32) : Int32 := if (0 ≤ m ∧ m < n) ∧ 0 ≤ w ∧ w ≤ 3 then (o_a w (κ m) m x).1 else z_I 0
def t_act (κ : Int → Int) (n m w : Int) (x : Int32) : List Int := if (0 ≤ m ∧ m < n) ∧ 0 ≤ w ∧ w ≤ 3 then (o_a w (κ m) m x).2 else []
theorem ok_0 {M : Am_M} {κ : Int → Int} {n : Int} {l : List Int} (h : OK M κ n l) : OK (am_upI M 50 3 (z_I 0)) κ n [] := by
  obtain ⟨h1, h2, h3, h4, h5, h6⟩ := h
  refine ⟨h1, h2, ?_, fun i hi => ?_, ?_, fun i x hi e => ?_⟩
  · simp [am_upI, h3]
  · have := h4 i hi
    simpa [am_upI] using this
  · simp [am_upI]
  · simp at e
theorem c_acted {sL : Nat} {xs : Nat → Int32} {d : Nat} {M : Am_M} {Q : Int32 → Am_M → Prop} (hd : 23 ≤ d) {κ : Int → Int} {n : Int} {l : List Int} (hO : OK M κ n l) {m : Int} (hm : -2147483648 ≤ m ∧ m < 2147483648) {w : Int} (hw : -2147483648 ≤ w ∧ w < 2147483648) {x : Int32} (hq : ∀ M', am_fr 50 52 M M' → OK M' κ n (t_act κ n m w x) → Q (r_act κ n m w x) M') : am_bi sL xs d 46 [.ref 50, .int (z_I m), .int (z_I w), .int x] M Q := by
  obtain ⟨d, rfl⟩ : ∃ e, d = e + 1 := ⟨d - 1, by omega⟩
  have hO := ok_0 hO
  have hnb := ok_nb hO
  refine am_bi_of (P := am_pX5_acted) (rt := 1) (nL := 4) (Nat.le_of_ble_eq_true rfl) rfl (Nat.le_of_ble_eq_true rfl) rfl rfl rfl ?_
  refine am_r_aload0 (pc' := 1) rfl rfl ?_
  refine am_r_iconst (pc' := 2) rfl rfl ?_
  refine am_r_putI (f := 3) (pc' := 5) rfl rfl rfl (by decide) ?_
  refine am_r_aload0 (pc' := 6) rfl rfl ?_
  refine am_r_iload1 (pc' := 7) rfl rfl ?_
  refine am_r_invI1 (pc' := 10) rfl rfl rfl (Nat.le_of_ble_eq_true rfl) (c_hasMood (by omega) hO (by omega) ?_)
  refine am_r_if_eqB (pt := 22) (pf := 13) rfl rfl rfl (fun h10 => ?_) (fun h10 => ?_)
  · refine am_r_iconst (pc' := 23) rfl rfl ?_
    refine am_r_iret rfl rfl ?_
    rw [show r_act κ n m w x = z_I 0 from if_neg (by omega), show t_act κ n m w x = [] from if_neg (by omega)] at hq
    exact hq _ (am_fr_upI (am_fr_rf 50 52 M) (by omega)) hO
  · refine am_r_iload2 (pc' := 14) rfl rfl ?_
    refine am_r_if_lt (pt := 22) (pf := 17) rfl rfl rfl (fun h14 => ?_) (fun h14 => ?_)
    · refine am_r_iconst (pc' := 23) rfl rfl ?_
      refine am_r_iret rfl rfl ?_
      rw [show r_act κ n m w x = z_I 0 from if_neg (by omega), show t_act κ n m w x = [] from if_neg (by omega)] at hq
      exact hq _ (am_fr_upI (am_fr_rf 50 52 M) (by omega)) hO
    · refine am_r_iload2 (pc' := 18) rfl rfl ?_
      refine am_r_iconst (pc' := 19) rfl rfl ?_
      refine am_r_icmp_lt (pt := 24) (pf := 22) rfl rfl rfl (fun h19 => ?_) (fun h19 => ?_)
      · refine am_r_aload0 (pc' := 25) rfl rfl ?_
        refine am_r_iload1 (pc' := 26) rfl rfl ?_
        refine am_r_iload2 (pc' := 27) rfl rfl ?_
        refine am_r_iload3 (pc' := 28) rfl rfl ?_
        refine am_r_iconst (pc' := 29) rfl rfl ?_
        rcases (show w = 0 ∨ w = 1 ∨ w = 2 ∨ w = 3 by omega) with rfl | rfl | rfl | rfl
        · rw [show r_act κ n m 0 x = (o_a 0 (κ m) m x).1 from if_pos (by omega), show t_act κ n m 0 x = (o_a 0 (κ m) m x).2 from if_pos (by omega)] at hq
          refine am_r_invI4 (pc' := 32) rfl rfl rfl (Nat.le_of_ble_eq_true rfl) ?_
          refine am_bi_mono (c_own0 (Q := Q) (by omega) hO (by omega) (by simp) (by omega) (fun M4 hf4 hO4 => ?_)) (fun x4 M4 h4 => ?_)
          · exact hq M4 (am_fr_tr (lo := 50) (hi := 52) (am_fr_upI (am_fr_rf 50 52 M) (by omega)) hf4 (by omega) (by omega)) hO4
          · refine am_r_iret rfl rfl ?_
            exact h4
        · rw [show r_act κ n m 1 x = (o_a 1 (κ m) m x).1 from if_pos (by omega), show t_act κ n m 1 x = (o_a 1 (κ m) m x).2 from if_pos (by omega)] at hq
          refine am_r_invI4 (pc' := 32) rfl rfl rfl (Nat.le_of_ble_eq_true rfl) ?_
          refine am_bi_mono (c_own1 (Q := Q) (by omega) hO (by omega) (by simp) (by omega) (fun M4 hf4 hO4 => ?_)) (fun x4 M4 h4 => ?_)
          · exact hq M4 (am_fr_tr (lo := 50) (hi := 52) (am_fr_upI (am_fr_rf 50 52 M) (by omega)) hf4 (by omega) (by omega)) hO4
          · refine am_r_iret rfl rfl ?_
            exact h4
        · rw [show r_act κ n m 2 x = (o_a 2 (κ m) m x).1 from if_pos (by omega), show t_act κ n m 2 x = (o_a 2 (κ m) m x).2 from if_pos (by omega)] at hq
          refine am_r_invI4 (pc' := 32) rfl rfl rfl (Nat.le_of_ble_eq_true rfl) ?_
          refine am_bi_mono (c_own2 (Q := Q) (by omega) hO (by omega) (by simp) (by omega) (fun M4 hf4 hO4 => ?_)) (fun x4 M4 h4 => ?_)
          · exact hq M4 (am_fr_tr (lo := 50) (hi := 52) (am_fr_upI (am_fr_rf 50 52 M) (by omega)) hf4 (by omega) (by omega)) hO4
          · refine am_r_iret rfl rfl ?_
            exact h4
        · rw [show r_act κ n m 3 x = (o_a 3 (κ m) m x).1 from if_pos (by omega), show t_act κ n m 3 x = (o_a 3 (κ m) m x).2 from if_pos (by omega)] at hq
          refine am_r_invI4 (pc' := 32) rfl rfl rfl (Nat.le_of_ble_eq_true rfl) ?_
          refine am_bi_mono (c_own3 (Q := Q) (by omega) hO (by omega) (by simp) (by omega) (fun M4 hf4 hO4 => ?_)) (fun x4 M4 h4 => ?_)
          · exact hq M4 (am_fr_tr (lo := 50) (hi := 52) (am_fr_upI (am_fr_rf 50 52 M) (by omega)) hf4 (by omega) (by omega)) hO4
          · refine am_r_iret rfl rfl ?_
            exact h4
      · refine am_r_iconst (pc' := 23) rfl rfl ?_
        refine am_r_iret rfl rfl ?_
        rw [show r_act κ n m w x = z_I 0 from if_neg (by omega), show t_act κ n m w x = [] from if_neg (by omega)] at hq
        exact hq _ (am_fr_upI (am_fr_rf 50 52 M) (by omega)) hO
theorem c_act {sL : Nat} {xs : Nat → Int32} {d : Nat} {M : Am_M} {Q : Int32 → Am_M → Prop} (hd : 24 ≤ d) {κ : Int → Int} {n : Int} {l : List Int} (hO : OK M κ n l) {m : Int} (hm : -2147483648 ≤ m ∧ m < 2147483648) {w : Int} (hw : -2147483648 ≤ w ∧ w < 2147483648) {x : Int32} (hq : ∀ M', am_fr 50 52 M M' → OK M' κ n (t_act κ n m w x) → Q (r_act κ n m w x) M') : am_bi sL xs d 144 [.ref 0, .int (z_I m), .int (z_I w), .int x] M Q := by
  obtain ⟨d, rfl⟩ : ∃ e, d = e + 1 := ⟨d - 1, by omega⟩
  refine am_bi_of (P := am_pX10_act) (rt := 1) (nL := 4) (Nat.le_of_ble_eq_true rfl) rfl (Nat.le_of_ble_eq_true rfl) rfl rfl rfl ?_
  refine am_r_aload0 (pc' := 1) rfl rfl ?_
  refine am_r_getR (t := 50) (pc' := 4) rfl rfl rfl ?_
  refine am_r_iload1 (pc' := 5) rfl rfl ?_
  refine am_r_iload2 (pc' := 6) rfl rfl ?_
  refine am_r_iload3 (pc' := 7) rfl rfl ?_
  refine am_r_invI3 (pc' := 10) rfl rfl rfl (Nat.le_of_ble_eq_true rfl) (c_acted (by omega) hO (by omega) (by omega) ?_)
  · intro M4 hf4 hO4
    refine am_r_iret rfl rfl ?_
    exact hq M4 hf4 hO4
def t_body (κ : Int → Int) (n k : Int) : Int → Int := if (0 ≤ k ∧ k < 8) ∧ n < 50 then (fun i => if i = n then k else κ i) else κ
def u_body (n k : Int) : Int := if (0 ≤ k ∧ k < 8) ∧ n < 50 then n + 1 else n
def r_body (n k : Int) : Int := if 0 ≤ k ∧ k < 8 then (if n < 50 then n else -3) else -1
theorem c_moodAdded {sL : Nat} {xs : Nat → Int32} {d : Nat} {M : Am_M} {Q : Int32 → Am_M → Prop} (hd : 1 ≤ d) {κ : Int → Int} {n : Int} {l : List Int} (hO : OK M κ n l) {k : Int} (hk : 0 ≤ k ∧ k < 8) (hq : ∀ M', am_fr 50 52 M M' → OK M' (t_body κ n k) (u_body n k) l → Q (z_I (r_body n k)) M') : am_bi sL xs d 45 [.ref 50, .int (z_I k)] M Q := by
  obtain ⟨d, rfl⟩ : ∃ e, d = e + 1 := ⟨d - 1, by omega⟩
  have hnb := ok_nb hO
  refine am_bi_of (P := am_pX5_added) (rt := 1) (nL := 2) (Nat.le_of_ble_eq_true rfl) rfl (Nat.le_of_ble_eq_true rfl) rfl rfl rfl ?_
  refine am_r_aload0 (pc' := 1) rfl rfl ?_
  refine am_r_getIv (f := 1) (pc' := 4) rfl rfl rfl (ok_n hO) ?_
  refine am_r_iconst (pc' := 6) rfl rfl ?_
  refine am_r_icmp_lt (pt := 12) (pf := 9) rfl rfl rfl (fun h6 => ?_) (fun h6 => ?_)
  · refine am_r_aload0 (pc' := 13) rfl rfl ?_
    refine am_r_getR (t := 51) (pc' := 16) rfl rfl rfl ?_
    refine am_r_aload0 (pc' := 17) rfl rfl ?_
    refine am_r_getIv (f := 1) (pc' := 20) rfl rfl rfl (ok_n hO) ?_
    refine am_r_iload1 (pc' := 21) rfl rfl ?_
    refine am_r_iast (n := 50) (pc' := 22) rfl rfl (rfl) (by decide) ?_
    refine am_r_aload0 (pc' := 23) rfl rfl ?_
    refine am_r_dup (pc' := 24) rfl rfl rfl ?_
    refine am_r_getIv (f := 1) (pc' := 27) rfl rfl rfl (show _ = z_I n by simpa [am_upI] using ok_n hO) ?_
    refine am_r_iconst (pc' := 28) rfl rfl ?_
    refine am_r_iadd (pc' := 29) rfl rfl ?_
    refine am_r_putI (f := 1) (pc' := 32) rfl rfl rfl (by decide) ?_
    refine am_r_aload0 (pc' := 33) rfl rfl ?_
    refine am_r_getIv (f := 1) (pc' := 36) rfl rfl rfl (show _ = z_I (n + 1) by simp [am_upI]) ?_
    refine am_r_iconst (pc' := 37) rfl rfl ?_
    refine am_r_isub (pc' := 38) rfl rfl ?_
    refine am_r_iret rfl rfl ?_
    have e : (0 ≤ k ∧ k < 8) ∧ n < 50 := ⟨hk, by omega⟩
    rw [show t_body κ n k = (fun i => if i = n then k else κ i) from if_pos e, show u_body n k = n + 1 from if_pos e, show r_body n k = n from (if_pos hk).trans (if_pos e.2)] at hq
    refine am_q (by omega) (hq _ (am_fr_upI (am_fr_upI (am_fr_rf _ _ _) (by omega)) (by omega)) ?_)
    obtain ⟨h1, h2, h3, h4, h5, h6⟩ := hO
    refine ⟨by omega, fun i hi => ?_, ?_, fun i hi => ?_, ?_, fun i x hi e => ?_⟩
    · by_cases q : i = n
      · simp only [if_pos q]; omega
      · simp only [if_neg q]; exact h2 i (by omega)
    · simp [am_upI]
    · by_cases q : i = n
      · simp only [if_pos q]
        rw [q]
        simp [am_upI]
      · simp only [if_neg q]
        have := h4 i (by omega)
        have q2 : ¬ i.toNat = n.toNat := by omega
        simpa [am_upI, q2] using this
    · simpa [am_upI] using h5
    · have := h6 i x hi e
      simpa [am_upI] using this
  · refine am_r_iconst (pc' := 11) rfl rfl ?_
    refine am_r_iret rfl rfl ?_
    have e : ¬ ((0 ≤ k ∧ k < 8) ∧ n < 50) := by omega
    rw [show t_body κ n k = κ from if_neg e, show u_body n k = n from if_neg e, show r_body n k = -3 from (if_pos hk).trans (if_neg (by omega))] at hq
    exact hq M (am_fr_rf _ _ _) hO
theorem c_body {sL : Nat} {xs : Nat → Int32} {d : Nat} {M : Am_M} {Q : Int32 → Am_M → Prop} (hd : 2 ≤ d) {κ : Int → Int} {n : Int} {l : List Int} (hO : OK M κ n l) {k : Int} (hk : -2147483648 ≤ k ∧ k < 2147483648)  (hq : ∀ M', am_fr 50 52 M M' → OK M' (t_body κ n k) (u_body n k) l → Q (z_I (r_body n k)) M') : am_bi sL xs d 143 [.ref 0, .int (z_I k)] M Q := by
  obtain ⟨d, rfl⟩ : ∃ e, d = e + 1 := ⟨d - 1, by omega⟩
  have hnb := ok_nb hO
  refine am_bi_of (P := am_pX10_body) (rt := 1) (nL := 2) (Nat.le_of_ble_eq_true rfl) rfl (Nat.le_of_ble_eq_true rfl) rfl rfl rfl ?_
  refine am_r_iload1 (pc' := 1) rfl rfl ?_
  refine am_r_ivsI1 (pc' := 4) rfl rfl rfl (Nat.le_of_ble_eq_true rfl) (c_isKind (by omega) (by omega) ?_)
  refine am_r_if_neB (pt := 9) (pf := 7) rfl rfl rfl (fun h4 => ?_) (fun h4 => ?_)
  · refine am_r_aload0 (pc' := 10) rfl rfl ?_
    refine am_r_getR (t := 50) (pc' := 13) rfl rfl rfl ?_
    refine am_r_iload1 (pc' := 14) rfl rfl ?_
    refine am_r_invI1 (pc' := 17) rfl rfl rfl (Nat.le_of_ble_eq_true rfl) (c_moodAdded (by omega) hO (by omega) ?_)
    · intro M4 hf4 hO4
      refine am_r_iret rfl rfl ?_
      exact hq M4 hf4 hO4
  · refine am_r_iconst (pc' := 8) rfl rfl ?_
    refine am_r_iret rfl rfl ?_
    have e : ¬ ((0 ≤ k ∧ k < 8) ∧ n < 50) := by omega
    rw [show t_body κ n k = κ from if_neg e, show u_body n k = n from if_neg e, show r_body n k = -1 from if_neg (by omega)] at hq
    exact hq M (am_fr_rf _ _ _) hO
def r_trace (l : List Int) (i : Int) : Int := if 0 ≤ i ∧ i < (l.length : Int) ∧ i < 24 then l.getD i.toNat 0 else -1
theorem c_trace {sL : Nat} {xs : Nat → Int32} {d : Nat} {M : Am_M} {Q : Int32 → Am_M → Prop} (hd : 1 ≤ d) {κ : Int → Int} {n : Int} {l : List Int} (hO : OK M κ n l) (hl : l.length ≤ 1000) {i : Int} (hi : -2147483648 ≤ i ∧ i < 2147483648)  (hq : Q (z_I (r_trace l i)) M) : am_bi sL xs d 145 [.ref 0, .int (z_I i)] M Q := by
  obtain ⟨d, rfl⟩ : ∃ e, d = e + 1 := ⟨d - 1, by omega⟩
  have hnb := ok_nb hO
  refine am_bi_of (P := am_pX10_trace) (rt := 1) (nL := 2) (Nat.le_of_ble_eq_true rfl) rfl (Nat.le_of_ble_eq_true rfl) rfl rfl rfl ?_
  refine am_r_iload1 (pc' := 1) rfl rfl ?_
  refine am_r_if_lt (pt := 21) (pf := 4) rfl rfl rfl (fun h1 => ?_) (fun h1 => ?_)
  · refine am_r_iconst (pc' := 22) rfl rfl ?_
    refine am_r_iret rfl rfl ?_
    rw [show r_trace l i = -1 from if_neg (by omega)] at hq
    exact hq
  · refine am_r_iload1 (pc' := 5) rfl rfl ?_
    refine am_r_aload0 (pc' := 6) rfl rfl ?_
    refine am_r_getR (t := 50) (pc' := 9) rfl rfl rfl ?_
    refine am_r_getIv (f := 3) (pc' := 12) rfl rfl rfl (ok_r hO) ?_
    refine am_r_icmp_ge (pt := 21) (pf := 15) rfl rfl rfl (fun h12 => ?_) (fun h12 => ?_)
    · refine am_r_iconst (pc' := 22) rfl rfl ?_
      refine am_r_iret rfl rfl ?_
      rw [show r_trace l i = -1 from if_neg (by omega)] at hq
      exact hq
    · refine am_r_iload1 (pc' := 16) rfl rfl ?_
      refine am_r_iconst (pc' := 18) rfl rfl ?_
      refine am_r_icmp_lt (pt := 23) (pf := 21) rfl rfl rfl (fun h18 => ?_) (fun h18 => ?_)
      · refine am_r_aload0 (pc' := 24) rfl rfl ?_
        refine am_r_getR (t := 50) (pc' := 27) rfl rfl rfl ?_
        refine am_r_getR (t := 52) (pc' := 30) rfl rfl rfl ?_
        refine am_r_iload1 (pc' := 31) rfl rfl ?_
        refine am_r_iaZv (n := 24) (pc' := 32) rfl rfl rfl (by decide) (ok_t hO i.toNat (l.getD i.toNat 0) (by omega) (by rw [List.getD_eq_getElem?_getD, List.getElem?_eq_getElem (by omega)]; rfl)) ?_
        refine am_r_iret rfl rfl ?_
        rw [show r_trace l i = l.getD i.toNat 0 from if_pos (by omega)] at hq
        exact hq
      · refine am_r_iconst (pc' := 22) rfl rfl ?_
        refine am_r_iret rfl rfl ?_
        rw [show r_trace l i = -1 from if_neg (by omega)] at hq
        exact hq
