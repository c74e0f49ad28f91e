/-! the answers of the class to plain questions -/
def r_crowd (σ : Sg) (a f0 w : Int) (n m : Int) : Int := if (0 ≤ a ∧ a < s_n σ) ∧ (0 ≤ f0 ∧ f0 ≤ 99999) ∧ (w = 0 ∨ w = 1) then (if w = 0 then n else m) else -1
def r_arc (σ : Sg) (s f0 v : Int) : Int := if (0 ≤ s ∧ s < 2 ^ (s_n σ).toNat) ∧ (0 ≤ f0 ∧ f0 ≤ 99999) then v else -1
def r_turns (σ : Sg) (ab f0 n : Int) (v : Int) : Int := if (0 ≤ ab ∧ ab / 10 < s_n σ ∧ ab % 10 < s_n σ ∧ ab / 10 ≠ ab % 10) ∧ (0 ≤ f0 ∧ f0 ≤ 99999) ∧ 0 ≤ n ∧ 1 ≤ n / 10 ∧ n / 10 ≤ 6 ∧ (n % 10 = 0 ∨ n % 10 = 1) then (if n % 10 = 0 then (if v = -2 then 0 else 1) else (if v = -2 then -1 else v)) else -2000000000
def g_pop (s : Int) : Int := f_sum (s_bit s) 0 8
theorem c_isDay {sL : Nat} {xs : Nat → Int32} {d : Nat} {M : Am_M} {Q : Int32 → Am_M → Prop} (hd : 1 ≤ d) {a : Int} (ha : -2147483648 ≤ a ∧ a < 2147483648)  (hq : Q (z_b (0 ≤ a ∧ a ≤ 99999)) M) : am_bi sL xs d 153 [.int (z_I a)] M Q := by
  obtain ⟨d, rfl⟩ : ∃ e, d = e + 1 := ⟨d - 1, by omega⟩
  refine am_bi_of (P := am_pX10_isDay) (rt := 2) (nL := 1) (Nat.le_of_ble_eq_true rfl) rfl (Nat.le_of_ble_eq_true rfl) rfl rfl rfl ?_
  refine am_r_iload0 (pc' := 1) rfl rfl ?_
  refine am_r_if_lt (pt := 15) (pf := 4) rfl rfl rfl (fun h1 => ?_) (fun h1 => ?_)
  · refine am_r_iconst (pc' := 16) rfl rfl ?_
    refine am_r_zret rfl rfl (by first | exact Or.inr rfl | exact Or.inl rfl | exact z_b_01 _ | assumption) ?_
    first | (rw [z_bT (by omega)] at hq; exact hq) | (rw [z_bF (by omega)] at hq; exact hq)
  · refine am_r_iload0 (pc' := 5) rfl rfl ?_
    refine am_r_iconst (pc' := 8) rfl rfl ?_
    refine am_r_icmp_gt (pt := 15) (pf := 11) rfl rfl rfl (fun h8 => ?_) (fun h8 => ?_)
    · refine am_r_iconst (pc' := 16) rfl rfl ?_
      refine am_r_zret rfl rfl (by first | exact Or.inr rfl | exact Or.inl rfl | exact z_b_01 _ | assumption) ?_
      first | (rw [z_bT (by omega)] at hq; exact hq) | (rw [z_bF (by omega)] at hq; exact hq)
    · refine am_r_iconst (pc' := 12) rfl rfl ?_
      refine am_r_goto (pc' := 16) rfl rfl ?_
      refine am_r_zret rfl rfl (by first | exact Or.inr rfl | exact Or.inl rfl | exact z_b_01 _ | assumption) ?_
      first | (rw [z_bT (by omega)] at hq; exact hq) | (rw [z_bF (by omega)] at hq; exact hq)
theorem c_isSpan {sL : Nat} {xs : Nat → Int32} {d : Nat} {M : Am_M} {Q : Int32 → Am_M → Prop} (hd : 1 ≤ d) {a : Int} (ha : -2147483648 ≤ a ∧ a < 2147483648)  (hq : Q (z_b (1 ≤ a ∧ a ≤ 999)) M) : am_bi sL xs d 155 [.int (z_I a)] M Q := by
  obtain ⟨d, rfl⟩ : ∃ e, d = e + 1 := ⟨d - 1, by omega⟩
  refine am_bi_of (P := am_pX10_isSpan) (rt := 2) (nL := 1) (Nat.le_of_ble_eq_true rfl) rfl (Nat.le_of_ble_eq_true rfl) rfl rfl rfl ?_
  refine am_r_iload0 (pc' := 1) rfl rfl ?_
  refine am_r_iconst (pc' := 2) rfl rfl ?_
  refine am_r_icmp_lt (pt := 16) (pf := 5) rfl rfl rfl (fun h2 => ?_) (fun h2 => ?_)
  · refine am_r_iconst (pc' := 17) rfl rfl ?_
    refine am_r_zret rfl rfl (by first | exact Or.inr rfl | exact Or.inl rfl | exact z_b_01 _ | assumption) ?_
    first | (rw [z_bT (by omega)] at hq; exact hq) | (rw [z_bF (by omega)] at hq; exact hq)
  · refine am_r_iload0 (pc' := 6) rfl rfl ?_
    refine am_r_iconst (pc' := 9) rfl rfl ?_
    refine am_r_icmp_gt (pt := 16) (pf := 12) rfl rfl rfl (fun h9 => ?_) (fun h9 => ?_)
    · refine am_r_iconst (pc' := 17) rfl rfl ?_
      refine am_r_zret rfl rfl (by first | exact Or.inr rfl | exact Or.inl rfl | exact z_b_01 _ | assumption) ?_
      first | (rw [z_bT (by omega)] at hq; exact hq) | (rw [z_bF (by omega)] at hq; exact hq)
    · refine am_r_iconst (pc' := 13) rfl rfl ?_
      refine am_r_goto (pc' := 17) rfl rfl ?_
      refine am_r_zret rfl rfl (by first | exact Or.inr rfl | exact Or.inl rfl | exact z_b_01 _ | assumption) ?_
      first | (rw [z_bT (by omega)] at hq; exact hq) | (rw [z_bF (by omega)] at hq; exact hq)
theorem c_isPushedSpan {sL : Nat} {xs : Nat → Int32} {d : Nat} {M : Am_M} {Q : Int32 → Am_M → Prop} (hd : 1 ≤ d) {a : Int} (ha : -2147483648 ≤ a ∧ a < 2147483648)  (hq : Q (z_b (0 ≤ a ∧ a ≤ 200)) M) : am_bi sL xs d 156 [.int (z_I a)] M Q := by
  obtain ⟨d, rfl⟩ : ∃ e, d = e + 1 := ⟨d - 1, by omega⟩
  refine am_bi_of (P := am_pX10_isPushedSpan) (rt := 2) (nL := 1) (Nat.le_of_ble_eq_true rfl) rfl (Nat.le_of_ble_eq_true rfl) rfl rfl rfl ?_
  refine am_r_iload0 (pc' := 1) rfl rfl ?_
  refine am_r_if_lt (pt := 15) (pf := 4) rfl rfl rfl (fun h1 => ?_) (fun h1 => ?_)
  · refine am_r_iconst (pc' := 16) rfl rfl ?_
    refine am_r_zret rfl rfl (by first | exact Or.inr rfl | exact Or.inl rfl | exact z_b_01 _ | assumption) ?_
    first | (rw [z_bT (by omega)] at hq; exact hq) | (rw [z_bF (by omega)] at hq; exact hq)
  · refine am_r_iload0 (pc' := 5) rfl rfl ?_
    refine am_r_iconst (pc' := 8) rfl rfl ?_
    refine am_r_icmp_gt (pt := 15) (pf := 11) rfl rfl rfl (fun h8 => ?_) (fun h8 => ?_)
    · refine am_r_iconst (pc' := 16) rfl rfl ?_
      refine am_r_zret rfl rfl (by first | exact Or.inr rfl | exact Or.inl rfl | exact z_b_01 _ | assumption) ?_
      first | (rw [z_bT (by omega)] at hq; exact hq) | (rw [z_bF (by omega)] at hq; exact hq)
    · refine am_r_iconst (pc' := 12) rfl rfl ?_
      refine am_r_goto (pc' := 16) rfl rfl ?_
      refine am_r_zret rfl rfl (by first | exact Or.inr rfl | exact Or.inl rfl | exact z_b_01 _ | assumption) ?_
      first | (rw [z_bT (by omega)] at hq; exact hq) | (rw [z_bF (by omega)] at hq; exact hq)
theorem c_isWhat {sL : Nat} {xs : Nat → Int32} {d : Nat} {M : Am_M} {Q : Int32 → Am_M → Prop} (hd : 1 ≤ d) {a : Int} (ha : -2147483648 ≤ a ∧ a < 2147483648)  (hq : Q (z_b (a = 0 ∨ a = 1)) M) : am_bi sL xs d 154 [.int (z_I a)] M Q := by
  obtain ⟨d, rfl⟩ : ∃ e, d = e + 1 := ⟨d - 1, by omega⟩
  refine am_bi_of (P := am_pX10_isWhat) (rt := 2) (nL := 1) (Nat.le_of_ble_eq_true rfl) rfl (Nat.le_of_ble_eq_true rfl) rfl rfl rfl ?_
  refine am_r_iload0 (pc' := 1) rfl rfl ?_
  refine am_r_if_eq (pt := 9) (pf := 4) rfl rfl rfl (fun h1 => ?_) (fun h1 => ?_)
  · refine am_r_iconst (pc' := 10) rfl rfl ?_
    refine am_r_goto (pc' := 14) rfl rfl ?_
    refine am_r_zret rfl rfl (by first | exact Or.inr rfl | exact Or.inl rfl | exact z_b_01 _ | assumption) ?_
    first | (rw [z_bT (by omega)] at hq; exact hq) | (rw [z_bF (by omega)] at hq; exact hq)
  · refine am_r_iload0 (pc' := 5) rfl rfl ?_
    refine am_r_iconst (pc' := 6) rfl rfl ?_
    refine am_r_icmp_ne (pt := 13) (pf := 9) rfl rfl rfl (fun h6 => ?_) (fun h6 => ?_)
    · refine am_r_iconst (pc' := 14) rfl rfl ?_
      refine am_r_zret rfl rfl (by first | exact Or.inr rfl | exact Or.inl rfl | exact z_b_01 _ | assumption) ?_
      first | (rw [z_bT (by omega)] at hq; exact hq) | (rw [z_bF (by omega)] at hq; exact hq)
    · refine am_r_iconst (pc' := 10) rfl rfl ?_
      refine am_r_goto (pc' := 14) rfl rfl ?_
      refine am_r_zret rfl rfl (by first | exact Or.inr rfl | exact Or.inl rfl | exact z_b_01 _ | assumption) ?_
      first | (rw [z_bT (by omega)] at hq; exact hq) | (rw [z_bF (by omega)] at hq; exact hq)
theorem c_at {sL : Nat} {xs : Nat → Int32} {d : Nat} {M : Am_M} {Q : Int32 → Am_M → Prop} (hd : 4 ≤ d) {σ : Sg} (hX : SX M σ) {a : Int} (ha : -2147483648 ≤ a ∧ a < 2147483648) {f0 : Int} (hf0 : -2147483648 ≤ f0 ∧ f0 < 2147483648) {w : Int} (hw : -2147483648 ≤ w ∧ w < 2147483648)  (hq : Q (z_I (r_at σ a f0 w)) M) : am_bi sL xs d 113 [.ref 0, .int (z_I a), .int (z_I f0), .int (z_I w)] M Q := by
  obtain ⟨d, rfl⟩ : ∃ e, d = e + 1 := ⟨d - 1, by omega⟩
  have hn := sb_nb hX.1
  have hnr := sb_nrb hX.1
  refine am_bi_of (P := am_pX10_at) (rt := 1) (nL := 4) (Nat.le_of_ble_eq_true rfl) rfl (Nat.le_of_ble_eq_true rfl) rfl rfl rfl ?_
  refine am_r_aload0 (pc' := 1) rfl rfl ?_
  refine am_r_getR (t := 1) (pc' := 4) rfl rfl rfl ?_
  refine am_r_iload1 (pc' := 5) rfl rfl ?_
  refine am_r_invI1 (pc' := 8) rfl rfl rfl (Nat.le_of_ble_eq_true rfl) (c_has (by omega) hX (by omega) ?_)
  refine am_r_if_eqB (pt := 25) (pf := 11) rfl rfl rfl (fun h8 => ?_) (fun h8 => ?_)
  · refine am_r_iconst (pc' := 26) rfl rfl ?_
    refine am_r_iret rfl rfl ?_
    refine am_q ?_ hq
    unfold r_at
    (repeat (first | rw [if_pos (by omega)] | rw [if_neg (by omega)]))
    all_goals first | rfl | omega
  · refine am_r_iload2 (pc' := 12) rfl rfl ?_
    refine am_r_ivsI1 (pc' := 15) rfl rfl rfl (Nat.le_of_ble_eq_true rfl) (c_isDay (by omega) (by omega) ?_)
    refine am_r_if_eqB (pt := 25) (pf := 18) rfl rfl rfl (fun h15 => ?_) (fun h15 => ?_)
    · refine am_r_iconst (pc' := 26) rfl rfl ?_
      refine am_r_iret rfl rfl ?_
      refine am_q ?_ hq
      unfold r_at
      (repeat (first | rw [if_pos (by omega)] | rw [if_neg (by omega)]))
      all_goals first | rfl | omega
    · refine am_r_iload3 (pc' := 19) rfl rfl ?_
      refine am_r_ivsI1 (pc' := 22) rfl rfl rfl (Nat.le_of_ble_eq_true rfl) (c_isWhat (by omega) (by omega) ?_)
      refine am_r_if_neB (pt := 27) (pf := 25) rfl rfl rfl (fun h22 => ?_) (fun h22 => ?_)
      · refine am_r_iload3 (pc' := 28) rfl rfl ?_
        refine am_r_if_ne (pt := 43) (pf := 31) rfl rfl rfl (fun h28 => ?_) (fun h28 => ?_)
        · refine am_r_aload0 (pc' := 44) rfl rfl ?_
          refine am_r_getR (t := 1) (pc' := 47) rfl rfl rfl ?_
          refine am_r_iload1 (pc' := 48) rfl rfl ?_
          refine am_r_iload2 (pc' := 49) rfl rfl ?_
          refine am_r_invI2 (pc' := 52) rfl rfl rfl (Nat.le_of_ble_eq_true rfl) (c_degreesOn (by omega) hX (by omega) (by omega) ?_)
          refine am_r_iret rfl rfl ?_
          refine am_q ?_ hq
          unfold r_at
          (repeat (first | rw [if_pos (by omega)] | rw [if_neg (by omega)]))
          all_goals first | rfl | omega
        · refine am_r_aload0 (pc' := 32) rfl rfl ?_
          refine am_r_getR (t := 1) (pc' := 35) rfl rfl rfl ?_
          refine am_r_iload1 (pc' := 36) rfl rfl ?_
          refine am_r_iload2 (pc' := 37) rfl rfl ?_
          refine am_r_invI2 (pc' := 40) rfl rfl rfl (Nat.le_of_ble_eq_true rfl) (c_placeOn (by omega) hX (by omega) (by omega) ?_)
          refine am_r_goto (pc' := 52) rfl rfl ?_
          refine am_r_iret rfl rfl ?_
          refine am_q ?_ hq
          unfold r_at
          (repeat (first | rw [if_pos (by omega)] | rw [if_neg (by omega)]))
          all_goals first | rfl | omega
      · refine am_r_iconst (pc' := 26) rfl rfl ?_
        refine am_r_iret rfl rfl ?_
        refine am_q ?_ hq
        unfold r_at
        (repeat (first | rw [if_pos (by omega)] | rw [if_neg (by omega)]))
        all_goals first | rfl | omega
theorem c_apart {sL : Nat} {xs : Nat → Int32} {d : Nat} {M : Am_M} {Q : Int32 → Am_M → Prop} (hd : 5 ≤ d) {σ : Sg} (hX : SX M σ) {ab : Int} (hab : -2147483648 ≤ ab ∧ ab < 2147483648) {f0 : Int} (hf0 : -2147483648 ≤ f0 ∧ f0 < 2147483648) {w : Int} (hw : -2147483648 ≤ w ∧ w < 2147483648)  (hq : Q (z_I (r_apart σ ab f0 w)) M) : am_bi sL xs d 114 [.ref 0, .int (z_I ab), .int (z_I f0), .int (z_I w)] M Q := by
  obtain ⟨d, rfl⟩ : ∃ e, d = e + 1 := ⟨d - 1, by omega⟩
  have hn := sb_nb hX.1
  have hnr := sb_nrb hX.1
  refine am_bi_of (P := am_pX10_apart) (rt := 1) (nL := 5) (Nat.le_of_ble_eq_true rfl) rfl (Nat.le_of_ble_eq_true rfl) rfl rfl rfl ?_
  refine am_r_aload0 (pc' := 1) rfl rfl ?_
  refine am_r_getR (t := 1) (pc' := 4) rfl rfl rfl ?_
  refine am_r_iload1 (pc' := 5) rfl rfl ?_
  refine am_r_invI1 (pc' := 8) rfl rfl rfl (Nat.le_of_ble_eq_true rfl) (c_hasPair (by omega) hX (by omega) ?_)
  refine am_r_if_eqB (pt := 25) (pf := 11) rfl rfl rfl (fun h8 => ?_) (fun h8 => ?_)
  · refine am_r_iconst (pc' := 26) rfl rfl ?_
    refine am_r_iret rfl rfl ?_
    refine am_q ?_ hq
    unfold r_apart
    (repeat (first | rw [if_pos (by omega)] | rw [if_neg (by omega)]))
    all_goals first | rfl | omega | (rw [if_pos (by unfold g_mt; simp only [Int.zero_add, decide_eq_true_eq]; omega)]) | (rw [if_neg (by unfold g_mt; simp only [Int.zero_add, decide_eq_true_eq]; omega)])
  · refine am_r_iload2 (pc' := 12) rfl rfl ?_
    refine am_r_ivsI1 (pc' := 15) rfl rfl rfl (Nat.le_of_ble_eq_true rfl) (c_isDay (by omega) (by omega) ?_)
    refine am_r_if_eqB (pt := 25) (pf := 18) rfl rfl rfl (fun h15 => ?_) (fun h15 => ?_)
    · refine am_r_iconst (pc' := 26) rfl rfl ?_
      refine am_r_iret rfl rfl ?_
      refine am_q ?_ hq
      unfold r_apart
      (repeat (first | rw [if_pos (by omega)] | rw [if_neg (by omega)]))
      all_goals first | rfl | omega | (rw [if_pos (by unfold g_mt; simp only [Int.zero_add, decide_eq_true_eq]; omega)]) | (rw [if_neg (by unfold g_mt; simp only [Int.zero_add, decide_eq_true_eq]; omega)])
    · refine am_r_iload3 (pc' := 19) rfl rfl ?_
      refine am_r_ivsI1 (pc' := 22) rfl rfl rfl (Nat.le_of_ble_eq_true rfl) (c_isWhat (by omega) (by omega) ?_)
      refine am_r_if_neB (pt := 27) (pf := 25) rfl rfl rfl (fun h22 => ?_) (fun h22 => ?_)
      · refine am_r_aload0 (pc' := 28) rfl rfl ?_
        refine am_r_getR (t := 1) (pc' := 31) rfl rfl rfl ?_
        refine am_r_iload1 (pc' := 32) rfl rfl ?_
        refine am_r_iconst (pc' := 34) rfl rfl ?_
        refine am_r_idiv (pc' := 35) rfl rfl ?_
        refine am_r_iload1 (pc' := 36) rfl rfl ?_
        refine am_r_iconst (pc' := 38) rfl rfl ?_
        refine am_r_irem (pc' := 39) rfl rfl ?_
        refine am_r_iload2 (pc' := 40) rfl rfl ?_
        refine am_r_invI3 (pc' := 43) rfl rfl rfl (Nat.le_of_ble_eq_true rfl) (c_gapOn (by omega) hX (by omega) (by omega) (by omega) ?_)
        have hgap := g_gap_b (g_dg_b hX.1 (a := ab / 10) (by omega) f0) (g_dg_b hX.1 (a := ab % 10) (by omega) f0)
        refine am_r_istore4 (pc' := 45) rfl rfl rfl ?_
        refine am_r_iload3 (pc' := 46) rfl rfl ?_
        refine am_r_if_ne (pt := 52) (pf := 49) rfl rfl rfl (fun h46 => ?_) (fun h46 => ?_)
        · refine am_r_iload4 (pc' := 54) rfl rfl ?_
          refine am_r_aload0 (pc' := 55) rfl rfl ?_
          refine am_r_getR (t := 1) (pc' := 58) rfl rfl rfl ?_
          refine am_r_getIv (f := 4) (pc' := 61) rfl rfl rfl (sx_nr hX) ?_
          refine am_r_icmp_gt (pt := 68) (pf := 64) rfl rfl rfl (fun h61 => ?_) (fun h61 => ?_)
          · refine am_r_iconst (pc' := 69) rfl rfl ?_
            refine am_r_iret rfl rfl ?_
            refine am_q ?_ hq
            unfold r_apart
            (repeat (first | rw [if_pos (by omega)] | rw [if_neg (by omega)]))
            all_goals first | rfl | omega | (rw [if_pos (by unfold g_mt; simp only [Int.zero_add, decide_eq_true_eq]; omega)]) | (rw [if_neg (by unfold g_mt; simp only [Int.zero_add, decide_eq_true_eq]; omega)])
          · refine am_r_iconst (pc' := 65) rfl rfl ?_
            refine am_r_goto (pc' := 69) rfl rfl ?_
            refine am_r_iret rfl rfl ?_
            refine am_q ?_ hq
            unfold r_apart
            (repeat (first | rw [if_pos (by omega)] | rw [if_neg (by omega)]))
            all_goals first | rfl | omega | (rw [if_pos (by unfold g_mt; simp only [Int.zero_add, decide_eq_true_eq]; omega)]) | (rw [if_neg (by unfold g_mt; simp only [Int.zero_add, decide_eq_true_eq]; omega)])
        · refine am_r_iload4 (pc' := 51) rfl rfl ?_
          refine am_r_iret rfl rfl ?_
          refine am_q ?_ hq
          unfold r_apart
          (repeat (first | rw [if_pos (by omega)] | rw [if_neg (by omega)]))
          all_goals first | rfl | omega | (rw [if_pos (by unfold g_mt; simp only [Int.zero_add, decide_eq_true_eq]; omega)]) | (rw [if_neg (by unfold g_mt; simp only [Int.zero_add, decide_eq_true_eq]; omega)])
      · refine am_r_iconst (pc' := 26) rfl rfl ?_
        refine am_r_iret rfl rfl ?_
        refine am_q ?_ hq
        unfold r_apart
        (repeat (first | rw [if_pos (by omega)] | rw [if_neg (by omega)]))
        all_goals first | rfl | omega | (rw [if_pos (by unfold g_mt; simp only [Int.zero_add, decide_eq_true_eq]; omega)]) | (rw [if_neg (by unfold g_mt; simp only [Int.zero_add, decide_eq_true_eq]; omega)])
theorem c_meets {sL : Nat} {xs : Nat → Int32} {d : Nat} {M : Am_M} {Q : Int32 → Am_M → Prop} (hd : 6 ≤ d) {σ : Sg} (hX : SX M σ) {ab : Int} (hab : -2147483648 ≤ ab ∧ ab < 2147483648) {f0 : Int} (hf0 : -2147483648 ≤ f0 ∧ f0 < 2147483648)  (hq : Q (z_I (r_meets σ ab f0 (min 99999 (f0 + s_rd σ (ab / 10) * s_rd σ (ab % 10)) - f0 + 1).toNat)) M) : am_bi sL xs d 115 [.ref 0, .int (z_I ab), .int (z_I f0)] M Q := by
  obtain ⟨d, rfl⟩ : ∃ e, d = e + 1 := ⟨d - 1, by omega⟩
  have hn := sb_nb hX.1
  have hnr := sb_nrb hX.1
  refine am_bi_of (P := am_pX10_meets) (rt := 1) (nL := 3) (Nat.le_of_ble_eq_true rfl) rfl (Nat.le_of_ble_eq_true rfl) rfl rfl rfl ?_
  refine am_r_aload0 (pc' := 1) rfl rfl ?_
  refine am_r_getR (t := 1) (pc' := 4) rfl rfl rfl ?_
  refine am_r_iload1 (pc' := 5) rfl rfl ?_
  refine am_r_invI1 (pc' := 8) rfl rfl rfl (Nat.le_of_ble_eq_true rfl) (c_hasPair (by omega) hX (by omega) ?_)
  refine am_r_if_eqB (pt := 18) (pf := 11) rfl rfl rfl (fun h8 => ?_) (fun h8 => ?_)
  · refine am_r_iconst (pc' := 19) rfl rfl ?_
    refine am_r_iret rfl rfl ?_
    refine am_q ?_ hq
    unfold r_meets
    (repeat (first | rw [if_pos (by omega)] | rw [if_neg (by omega)]))
    all_goals first | rfl | omega
  · refine am_r_iload2 (pc' := 12) rfl rfl ?_
    refine am_r_ivsI1 (pc' := 15) rfl rfl rfl (Nat.le_of_ble_eq_true rfl) (c_isDay (by omega) (by omega) ?_)
    refine am_r_if_neB (pt := 20) (pf := 18) rfl rfl rfl (fun h15 => ?_) (fun h15 => ?_)
    · refine am_r_aload0 (pc' := 21) rfl rfl ?_
      refine am_r_getR (t := 14) (pc' := 24) rfl rfl rfl ?_
      refine am_r_iload1 (pc' := 25) rfl rfl ?_
      refine am_r_iconst (pc' := 27) rfl rfl ?_
      refine am_r_idiv (pc' := 28) rfl rfl ?_
      refine am_r_iload1 (pc' := 29) rfl rfl ?_
      refine am_r_iconst (pc' := 31) rfl rfl ?_
      refine am_r_irem (pc' := 32) rfl rfl ?_
      refine am_r_iload2 (pc' := 33) rfl rfl ?_
      refine am_r_invI3 (pc' := 36) rfl rfl rfl (Nat.le_of_ble_eq_true rfl) (c_firstMeeting (by omega) hX (by omega) (by omega) (by omega) ?_)
      refine am_r_iret rfl rfl ?_
      refine am_q ?_ hq
      unfold r_meets
      (repeat (first | rw [if_pos (by omega)] | rw [if_neg (by omega)]))
      all_goals first | rfl | omega
    · refine am_r_iconst (pc' := 19) rfl rfl ?_
      refine am_r_iret rfl rfl ?_
      refine am_q ?_ hq
      unfold r_meets
      (repeat (first | rw [if_pos (by omega)] | rw [if_neg (by omega)]))
      all_goals first | rfl | omega
theorem c_often {sL : Nat} {xs : Nat → Int32} {d : Nat} {M : Am_M} {Q : Int32 → Am_M → Prop} (hd : 6 ≤ d) {σ : Sg} (hX : SX M σ) {ab : Int} (hab : -2147483648 ≤ ab ∧ ab < 2147483648) {f0 : Int} (hf0 : -2147483648 ≤ f0 ∧ f0 < 2147483648) {n : Int} (hn : -2147483648 ≤ n ∧ n < 2147483648)  (hq : Q (z_I (r_often σ ab f0 n)) M) : am_bi sL xs d 116 [.ref 0, .int (z_I ab), .int (z_I f0), .int (z_I n)] M Q := by
  obtain ⟨d, rfl⟩ : ∃ e, d = e + 1 := ⟨d - 1, by omega⟩
  have hn := sb_nb hX.1
  have hnr := sb_nrb hX.1
  refine am_bi_of (P := am_pX10_often) (rt := 1) (nL := 4) (Nat.le_of_ble_eq_true rfl) rfl (Nat.le_of_ble_eq_true rfl) rfl rfl rfl ?_
  refine am_r_aload0 (pc' := 1) rfl rfl ?_
  refine am_r_getR (t := 1) (pc' := 4) rfl rfl rfl ?_
  refine am_r_iload1 (pc' := 5) rfl rfl ?_
  refine am_r_invI1 (pc' := 8) rfl rfl rfl (Nat.le_of_ble_eq_true rfl) (c_hasPair (by omega) hX (by omega) ?_)
  refine am_r_if_eqB (pt := 25) (pf := 11) rfl rfl rfl (fun h8 => ?_) (fun h8 => ?_)
  · refine am_r_iconst (pc' := 26) rfl rfl ?_
    refine am_r_iret rfl rfl ?_
    refine am_q ?_ hq
    unfold r_often
    (repeat (first | rw [if_pos (by omega)] | rw [if_neg (by omega)]))
    all_goals first | rfl | omega
  · refine am_r_iload2 (pc' := 12) rfl rfl ?_
    refine am_r_ivsI1 (pc' := 15) rfl rfl rfl (Nat.le_of_ble_eq_true rfl) (c_isDay (by omega) (by omega) ?_)
    refine am_r_if_eqB (pt := 25) (pf := 18) rfl rfl rfl (fun h15 => ?_) (fun h15 => ?_)
    · refine am_r_iconst (pc' := 26) rfl rfl ?_
      refine am_r_iret rfl rfl ?_
      refine am_q ?_ hq
      unfold r_often
      (repeat (first | rw [if_pos (by omega)] | rw [if_neg (by omega)]))
      all_goals first | rfl | omega
    · refine am_r_iload3 (pc' := 19) rfl rfl ?_
      refine am_r_ivsI1 (pc' := 22) rfl rfl rfl (Nat.le_of_ble_eq_true rfl) (c_isSpan (by omega) (by omega) ?_)
      refine am_r_if_neB (pt := 27) (pf := 25) rfl rfl rfl (fun h22 => ?_) (fun h22 => ?_)
      · refine am_r_aload0 (pc' := 28) rfl rfl ?_
        refine am_r_getR (t := 14) (pc' := 31) rfl rfl rfl ?_
        refine am_r_iload1 (pc' := 32) rfl rfl ?_
        refine am_r_iconst (pc' := 34) rfl rfl ?_
        refine am_r_idiv (pc' := 35) rfl rfl ?_
        refine am_r_iload1 (pc' := 36) rfl rfl ?_
        refine am_r_iconst (pc' := 38) rfl rfl ?_
        refine am_r_irem (pc' := 39) rfl rfl ?_
        refine am_r_iload2 (pc' := 40) rfl rfl ?_
        refine am_r_iload3 (pc' := 41) rfl rfl ?_
        refine am_r_invI4 (pc' := 44) rfl rfl rfl (Nat.le_of_ble_eq_true rfl) (c_meetingsIn (by omega) hX (by omega) (by omega) (by omega) (by omega) ?_)
        refine am_r_iret rfl rfl ?_
        refine am_q ?_ hq
        unfold r_often
        (repeat (first | rw [if_pos (by omega)] | rw [if_neg (by omega)]))
        all_goals first | rfl | omega
      · refine am_r_iconst (pc' := 26) rfl rfl ?_
        refine am_r_iret rfl rfl ?_
        refine am_q ?_ hq
        unfold r_often
        (repeat (first | rw [if_pos (by omega)] | rw [if_neg (by omega)]))
        all_goals first | rfl | omega
theorem c_together {sL : Nat} {xs : Nat → Int32} {d : Nat} {M : Am_M} {Q : Int64 → Am_M → Prop} (hd : 3 ≤ d) {σ : Sg} (hX : SX M σ) {s : Int} (hs : -2147483648 ≤ s ∧ s < 2147483648)  (hq : Q (z_L (r_together σ s)) M) : am_bl sL xs d 117 [.ref 0, .int (z_I s)] M Q := by
  obtain ⟨d, rfl⟩ : ∃ e, d = e + 1 := ⟨d - 1, by omega⟩
  have hn := sb_nb hX.1
  have hnr := sb_nrb hX.1
  have hp8 := z_pow8 hn
  refine am_bl_of (P := am_pX10_together) (rt := 3) (nL := 2) (Nat.le_of_ble_eq_true rfl) rfl (Nat.le_of_ble_eq_true rfl) rfl rfl rfl ?_
  refine am_r_aload0 (pc' := 1) rfl rfl ?_
  refine am_r_getR (t := 1) (pc' := 4) rfl rfl rfl ?_
  refine am_r_iload1 (pc' := 5) rfl rfl ?_
  refine am_r_invI1 (pc' := 8) rfl rfl rfl (Nat.le_of_ble_eq_true rfl) (c_hasAll (by omega) hX (by omega) ?_)
  refine am_r_if_eqB (pt := 22) (pf := 11) rfl rfl rfl (fun h8 => ?_) (fun h8 => ?_)
  · refine am_r_lconst (z := (-9223372036854775808)) (pc' := 25) rfl rfl rfl ?_
    refine am_r_lret rfl rfl ?_
    refine am_ql ?_ hq
    unfold r_together
    (repeat (first | rw [if_pos (by omega)] | rw [if_neg (by omega)]))
    all_goals first | rfl | omega
  · refine am_r_aload0 (pc' := 12) rfl rfl ?_
    refine am_r_getR (t := 14) (pc' := 15) rfl rfl rfl ?_
    refine am_r_iload1 (pc' := 16) rfl rfl ?_
    refine am_r_invL1 (pc' := 19) rfl rfl rfl (Nat.le_of_ble_eq_true rfl) (c_togetherAgain (by omega) hX (by omega) ?_)
    refine am_r_goto (pc' := 25) rfl rfl ?_
    refine am_r_lret rfl rfl ?_
    refine am_ql ?_ hq
    unfold r_together
    (repeat (first | rw [if_pos (by omega)] | rw [if_neg (by omega)]))
    all_goals first | rfl | omega
theorem c_start {sL : Nat} {xs : Nat → Int32} {d : Nat} {M : Am_M} {Q : Int64 → Am_M → Prop} (hd : 3 ≤ d) {σ : Sg} (hX : SX M σ) {s : Int} (hs : -2147483648 ≤ s ∧ s < 2147483648)  (hq : Q (z_L (r_start σ s)) M) : am_bl sL xs d 118 [.ref 0, .int (z_I s)] M Q := by
  obtain ⟨d, rfl⟩ : ∃ e, d = e + 1 := ⟨d - 1, by omega⟩
  have hn := sb_nb hX.1
  have hnr := sb_nrb hX.1
  have hp8 := z_pow8 hn
  refine am_bl_of (P := am_pX10_start) (rt := 3) (nL := 2) (Nat.le_of_ble_eq_true rfl) rfl (Nat.le_of_ble_eq_true rfl) rfl rfl rfl ?_
  refine am_r_aload0 (pc' := 1) rfl rfl ?_
  refine am_r_getR (t := 1) (pc' := 4) rfl rfl rfl ?_
  refine am_r_iload1 (pc' := 5) rfl rfl ?_
  refine am_r_invI1 (pc' := 8) rfl rfl rfl (Nat.le_of_ble_eq_true rfl) (c_hasAll (by omega) hX (by omega) ?_)
  refine am_r_if_eqB (pt := 22) (pf := 11) rfl rfl rfl (fun h8 => ?_) (fun h8 => ?_)
  · refine am_r_lconst (z := (-9223372036854775808)) (pc' := 25) rfl rfl rfl ?_
    refine am_r_lret rfl rfl ?_
    refine am_ql ?_ hq
    unfold r_start
    (repeat (first | rw [if_pos (by omega)] | rw [if_neg (by omega)]))
    all_goals first | rfl | omega
  · refine am_r_aload0 (pc' := 12) rfl rfl ?_
    refine am_r_getR (t := 14) (pc' := 15) rfl rfl rfl ?_
    refine am_r_iload1 (pc' := 16) rfl rfl ?_
    refine am_r_invL1 (pc' := 19) rfl rfl rfl (Nat.le_of_ble_eq_true rfl) (c_allAtStart (by omega) hX (by omega) ?_)
    refine am_r_goto (pc' := 25) rfl rfl ?_
    refine am_r_lret rfl rfl ?_
    refine am_ql ?_ hq
    unfold r_start
    (repeat (first | rw [if_pos (by omega)] | rw [if_neg (by omega)]))
    all_goals first | rfl | omega
theorem c_mood {sL : Nat} {xs : Nat → Int32} {d : Nat} {M : Am_M} {Q : Int32 → Am_M → Prop} (hd : 6 ≤ d) {σ : Sg} (hX : SX M σ) {a : Int} (ha : -2147483648 ≤ a ∧ a < 2147483648) {f0 : Int} (hf0 : -2147483648 ≤ f0 ∧ f0 < 2147483648)  (hq : Q (z_I (r_mood σ a f0)) M) : am_bi sL xs d 119 [.ref 0, .int (z_I a), .int (z_I f0)] M Q := by
  obtain ⟨d, rfl⟩ : ∃ e, d = e + 1 := ⟨d - 1, by omega⟩
  have hn := sb_nb hX.1
  have hnr := sb_nrb hX.1
  refine am_bi_of (P := am_pX10_mood) (rt := 1) (nL := 3) (Nat.le_of_ble_eq_true rfl) rfl (Nat.le_of_ble_eq_true rfl) rfl rfl rfl ?_
  refine am_r_aload0 (pc' := 1) rfl rfl ?_
  refine am_r_getR (t := 1) (pc' := 4) rfl rfl rfl ?_
  refine am_r_iload1 (pc' := 5) rfl rfl ?_
  refine am_r_invI1 (pc' := 8) rfl rfl rfl (Nat.le_of_ble_eq_true rfl) (c_has (by omega) hX (by omega) ?_)
  refine am_r_if_eqB (pt := 18) (pf := 11) rfl rfl rfl (fun h8 => ?_) (fun h8 => ?_)
  · refine am_r_iconst (pc' := 20) rfl rfl ?_
    refine am_r_iret rfl rfl ?_
    refine am_q ?_ hq
    unfold r_mood
    (repeat (first | rw [if_pos (by omega)] | rw [if_neg (by omega)]))
    all_goals first | rfl | omega
  · refine am_r_iload2 (pc' := 12) rfl rfl ?_
    refine am_r_ivsI1 (pc' := 15) rfl rfl rfl (Nat.le_of_ble_eq_true rfl) (c_isDay (by omega) (by omega) ?_)
    refine am_r_if_neB (pt := 21) (pf := 18) rfl rfl rfl (fun h15 => ?_) (fun h15 => ?_)
    · refine am_r_aload0 (pc' := 22) rfl rfl ?_
      refine am_r_getR (t := 14) (pc' := 25) rfl rfl rfl ?_
      refine am_r_iload1 (pc' := 26) rfl rfl ?_
      refine am_r_iload2 (pc' := 27) rfl rfl ?_
      refine am_r_invI2 (pc' := 30) rfl rfl rfl (Nat.le_of_ble_eq_true rfl) (c_moodOn (by omega) hX (by omega) (by omega) ?_)
      refine am_r_iret rfl rfl ?_
      refine am_q ?_ hq
      unfold r_mood
      (repeat (first | rw [if_pos (by omega)] | rw [if_neg (by omega)]))
      all_goals first | rfl | omega
    · refine am_r_iconst (pc' := 20) rfl rfl ?_
      refine am_r_iret rfl rfl ?_
      refine am_q ?_ hq
      unfold r_mood
      (repeat (first | rw [if_pos (by omega)] | rw [if_neg (by omega)]))
      all_goals first | rfl | omega
theorem g_bst_b (σ : Sg) (a : Int) : ∀ (k : Nat) (b v i : Int), (b ≤ g_bst σ a b v i k ∨ i ≤ g_bst σ a b v i k) ∧ (g_bst σ a b v i k ≤ b ∨ g_bst σ a b v i k < i + k)
  | 0, b, v, i => ⟨Or.inl (Int.le_refl _), Or.inl (Int.le_refl _)⟩
  | k + 1, b, v, i => by
    unfold g_bst
    split
    · have := g_bst_b σ a k i (g_mood σ a i) (i + 1)
      omega
    · have := g_bst_b σ a k b v (i + 1)
      omega
theorem g_best_b (σ : Sg) (a f0 n : Int) (hf : 0 ≤ f0 ∧ f0 ≤ 9999) (hn : 1 ≤ n ∧ n ≤ 999) : 0 ≤ g_best σ a f0 n ∧ g_best σ a f0 n ≤ 101000 := by
  have := g_bst_b σ a (n - 1).toNat f0 (g_mood σ a f0) (f0 + 1)
  unfold g_best
  omega
theorem c_best {sL : Nat} {xs : Nat → Int32} {d : Nat} {M : Am_M} {Q : Int32 → Am_M → Prop} (hd : 7 ≤ d) {σ : Sg} (hX : SX M σ) {a : Int} (ha : -2147483648 ≤ a ∧ a < 2147483648) {dn : Int} (hdn : -2147483648 ≤ dn ∧ dn < 2147483648) {w : Int} (hw : -2147483648 ≤ w ∧ w < 2147483648)  (hq : Q (z_I (r_best σ a dn w)) M) : am_bi sL xs d 120 [.ref 0, .int (z_I a), .int (z_I dn), .int (z_I w)] M Q := by
  obtain ⟨d, rfl⟩ : ∃ e, d = e + 1 := ⟨d - 1, by omega⟩
  have hn := sb_nb hX.1
  have hnr := sb_nrb hX.1
  refine am_bi_of (P := am_pX10_best) (rt := 1) (nL := 7) (Nat.le_of_ble_eq_true rfl) rfl (Nat.le_of_ble_eq_true rfl) rfl rfl rfl ?_
  refine am_r_iload2 (pc' := 1) rfl rfl ?_
  refine am_r_if_ge (pt := 7) (pf := 4) rfl rfl rfl (fun h1 => ?_) (fun h1 => ?_)
  · refine am_r_iload2 (pc' := 8) rfl rfl ?_
    refine am_r_iconst (pc' := 11) rfl rfl ?_
    refine am_r_idiv (pc' := 12) rfl rfl ?_
    refine am_r_istore4 (pc' := 14) rfl rfl rfl ?_
    refine am_r_iload2 (pc' := 15) rfl rfl ?_
    refine am_r_iconst (pc' := 18) rfl rfl ?_
    refine am_r_irem (pc' := 19) rfl rfl ?_
    refine am_r_istore5 (pc' := 21) rfl rfl rfl ?_
    refine am_r_aload0 (pc' := 22) rfl rfl ?_
    refine am_r_getR (t := 1) (pc' := 25) rfl rfl rfl ?_
    refine am_r_iload1 (pc' := 26) rfl rfl ?_
    refine am_r_invI1 (pc' := 29) rfl rfl rfl (Nat.le_of_ble_eq_true rfl) (c_has (by omega) hX (by omega) ?_)
    refine am_r_if_eqB (pt := 53) (pf := 32) rfl rfl rfl (fun h29 => ?_) (fun h29 => ?_)
    · refine am_r_iconst (pc' := 55) rfl rfl ?_
      refine am_r_iret rfl rfl ?_
      refine am_q ?_ hq
      unfold r_best
      (repeat (first | rw [if_pos (by omega)] | rw [if_neg (by omega)]))
      all_goals first | rfl | omega
    · refine am_r_iload4 (pc' := 34) rfl rfl ?_
      refine am_r_iconst (pc' := 37) rfl rfl ?_
      refine am_r_icmp_gt (pt := 53) (pf := 40) rfl rfl rfl (fun h37 => ?_) (fun h37 => ?_)
      · refine am_r_iconst (pc' := 55) rfl rfl ?_
        refine am_r_iret rfl rfl ?_
        refine am_q ?_ hq
        unfold r_best
        (repeat (first | rw [if_pos (by omega)] | rw [if_neg (by omega)]))
        all_goals first | rfl | omega
      · refine am_r_iload5 (pc' := 42) rfl rfl ?_
        refine am_r_iconst (pc' := 43) rfl rfl ?_
        refine am_r_icmp_lt (pt := 53) (pf := 46) rfl rfl rfl (fun h43 => ?_) (fun h43 => ?_)
        · refine am_r_iconst (pc' := 55) rfl rfl ?_
          refine am_r_iret rfl rfl ?_
          refine am_q ?_ hq
          unfold r_best
          (repeat (first | rw [if_pos (by omega)] | rw [if_neg (by omega)]))
          all_goals first | rfl | omega
        · refine am_r_iload3 (pc' := 47) rfl rfl ?_
          refine am_r_ivsI1 (pc' := 50) rfl rfl rfl (Nat.le_of_ble_eq_true rfl) (c_isWhat (by omega) (by omega) ?_)
          refine am_r_if_neB (pt := 56) (pf := 53) rfl rfl rfl (fun h50 => ?_) (fun h50 => ?_)
          · refine am_r_aload0 (pc' := 57) rfl rfl ?_
            refine am_r_getR (t := 14) (pc' := 60) rfl rfl rfl ?_
            refine am_r_iload1 (pc' := 61) rfl rfl ?_
            refine am_r_iload4 (pc' := 63) rfl rfl ?_
            refine am_r_iload5 (pc' := 65) rfl rfl ?_
            refine am_r_invI3 (pc' := 68) rfl rfl rfl (Nat.le_of_ble_eq_true rfl) (c_bestDay (by omega) hX (by omega) (by omega) (by omega) ?_)
            have hbd := g_best_b σ a (dn / 1000) (dn % 1000) (by omega) (by omega)
            refine am_r_istore6 (pc' := 70) rfl rfl rfl ?_
            refine am_r_iload3 (pc' := 71) rfl rfl ?_
            refine am_r_if_ne (pt := 79) (pf := 74) rfl rfl rfl (fun h71 => ?_) (fun h71 => ?_)
            · refine am_r_aload0 (pc' := 80) rfl rfl ?_
              refine am_r_getR (t := 14) (pc' := 83) rfl rfl rfl ?_
              refine am_r_iload1 (pc' := 84) rfl rfl ?_
              refine am_r_iload6 (pc' := 86) rfl rfl ?_
              refine am_r_invI2 (pc' := 89) rfl rfl rfl (Nat.le_of_ble_eq_true rfl) (c_moodOn (by omega) hX (by omega) (by omega) ?_)
              refine am_r_iret rfl rfl ?_
              refine am_q ?_ hq
              unfold r_best
              (repeat (first | rw [if_pos (by omega)] | rw [if_neg (by omega)]))
              all_goals first | rfl | omega
            · refine am_r_iload6 (pc' := 76) rfl rfl ?_
              refine am_r_goto (pc' := 89) rfl rfl ?_
              refine am_r_iret rfl rfl ?_
              refine am_q ?_ hq
              unfold r_best
              (repeat (first | rw [if_pos (by omega)] | rw [if_neg (by omega)]))
              all_goals first | rfl | omega
          · refine am_r_iconst (pc' := 55) rfl rfl ?_
            refine am_r_iret rfl rfl ?_
            refine am_q ?_ hq
            unfold r_best
            (repeat (first | rw [if_pos (by omega)] | rw [if_neg (by omega)]))
            all_goals first | rfl | omega
  · refine am_r_iconst (pc' := 6) rfl rfl ?_
    refine am_r_iret rfl rfl ?_
    refine am_q ?_ hq
    unfold r_best
    (repeat (first | rw [if_pos (by omega)] | rw [if_neg (by omega)]))
    all_goals first | rfl | omega
theorem c_sign {sL : Nat} {xs : Nat → Int32} {d : Nat} {M : Am_M} {Q : Int32 → Am_M → Prop} (hd : 8 ≤ d) {σ : Sg} (hX : SX M σ) {s : Int} (hs : -2147483648 ≤ s ∧ s < 2147483648) {f0 : Int} (hf0 : -2147483648 ≤ f0 ∧ f0 < 2147483648) {n : Int} (hn : -2147483648 ≤ n ∧ n < 2147483648)  (hq : Q (z_I (r_sign σ s f0 n (g_free σ s) (min 99999 (f0 + g_tog σ (2 ^ (s_n σ).toNat - 1)) - f0 + 1).toNat)) M) : am_bi sL xs d 121 [.ref 0, .int (z_I s), .int (z_I f0), .int (z_I n)] M Q := by
  obtain ⟨d, rfl⟩ : ∃ e, d = e + 1 := ⟨d - 1, by omega⟩
  have hn := sb_nb hX.1
  have hnr := sb_nrb hX.1
  have hp8 := z_pow8 hn
  refine am_bi_of (P := am_pX10_sign) (rt := 1) (nL := 4) (Nat.le_of_ble_eq_true rfl) rfl (Nat.le_of_ble_eq_true rfl) rfl rfl rfl ?_
  refine am_r_aload0 (pc' := 1) rfl rfl ?_
  refine am_r_getR (t := 1) (pc' := 4) rfl rfl rfl ?_
  refine am_r_iload1 (pc' := 5) rfl rfl ?_
  refine am_r_invI1 (pc' := 8) rfl rfl rfl (Nat.le_of_ble_eq_true rfl) (c_hasAll (by omega) hX (by omega) ?_)
  refine am_r_if_eqB (pt := 29) (pf := 11) rfl rfl rfl (fun h8 => ?_) (fun h8 => ?_)
  · refine am_r_iconst (pc' := 30) rfl rfl ?_
    refine am_r_iret rfl rfl ?_
    refine am_q ?_ hq
    unfold r_sign
    (repeat (first | rw [if_pos (by omega)] | rw [if_neg (by omega)]))
    all_goals first | rfl | omega
  · refine am_r_iload2 (pc' := 12) rfl rfl ?_
    refine am_r_ivsI1 (pc' := 15) rfl rfl rfl (Nat.le_of_ble_eq_true rfl) (c_isDay (by omega) (by omega) ?_)
    refine am_r_if_eqB (pt := 29) (pf := 18) rfl rfl rfl (fun h15 => ?_) (fun h15 => ?_)
    · refine am_r_iconst (pc' := 30) rfl rfl ?_
      refine am_r_iret rfl rfl ?_
      refine am_q ?_ hq
      unfold r_sign
      (repeat (first | rw [if_pos (by omega)] | rw [if_neg (by omega)]))
      all_goals first | rfl | omega
    · refine am_r_iload3 (pc' := 19) rfl rfl ?_
      refine am_r_if_lt (pt := 29) (pf := 22) rfl rfl rfl (fun h19 => ?_) (fun h19 => ?_)
      · refine am_r_iconst (pc' := 30) rfl rfl ?_
        refine am_r_iret rfl rfl ?_
        refine am_q ?_ hq
        unfold r_sign
        (repeat (first | rw [if_pos (by omega)] | rw [if_neg (by omega)]))
        all_goals first | rfl | omega
      · refine am_r_iload3 (pc' := 23) rfl rfl ?_
        refine am_r_iconst (pc' := 26) rfl rfl ?_
        refine am_r_icmp_le (pt := 31) (pf := 29) rfl rfl rfl (fun h26 => ?_) (fun h26 => ?_)
        · refine am_r_iload3 (pc' := 32) rfl rfl ?_
          refine am_r_if_ne (pt := 47) (pf := 35) rfl rfl rfl (fun h32 => ?_) (fun h32 => ?_)
          · refine am_r_aload0 (pc' := 48) rfl rfl ?_
            refine am_r_getR (t := 14) (pc' := 51) rfl rfl rfl ?_
            refine am_r_iload1 (pc' := 52) rfl rfl ?_
            refine am_r_iload2 (pc' := 53) rfl rfl ?_
            refine am_r_iload3 (pc' := 54) rfl rfl ?_
            refine am_r_invI3 (pc' := 57) rfl rfl rfl (Nat.le_of_ble_eq_true rfl) (c_freeDaysIn (by omega) hX (by omega) (by omega) (by omega) ?_)
            refine am_r_iret rfl rfl ?_
            refine am_q ?_ hq
            unfold r_sign
            (repeat (first | rw [if_pos (by omega)] | rw [if_neg (by omega)]))
            all_goals first | rfl | omega
          · refine am_r_aload0 (pc' := 36) rfl rfl ?_
            refine am_r_getR (t := 14) (pc' := 39) rfl rfl rfl ?_
            refine am_r_iload1 (pc' := 40) rfl rfl ?_
            refine am_r_iload2 (pc' := 41) rfl rfl ?_
            refine am_r_invI2 (pc' := 44) rfl rfl rfl (Nat.le_of_ble_eq_true rfl) (c_firstFreeDay (by omega) hX (by omega) (by omega) ?_)
            refine am_r_goto (pc' := 57) rfl rfl ?_
            refine am_r_iret rfl rfl ?_
            refine am_q ?_ hq
            unfold r_sign
            (repeat (first | rw [if_pos (by omega)] | rw [if_neg (by omega)]))
            all_goals first | rfl | omega
        · refine am_r_iconst (pc' := 30) rfl rfl ?_
          refine am_r_iret rfl rfl ?_
          refine am_q ?_ hq
          unfold r_sign
          (repeat (first | rw [if_pos (by omega)] | rw [if_neg (by omega)]))
          all_goals first | rfl | omega
theorem c_nudge {sL : Nat} {xs : Nat → Int32} {d : Nat} {M : Am_M} {Q : Int32 → Am_M → Prop} (hd : 6 ≤ d) {σ : Sg} (hX : SX M σ) {ab : Int} (hab : -2147483648 ≤ ab ∧ ab < 2147483648) {f0 : Int} (hf0 : -2147483648 ≤ f0 ∧ f0 < 2147483648)  (hq : Q (z_I (r_nudge σ ab f0 (s_rd σ (ab / 10)).toNat)) M) : am_bi sL xs d 122 [.ref 0, .int (z_I ab), .int (z_I f0)] M Q := by
  obtain ⟨d, rfl⟩ : ∃ e, d = e + 1 := ⟨d - 1, by omega⟩
  have hn := sb_nb hX.1
  have hnr := sb_nrb hX.1
  refine am_bi_of (P := am_pX10_nudge) (rt := 1) (nL := 3) (Nat.le_of_ble_eq_true rfl) rfl (Nat.le_of_ble_eq_true rfl) rfl rfl rfl ?_
  refine am_r_aload0 (pc' := 1) rfl rfl ?_
  refine am_r_getR (t := 1) (pc' := 4) rfl rfl rfl ?_
  refine am_r_iload1 (pc' := 5) rfl rfl ?_
  refine am_r_invI1 (pc' := 8) rfl rfl rfl (Nat.le_of_ble_eq_true rfl) (c_hasPair (by omega) hX (by omega) ?_)
  refine am_r_if_eqB (pt := 18) (pf := 11) rfl rfl rfl (fun h8 => ?_) (fun h8 => ?_)
  · refine am_r_iconst (pc' := 20) rfl rfl ?_
    refine am_r_iret rfl rfl ?_
    refine am_q ?_ hq
    unfold r_nudge
    (repeat (first | rw [if_pos (by omega)] | rw [if_neg (by omega)]))
    all_goals first | rfl | omega
  · refine am_r_iload2 (pc' := 12) rfl rfl ?_
    refine am_r_ivsI1 (pc' := 15) rfl rfl rfl (Nat.le_of_ble_eq_true rfl) (c_isDay (by omega) (by omega) ?_)
    refine am_r_if_neB (pt := 21) (pf := 18) rfl rfl rfl (fun h15 => ?_) (fun h15 => ?_)
    · refine am_r_aload0 (pc' := 22) rfl rfl ?_
      refine am_r_getR (t := 14) (pc' := 25) rfl rfl rfl ?_
      refine am_r_iload1 (pc' := 26) rfl rfl ?_
      refine am_r_iconst (pc' := 28) rfl rfl ?_
      refine am_r_idiv (pc' := 29) rfl rfl ?_
      refine am_r_iload1 (pc' := 30) rfl rfl ?_
      refine am_r_iconst (pc' := 32) rfl rfl ?_
      refine am_r_irem (pc' := 33) rfl rfl ?_
      refine am_r_iload2 (pc' := 34) rfl rfl ?_
      refine am_r_invI3 (pc' := 37) rfl rfl rfl (Nat.le_of_ble_eq_true rfl) (c_leastNudge (by omega) hX (by omega) (by omega) (by omega) ?_)
      refine am_r_iret rfl rfl ?_
      refine am_q ?_ hq
      unfold r_nudge
      (repeat (first | rw [if_pos (by omega)] | rw [if_neg (by omega)]))
      all_goals first | rfl | omega
    · refine am_r_iconst (pc' := 20) rfl rfl ?_
      refine am_r_iret rfl rfl ?_
      refine am_q ?_ hq
      unfold r_nudge
      (repeat (first | rw [if_pos (by omega)] | rw [if_neg (by omega)]))
      all_goals first | rfl | omega
theorem c_never {sL : Nat} {xs : Nat → Int32} {d : Nat} {M : Am_M} {Q : Int32 → Am_M → Prop} (hd : 7 ≤ d) {σ : Sg} (hX : SX M σ) {ab : Int} (hab : -2147483648 ≤ ab ∧ ab < 2147483648) {n : Int} (hn : -2147483648 ≤ n ∧ n < 2147483648) {w : Int} (hw : -2147483648 ≤ w ∧ w < 2147483648)  (hq : Q (z_I (r_never σ ab n w)) M) : am_bi sL xs d 123 [.ref 0, .int (z_I ab), .int (z_I n), .int (z_I w)] M Q := by
  obtain ⟨d, rfl⟩ : ∃ e, d = e + 1 := ⟨d - 1, by omega⟩
  have hn := sb_nb hX.1
  have hnr := sb_nrb hX.1
  refine am_bi_of (P := am_pX10_never) (rt := 1) (nL := 6) (Nat.le_of_ble_eq_true rfl) rfl (Nat.le_of_ble_eq_true rfl) rfl rfl rfl ?_
  refine am_r_aload0 (pc' := 1) rfl rfl ?_
  refine am_r_getR (t := 1) (pc' := 4) rfl rfl rfl ?_
  refine am_r_iload1 (pc' := 5) rfl rfl ?_
  refine am_r_invI1 (pc' := 8) rfl rfl rfl (Nat.le_of_ble_eq_true rfl) (c_hasPair (by omega) hX (by omega) ?_)
  refine am_r_if_eqB (pt := 25) (pf := 11) rfl rfl rfl (fun h8 => ?_) (fun h8 => ?_)
  · refine am_r_iconst (pc' := 26) rfl rfl ?_
    refine am_r_iret rfl rfl ?_
    refine am_q ?_ hq
    unfold r_never
    (repeat (first | rw [if_pos (by omega)] | rw [if_neg (by omega)]))
    all_goals first | rfl | omega
  · refine am_r_iload2 (pc' := 12) rfl rfl ?_
    refine am_r_ivsI1 (pc' := 15) rfl rfl rfl (Nat.le_of_ble_eq_true rfl) (c_isSpan (by omega) (by omega) ?_)
    refine am_r_if_eqB (pt := 25) (pf := 18) rfl rfl rfl (fun h15 => ?_) (fun h15 => ?_)
    · refine am_r_iconst (pc' := 26) rfl rfl ?_
      refine am_r_iret rfl rfl ?_
      refine am_q ?_ hq
      unfold r_never
      (repeat (first | rw [if_pos (by omega)] | rw [if_neg (by omega)]))
      all_goals first | rfl | omega
    · refine am_r_iload3 (pc' := 19) rfl rfl ?_
      refine am_r_ivsI1 (pc' := 22) rfl rfl rfl (Nat.le_of_ble_eq_true rfl) (c_isWhat (by omega) (by omega) ?_)
      refine am_r_if_neB (pt := 27) (pf := 25) rfl rfl rfl (fun h22 => ?_) (fun h22 => ?_)
      · refine am_r_iload1 (pc' := 28) rfl rfl ?_
        refine am_r_iconst (pc' := 30) rfl rfl ?_
        refine am_r_idiv (pc' := 31) rfl rfl ?_
        refine am_r_istore4 (pc' := 33) rfl rfl rfl ?_
        refine am_r_iload1 (pc' := 34) rfl rfl ?_
        refine am_r_iconst (pc' := 36) rfl rfl ?_
        refine am_r_irem (pc' := 37) rfl rfl ?_
        refine am_r_istore5 (pc' := 39) rfl rfl rfl ?_
        refine am_r_iload3 (pc' := 40) rfl rfl ?_
        refine am_r_if_ne (pt := 58) (pf := 43) rfl rfl rfl (fun h40 => ?_) (fun h40 => ?_)
        · refine am_r_aload0 (pc' := 59) rfl rfl ?_
          refine am_r_getR (t := 14) (pc' := 62) rfl rfl rfl ?_
          refine am_r_iload4 (pc' := 64) rfl rfl ?_
          refine am_r_iload5 (pc' := 66) rfl rfl ?_
          refine am_r_iload2 (pc' := 67) rfl rfl ?_
          refine am_r_invI3 (pc' := 70) rfl rfl rfl (Nat.le_of_ble_eq_true rfl) (c_leastLonelyPlace (by omega) hX (by omega) (by omega) (by omega) ?_)
          refine am_r_iret rfl rfl ?_
          refine am_q ?_ hq
          unfold r_never
          (repeat (first | rw [if_pos (by omega)] | rw [if_neg (by omega)]))
          all_goals first | rfl | omega
        · refine am_r_aload0 (pc' := 44) rfl rfl ?_
          refine am_r_getR (t := 14) (pc' := 47) rfl rfl rfl ?_
          refine am_r_iload4 (pc' := 49) rfl rfl ?_
          refine am_r_iload5 (pc' := 51) rfl rfl ?_
          refine am_r_iload2 (pc' := 52) rfl rfl ?_
          refine am_r_invI3 (pc' := 55) rfl rfl rfl (Nat.le_of_ble_eq_true rfl) (c_lonelyPlaces (by omega) hX (by omega) (by omega) (by omega) ?_)
          refine am_r_goto (pc' := 70) rfl rfl ?_
          refine am_r_iret rfl rfl ?_
          refine am_q ?_ hq
          unfold r_never
          (repeat (first | rw [if_pos (by omega)] | rw [if_neg (by omega)]))
          all_goals first | rfl | omega
      · refine am_r_iconst (pc' := 26) rfl rfl ?_
        refine am_r_iret rfl rfl ?_
        refine am_q ?_ hq
        unfold r_never
        (repeat (first | rw [if_pos (by omega)] | rw [if_neg (by omega)]))
        all_goals first | rfl | omega
theorem c_scene {sL : Nat} {xs : Nat → Int32} {d : Nat} {M : Am_M} {Q : Int32 → Am_M → Prop} (hd : 4 ≤ d) {σ : Sg} (hX : SX M σ) {ab : Int} (hab : -2147483648 ≤ ab ∧ ab < 2147483648)  (hq : Q (z_I (r_scene σ ab)) M) : am_bi sL xs d 124 [.ref 0, .int (z_I ab)] M Q := by
  obtain ⟨d, rfl⟩ : ∃ e, d = e + 1 := ⟨d - 1, by omega⟩
  have hn := sb_nb hX.1
  have hnr := sb_nrb hX.1
  refine am_bi_of (P := am_pX10_scene) (rt := 1) (nL := 2) (Nat.le_of_ble_eq_true rfl) rfl (Nat.le_of_ble_eq_true rfl) rfl rfl rfl ?_
  refine am_r_aload0 (pc' := 1) rfl rfl ?_
  refine am_r_getR (t := 1) (pc' := 4) rfl rfl rfl ?_
  refine am_r_iload1 (pc' := 5) rfl rfl ?_
  refine am_r_invI1 (pc' := 8) rfl rfl rfl (Nat.le_of_ble_eq_true rfl) (c_hasPair (by omega) hX (by omega) ?_)
  refine am_r_if_eqB (pt := 29) (pf := 11) rfl rfl rfl (fun h8 => ?_) (fun h8 => ?_)
  · refine am_r_iconst (pc' := 30) rfl rfl ?_
    refine am_r_iret rfl rfl ?_
    refine am_q ?_ hq
    unfold r_scene
    (repeat (first | rw [if_pos (by omega)] | rw [if_neg (by omega)]))
    all_goals first | rfl | omega
  · refine am_r_aload0 (pc' := 12) rfl rfl ?_
    refine am_r_getR (t := 14) (pc' := 15) rfl rfl rfl ?_
    refine am_r_iload1 (pc' := 16) rfl rfl ?_
    refine am_r_iconst (pc' := 18) rfl rfl ?_
    refine am_r_idiv (pc' := 19) rfl rfl ?_
    refine am_r_iload1 (pc' := 20) rfl rfl ?_
    refine am_r_iconst (pc' := 22) rfl rfl ?_
    refine am_r_irem (pc' := 23) rfl rfl ?_
    refine am_r_invI2 (pc' := 26) rfl rfl rfl (Nat.le_of_ble_eq_true rfl) (c_daysSinceScene (by omega) hX (by omega) (by omega) ?_)
    refine am_r_goto (pc' := 30) rfl rfl ?_
    refine am_r_iret rfl rfl ?_
    refine am_q ?_ hq
    unfold r_scene
    (repeat (first | rw [if_pos (by omega)] | rw [if_neg (by omega)]))
    all_goals first | rfl | omega
theorem c_arc {sL : Nat} {xs : Nat → Int32} {d : Nat} {M : Am_M} {Q : Int32 → Am_M → Prop} (hd : 6 ≤ d) {σ : Sg} (hX : SX M σ) {s : Int} (hs : -2147483648 ≤ s ∧ s < 2147483648) {f0 : Int} (hf0 : -2147483648 ≤ f0 ∧ f0 < 2147483648)  (hq : Q (z_I (r_arc σ s f0 (g_arc σ s f0))) M) : am_bi sL xs d 134 [.ref 0, .int (z_I s), .int (z_I f0)] M Q := by
  obtain ⟨d, rfl⟩ : ∃ e, d = e + 1 := ⟨d - 1, by omega⟩
  have hn := sb_nb hX.1
  have hnr := sb_nrb hX.1
  have hp8 := z_pow8 hn
  refine am_bi_of (P := am_pX10_arc) (rt := 1) (nL := 3) (Nat.le_of_ble_eq_true rfl) rfl (Nat.le_of_ble_eq_true rfl) rfl rfl rfl ?_
  refine am_r_aload0 (pc' := 1) rfl rfl ?_
  refine am_r_getR (t := 1) (pc' := 4) rfl rfl rfl ?_
  refine am_r_iload1 (pc' := 5) rfl rfl ?_
  refine am_r_invI1 (pc' := 8) rfl rfl rfl (Nat.le_of_ble_eq_true rfl) (c_hasAll (by omega) hX (by omega) ?_)
  refine am_r_if_eqB (pt := 18) (pf := 11) rfl rfl rfl (fun h8 => ?_) (fun h8 => ?_)
  · refine am_r_iconst (pc' := 19) rfl rfl ?_
    refine am_r_iret rfl rfl ?_
    refine am_q ?_ hq
    unfold r_arc
    (repeat (first | rw [if_pos (by omega)] | rw [if_neg (by omega)]))
    all_goals first | rfl | omega
  · refine am_r_iload2 (pc' := 12) rfl rfl ?_
    refine am_r_ivsI1 (pc' := 15) rfl rfl rfl (Nat.le_of_ble_eq_true rfl) (c_isDay (by omega) (by omega) ?_)
    refine am_r_if_neB (pt := 20) (pf := 18) rfl rfl rfl (fun h15 => ?_) (fun h15 => ?_)
    · refine am_r_aload0 (pc' := 21) rfl rfl ?_
      refine am_r_getR (t := 14) (pc' := 24) rfl rfl rfl ?_
      refine am_r_iload1 (pc' := 25) rfl rfl ?_
      refine am_r_iload2 (pc' := 26) rfl rfl ?_
      refine am_r_invI2 (pc' := 29) rfl rfl rfl (Nat.le_of_ble_eq_true rfl) (c_leastArc (by omega) hX (by omega) (by omega) ?_)
      refine am_r_iret rfl rfl ?_
      refine am_q ?_ hq
      unfold r_arc
      (repeat (first | rw [if_pos (by omega)] | rw [if_neg (by omega)]))
      all_goals first | rfl | omega
    · refine am_r_iconst (pc' := 19) rfl rfl ?_
      refine am_r_iret rfl rfl ?_
      refine am_q ?_ hq
      unfold r_arc
      (repeat (first | rw [if_pos (by omega)] | rw [if_neg (by omega)]))
      all_goals first | rfl | omega
theorem am_q2 {Q : Int32 → Am_M → Prop} {M : Am_M} {x y : Int32} (h : x = y) (hq : Q y M) : Q x M := by rw [h]; exact hq
def c_us (x : Int32) (n : Int) : Int32 := (x.toUInt32 >>> ((z_I n).toUInt32 &&& Int32.toUInt32 31)).toInt32
def c_bc1 (x : Int32) : Int32 := x - (c_us x 1 &&& z_I 1431655765)
def c_bc2 (x : Int32) : Int32 := (x &&& z_I 858993459) + (c_us x 2 &&& z_I 858993459)
def c_bc3 (x : Int32) : Int32 := (x + c_us x 4) &&& z_I 252645135
def c_bc4 (x : Int32) : Int32 := x + c_us x 8
def c_bc5 (x : Int32) : Int32 := x + c_us x 16
def c_bcx (x : Int32) : Int32 := c_bc5 (c_bc4 (c_bc3 (c_bc2 (c_bc1 x)))) &&& z_I 63
theorem c_bitCount {sL : Nat} {xs : Nat → Int32} {d : Nat} {M : Am_M} {Q : Int32 → Am_M → Prop} (hd : 1 ≤ d) {a : Int} (ha : 0 ≤ a ∧ a < 256) (hq : Q (z_I (g_pop a)) M) : am_bi sL xs d 260 [.int (z_I a)] M Q := by
  obtain ⟨d, rfl⟩ : ∃ e, d = e + 1 := ⟨d - 1, by omega⟩
  refine am_bi_of (P := am_pJ6_bitCount_0f7a4) (rt := 1) (nL := 1) (Nat.le_of_ble_eq_true rfl) rfl (Nat.le_of_ble_eq_true rfl) rfl rfl rfl ?_
  refine am_r_iload0 (pc' := 1) rfl rfl ?_
  refine am_r_iload0 (pc' := 2) rfl rfl ?_
  refine am_r_iconst (pc' := 3) rfl rfl ?_
  refine am_r_iushr (pc' := 4) rfl rfl ?_
  refine am_r_iconst (pc' := 7) rfl rfl ?_
  refine am_r_iandR (pc' := 8) rfl rfl ?_
  refine am_r_isubR (pc' := 9) rfl rfl ?_
  refine am_r_istore0 (pc' := 10) rfl rfl ?_
  refine am_r_iload0 (pc' := 11) rfl rfl ?_
  refine am_r_iconst (pc' := 14) rfl rfl ?_
  refine am_r_iandR (pc' := 15) rfl rfl ?_
  refine am_r_iload0 (pc' := 16) rfl rfl ?_
  refine am_r_iconst (pc' := 17) rfl rfl ?_
  refine am_r_iushr (pc' := 18) rfl rfl ?_
  refine am_r_iconst (pc' := 21) rfl rfl ?_
  refine am_r_iandR (pc' := 22) rfl rfl ?_
  refine am_r_iaddR (pc' := 23) rfl rfl ?_
  refine am_r_istore0 (pc' := 24) rfl rfl ?_
  refine am_r_iload0 (pc' := 25) rfl rfl ?_
  refine am_r_iload0 (pc' := 26) rfl rfl ?_
  refine am_r_iconst (pc' := 27) rfl rfl ?_
  refine am_r_iushr (pc' := 28) rfl rfl ?_
  refine am_r_iaddR (pc' := 29) rfl rfl ?_
  refine am_r_iconst (pc' := 32) rfl rfl ?_
  refine am_r_iandR (pc' := 33) rfl rfl ?_
  refine am_r_istore0 (pc' := 34) rfl rfl ?_
  refine am_r_iload0 (pc' := 35) rfl rfl ?_
  refine am_r_iload0 (pc' := 36) rfl rfl ?_
  refine am_r_iconst (pc' := 38) rfl rfl ?_
  refine am_r_iushr (pc' := 39) rfl rfl ?_
  refine am_r_iaddR (pc' := 40) rfl rfl ?_
  refine am_r_istore0 (pc' := 41) rfl rfl ?_
  refine am_r_iload0 (pc' := 42) rfl rfl ?_
  refine am_r_iload0 (pc' := 43) rfl rfl ?_
  refine am_r_iconst (pc' := 45) rfl rfl ?_
  refine am_r_iushr (pc' := 46) rfl rfl ?_
  refine am_r_iaddR (pc' := 47) rfl rfl ?_
  refine am_r_istore0 (pc' := 48) rfl rfl ?_
  refine am_r_iload0 (pc' := 49) rfl rfl ?_
  refine am_r_iconst (pc' := 51) rfl rfl ?_
  refine am_r_iandR (pc' := 52) rfl rfl ?_
  refine am_r_iret rfl rfl ?_
  refine am_q2 ?_ hq
  obtain ⟨i, rfl⟩ : ∃ i : Nat, a = i := ⟨a.toNat, by omega⟩
  have h : ∀ i : Nat, i < 256 → c_bcx (z_I (i : Int)) = z_I (g_pop i) := by decide +kernel
  exact h i (by omega)
theorem c_crowd {sL : Nat} {xs : Nat → Int32} {d : Nat} {M : Am_M} {Q : Int32 → Am_M → Prop} (hd : 6 ≤ d) {σ : Sg} (hX : SX M σ) {a : Int} (ha : -2147483648 ≤ a ∧ a < 2147483648) {f0 : Int} (hf0 : -2147483648 ≤ f0 ∧ f0 < 2147483648) {w : Int} (hw : -2147483648 ≤ w ∧ w < 2147483648)  (hq : Q (z_I (r_crowd σ a f0 w (g_pop (g_met σ a f0)) (g_met σ a f0))) M) : am_bi sL xs d 133 [.ref 0, .int (z_I a), .int (z_I f0), .int (z_I w)] M Q := by
  obtain ⟨d, rfl⟩ : ∃ e, d = e + 1 := ⟨d - 1, by omega⟩
  have hn := sb_nb hX.1
  have hnr := sb_nrb hX.1
  have hp8 := z_pow8 hn
  refine am_bi_of (P := am_pX10_crowd) (rt := 1) (nL := 5) (Nat.le_of_ble_eq_true rfl) rfl (Nat.le_of_ble_eq_true rfl) rfl rfl rfl ?_
  refine am_r_aload0 (pc' := 1) rfl rfl ?_
  refine am_r_getR (t := 1) (pc' := 4) rfl rfl rfl ?_
  refine am_r_iload1 (pc' := 5) rfl rfl ?_
  refine am_r_invI1 (pc' := 8) rfl rfl rfl (Nat.le_of_ble_eq_true rfl) (c_has (by omega) hX (by omega) ?_)
  refine am_r_if_eqB (pt := 25) (pf := 11) rfl rfl rfl (fun h8 => ?_) (fun h8 => ?_)
  · refine am_r_iconst (pc' := 26) rfl rfl ?_
    refine am_r_iret rfl rfl ?_
    refine am_q ?_ hq
    unfold r_crowd
    (repeat (first | rw [if_pos (by omega)] | rw [if_neg (by omega)]))
    all_goals first | rfl | omega
  · refine am_r_iload2 (pc' := 12) rfl rfl ?_
    refine am_r_ivsI1 (pc' := 15) rfl rfl rfl (Nat.le_of_ble_eq_true rfl) (c_isDay (by omega) (by omega) ?_)
    refine am_r_if_eqB (pt := 25) (pf := 18) rfl rfl rfl (fun h15 => ?_) (fun h15 => ?_)
    · refine am_r_iconst (pc' := 26) rfl rfl ?_
      refine am_r_iret rfl rfl ?_
      refine am_q ?_ hq
      unfold r_crowd
      (repeat (first | rw [if_pos (by omega)] | rw [if_neg (by omega)]))
      all_goals first | rfl | omega
    · refine am_r_iload3 (pc' := 19) rfl rfl ?_
      refine am_r_ivsI1 (pc' := 22) rfl rfl rfl (Nat.le_of_ble_eq_true rfl) (c_isWhat (by omega) (by omega) ?_)
      refine am_r_if_neB (pt := 27) (pf := 25) rfl rfl rfl (fun h22 => ?_) (fun h22 => ?_)
      · refine am_r_aload0 (pc' := 28) rfl rfl ?_
        refine am_r_getR (t := 14) (pc' := 31) rfl rfl rfl ?_
        refine am_r_iload1 (pc' := 32) rfl rfl ?_
        refine am_r_iload2 (pc' := 33) rfl rfl ?_
        refine am_r_invI2 (pc' := 36) rfl rfl rfl (Nat.le_of_ble_eq_true rfl) (c_metOn (by omega) hX (by omega) (by omega) ?_)
        refine am_r_istore4 (pc' := 38) rfl rfl rfl ?_
        refine am_r_iload3 (pc' := 39) rfl rfl ?_
        refine am_r_if_ne (pt := 50) (pf := 42) rfl rfl rfl (fun h39 => ?_) (fun h39 => ?_)
        · refine am_r_iload4 (pc' := 52) rfl rfl ?_
          refine am_r_iret rfl rfl ?_
          refine am_q ?_ hq
          unfold r_crowd
          (repeat (first | rw [if_pos (by omega)] | rw [if_neg (by omega)]))
          all_goals first | rfl | omega
        · refine am_r_iload4 (pc' := 44) rfl rfl ?_
          refine am_r_ivsI1 (pc' := 47) rfl rfl rfl (Nat.le_of_ble_eq_true rfl) (c_bitCount (by omega) (by have := g_met_b hX.1 a f0; omega) ?_)
          refine am_r_goto (pc' := 52) rfl rfl ?_
          refine am_r_iret rfl rfl ?_
          refine am_q ?_ hq
          unfold r_crowd
          (repeat (first | rw [if_pos (by omega)] | rw [if_neg (by omega)]))
          all_goals first | rfl | omega
      · refine am_r_iconst (pc' := 26) rfl rfl ?_
        refine am_r_iret rfl rfl ?_
        refine am_q ?_ hq
        unfold r_crowd
        (repeat (first | rw [if_pos (by omega)] | rw [if_neg (by omega)]))
        all_goals first | rfl | omega
theorem f_first_b (p : Int → Bool) : ∀ (k : Nat) (i : Int), f_first p i k = -2 ∨ (i ≤ f_first p i k ∧ f_first p i k < i + k)
  | 0, i => Or.inl rfl
  | k + 1, i => by
    unfold f_first
    split
    · exact Or.inr (by omega)
    · have := f_first_b p k (i + 1)
      omega
theorem g_win_b (σ : Sg) (a b d : Int) (t : Nat) : -2 ≤ g_win σ a b d t ∧ g_win σ a b d t ≤ 1 := by
  have := f_first_b (fun v => g_ends σ a b d t false v) 3 (-1)
  unfold g_win
  omega
theorem c_byTurns {sL : Nat} {xs : Nat → Int32} {d : Nat} {M : Am_M} {Q : Int32 → Am_M → Prop} (hd : 13 ≤ d) {σ : Sg} (hX : SX M σ) {ab : Int} (hab : -2147483648 ≤ ab ∧ ab < 2147483648) {f0 : Int} (hf0 : -2147483648 ≤ f0 ∧ f0 < 2147483648) {n : Int} (hn : -2147483648 ≤ n ∧ n < 2147483648) (hq : Q (z_I (r_turns σ ab f0 n (g_win σ (ab / 10) (ab % 10) f0 (n / 10 - 1).toNat))) M) : am_bi sL xs d 132 [.ref 0, .int (z_I ab), .int (z_I f0), .int (z_I n)] M Q := by
  obtain ⟨d, rfl⟩ : ∃ e, d = e + 1 := ⟨d - 1, by omega⟩
  have hn := sb_nb hX.1
  have hnr := sb_nrb hX.1
  refine am_bi_of (P := am_pX10_byTurns) (rt := 1) (nL := 7) (Nat.le_of_ble_eq_true rfl) rfl (Nat.le_of_ble_eq_true rfl) rfl rfl rfl ?_
  refine am_r_iload3 (pc' := 1) rfl rfl ?_
  refine am_r_if_ge (pt := 7) (pf := 4) rfl rfl rfl (fun h1 => ?_) (fun h1 => ?_)
  · refine am_r_iload3 (pc' := 8) rfl rfl ?_
    refine am_r_iconst (pc' := 10) rfl rfl ?_
    refine am_r_idiv (pc' := 11) rfl rfl ?_
    refine am_r_istore4 (pc' := 13) rfl rfl rfl ?_
    refine am_r_iload3 (pc' := 14) rfl rfl ?_
    refine am_r_iconst (pc' := 16) rfl rfl ?_
    refine am_r_irem (pc' := 17) rfl rfl ?_
    refine am_r_istore5 (pc' := 19) rfl rfl rfl ?_
    refine am_r_aload0 (pc' := 20) rfl rfl ?_
    refine am_r_getR (t := 1) (pc' := 23) rfl rfl rfl ?_
    refine am_r_iload1 (pc' := 24) rfl rfl ?_
    refine am_r_invI1 (pc' := 27) rfl rfl rfl (Nat.le_of_ble_eq_true rfl) (c_hasPair (by omega) hX (by omega) ?_)
    refine am_r_if_eqB (pt := 58) (pf := 30) rfl rfl rfl (fun h27 => ?_) (fun h27 => ?_)
    · refine am_r_iconst (pc' := 60) rfl rfl ?_
      refine am_r_iret rfl rfl ?_
      refine am_q ?_ hq
      unfold r_turns
      (repeat (first | rw [if_pos (by omega)] | rw [if_neg (by omega)]))
      all_goals first | rfl | omega
    · refine am_r_iload2 (pc' := 31) rfl rfl ?_
      refine am_r_ivsI1 (pc' := 34) rfl rfl rfl (Nat.le_of_ble_eq_true rfl) (c_isDay (by omega) (by omega) ?_)
      refine am_r_if_eqB (pt := 58) (pf := 37) rfl rfl rfl (fun h34 => ?_) (fun h34 => ?_)
      · refine am_r_iconst (pc' := 60) rfl rfl ?_
        refine am_r_iret rfl rfl ?_
        refine am_q ?_ hq
        unfold r_turns
        (repeat (first | rw [if_pos (by omega)] | rw [if_neg (by omega)]))
        all_goals first | rfl | omega
      · refine am_r_iload4 (pc' := 39) rfl rfl ?_
        refine am_r_iconst (pc' := 40) rfl rfl ?_
        refine am_r_icmp_lt (pt := 58) (pf := 43) rfl rfl rfl (fun h40 => ?_) (fun h40 => ?_)
        · refine am_r_iconst (pc' := 60) rfl rfl ?_
          refine am_r_iret rfl rfl ?_
          refine am_q ?_ hq
          unfold r_turns
          (repeat (first | rw [if_pos (by omega)] | rw [if_neg (by omega)]))
          all_goals first | rfl | omega
        · refine am_r_iload4 (pc' := 45) rfl rfl ?_
          refine am_r_iconst (pc' := 47) rfl rfl ?_
          refine am_r_icmp_gt (pt := 58) (pf := 50) rfl rfl rfl (fun h47 => ?_) (fun h47 => ?_)
          · refine am_r_iconst (pc' := 60) rfl rfl ?_
            refine am_r_iret rfl rfl ?_
            refine am_q ?_ hq
            unfold r_turns
            (repeat (first | rw [if_pos (by omega)] | rw [if_neg (by omega)]))
            all_goals first | rfl | omega
          · refine am_r_iload5 (pc' := 52) rfl rfl ?_
            refine am_r_ivsI1 (pc' := 55) rfl rfl rfl (Nat.le_of_ble_eq_true rfl) (c_isWhat (by omega) (by omega) ?_)
            refine am_r_if_neB (pt := 61) (pf := 58) rfl rfl rfl (fun h55 => ?_) (fun h55 => ?_)
            · obtain ⟨t, ht⟩ : ∃ t : Nat, n / 10 = (t : Int) + 1 := ⟨(n / 10 - 1).toNat, by omega⟩
              have ht2 : (n / 10 - 1).toNat = t := by omega
              rw [ht2] at hq
              have hgw := g_win_b σ (ab / 10) (ab % 10) f0 t
              refine am_r_aload0 (pc' := 62) rfl rfl ?_
              refine am_r_getR (t := 14) (pc' := 65) rfl rfl rfl ?_
              refine am_r_iload1 (pc' := 66) rfl rfl ?_
              refine am_r_iconst (pc' := 68) rfl rfl ?_
              refine am_r_idiv (pc' := 69) rfl rfl ?_
              refine am_r_iload1 (pc' := 70) rfl rfl ?_
              refine am_r_iconst (pc' := 72) rfl rfl ?_
              refine am_r_irem (pc' := 73) rfl rfl ?_
              refine am_r_iload2 (pc' := 74) rfl rfl ?_
              refine am_r_iload4 (pc' := 76) rfl rfl ?_
              rw [ht]
              refine am_r_invI4 (pc' := 79) rfl rfl rfl (Nat.le_of_ble_eq_true rfl) (c_firstWinningNudge (t := t) (by omega) hX (by omega) (by omega) (by omega) (by omega) ?_)
              refine am_r_istore6 (pc' := 81) rfl rfl rfl ?_
              refine am_r_iload5 (pc' := 83) rfl rfl ?_
              refine am_r_if_ne (pt := 99) (pf := 86) rfl rfl rfl (fun h83 => ?_) (fun h83 => ?_)
              · refine am_r_iload6 (pc' := 101) rfl rfl ?_
                refine am_r_iconst (pc' := 103) rfl rfl ?_
                refine am_r_icmp_ne (pt := 110) (pf := 106) rfl rfl rfl (fun h103 => ?_) (fun h103 => ?_)
                · refine am_r_iload6 (pc' := 112) rfl rfl ?_
                  refine am_r_iret rfl rfl ?_
                  refine am_q ?_ hq
                  unfold r_turns
                  (repeat (first | rw [if_pos (by omega)] | rw [if_neg (by omega)]))
                  all_goals first | rfl | omega
                · refine am_r_iconst (pc' := 107) rfl rfl ?_
                  refine am_r_goto (pc' := 112) rfl rfl ?_
                  refine am_r_iret rfl rfl ?_
                  refine am_q ?_ hq
                  unfold r_turns
                  (repeat (first | rw [if_pos (by omega)] | rw [if_neg (by omega)]))
                  all_goals first | rfl | omega
              · refine am_r_iload6 (pc' := 88) rfl rfl ?_
                refine am_r_iconst (pc' := 90) rfl rfl ?_
                refine am_r_icmp_ne (pt := 97) (pf := 93) rfl rfl rfl (fun h90 => ?_) (fun h90 => ?_)
                · refine am_r_iconst (pc' := 98) rfl rfl ?_
                  refine am_r_iret rfl rfl ?_
                  refine am_q ?_ hq
                  unfold r_turns
                  (repeat (first | rw [if_pos (by omega)] | rw [if_neg (by omega)]))
                  all_goals first | rfl | omega
                · refine am_r_iconst (pc' := 94) rfl rfl ?_
                  refine am_r_goto (pc' := 98) rfl rfl ?_
                  refine am_r_iret rfl rfl ?_
                  refine am_q ?_ hq
                  unfold r_turns
                  (repeat (first | rw [if_pos (by omega)] | rw [if_neg (by omega)]))
                  all_goals first | rfl | omega
            · refine am_r_iconst (pc' := 60) rfl rfl ?_
              refine am_r_iret rfl rfl ?_
              refine am_q ?_ hq
              unfold r_turns
              (repeat (first | rw [if_pos (by omega)] | rw [if_neg (by omega)]))
              all_goals first | rfl | omega
  · refine am_r_iconst (pc' := 6) rfl rfl ?_
    refine am_r_iret rfl rfl ?_
    refine am_q ?_ hq
    unfold r_turns
    (repeat (first | rw [if_pos (by omega)] | rw [if_neg (by omega)]))
    all_goals first | rfl | omega
