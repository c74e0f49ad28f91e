/-! PUSHED, the class: the answers -/
def r_later (σ : Sg) (χ : q_X) (a n : Int) : Int := if (0 ≤ a ∧ a < s_n σ) ∧ (0 ≤ n ∧ n ≤ 200) then y_at σ χ n.toNat a else -1
def r_pushes (σ : Sg) (χ : q_X) (n w : Int) : Int := if (0 ≤ n ∧ n ≤ 200) ∧ (w = 0 ∨ w = 1) then (if w = 0 then f_sum (y_pd σ χ) 0 n.toNat else f_first (y_pdp σ χ) 0 n.toNat) else -1
def r_met (σ : Sg) (χ : q_X) (ab n : Int) : Int := if (0 ≤ ab ∧ ab / 10 < s_n σ ∧ ab % 10 < s_n σ ∧ ab / 10 ≠ ab % 10) ∧ (0 ≤ n ∧ n ≤ 200) then f_cnt (y_md σ χ (ab / 10) (ab % 10)) 0 n.toNat else -1
def r_again (σ : Sg) (χ : q_X) (w : Int) : Int := if (w = 0 ∨ w = 1) then y_ag σ χ w 1 300 else -1
def y_fu (σ : Sg) (χ : q_X) (η : Hs) (e a : Int) : Int := f_first (y_ul σ χ (h_v η e) a) 0 (h_n η e).toNat
def r_judge (σ : Sg) (χ : q_X) (η : Hs) (e a : Int) : Int := if (0 ≤ e ∧ e < 6) ∧ (0 ≤ a ∧ a < s_n σ) then (if h_k η e < 0 then -11 else if h_k η e = 50 then y_fu σ χ η e a else -12) else -1
def y_lk (σ : Sg) (χ : q_X) (η : Hs) (e ab a v : Int) : Bool := decide (y_fu (s_setLk σ (ab / 10) (ab % 10) v) χ η e a = -2)
def f_f99 (p : Int → Bool) : Int → Nat → Int
  | _, 0 => -99
  | i, k + 1 => if p i = true then i else f_f99 p (i + 1) k
def r_liking (σ : Sg) (χ : q_X) (η : Hs) (e ab a w : Int) : Int := if (0 ≤ e ∧ e < 6) ∧ (0 ≤ ab ∧ ab / 10 < s_n σ ∧ ab % 10 < s_n σ ∧ ab / 10 ≠ ab % 10) ∧ (0 ≤ a ∧ a < s_n σ) ∧ (w = 0 ∨ w = 1) ∧ h_k η e = 50 then (if w = 0 then f_cnt (y_lk σ χ η e ab a) (-9) 19 else f_f99 (y_lk σ χ η e ab a) (-9) 19) else -2000000000
def y_wb (σ : Sg) (χ : q_X) (η : Hs) (e b : Int) : Int := if y_fu σ χ η e b = -2 then 2 ^ b.toNat else 0
def r_whose (σ : Sg) (χ : q_X) (η : Hs) (e : Int) : Int := if 0 ≤ e ∧ e < 6 then (if h_k η e < 0 then -11 else if h_k η e = 50 then f_sum (y_wb σ χ η e) 0 (s_n σ).toNat else -12) else -1
def r_drawn (F : y_F) (σ : Sg) (χ : q_X) (z : Int32) (n a : Int) : Int := if 0 ≤ n ∧ (1 ≤ n / 10000 ∧ n / 10000 ≤ 30) ∧ (1 ≤ n / 100 % 100 ∧ n / 100 % 100 ≤ 60) ∧ n % 100 ≤ 12 ∧ (a = -1 ∨ (0 ≤ a ∧ a < s_n σ)) then y_dr F σ χ z (n / 10000) (n / 100 % 100) (n % 100) a else -1
theorem c_later {sL : Nat} {xs : Nat → Int32} {d : Nat} {M : Am_M} {Q : Int32 → Am_M → Prop} (hd : 7 ≤ d) {σ : Sg} {χ : q_X} (hX : SX M σ) (hL : CL M χ) {a : Int} (ha : -2147483648 ≤ a ∧ a < 2147483648) {n : Int} (hn : -2147483648 ≤ n ∧ n < 2147483648)  (hq : ∀ M', am_fr 22 28 M M' → Q (z_I (r_later σ χ a n)) M') : am_bi sL xs d 125 [.ref 0, .int (z_I a), .int (z_I n)] M Q := by
  obtain ⟨d, rfl⟩ : ∃ e, d = e + 1 := ⟨d - 1, by omega⟩
  have hn := sb_nb hX.1
  have hnr := sb_nrb hX.1
  refine am_bi_of (P := am_pX10_later) (rt := 1) (nL := 3) (Nat.le_of_ble_eq_true rfl) rfl (Nat.le_of_ble_eq_true rfl) rfl rfl rfl ?_
  refine am_r_aload0 (pc' := 1) rfl rfl ?_
  refine am_r_getR (t := 1) (pc' := 4) rfl rfl rfl ?_
  refine am_r_iload1 (pc' := 5) rfl rfl ?_
  refine am_r_invI1 (pc' := 8) rfl rfl rfl (Nat.le_of_ble_eq_true rfl) (c_has (by omega) hX (by omega) ?_)
  refine am_r_if_eqB (pt := 18) (pf := 11) rfl rfl rfl (fun h8 => ?_) (fun h8 => ?_)
  · refine am_r_iconst (pc' := 19) rfl rfl ?_
    refine am_r_iret rfl rfl ?_
    refine am_q ?_ (hq M (am_fr_rf _ _ _))
    unfold r_later
    (repeat (first | rw [if_pos (by omega)] | rw [if_neg (by omega)]))
    all_goals first | rfl | omega
  · refine am_r_iload2 (pc' := 12) rfl rfl ?_
    refine am_r_ivsI1 (pc' := 15) rfl rfl rfl (Nat.le_of_ble_eq_true rfl) (c_isPushedSpan (by omega) (by omega) ?_)
    refine am_r_if_neB (pt := 20) (pf := 18) rfl rfl rfl (fun h15 => ?_) (fun h15 => ?_)
    · refine am_r_aload0 (pc' := 21) rfl rfl ?_
      refine am_r_getR (t := 29) (pc' := 24) rfl rfl rfl ?_
      refine am_r_iload1 (pc' := 25) rfl rfl ?_
      refine am_r_iload2 (pc' := 26) rfl rfl ?_
      refine am_r_invI2 (pc' := 29) rfl rfl rfl (Nat.le_of_ble_eq_true rfl) (c_placeBehind (χ := χ) (by omega) hX hL (by omega) (by omega) ?_)
      · intro M3 hf3
        refine am_r_iret rfl rfl ?_
        refine am_q ?_ (hq _ hf3)
        unfold r_later
        (repeat (first | rw [if_pos (by omega)] | rw [if_neg (by omega)]))
        all_goals first | rfl | omega
    · refine am_r_iconst (pc' := 19) rfl rfl ?_
      refine am_r_iret rfl rfl ?_
      refine am_q ?_ (hq M (am_fr_rf _ _ _))
      unfold r_later
      (repeat (first | rw [if_pos (by omega)] | rw [if_neg (by omega)]))
      all_goals first | rfl | omega
theorem c_pushes {sL : Nat} {xs : Nat → Int32} {d : Nat} {M : Am_M} {Q : Int32 → Am_M → Prop} (hd : 7 ≤ d) {σ : Sg} {χ : q_X} (hX : SX M σ) (hL : CL M χ) {n : Int} (hn : -2147483648 ≤ n ∧ n < 2147483648) {w : Int} (hw : -2147483648 ≤ w ∧ w < 2147483648)  (hq : ∀ M', am_fr 22 28 M M' → Q (z_I (r_pushes σ χ n w)) M') : am_bi sL xs d 126 [.ref 0, .int (z_I n), .int (z_I w)] M Q := by
  obtain ⟨d, rfl⟩ : ∃ e, d = e + 1 := ⟨d - 1, by omega⟩
  have hn := sb_nb hX.1
  have hnr := sb_nrb hX.1
  refine am_bi_of (P := am_pX10_pushes) (rt := 1) (nL := 3) (Nat.le_of_ble_eq_true rfl) rfl (Nat.le_of_ble_eq_true rfl) rfl rfl rfl ?_
  refine am_r_iload1 (pc' := 1) rfl rfl ?_
  refine am_r_ivsI1 (pc' := 4) rfl rfl rfl (Nat.le_of_ble_eq_true rfl) (c_isPushedSpan (by omega) (by omega) ?_)
  refine am_r_if_eqB (pt := 14) (pf := 7) rfl rfl rfl (fun h4 => ?_) (fun h4 => ?_)
  · refine am_r_iconst (pc' := 15) rfl rfl ?_
    refine am_r_iret rfl rfl ?_
    refine am_q ?_ (hq M (am_fr_rf _ _ _))
    unfold r_pushes
    (repeat (first | rw [if_pos (by omega)] | rw [if_neg (by omega)]))
    all_goals first | rfl | omega
  · refine am_r_iload2 (pc' := 8) rfl rfl ?_
    refine am_r_ivsI1 (pc' := 11) rfl rfl rfl (Nat.le_of_ble_eq_true rfl) (c_isWhat (by omega) (by omega) ?_)
    refine am_r_if_neB (pt := 16) (pf := 14) rfl rfl rfl (fun h11 => ?_) (fun h11 => ?_)
    · refine am_r_iload2 (pc' := 17) rfl rfl ?_
      refine am_r_if_ne (pt := 31) (pf := 20) rfl rfl rfl (fun h17 => ?_) (fun h17 => ?_)
      · refine am_r_aload0 (pc' := 32) rfl rfl ?_
        refine am_r_getR (t := 29) (pc' := 35) rfl rfl rfl ?_
        refine am_r_iload1 (pc' := 36) rfl rfl ?_
        refine am_r_invI1 (pc' := 39) rfl rfl rfl (Nat.le_of_ble_eq_true rfl) (c_firstPushIn (χ := χ) (by omega) hX hL (by omega) ?_)
        · intro M3 hf3
          refine am_r_iret rfl rfl ?_
          refine am_q ?_ (hq _ hf3)
          unfold r_pushes
          (repeat (first | rw [if_pos (by omega)] | rw [if_neg (by omega)]))
          all_goals first | rfl | omega
      · refine am_r_aload0 (pc' := 21) rfl rfl ?_
        refine am_r_getR (t := 29) (pc' := 24) rfl rfl rfl ?_
        refine am_r_iload1 (pc' := 25) rfl rfl ?_
        refine am_r_invI1 (pc' := 28) rfl rfl rfl (Nat.le_of_ble_eq_true rfl) (c_pushesIn (χ := χ) (by omega) hX hL (by omega) ?_)
        · intro M3 hf3
          refine am_r_goto (pc' := 39) rfl rfl ?_
          refine am_r_iret rfl rfl ?_
          refine am_q ?_ (hq _ hf3)
          unfold r_pushes
          (repeat (first | rw [if_pos (by omega)] | rw [if_neg (by omega)]))
          all_goals first | rfl | omega
    · refine am_r_iconst (pc' := 15) rfl rfl ?_
      refine am_r_iret rfl rfl ?_
      refine am_q ?_ (hq M (am_fr_rf _ _ _))
      unfold r_pushes
      (repeat (first | rw [if_pos (by omega)] | rw [if_neg (by omega)]))
      all_goals first | rfl | omega
theorem c_met {sL : Nat} {xs : Nat → Int32} {d : Nat} {M : Am_M} {Q : Int32 → Am_M → Prop} (hd : 7 ≤ d) {σ : Sg} {χ : q_X} (hX : SX M σ) (hL : CL M χ) {ab : Int} (hab : -2147483648 ≤ ab ∧ ab < 2147483648) {n : Int} (hn : -2147483648 ≤ n ∧ n < 2147483648)  (hq : ∀ M', am_fr 22 28 M M' → Q (z_I (r_met σ χ ab n)) M') : am_bi sL xs d 127 [.ref 0, .int (z_I ab), .int (z_I n)] M Q := by
  obtain ⟨d, rfl⟩ : ∃ e, d = e + 1 := ⟨d - 1, by omega⟩
  have hn := sb_nb hX.1
  have hnr := sb_nrb hX.1
  refine am_bi_of (P := am_pX10_met) (rt := 1) (nL := 3) (Nat.le_of_ble_eq_true rfl) rfl (Nat.le_of_ble_eq_true rfl) rfl rfl rfl ?_
  refine am_r_aload0 (pc' := 1) rfl rfl ?_
  refine am_r_getR (t := 1) (pc' := 4) rfl rfl rfl ?_
  refine am_r_iload1 (pc' := 5) rfl rfl ?_
  refine am_r_invI1 (pc' := 8) rfl rfl rfl (Nat.le_of_ble_eq_true rfl) (c_hasPair (by omega) hX (by omega) ?_)
  refine am_r_if_eqB (pt := 18) (pf := 11) rfl rfl rfl (fun h8 => ?_) (fun h8 => ?_)
  · refine am_r_iconst (pc' := 19) rfl rfl ?_
    refine am_r_iret rfl rfl ?_
    refine am_q ?_ (hq M (am_fr_rf _ _ _))
    unfold r_met
    (repeat (first | rw [if_pos (by omega)] | rw [if_neg (by omega)]))
    all_goals first | rfl | omega
  · refine am_r_iload2 (pc' := 12) rfl rfl ?_
    refine am_r_ivsI1 (pc' := 15) rfl rfl rfl (Nat.le_of_ble_eq_true rfl) (c_isPushedSpan (by omega) (by omega) ?_)
    refine am_r_if_neB (pt := 20) (pf := 18) rfl rfl rfl (fun h15 => ?_) (fun h15 => ?_)
    · refine am_r_aload0 (pc' := 21) rfl rfl ?_
      refine am_r_getR (t := 29) (pc' := 24) rfl rfl rfl ?_
      refine am_r_iload1 (pc' := 25) rfl rfl ?_
      refine am_r_iconst (pc' := 27) rfl rfl ?_
      refine am_r_idiv (pc' := 28) rfl rfl ?_
      refine am_r_iload1 (pc' := 29) rfl rfl ?_
      refine am_r_iconst (pc' := 31) rfl rfl ?_
      refine am_r_irem (pc' := 32) rfl rfl ?_
      refine am_r_iload2 (pc' := 33) rfl rfl ?_
      refine am_r_invI3 (pc' := 36) rfl rfl rfl (Nat.le_of_ble_eq_true rfl) (c_foreMeetingsIn (χ := χ) (by omega) hX hL (by omega) (by omega) (by omega) (by omega) ?_)
      · intro M3 hf3
        refine am_r_iret rfl rfl ?_
        refine am_q ?_ (hq _ hf3)
        unfold r_met
        (repeat (first | rw [if_pos (by omega)] | rw [if_neg (by omega)]))
        all_goals first | rfl | omega
    · refine am_r_iconst (pc' := 19) rfl rfl ?_
      refine am_r_iret rfl rfl ?_
      refine am_q ?_ (hq M (am_fr_rf _ _ _))
      unfold r_met
      (repeat (first | rw [if_pos (by omega)] | rw [if_neg (by omega)]))
      all_goals first | rfl | omega
theorem c_again {sL : Nat} {xs : Nat → Int32} {d : Nat} {M : Am_M} {Q : Int32 → Am_M → Prop} (hd : 7 ≤ d) {σ : Sg} {χ : q_X} (hX : SX M σ) (hL : CL M χ) {w : Int} (hw : -2147483648 ≤ w ∧ w < 2147483648)  (hq : ∀ M', am_fr 22 30 M M' → Q (z_I (r_again σ χ w)) M') : am_bi sL xs d 128 [.ref 0, .int (z_I w)] M Q := by
  obtain ⟨d, rfl⟩ : ∃ e, d = e + 1 := ⟨d - 1, by omega⟩
  have hn := sb_nb hX.1
  have hnr := sb_nrb hX.1
  refine am_bi_of (P := am_pX10_again) (rt := 1) (nL := 2) (Nat.le_of_ble_eq_true rfl) rfl (Nat.le_of_ble_eq_true rfl) rfl rfl rfl ?_
  refine am_r_iload1 (pc' := 1) rfl rfl ?_
  refine am_r_ivsI1 (pc' := 4) rfl rfl rfl (Nat.le_of_ble_eq_true rfl) (c_isWhat (by omega) (by omega) ?_)
  refine am_r_if_eqB (pt := 27) (pf := 7) rfl rfl rfl (fun h4 => ?_) (fun h4 => ?_)
  · refine am_r_iconst (pc' := 28) rfl rfl ?_
    refine am_r_iret rfl rfl ?_
    refine am_q ?_ (hq M (am_fr_rf _ _ _))
    unfold r_again
    rw [if_neg (by omega)]
  · refine am_r_aload0 (pc' := 8) rfl rfl ?_
    refine am_r_getR (t := 29) (pc' := 11) rfl rfl rfl ?_
    refine am_r_iload1 (pc' := 12) rfl rfl ?_
    refine am_r_iconst (pc' := 13) rfl rfl ?_
    refine am_r_icmp_ne (pt := 20) (pf := 16) rfl rfl rfl (fun h13 => ?_) (fun h13 => ?_)
    · refine am_r_iconst (pc' := 21) rfl rfl ?_
      refine am_r_invI1 (pc' := 24) rfl rfl rfl (Nat.le_of_ble_eq_true rfl) (c_roundAgain (χ := χ) (by omega) hX hL (by omega) ?_)
      · intro M3 hf3
        refine am_r_goto (pc' := 28) rfl rfl ?_
        refine am_r_iret rfl rfl ?_
        refine am_q ?_ (hq _ hf3)
        unfold r_again
        rw [if_pos (by omega)]
        first | rw [show w = 1 by omega] | rw [show w = 0 by omega]
    · refine am_r_iconst (pc' := 17) rfl rfl ?_
      refine am_r_goto (pc' := 21) rfl rfl ?_
      refine am_r_invI1 (pc' := 24) rfl rfl rfl (Nat.le_of_ble_eq_true rfl) (c_roundAgain (χ := χ) (by omega) hX hL (by omega) ?_)
      · intro M3 hf3
        refine am_r_goto (pc' := 28) rfl rfl ?_
        refine am_r_iret rfl rfl ?_
        refine am_q ?_ (hq _ hf3)
        unfold r_again
        rw [if_pos (by omega)]
        first | rw [show w = 1 by omega] | rw [show w = 0 by omega]
theorem c_isShelf {sL : Nat} {xs : Nat → Int32} {d : Nat} {M : Am_M} {Q : Int32 → Am_M → Prop} (hd : 1 ≤ d) {e : Int} (he : -2147483648 ≤ e ∧ e < 2147483648) (hq : Q (z_b (0 ≤ e ∧ e < 6)) M) : am_bi sL xs d 56 [.int (z_I e)] M Q := by
  obtain ⟨d, rfl⟩ : ∃ e, d = e + 1 := ⟨d - 1, by omega⟩
  refine am_bi_of (P := am_pX6_isShelf) (rt := 2) (nL := 1) (Nat.le_of_ble_eq_true rfl) rfl (Nat.le_of_ble_eq_true rfl) rfl rfl rfl ?_
  refine am_r_iload0 (pc' := 1) rfl rfl ?_
  refine am_r_if_lt (pt := 14) (pf := 4) rfl rfl rfl (fun h1 => ?_) (fun h1 => ?_)
  · refine am_r_iconst (pc' := 15) rfl rfl ?_
    refine am_r_zret rfl rfl (by first | exact Or.inr rfl | exact Or.inl rfl | exact z_b_01 _ | assumption) ?_
    first | (rw [z_bT (by omega)] at hq; exact hq) | (rw [z_bF (by omega)] at hq; exact hq)
  · refine am_r_iload0 (pc' := 5) rfl rfl ?_
    refine am_r_iconst (pc' := 7) rfl rfl ?_
    refine am_r_icmp_ge (pt := 14) (pf := 10) rfl rfl rfl (fun h7 => ?_) (fun h7 => ?_)
    · refine am_r_iconst (pc' := 15) rfl rfl ?_
      refine am_r_zret rfl rfl (by first | exact Or.inr rfl | exact Or.inl rfl | exact z_b_01 _ | assumption) ?_
      first | (rw [z_bT (by omega)] at hq; exact hq) | (rw [z_bF (by omega)] at hq; exact hq)
    · refine am_r_iconst (pc' := 11) rfl rfl ?_
      refine am_r_goto (pc' := 15) rfl rfl ?_
      refine am_r_zret rfl rfl (by first | exact Or.inr rfl | exact Or.inl rfl | exact z_b_01 _ | assumption) ?_
      first | (rw [z_bT (by omega)] at hq; exact hq) | (rw [z_bF (by omega)] at hq; exact hq)
theorem c_isEmpty {sL : Nat} {xs : Nat → Int32} {d : Nat} {M : Am_M} {Q : Int32 → Am_M → Prop} (hd : 1 ≤ d) {η : Hs} (hH : HX M η) {e : Int} (he : 0 ≤ e ∧ e < 6)  (hq : Q (z_b (h_k η e < 0)) M) : am_bi sL xs d 57 [.ref 38, .int (z_I e)] M Q := by
  obtain ⟨d, rfl⟩ : ∃ e, d = e + 1 := ⟨d - 1, by omega⟩
  have hk := hb_k hH.1 he
  have hhd := h_hd_b (h_k η e)
  refine am_bi_of (P := am_pX6_isEmpty) (rt := 2) (nL := 2) (Nat.le_of_ble_eq_true rfl) rfl (Nat.le_of_ble_eq_true rfl) rfl rfl rfl ?_
  refine am_r_aload0 (pc' := 1) rfl rfl ?_
  refine am_r_getR (t := 39) (pc' := 4) rfl rfl rfl ?_
  refine am_r_iload1 (pc' := 5) rfl rfl ?_
  refine am_r_iaZv (n := 6) (pc' := 6) rfl rfl rfl (by decide) (hx_h hH (by omega)) ?_
  refine am_r_if_ne (pt := 13) (pf := 9) rfl rfl rfl (fun h6 => ?_) (fun h6 => ?_)
  · refine am_r_iconst (pc' := 14) rfl rfl ?_
    refine am_r_zret rfl rfl (by first | exact Or.inr rfl | exact Or.inl rfl | exact z_b_01 _ | assumption) ?_
    first | (rw [z_bT (by omega)] at hq; exact hq) | (rw [z_bF (by omega)] at hq; exact hq)
  · refine am_r_iconst (pc' := 10) rfl rfl ?_
    refine am_r_goto (pc' := 14) rfl rfl ?_
    refine am_r_zret rfl rfl (by first | exact Or.inr rfl | exact Or.inl rfl | exact z_b_01 _ | assumption) ?_
    first | (rw [z_bT (by omega)] at hq; exact hq) | (rw [z_bF (by omega)] at hq; exact hq)
theorem c_isMood {sL : Nat} {xs : Nat → Int32} {d : Nat} {M : Am_M} {Q : Int32 → Am_M → Prop} (hd : 1 ≤ d) {η : Hs} (hH : HX M η) {e : Int} (he : 0 ≤ e ∧ e < 6)  (hq : Q (z_b (0 ≤ h_k η e ∧ h_k η e < 50)) M) : am_bi sL xs d 58 [.ref 38, .int (z_I e)] M Q := by
  obtain ⟨d, rfl⟩ : ∃ e, d = e + 1 := ⟨d - 1, by omega⟩
  have hk := hb_k hH.1 he
  have hhd := h_hd_b (h_k η e)
  refine am_bi_of (P := am_pX6_isMood) (rt := 2) (nL := 2) (Nat.le_of_ble_eq_true rfl) rfl (Nat.le_of_ble_eq_true rfl) rfl rfl rfl ?_
  refine am_r_aload0 (pc' := 1) rfl rfl ?_
  refine am_r_getR (t := 39) (pc' := 4) rfl rfl rfl ?_
  refine am_r_iload1 (pc' := 5) rfl rfl ?_
  refine am_r_iaZv (n := 6) (pc' := 6) rfl rfl rfl (by decide) (hx_h hH (by omega)) ?_
  refine am_r_iconst (pc' := 7) rfl rfl ?_
  refine am_r_icmp_ne (pt := 14) (pf := 10) rfl rfl rfl (fun h7 => ?_) (fun h7 => ?_)
  · refine am_r_iconst (pc' := 15) rfl rfl ?_
    refine am_r_zret rfl rfl (by first | exact Or.inr rfl | exact Or.inl rfl | exact z_b_01 _ | assumption) ?_
    first | (rw [z_bT (by omega)] at hq; exact hq) | (rw [z_bF (by omega)] at hq; exact hq)
  · refine am_r_iconst (pc' := 11) rfl rfl ?_
    refine am_r_goto (pc' := 15) rfl rfl ?_
    refine am_r_zret rfl rfl (by first | exact Or.inr rfl | exact Or.inl rfl | exact z_b_01 _ | assumption) ?_
    first | (rw [z_bT (by omega)] at hq; exact hq) | (rw [z_bF (by omega)] at hq; exact hq)
theorem c_isBook {sL : Nat} {xs : Nat → Int32} {d : Nat} {M : Am_M} {Q : Int32 → Am_M → Prop} (hd : 1 ≤ d) {η : Hs} (hH : HX M η) {e : Int} (he : 0 ≤ e ∧ e < 6)  (hq : Q (z_b (h_k η e = 50)) M) : am_bi sL xs d 59 [.ref 38, .int (z_I e)] M Q := by
  obtain ⟨d, rfl⟩ : ∃ e, d = e + 1 := ⟨d - 1, by omega⟩
  have hk := hb_k hH.1 he
  have hhd := h_hd_b (h_k η e)
  refine am_bi_of (P := am_pX6_isBook) (rt := 2) (nL := 2) (Nat.le_of_ble_eq_true rfl) rfl (Nat.le_of_ble_eq_true rfl) rfl rfl rfl ?_
  refine am_r_aload0 (pc' := 1) rfl rfl ?_
  refine am_r_getR (t := 39) (pc' := 4) rfl rfl rfl ?_
  refine am_r_iload1 (pc' := 5) rfl rfl ?_
  refine am_r_iaZv (n := 6) (pc' := 6) rfl rfl rfl (by decide) (hx_h hH (by omega)) ?_
  refine am_r_iconst (pc' := 7) rfl rfl ?_
  refine am_r_icmp_ne (pt := 23) (pf := 10) rfl rfl rfl (fun h7 => ?_) (fun h7 => ?_)
  · refine am_r_iconst (pc' := 24) rfl rfl ?_
    refine am_r_zret rfl rfl (by first | exact Or.inr rfl | exact Or.inl rfl | exact z_b_01 _ | assumption) ?_
    first | (rw [z_bT (by omega)] at hq; exact hq) | (rw [z_bF (by omega)] at hq; exact hq)
  · refine am_r_aload0 (pc' := 11) rfl rfl ?_
    refine am_r_getR (t := 41) (pc' := 14) rfl rfl rfl ?_
    refine am_r_iload1 (pc' := 15) rfl rfl ?_
    refine am_r_iaZv (n := 6) (pc' := 16) rfl rfl rfl (by decide) (hx_s hH (by omega) (by omega)) ?_
    refine am_r_if_ne (pt := 23) (pf := 19) rfl rfl rfl (fun h16 => ?_) (fun h16 => ?_)
    · refine am_r_iconst (pc' := 24) rfl rfl ?_
      refine am_r_zret rfl rfl (by first | exact Or.inr rfl | exact Or.inl rfl | exact z_b_01 _ | assumption) ?_
      first | (rw [z_bT (by omega)] at hq; exact hq) | (rw [z_bF (by omega)] at hq; exact hq)
    · refine am_r_iconst (pc' := 20) rfl rfl ?_
      refine am_r_goto (pc' := 24) rfl rfl ?_
      refine am_r_zret rfl rfl (by first | exact Or.inr rfl | exact Or.inl rfl | exact z_b_01 _ | assumption) ?_
      first | (rw [z_bT (by omega)] at hq; exact hq) | (rw [z_bF (by omega)] at hq; exact hq)
def h_rr (η : Hs) (e : Int) : Int := if 0 ≤ e ∧ e < 6 then (if h_k η e < 0 then -11 else if h_k η e < 50 then -12 else 0) else -1
def h_br (η : Hs) (e : Int) : Int := if 0 ≤ e ∧ e < 6 then (if h_k η e < 0 then -11 else if h_k η e = 50 then 0 else -12) else -1
theorem h_rr_b (η : Hs) (e : Int) : -12 ≤ h_rr η e ∧ h_rr η e ≤ 0 ∧ (h_rr η e = 0 ↔ (0 ≤ e ∧ e < 6) ∧ 50 ≤ h_k η e) := by
  unfold h_rr
  repeat' split
  all_goals omega
theorem h_br_b (η : Hs) (e : Int) : -12 ≤ h_br η e ∧ h_br η e ≤ 0 ∧ (h_br η e = 0 ↔ (0 ≤ e ∧ e < 6) ∧ h_k η e = 50) := by
  unfold h_br
  repeat' split
  all_goals omega
theorem c_rowRefusal {sL : Nat} {xs : Nat → Int32} {d : Nat} {M : Am_M} {Q : Int32 → Am_M → Prop} (hd : 2 ≤ d) {η : Hs} (hH : HX M η) {e : Int} (he : -2147483648 ≤ e ∧ e < 2147483648)  (hq : Q (z_I (h_rr η e)) M) : am_bi sL xs d 63 [.ref 38, .int (z_I e)] M Q := by
  obtain ⟨d, rfl⟩ : ∃ e, d = e + 1 := ⟨d - 1, by omega⟩
  have hkb : (0 ≤ e ∧ e < 6) → -1 ≤ h_k η e ∧ h_k η e ≤ 54 := fun q => hb_k hH.1 q
  have hhd := h_hd_b (h_k η e)
  refine am_bi_of (P := am_pX6_rowRefusal) (rt := 1) (nL := 2) (Nat.le_of_ble_eq_true rfl) rfl (Nat.le_of_ble_eq_true rfl) rfl rfl rfl ?_
  refine am_r_iload1 (pc' := 1) rfl rfl ?_
  refine am_r_ivsI1 (pc' := 4) rfl rfl rfl (Nat.le_of_ble_eq_true rfl) (c_isShelf (by omega) (by omega) ?_)
  refine am_r_if_neB (pt := 9) (pf := 7) rfl rfl rfl (fun h4 => ?_) (fun h4 => ?_)
  · refine am_r_aload0 (pc' := 10) rfl rfl ?_
    refine am_r_iload1 (pc' := 11) rfl rfl ?_
    refine am_r_invI1 (pc' := 14) rfl rfl rfl (Nat.le_of_ble_eq_true rfl) (c_isEmpty (by omega) hH (by omega) ?_)
    refine am_r_if_eqB (pt := 20) (pf := 17) rfl rfl rfl (fun h14 => ?_) (fun h14 => ?_)
    · refine am_r_aload0 (pc' := 21) rfl rfl ?_
      refine am_r_getR (t := 39) (pc' := 24) rfl rfl rfl ?_
      refine am_r_iload1 (pc' := 25) rfl rfl ?_
      refine am_r_iaZv (n := 6) (pc' := 26) rfl rfl rfl (by decide) (hx_h hH (by omega)) ?_
      refine am_r_iconst (pc' := 27) rfl rfl ?_
      refine am_r_icmp_ne (pt := 34) (pf := 30) rfl rfl rfl (fun h27 => ?_) (fun h27 => ?_)
      · refine am_r_iconst (pc' := 36) rfl rfl ?_
        refine am_r_iret rfl rfl ?_
        refine am_q ?_ hq
        unfold h_rr
        (repeat (first | rw [if_pos (by omega)] | rw [if_neg (by omega)]))
        all_goals first | rfl | omega
      · refine am_r_iconst (pc' := 31) rfl rfl ?_
        refine am_r_goto (pc' := 36) rfl rfl ?_
        refine am_r_iret rfl rfl ?_
        refine am_q ?_ hq
        unfold h_rr
        (repeat (first | rw [if_pos (by omega)] | rw [if_neg (by omega)]))
        all_goals first | rfl | omega
    · refine am_r_iconst (pc' := 19) rfl rfl ?_
      refine am_r_iret rfl rfl ?_
      refine am_q ?_ hq
      unfold h_rr
      (repeat (first | rw [if_pos (by omega)] | rw [if_neg (by omega)]))
      all_goals first | rfl | omega
  · refine am_r_iconst (pc' := 8) rfl rfl ?_
    refine am_r_iret rfl rfl ?_
    refine am_q ?_ hq
    unfold h_rr
    (repeat (first | rw [if_pos (by omega)] | rw [if_neg (by omega)]))
    all_goals first | rfl | omega
theorem c_bookRefusal {sL : Nat} {xs : Nat → Int32} {d : Nat} {M : Am_M} {Q : Int32 → Am_M → Prop} (hd : 3 ≤ d) {η : Hs} (hH : HX M η) {e : Int} (he : -2147483648 ≤ e ∧ e < 2147483648)  (hq : Q (z_I (h_br η e)) M) : am_bi sL xs d 64 [.ref 38, .int (z_I e)] M Q := by
  obtain ⟨d, rfl⟩ : ∃ e, d = e + 1 := ⟨d - 1, by omega⟩
  have hkb : (0 ≤ e ∧ e < 6) → -1 ≤ h_k η e ∧ h_k η e ≤ 54 := fun q => hb_k hH.1 q
  have hhd := h_hd_b (h_k η e)
  have hrr := h_rr_b η e
  refine am_bi_of (P := am_pX6_bookRefusal) (rt := 1) (nL := 3) (Nat.le_of_ble_eq_true rfl) rfl (Nat.le_of_ble_eq_true rfl) rfl rfl rfl ?_
  refine am_r_aload0 (pc' := 1) rfl rfl ?_
  refine am_r_iload1 (pc' := 2) rfl rfl ?_
  refine am_r_invI1 (pc' := 5) rfl rfl rfl (Nat.le_of_ble_eq_true rfl) (c_rowRefusal (by omega) hH (by omega) ?_)
  refine am_r_istore2 (pc' := 6) rfl rfl rfl ?_
  refine am_r_iload2 (pc' := 7) rfl rfl ?_
  refine am_r_if_eq (pt := 12) (pf := 10) rfl rfl rfl (fun h7 => ?_) (fun h7 => ?_)
  · refine am_r_aload0 (pc' := 13) rfl rfl ?_
    refine am_r_iload1 (pc' := 14) rfl rfl ?_
    refine am_r_invI1 (pc' := 17) rfl rfl rfl (Nat.le_of_ble_eq_true rfl) (c_isBook (by omega) hH (by omega) ?_)
    refine am_r_if_eqB (pt := 24) (pf := 20) rfl rfl rfl (fun h17 => ?_) (fun h17 => ?_)
    · refine am_r_iconst (pc' := 26) rfl rfl ?_
      refine am_r_iret rfl rfl ?_
      refine am_q ?_ hq
      unfold h_rr at *
      unfold h_br
      (repeat (first | rw [if_pos (by omega)] | rw [if_neg (by omega)]))
      all_goals first | rfl | omega | (split at hrr <;> split at hrr <;> omega)
    · refine am_r_iconst (pc' := 21) rfl rfl ?_
      refine am_r_goto (pc' := 26) rfl rfl ?_
      refine am_r_iret rfl rfl ?_
      refine am_q ?_ hq
      unfold h_rr at *
      unfold h_br
      (repeat (first | rw [if_pos (by omega)] | rw [if_neg (by omega)]))
      all_goals first | rfl | omega | (split at hrr <;> split at hrr <;> omega)
  · refine am_r_iload2 (pc' := 11) rfl rfl ?_
    refine am_r_iret rfl rfl ?_
    refine am_q ?_ hq
    unfold h_rr at *
    unfold h_br
    (repeat (first | rw [if_pos (by omega)] | rw [if_neg (by omega)]))
    all_goals first | rfl | omega | (split at hrr <;> split at hrr <;> omega)
theorem r_judge_n (σ : Sg) (χ : q_X) (η : Hs) (e a : Int) (he : 0 ≤ e ∧ e < 6) (ha : 0 ≤ a ∧ a < s_n σ) (h : ¬ h_br η e = 0) : h_br η e = r_judge σ χ η e a := by
  unfold h_br at h ⊢
  unfold r_judge
  rw [if_pos he] at h ⊢
  rw [if_pos (show (0 ≤ e ∧ e < 6) ∧ 0 ≤ a ∧ a < s_n σ from ⟨he, ha⟩)]
  by_cases a2 : h_k η e < 0
  · rw [if_pos a2, if_pos a2]
  · rw [if_neg a2] at h ⊢
    rw [if_neg a2]
    by_cases a3 : h_k η e = 50
    · rw [if_pos a3] at h
      exact absurd rfl h
    · rw [if_neg a3, if_neg a3]
theorem r_whose_n (σ : Sg) (χ : q_X) (η : Hs) (e : Int) (h : ¬ h_br η e = 0) : h_br η e = r_whose σ χ η e := by
  unfold h_br at h ⊢
  unfold r_whose
  by_cases he : 0 ≤ e ∧ e < 6
  · rw [if_pos he] at h ⊢
    rw [if_pos he]
    by_cases a2 : h_k η e < 0
    · rw [if_pos a2, if_pos a2]
    · rw [if_neg a2] at h ⊢
      rw [if_neg a2]
      by_cases a3 : h_k η e = 50
      · rw [if_pos a3] at h
        exact absurd rfl h
      · rw [if_neg a3, if_neg a3]
  · rw [if_neg he, if_neg he]
theorem c_judge {sL : Nat} {xs : Nat → Int32} {d : Nat} {M : Am_M} {Q : Int32 → Am_M → Prop} (hd : 7 ≤ d) {σ : Sg} {χ : q_X} (hX : SX M σ) (hL : CL M χ) {η : Hs} (hH : HX M η) {e : Int} (he : -2147483648 ≤ e ∧ e < 2147483648) {a : Int} (ha : -2147483648 ≤ a ∧ a < 2147483648)  (hq : ∀ M', am_fr 22 28 M M' → Q (z_I (r_judge σ χ η e a)) M') : am_bi sL xs d 129 [.ref 0, .int (z_I e), .int (z_I a)] M Q := by
  obtain ⟨d, rfl⟩ : ∃ e, d = e + 1 := ⟨d - 1, by omega⟩
  have hn := sb_nb hX.1
  have hnr := sb_nrb hX.1
  have hkb : (0 ≤ e ∧ e < 6) → -1 ≤ h_k η e ∧ h_k η e ≤ 54 := fun q => hb_k hH.1 q
  have hnb : (0 ≤ e ∧ e < 6) → h_k η e = 50 → 0 ≤ h_n η e ∧ h_n η e ≤ 60 := fun q r => hb_n hH.1 q (by omega)
  have hbr := h_br_b η e
  refine am_bi_of (P := am_pX10_judge) (rt := 1) (nL := 4) (Nat.le_of_ble_eq_true rfl) rfl (Nat.le_of_ble_eq_true rfl) rfl rfl rfl ?_
  refine am_r_iload1 (pc' := 1) rfl rfl ?_
  refine am_r_ivsI1 (pc' := 4) rfl rfl rfl (Nat.le_of_ble_eq_true rfl) (c_isShelf (by omega) (by omega) ?_)
  refine am_r_if_eqB (pt := 18) (pf := 7) rfl rfl rfl (fun h4 => ?_) (fun h4 => ?_)
  · refine am_r_iconst (pc' := 19) rfl rfl ?_
    refine am_r_iret rfl rfl ?_
    refine am_q ?_ (hq M (am_fr_rf _ _ _))
    unfold r_judge
    (repeat (first | rw [if_pos (by omega)] | rw [if_neg (by omega)]))
    all_goals first | rfl | omega
  · refine am_r_aload0 (pc' := 8) rfl rfl ?_
    refine am_r_getR (t := 1) (pc' := 11) rfl rfl rfl ?_
    refine am_r_iload2 (pc' := 12) rfl rfl ?_
    refine am_r_invI1 (pc' := 15) rfl rfl rfl (Nat.le_of_ble_eq_true rfl) (c_has (by omega) hX (by omega) ?_)
    refine am_r_if_neB (pt := 20) (pf := 18) rfl rfl rfl (fun h15 => ?_) (fun h15 => ?_)
    · refine am_r_aload0 (pc' := 21) rfl rfl ?_
      refine am_r_getR (t := 38) (pc' := 24) rfl rfl rfl ?_
      refine am_r_iload1 (pc' := 25) rfl rfl ?_
      refine am_r_invI1 (pc' := 28) rfl rfl rfl (Nat.le_of_ble_eq_true rfl) (c_bookRefusal (by omega) hH (by omega) ?_)
      refine am_r_istore3 (pc' := 29) rfl rfl rfl ?_
      refine am_r_iload3 (pc' := 30) rfl rfl ?_
      refine am_r_if_eq (pt := 35) (pf := 33) rfl rfl rfl (fun h30 => ?_) (fun h30 => ?_)
      · refine am_r_aload0 (pc' := 36) rfl rfl ?_
        refine am_r_getR (t := 29) (pc' := 39) rfl rfl rfl ?_
        refine am_r_aload0 (pc' := 40) rfl rfl ?_
        refine am_r_getR (t := 38) (pc' := 43) rfl rfl rfl ?_
        refine am_r_getR (t := 43) (pc' := 46) rfl rfl rfl ?_
        refine am_r_iload1 (pc' := 47) rfl rfl ?_
        refine am_r_aaZ (n := 6) (t := 44) (pc' := 48) rfl rfl rfl rfl (by decide) ?_
        refine am_r_aload0 (pc' := 49) rfl rfl ?_
        refine am_r_getR (t := 38) (pc' := 52) rfl rfl rfl ?_
        refine am_r_getR (t := 42) (pc' := 55) rfl rfl rfl ?_
        refine am_r_iload1 (pc' := 56) rfl rfl ?_
        refine am_r_iaZv (n := 6) (pc' := 57) rfl rfl rfl (by decide) (hx_n hH (by omega) (by omega)) ?_
        refine am_r_iload2 (pc' := 58) rfl rfl ?_
        refine am_r_invI3 (pc' := 61) rfl rfl rfl (Nat.le_of_ble_eq_true rfl) (c_firstUnlike (χ := χ) (η := η) (by omega) hX hL hH (by omega) (by omega) (by omega) ?_)
        · intro M3 hf3
          refine am_r_iret rfl rfl ?_
          refine am_q ?_ (hq _ hf3)
          unfold r_judge
          rw [if_pos (by omega), if_neg (by omega), if_pos (by omega)]
          rfl
      · refine am_r_iload3 (pc' := 34) rfl rfl ?_
        refine am_r_iret rfl rfl ?_
        exact am_q (r_judge_n σ χ η e a (by omega) (by omega) h30) (hq M (am_fr_rf _ _ _))
    · refine am_r_iconst (pc' := 19) rfl rfl ?_
      refine am_r_iret rfl rfl ?_
      refine am_q ?_ (hq M (am_fr_rf _ _ _))
      unfold r_judge
      (repeat (first | rw [if_pos (by omega)] | rw [if_neg (by omega)]))
      all_goals first | rfl | omega
theorem y_wb_pw (σ : Sg) (χ : q_X) (η : Hs) (e : Int) : f_pw (y_wb σ χ η e) := fun j => by
  unfold y_wb
  split
  · exact Or.inr rfl
  · exact Or.inl rfl
theorem y_fu_b (σ : Sg) (χ : q_X) (η : Hs) (e a : Int) (h : 0 ≤ h_n η e ∧ h_n η e ≤ 60) : -2 ≤ y_fu σ χ η e a ∧ y_fu σ χ η e a ≤ 60 := by
  have := f_first_b (y_ul σ χ (h_v η e) a) (h_n η e).toNat 0
  unfold y_fu
  omega
theorem c_whose {sL : Nat} {xs : Nat → Int32} {d : Nat} {M : Am_M} {Q : Int32 → Am_M → Prop} (hd : 7 ≤ d) {σ : Sg} {χ : q_X} (hX : SX M σ) (hL : CL M χ) {η : Hs} (hH : HX M η) {e : Int} (he : -2147483648 ≤ e ∧ e < 2147483648) (hq : ∀ M', am_fr 22 28 M M' → Q (z_I (r_whose σ χ η e)) M') : am_bi sL xs d 131 [.ref 0, .int (z_I e)] M Q := by
  obtain ⟨d, rfl⟩ : ∃ e, d = e + 1 := ⟨d - 1, by omega⟩
  have hn := sb_nb hX.1
  have hnr := sb_nrb hX.1
  have hkb : (0 ≤ e ∧ e < 6) → -1 ≤ h_k η e ∧ h_k η e ≤ 54 := fun q => hb_k hH.1 q
  have hnb : (0 ≤ e ∧ e < 6) → h_k η e = 50 → 0 ≤ h_n η e ∧ h_n η e ≤ 60 := fun q r => hb_n hH.1 q (by omega)
  have hbr := h_br_b η e
  have hloop : ∀ (k : Nat) (i c : Int) (N : Am_M), (0 ≤ e ∧ e < 6) → h_k η e = 50 → 0 ≤ i ∧ i + k = s_n σ ∧ 0 ≤ c ∧ c < 2 ^ i.toNat → am_fr 22 28 M N → c + f_sum (y_wb σ χ η e) i k = r_whose σ χ η e → am_rw sL xs d am_pX10_whose 1 20 [.ref 0, .int (z_I e), .int (z_I 0), .int (z_I c), .int (z_I i)] [] N (am_pi Q) := by
    intro k
    induction k with
    | zero =>
      intro i c N he hk hi hF hr
      have hX := sx_fr hX hF (by omega)
      refine am_r_iload4 (pc' := 22) rfl rfl ?_
      refine am_r_aload0 (pc' := 23) rfl rfl ?_
      refine am_r_getR (t := 1) (pc' := 26) rfl rfl rfl ?_
      refine am_r_getIv (f := 5) (pc' := 29) rfl rfl rfl (sx_n hX) ?_
      refine am_r_icmp_ge (pt := 77) (pf := 32) rfl rfl rfl (fun h29 => ?_) (fun h29 => ?_)
      · refine am_r_iload3 (pc' := 78) rfl rfl ?_
        refine am_r_iret rfl rfl ?_
        refine am_q ?_ (hq N hF)
        rw [← hr, f_sum_0]
      · exfalso; omega
    | succ k ih =>
      intro i c N he hk hi hF hr
      have hX := sx_fr hX hF (by omega)
      have hL := cl_fr hL hF (by omega)
      have hH := hx_fr hH hF (by omega)
      have hps := z_pow_s hi.1
      have hfb := y_fu_b σ χ η e i (hnb he hk)
      refine am_r_iload4 (pc' := 22) rfl rfl ?_
      refine am_r_aload0 (pc' := 23) rfl rfl ?_
      refine am_r_getR (t := 1) (pc' := 26) rfl rfl rfl ?_
      refine am_r_getIv (f := 5) (pc' := 29) rfl rfl rfl (sx_n hX) ?_
      refine am_r_icmp_ge (pt := 77) (pf := 32) rfl rfl rfl (fun h29 => ?_) (fun h29 => ?_)
      · exfalso; omega
      · refine am_r_aload0 (pc' := 33) rfl rfl ?_
        refine am_r_getR (t := 29) (pc' := 36) rfl rfl rfl ?_
        refine am_r_aload0 (pc' := 37) rfl rfl ?_
        refine am_r_getR (t := 38) (pc' := 40) rfl rfl rfl ?_
        refine am_r_getR (t := 43) (pc' := 43) rfl rfl rfl ?_
        refine am_r_iload1 (pc' := 44) rfl rfl ?_
        refine am_r_aaZ (n := 6) (t := 44) (pc' := 45) rfl rfl rfl rfl (by decide) ?_
        refine am_r_aload0 (pc' := 46) rfl rfl ?_
        refine am_r_getR (t := 38) (pc' := 49) rfl rfl rfl ?_
        refine am_r_getR (t := 42) (pc' := 52) rfl rfl rfl ?_
        refine am_r_iload1 (pc' := 53) rfl rfl ?_
        refine am_r_iaZv (n := 6) (pc' := 54) rfl rfl rfl (by decide) (hx_n hH (by omega) (by omega)) ?_
        refine am_r_iload4 (pc' := 56) rfl rfl ?_
        refine am_r_invI3 (pc' := 59) rfl rfl rfl (Nat.le_of_ble_eq_true rfl) (c_firstUnlike (χ := χ) (η := η) (by omega) hX hL hH he hk (by omega) ?_)
        · intro M4 hf4
          have hF := am_fr_tr (lo := 22) (hi := 28) hF hf4 (by omega) (by omega)
          rw [show f_first (y_ul σ χ (h_v η e) i) 0 (h_n η e).toNat = y_fu σ χ η e i from rfl]
          refine am_r_iconst (pc' := 61) rfl rfl ?_
          refine am_r_icmp_ne (pt := 71) (pf := 64) rfl rfl rfl (fun h61 => ?_) (fun h61 => ?_)
          · refine am_r_iinc4 (pc' := 74) rfl rfl rfl ?_
            refine am_r_goto (pc' := 20) rfl rfl ?_
            first
            | exact ih _ _ M4 he hk (by omega) hF (by rw [← hr, f_sum_s, show y_wb σ χ η e i = 2 ^ i.toNat from if_pos h61])
            | exact ih _ _ M4 he hk (by omega) hF (by rw [← hr, f_sum_s, show y_wb σ χ η e i = 0 from if_neg h61, Int.add_zero])
          · refine am_r_iload3 (pc' := 65) rfl rfl ?_
            refine am_r_iconst (pc' := 66) rfl rfl ?_
            refine am_r_iload4 (pc' := 68) rfl rfl ?_
            refine am_r_ishl (pc' := 69) rfl rfl ?_
            refine am_r_iorR (pc' := 70) rfl rfl ?_
            rw [z_shl1 (by omega), z_or (by omega) (by omega)]
            refine am_r_istore3 (pc' := 71) rfl rfl rfl ?_
            refine am_r_iinc4 (pc' := 74) rfl rfl rfl ?_
            refine am_r_goto (pc' := 20) rfl rfl ?_
            first
            | exact ih _ _ M4 he hk (by omega) hF (by rw [← hr, f_sum_s, show y_wb σ χ η e i = 2 ^ i.toNat from if_pos h61])
            | exact ih _ _ M4 he hk (by omega) hF (by rw [← hr, f_sum_s, show y_wb σ χ η e i = 0 from if_neg h61, Int.add_zero])
  refine am_bi_of (P := am_pX10_whose) (rt := 1) (nL := 5) (Nat.le_of_ble_eq_true rfl) rfl (Nat.le_of_ble_eq_true rfl) rfl rfl rfl ?_
  refine am_r_aload0 (pc' := 1) rfl rfl ?_
  refine am_r_getR (t := 38) (pc' := 4) rfl rfl rfl ?_
  refine am_r_iload1 (pc' := 5) rfl rfl ?_
  refine am_r_invI1 (pc' := 8) rfl rfl rfl (Nat.le_of_ble_eq_true rfl) (c_bookRefusal (by omega) hH (by omega) ?_)
  refine am_r_istore2 (pc' := 9) rfl rfl rfl ?_
  refine am_r_iload2 (pc' := 10) rfl rfl ?_
  refine am_r_if_eq (pt := 15) (pf := 13) rfl rfl rfl (fun h10 => ?_) (fun h10 => ?_)
  · refine am_r_iconst (pc' := 16) rfl rfl ?_
    refine am_r_istore3 (pc' := 17) rfl rfl rfl ?_
    rw [show h_br η e = 0 by omega]
    refine am_r_iconst (pc' := 18) rfl rfl ?_
    refine am_r_istore4 (pc' := 20) rfl rfl rfl ?_
    first
    | (refine hloop (s_n σ).toNat 0 0 M (by omega) (by omega) (by refine ⟨by omega, by omega, by omega, ?_⟩; decide) (am_fr_rf _ _ _) ?_
       unfold r_whose
       rw [if_pos (by omega), if_neg (by omega), if_pos (by omega), Int.zero_add])
  · refine am_r_iload2 (pc' := 14) rfl rfl ?_
    refine am_r_iret rfl rfl ?_
    exact am_q (r_whose_n σ χ η e h10) (hq M (am_fr_rf _ _ _))
