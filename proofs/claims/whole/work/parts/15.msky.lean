/-! THE SKY of the reference: what its cells hold; its methods -/
def SM (M : Am_M) (σ : Sg) : Prop := SB σ ∧ M.1 53 6 = z_I (s_n σ) ∧ M.1 54 80 = z_I (s_nr σ) ∧ (∀ a, 0 ≤ a ∧ a < s_n σ → M.1 58 a.toNat = z_I (s_rd σ a)) ∧ (∀ a, 0 ≤ a ∧ a < s_n σ → M.1 54 a.toNat = z_I (s_pl σ a)) ∧ (∀ a, 0 ≤ a ∧ a < s_n σ → M.1 54 (8 + a).toNat = z_I (s_wt σ a)) ∧ (∀ a b, 0 ≤ a ∧ a < 8 → 0 ≤ b ∧ b < 8 → M.1 54 (16 + 8 * a + b).toNat = z_I (s_lk σ a b))
theorem sm_n {M : Am_M} {σ : Sg} (h : SM M σ) : M.1 53 6 = z_I (s_n σ) := h.2.1
theorem sm_nr {M : Am_M} {σ : Sg} (h : SM M σ) : M.1 54 80 = z_I (s_nr σ) := h.2.2.1
theorem sm_rd {M : Am_M} {σ : Sg} (h : SM M σ) {a : Int} (ha : 0 ≤ a ∧ a < s_n σ) : M.1 58 a.toNat = z_I (s_rd σ a) := h.2.2.2.1 a ha
theorem sm_pl {M : Am_M} {σ : Sg} (h : SM M σ) {a : Int} (ha : 0 ≤ a ∧ a < s_n σ) : M.1 54 a.toNat = z_I (s_pl σ a) := h.2.2.2.2.1 a ha
theorem sm_wt {M : Am_M} {σ : Sg} (h : SM M σ) {a : Int} (ha : 0 ≤ a ∧ a < s_n σ) : M.1 54 (8 + a).toNat = z_I (s_wt σ a) := h.2.2.2.2.2.1 a ha
theorem sm_lk {M : Am_M} {σ : Sg} (h : SM M σ) {a b : Int} (ha : 0 ≤ a ∧ a < 8) (hb : 0 ≤ b ∧ b < 8) : M.1 54 (16 + 8 * a + b).toNat = z_I (s_lk σ a b) := h.2.2.2.2.2.2 a b ha hb
def s_bit (s k : Int) : Int := s / 2 ^ k.toNat % 2
theorem s_bit01 (s k : Int) : s_bit s k = 0 ∨ s_bit s k = 1 := by unfold s_bit; omega
theorem z_bit {s k : Int} (hs : 0 ≤ s ∧ s < 256) (hk : 0 ≤ k ∧ k < 8) : z_I s >>> (z_I k &&& 31) &&& z_I 1 = z_I (s_bit s k) := by
  obtain ⟨i, rfl⟩ : ∃ i : Nat, s = i := ⟨s.toNat, by omega⟩
  obtain ⟨j, rfl⟩ : ∃ j : Nat, k = j := ⟨k.toNat, by omega⟩
  have h : ∀ i : Nat, i < 256 → ∀ j : Nat, j < 8 → z_I (i : Int) >>> (z_I (j : Int) &&& 31) &&& z_I 1 = z_I (s_bit i j) := by decide +kernel
  exact h i (by omega) j (by omega)
theorem m_within {sL : Nat} {xs : Nat → Int32} {d : Nat} {M : Am_M} {Q : Int32 → Am_M → Prop} (hd : 1 ≤ d) {v lo hi : Int} (hv : -9223372036854775808 ≤ v ∧ v < 9223372036854775808) (hlo : -9223372036854775808 ≤ lo ∧ lo < 9223372036854775808) (hhi : -9223372036854775808 ≤ hi ∧ hi < 9223372036854775808) (hq : Q (z_b (lo ≤ v ∧ v ≤ hi)) M) : am_bi sL xs d 159 [.long (z_L v), .long (z_L lo), .long (z_L hi)] M Q := by
  obtain ⟨d, rfl⟩ : ∃ e, d = e + 1 := ⟨d - 1, by omega⟩
  refine am_bi_of (P := am_pX11_within) (rt := 2) (nL := 6) (Nat.le_of_ble_eq_true rfl) rfl (Nat.le_of_ble_eq_true rfl) rfl rfl rfl ?_
  refine am_r_lload0 (pc' := 1) rfl rfl ?_
  refine am_r_lload2 (pc' := 2) rfl rfl ?_
  refine am_r_lcmp (pc' := 3) rfl rfl ?_
  refine am_r_lif_lt (pt := 17) (pf := 6) rfl rfl rfl (fun h3 => ?_) (fun h3 => ?_)
  · refine am_r_iconst (pc' := 18) rfl rfl ?_
    refine am_r_zret rfl rfl (by first | exact Or.inr rfl | exact Or.inl rfl | exact z_b_01 _ | assumption) ?_
    first | (rw [z_bT (by omega)] at hq; exact hq) | (rw [z_bF (by omega)] at hq; exact hq)
  · refine am_r_lload0 (pc' := 7) rfl rfl ?_
    refine am_r_lload4 (pc' := 9) rfl rfl ?_
    refine am_r_lcmp (pc' := 10) rfl rfl ?_
    refine am_r_lif_gt (pt := 17) (pf := 13) rfl rfl rfl (fun h10 => ?_) (fun h10 => ?_)
    · refine am_r_iconst (pc' := 18) rfl rfl ?_
      refine am_r_zret rfl rfl (by first | exact Or.inr rfl | exact Or.inl rfl | exact z_b_01 _ | assumption) ?_
      first | (rw [z_bT (by omega)] at hq; exact hq) | (rw [z_bF (by omega)] at hq; exact hq)
    · refine am_r_iconst (pc' := 14) rfl rfl ?_
      refine am_r_goto (pc' := 18) rfl rfl ?_
      refine am_r_zret rfl rfl (by first | exact Or.inr rfl | exact Or.inl rfl | exact z_b_01 _ | assumption) ?_
      first | (rw [z_bT (by omega)] at hq; exact hq) | (rw [z_bF (by omega)] at hq; exact hq)
theorem m_isIn {sL : Nat} {xs : Nat → Int32} {d : Nat} {M : Am_M} {Q : Int32 → Am_M → Prop} (hd : 1 ≤ d) {s k : Int} (hs : 0 ≤ s ∧ s < 256) (hk : 0 ≤ k ∧ k < 8) (hq : Q (z_b (s_bit s k = 1)) M) : am_bi sL xs d 160 [.int (z_I s), .int (z_I k)] M Q := by
  obtain ⟨d, rfl⟩ : ∃ e, d = e + 1 := ⟨d - 1, by omega⟩
  have hbt := s_bit01 s k
  refine am_bi_of (P := am_pX11_isIn) (rt := 2) (nL := 2) (Nat.le_of_ble_eq_true rfl) rfl (Nat.le_of_ble_eq_true rfl) rfl rfl rfl ?_
  refine am_r_iload0 (pc' := 1) rfl rfl ?_
  refine am_r_iload1 (pc' := 2) rfl rfl ?_
  refine am_r_ishr (pc' := 3) rfl rfl ?_
  refine am_r_iconst (pc' := 4) rfl rfl ?_
  refine am_r_iandR (pc' := 5) rfl rfl ?_
  rw [z_bit hs hk]
  refine am_r_iconst (pc' := 6) rfl rfl ?_
  refine am_r_icmp_ne (pt := 13) (pf := 9) rfl rfl rfl (fun h6 => ?_) (fun h6 => ?_)
  · refine am_r_iconst (pc' := 14) rfl rfl ?_
    refine am_r_zret rfl rfl (by first | exact Or.inr rfl | exact Or.inl rfl | exact z_b_01 _ | assumption) ?_
    first | (rw [z_bT (by omega)] at hq; exact hq) | (rw [z_bF (by omega)] at hq; exact hq)
  · refine am_r_iconst (pc' := 10) rfl rfl ?_
    refine am_r_goto (pc' := 14) rfl rfl ?_
    refine am_r_zret rfl rfl (by first | exact Or.inr rfl | exact Or.inl rfl | exact z_b_01 _ | assumption) ?_
    first | (rw [z_bT (by omega)] at hq; exact hq) | (rw [z_bF (by omega)] at hq; exact hq)
theorem m_isOrb {sL : Nat} {xs : Nat → Int32} {d : Nat} {M : Am_M} {Q : Int32 → Am_M → Prop} (hd : 2 ≤ d) {σ : Sg} (hM : SM M σ) {a : Int} (ha : -9223372036854775808 ≤ a ∧ a < 9223372036854775808) (hq : Q (z_b (0 ≤ a ∧ a < s_n σ)) M) : am_bi sL xs d 164 [.ref 53, .long (z_L a)] M Q := by
  obtain ⟨d, rfl⟩ : ∃ e, d = e + 1 := ⟨d - 1, by omega⟩
  have hn := sb_nb hM.1
  have hnr := sb_nrb hM.1
  refine am_bi_of (P := am_pX11_isOrb) (rt := 2) (nL := 3) (Nat.le_of_ble_eq_true rfl) rfl (Nat.le_of_ble_eq_true rfl) rfl rfl rfl ?_
  refine am_r_lload1 (pc' := 1) rfl rfl ?_
  refine am_r_lconst (z := 0) (pc' := 2) rfl rfl rfl ?_
  refine am_r_aload0 (pc' := 3) rfl rfl ?_
  refine am_r_getIv (f := 6) (pc' := 6) rfl rfl rfl (sm_n hM) ?_
  refine am_r_iconst (pc' := 7) rfl rfl ?_
  refine am_r_isub (pc' := 8) rfl rfl ?_
  refine am_r_i2l (pc' := 9) rfl rfl ?_
  refine am_r_ivsI3 (pc' := 12) rfl rfl rfl (Nat.le_of_ble_eq_true rfl) (m_within (by omega) (by omega) (by omega) (by omega) ?_)
  refine am_r_zret rfl rfl (by first | exact Or.inr rfl | exact Or.inl rfl | exact z_b_01 _ | assumption) ?_
  first | (rw [z_bT (by omega)] at hq; exact hq) | (rw [z_bF (by omega)] at hq; exact hq) | (exact z_b_cg (by omega) hq)
theorem m_isAb {sL : Nat} {xs : Nat → Int32} {d : Nat} {M : Am_M} {Q : Int32 → Am_M → Prop} (hd : 3 ≤ d) {σ : Sg} (hM : SM M σ) {a : Int} (ha : -2147483648 ≤ a ∧ a < 2147483648)  (hq : Q (z_b (0 ≤ a ∧ a / 10 < s_n σ ∧ a % 10 < s_n σ ∧ a / 10 ≠ a % 10)) M) : am_bi sL xs d 165 [.ref 53, .int (z_I a)] M Q := by
  obtain ⟨d, rfl⟩ : ∃ e, d = e + 1 := ⟨d - 1, by omega⟩
  have hn := sb_nb hM.1
  have hnr := sb_nrb hM.1
  refine am_bi_of (P := am_pX11_isAb) (rt := 2) (nL := 2) (Nat.le_of_ble_eq_true rfl) rfl (Nat.le_of_ble_eq_true rfl) rfl rfl rfl ?_
  refine am_r_iload1 (pc' := 1) rfl rfl ?_
  refine am_r_if_lt (pt := 43) (pf := 4) rfl rfl rfl (fun h1 => ?_) (fun h1 => ?_)
  · refine am_r_iconst (pc' := 44) rfl rfl ?_
    refine am_r_zret rfl rfl (by first | exact Or.inr rfl | exact Or.inl rfl | exact z_b_01 _ | assumption) ?_
    first | (rw [z_bT (by omega)] at hq; exact hq) | (rw [z_bF (by omega)] at hq; exact hq) | (exact z_b_cg (by omega) hq)
  · refine am_r_aload0 (pc' := 5) rfl rfl ?_
    refine am_r_iload1 (pc' := 6) rfl rfl ?_
    refine am_r_iconst (pc' := 8) rfl rfl ?_
    refine am_r_idiv (pc' := 9) rfl rfl ?_
    refine am_r_i2l (pc' := 10) rfl rfl ?_
    refine am_r_invI1 (pc' := 13) rfl rfl rfl (Nat.le_of_ble_eq_true rfl) (m_isOrb (by omega) hM (by omega) ?_)
    refine am_r_if_eqB (pt := 43) (pf := 16) rfl rfl rfl (fun h13 => ?_) (fun h13 => ?_)
    · refine am_r_iconst (pc' := 44) rfl rfl ?_
      refine am_r_zret rfl rfl (by first | exact Or.inr rfl | exact Or.inl rfl | exact z_b_01 _ | assumption) ?_
      first | (rw [z_bT (by omega)] at hq; exact hq) | (rw [z_bF (by omega)] at hq; exact hq) | (exact z_b_cg (by omega) hq)
    · refine am_r_aload0 (pc' := 17) rfl rfl ?_
      refine am_r_iload1 (pc' := 18) rfl rfl ?_
      refine am_r_iconst (pc' := 20) rfl rfl ?_
      refine am_r_irem (pc' := 21) rfl rfl ?_
      refine am_r_i2l (pc' := 22) rfl rfl ?_
      refine am_r_invI1 (pc' := 25) rfl rfl rfl (Nat.le_of_ble_eq_true rfl) (m_isOrb (by omega) hM (by omega) ?_)
      refine am_r_if_eqB (pt := 43) (pf := 28) rfl rfl rfl (fun h25 => ?_) (fun h25 => ?_)
      · refine am_r_iconst (pc' := 44) rfl rfl ?_
        refine am_r_zret rfl rfl (by first | exact Or.inr rfl | exact Or.inl rfl | exact z_b_01 _ | assumption) ?_
        first | (rw [z_bT (by omega)] at hq; exact hq) | (rw [z_bF (by omega)] at hq; exact hq) | (exact z_b_cg (by omega) hq)
      · refine am_r_iload1 (pc' := 29) rfl rfl ?_
        refine am_r_iconst (pc' := 31) rfl rfl ?_
        refine am_r_idiv (pc' := 32) rfl rfl ?_
        refine am_r_iload1 (pc' := 33) rfl rfl ?_
        refine am_r_iconst (pc' := 35) rfl rfl ?_
        refine am_r_irem (pc' := 36) rfl rfl ?_
        refine am_r_icmp_eq (pt := 43) (pf := 39) rfl rfl rfl (fun h36 => ?_) (fun h36 => ?_)
        · refine am_r_iconst (pc' := 44) rfl rfl ?_
          refine am_r_zret rfl rfl (by first | exact Or.inr rfl | exact Or.inl rfl | exact z_b_01 _ | assumption) ?_
          first | (rw [z_bT (by omega)] at hq; exact hq) | (rw [z_bF (by omega)] at hq; exact hq) | (exact z_b_cg (by omega) hq)
        · refine am_r_iconst (pc' := 40) rfl rfl ?_
          refine am_r_goto (pc' := 44) rfl rfl ?_
          refine am_r_zret rfl rfl (by first | exact Or.inr rfl | exact Or.inl rfl | exact z_b_01 _ | assumption) ?_
          first | (rw [z_bT (by omega)] at hq; exact hq) | (rw [z_bF (by omega)] at hq; exact hq) | (exact z_b_cg (by omega) hq)
theorem m_isDay {sL : Nat} {xs : Nat → Int32} {d : Nat} {M : Am_M} {Q : Int32 → Am_M → Prop} (hd : 2 ≤ d) {a : Int} (ha : -2147483648 ≤ a ∧ a < 2147483648)  (hq : Q (z_b (0 ≤ a ∧ a ≤ 99999)) M) : am_bi sL xs d 187 [.int (z_I a)] M Q := by
  obtain ⟨d, rfl⟩ : ∃ e, d = e + 1 := ⟨d - 1, by omega⟩
  refine am_bi_of (P := am_pX11_isDay) (rt := 2) (nL := 1) (Nat.le_of_ble_eq_true rfl) rfl (Nat.le_of_ble_eq_true rfl) rfl rfl rfl ?_
  refine am_r_iload0 (pc' := 1) rfl rfl ?_
  refine am_r_i2l (pc' := 2) rfl rfl ?_
  refine am_r_lconst (z := 0) (pc' := 3) rfl rfl rfl ?_
  refine am_r_lconst (z := 99999) (pc' := 6) rfl rfl rfl ?_
  refine am_r_ivsI3 (pc' := 9) rfl rfl rfl (Nat.le_of_ble_eq_true rfl) (m_within (by omega) (by omega) (by omega) (by omega) ?_)
  refine am_r_zret rfl rfl (by first | exact Or.inr rfl | exact Or.inl rfl | exact z_b_01 _ | assumption) ?_
  first | (rw [z_bT (by omega)] at hq; exact hq) | (rw [z_bF (by omega)] at hq; exact hq) | (exact z_b_cg (by omega) hq)
theorem m_isPushed {sL : Nat} {xs : Nat → Int32} {d : Nat} {M : Am_M} {Q : Int32 → Am_M → Prop} (hd : 2 ≤ d) {a : Int} (ha : -2147483648 ≤ a ∧ a < 2147483648)  (hq : Q (z_b (0 ≤ a ∧ a ≤ 200)) M) : am_bi sL xs d 218 [.int (z_I a)] M Q := by
  obtain ⟨d, rfl⟩ : ∃ e, d = e + 1 := ⟨d - 1, by omega⟩
  refine am_bi_of (P := am_pX11_isPushed) (rt := 2) (nL := 1) (Nat.le_of_ble_eq_true rfl) rfl (Nat.le_of_ble_eq_true rfl) rfl rfl rfl ?_
  refine am_r_iload0 (pc' := 1) rfl rfl ?_
  refine am_r_i2l (pc' := 2) rfl rfl ?_
  refine am_r_lconst (z := 0) (pc' := 3) rfl rfl rfl ?_
  refine am_r_lconst (z := 200) (pc' := 6) rfl rfl rfl ?_
  refine am_r_ivsI3 (pc' := 9) rfl rfl rfl (Nat.le_of_ble_eq_true rfl) (m_within (by omega) (by omega) (by omega) (by omega) ?_)
  refine am_r_zret rfl rfl (by first | exact Or.inr rfl | exact Or.inl rfl | exact z_b_01 _ | assumption) ?_
  first | (rw [z_bT (by omega)] at hq; exact hq) | (rw [z_bF (by omega)] at hq; exact hq) | (exact z_b_cg (by omega) hq)
theorem m_isShelf {sL : Nat} {xs : Nat → Int32} {d : Nat} {M : Am_M} {Q : Int32 → Am_M → Prop} (hd : 2 ≤ d) {a : Int} (ha : -2147483648 ≤ a ∧ a < 2147483648)  (hq : Q (z_b (0 ≤ a ∧ a ≤ 5)) M) : am_bi sL xs d 250 [.int (z_I a)] M Q := by
  obtain ⟨d, rfl⟩ : ∃ e, d = e + 1 := ⟨d - 1, by omega⟩
  refine am_bi_of (P := am_pX11_isShelf) (rt := 2) (nL := 1) (Nat.le_of_ble_eq_true rfl) rfl (Nat.le_of_ble_eq_true rfl) rfl rfl rfl ?_
  refine am_r_iload0 (pc' := 1) rfl rfl ?_
  refine am_r_i2l (pc' := 2) rfl rfl ?_
  refine am_r_lconst (z := 0) (pc' := 3) rfl rfl rfl ?_
  refine am_r_lconst (z := 5) (pc' := 6) rfl rfl rfl ?_
  refine am_r_ivsI3 (pc' := 9) rfl rfl rfl (Nat.le_of_ble_eq_true rfl) (m_within (by omega) (by omega) (by omega) (by omega) ?_)
  refine am_r_zret rfl rfl (by first | exact Or.inr rfl | exact Or.inl rfl | exact z_b_01 _ | assumption) ?_
  first | (rw [z_bT (by omega)] at hq; exact hq) | (rw [z_bF (by omega)] at hq; exact hq) | (exact z_b_cg (by omega) hq)
theorem m_mayCome {sL : Nat} {xs : Nat → Int32} {d : Nat} {M : Am_M} {Q : Int32 → Am_M → Prop} (hd : 2 ≤ d) {r p w : Int} (hr : -9223372036854775807 ≤ r ∧ r < 9223372036854775808) (hp : -9223372036854775808 ≤ p ∧ p < 9223372036854775808) (hw : -9223372036854775808 ≤ w ∧ w < 9223372036854775808) (hq : Q (z_b (1 ≤ r ∧ r ≤ 60 ∧ 0 ≤ p ∧ p < r ∧ 0 ≤ w ∧ w ≤ 9)) M) : am_bi sL xs d 166 [.long (z_L r), .long (z_L p), .long (z_L w)] M Q := by
  obtain ⟨d, rfl⟩ : ∃ e, d = e + 1 := ⟨d - 1, by omega⟩
  refine am_bi_of (P := am_pX11_mayCome) (rt := 2) (nL := 6) (Nat.le_of_ble_eq_true rfl) rfl (Nat.le_of_ble_eq_true rfl) rfl rfl rfl ?_
  refine am_r_lload0 (pc' := 1) rfl rfl ?_
  refine am_r_lconst (z := 1) (pc' := 2) rfl rfl rfl ?_
  refine am_r_lconst (z := 60) (pc' := 5) rfl rfl rfl ?_
  refine am_r_ivsI3 (pc' := 8) rfl rfl rfl (Nat.le_of_ble_eq_true rfl) (m_within (by omega) (by omega) (by omega) (by omega) ?_)
  refine am_r_if_eqB (pt := 38) (pf := 11) rfl rfl rfl (fun h8 => ?_) (fun h8 => ?_)
  · refine am_r_iconst (pc' := 39) rfl rfl ?_
    refine am_r_zret rfl rfl (by first | exact Or.inr rfl | exact Or.inl rfl | exact z_b_01 _ | assumption) ?_
    first | (rw [z_bT (by omega)] at hq; exact hq) | (rw [z_bF (by omega)] at hq; exact hq) | (exact z_b_cg (by omega) hq)
  · refine am_r_lload2 (pc' := 12) rfl rfl ?_
    refine am_r_lconst (z := 0) (pc' := 13) rfl rfl rfl ?_
    refine am_r_lload0 (pc' := 14) rfl rfl ?_
    refine am_r_lconst (z := 1) (pc' := 15) rfl rfl rfl ?_
    refine am_r_lsub (pc' := 16) rfl rfl ?_
    refine am_r_ivsI3 (pc' := 19) rfl rfl rfl (Nat.le_of_ble_eq_true rfl) (m_within (by omega) (by omega) (by omega) (by omega) ?_)
    refine am_r_if_eqB (pt := 38) (pf := 22) rfl rfl rfl (fun h19 => ?_) (fun h19 => ?_)
    · refine am_r_iconst (pc' := 39) rfl rfl ?_
      refine am_r_zret rfl rfl (by first | exact Or.inr rfl | exact Or.inl rfl | exact z_b_01 _ | assumption) ?_
      first | (rw [z_bT (by omega)] at hq; exact hq) | (rw [z_bF (by omega)] at hq; exact hq) | (exact z_b_cg (by omega) hq)
    · refine am_r_lload4 (pc' := 24) rfl rfl ?_
      refine am_r_lconst (z := 0) (pc' := 25) rfl rfl rfl ?_
      refine am_r_lconst (z := 9) (pc' := 28) rfl rfl rfl ?_
      refine am_r_ivsI3 (pc' := 31) rfl rfl rfl (Nat.le_of_ble_eq_true rfl) (m_within (by omega) (by omega) (by omega) (by omega) ?_)
      refine am_r_if_eqB (pt := 38) (pf := 34) rfl rfl rfl (fun h31 => ?_) (fun h31 => ?_)
      · refine am_r_iconst (pc' := 39) rfl rfl ?_
        refine am_r_zret rfl rfl (by first | exact Or.inr rfl | exact Or.inl rfl | exact z_b_01 _ | assumption) ?_
        first | (rw [z_bT (by omega)] at hq; exact hq) | (rw [z_bF (by omega)] at hq; exact hq) | (exact z_b_cg (by omega) hq)
      · refine am_r_iconst (pc' := 35) rfl rfl ?_
        refine am_r_goto (pc' := 39) rfl rfl ?_
        refine am_r_zret rfl rfl (by first | exact Or.inr rfl | exact Or.inl rfl | exact z_b_01 _ | assumption) ?_
        first | (rw [z_bT (by omega)] at hq; exact hq) | (rw [z_bF (by omega)] at hq; exact hq) | (exact z_b_cg (by omega) hq)
theorem m_isSet {sL : Nat} {xs : Nat → Int32} {d : Nat} {M : Am_M} {Q : Int32 → Am_M → Prop} (hd : 2 ≤ d) {σ : Sg} (hM : SM M σ) {a : Int} (ha : -2147483648 ≤ a ∧ a < 2147483648)  (hq : Q (z_b (0 ≤ a ∧ a < 2 ^ (s_n σ).toNat)) M) : am_bi sL xs d 198 [.ref 53, .int (z_I a)] M Q := by
  obtain ⟨d, rfl⟩ : ∃ e, d = e + 1 := ⟨d - 1, by omega⟩
  have hn := sb_nb hM.1
  have hnr := sb_nrb hM.1
  have hp := z_pow8 hn
  refine am_bi_of (P := am_pX11_isSet) (rt := 2) (nL := 2) (Nat.le_of_ble_eq_true rfl) rfl (Nat.le_of_ble_eq_true rfl) rfl rfl rfl ?_
  refine am_r_iload1 (pc' := 1) rfl rfl ?_
  refine am_r_i2l (pc' := 2) rfl rfl ?_
  refine am_r_lconst (z := 0) (pc' := 3) rfl rfl rfl ?_
  refine am_r_iconst (pc' := 4) rfl rfl ?_
  refine am_r_aload0 (pc' := 5) rfl rfl ?_
  refine am_r_getIv (f := 6) (pc' := 8) rfl rfl rfl (sm_n hM) ?_
  refine am_r_ishl (pc' := 9) rfl rfl ?_
  rw [z_shl1 (by omega)]
  refine am_r_iconst (pc' := 10) rfl rfl ?_
  refine am_r_isub (pc' := 11) rfl rfl ?_
  refine am_r_i2l (pc' := 12) rfl rfl ?_
  refine am_r_ivsI3 (pc' := 15) rfl rfl rfl (Nat.le_of_ble_eq_true rfl) (m_within (by omega) (by omega) (by omega) (by omega) ?_)
  refine am_r_zret rfl rfl (by first | exact Or.inr rfl | exact Or.inl rfl | exact z_b_01 _ | assumption) ?_
  first | (rw [z_bT (by omega)] at hq; exact hq) | (rw [z_bF (by omega)] at hq; exact hq) | (exact z_b_cg (by omega) hq)
theorem m_degreesOf {sL : Nat} {xs : Nat → Int32} {d : Nat} {M : Am_M} {Q : Int32 → Am_M → Prop} (hd : 1 ≤ d) {σ : Sg} (hM : SM M σ) {a p : Int} (ha : 0 ≤ a ∧ a < s_n σ) (hp : 0 ≤ p ∧ p < s_rd σ a) (hq : Q (z_I (g_deg σ a p)) M) : am_bi sL xs d 189 [.ref 53, .int (z_I a), .int (z_I p)] M Q := by
  obtain ⟨d, rfl⟩ : ∃ e, d = e + 1 := ⟨d - 1, by omega⟩
  have hn := sb_nb hM.1
  have hnr := sb_nrb hM.1
  have hb := sg_b hM.1 ha
  refine am_bi_of (P := am_pX11_degreesOf) (rt := 1) (nL := 3) (Nat.le_of_ble_eq_true rfl) rfl (Nat.le_of_ble_eq_true rfl) rfl rfl rfl ?_
  refine am_r_iconst (pc' := 3) rfl rfl ?_
  refine am_r_iload2 (pc' := 4) rfl rfl ?_
  refine am_r_imul (pc' := 5) rfl rfl ?_
  refine am_r_aload0 (pc' := 6) rfl rfl ?_
  refine am_r_getR (t := 58) (pc' := 9) rfl rfl rfl ?_
  refine am_r_iload1 (pc' := 10) rfl rfl ?_
  refine am_r_iaZv (n := 8) (pc' := 11) rfl rfl rfl (by decide) (sm_rd hM (by omega)) ?_
  refine am_r_idiv (pc' := 12) rfl rfl ?_
  refine am_r_iret rfl rfl ?_
  exact hq
theorem m_clock {sL : Nat} {xs : Nat → Int32} {d : Nat} {M : Am_M} {Q : Int32 → Am_M → Prop} (hd : 1 ≤ d) {σ : Sg} (hM : SM M σ) {a d0 : Int} (ha : 0 ≤ a ∧ a < s_n σ) (hdd : 0 ≤ d0 ∧ d0 ≤ 1000000) (hq : Q (z_I (g_pl σ a d0)) M) : am_bi sL xs d 188 [.ref 53, .int (z_I a), .long (z_L d0)] M Q := by
  obtain ⟨d, rfl⟩ : ∃ e, d = e + 1 := ⟨d - 1, by omega⟩
  have hn := sb_nb hM.1
  have hnr := sb_nrb hM.1
  have hb := sg_b hM.1 ha
  refine am_bi_of (P := am_pX11_clock) (rt := 1) (nL := 4) (Nat.le_of_ble_eq_true rfl) rfl (Nat.le_of_ble_eq_true rfl) rfl rfl rfl ?_
  refine am_r_aload0 (pc' := 1) rfl rfl ?_
  refine am_r_getR (t := 54) (pc' := 4) rfl rfl rfl ?_
  refine am_r_iload1 (pc' := 5) rfl rfl ?_
  refine am_r_iaZv (n := 81) (pc' := 6) rfl rfl rfl (by decide) (sm_pl hM (by omega)) ?_
  refine am_r_i2l (pc' := 7) rfl rfl ?_
  refine am_r_lload2 (pc' := 8) rfl rfl ?_
  refine am_r_ladd (pc' := 9) rfl rfl ?_
  refine am_r_aload0 (pc' := 10) rfl rfl ?_
  refine am_r_getR (t := 58) (pc' := 13) rfl rfl rfl ?_
  refine am_r_iload1 (pc' := 14) rfl rfl ?_
  refine am_r_iaZv (n := 8) (pc' := 15) rfl rfl rfl (by decide) (sm_rd hM (by omega)) ?_
  refine am_r_i2l (pc' := 16) rfl rfl ?_
  refine am_r_lrem (pc' := 17) rfl rfl ?_
  refine am_r_l2i (pc' := 18) rfl rfl ?_
  refine am_r_iret rfl rfl ?_
  exact hq
theorem m_arcOf {sL : Nat} {xs : Nat → Int32} {d : Nat} {M : Am_M} {Q : Int32 → Am_M → Prop} (hd : 1 ≤ d) {x y : Int} (hx : 0 ≤ x ∧ x < 360) (hy : 0 ≤ y ∧ y < 360) (hq : Q (z_I (g_gap x y)) M) : am_bi sL xs d 190 [.int (z_I x), .int (z_I y)] M Q := by
  obtain ⟨d, rfl⟩ : ∃ e, d = e + 1 := ⟨d - 1, by omega⟩
  refine am_bi_of (P := am_pX11_arcOf) (rt := 1) (nL := 3) (Nat.le_of_ble_eq_true rfl) rfl (Nat.le_of_ble_eq_true rfl) rfl rfl rfl ?_
  refine am_r_iload0 (pc' := 1) rfl rfl ?_
  refine am_r_iload1 (pc' := 2) rfl rfl ?_
  refine am_r_icmp_le (pt := 11) (pf := 5) rfl rfl rfl (fun h2 => ?_) (fun h2 => ?_)
  · refine am_r_iload1 (pc' := 12) rfl rfl ?_
    refine am_r_iload0 (pc' := 13) rfl rfl ?_
    refine am_r_isub (pc' := 14) rfl rfl ?_
    refine am_r_istore2 (pc' := 15) rfl rfl rfl ?_
    refine am_r_iload2 (pc' := 16) rfl rfl ?_
    refine am_r_iconst (pc' := 19) rfl rfl ?_
    refine am_r_icmp_le (pt := 30) (pf := 22) rfl rfl rfl (fun h19 => ?_) (fun h19 => ?_)
    · refine am_r_iload2 (pc' := 31) rfl rfl ?_
      refine am_r_iret rfl rfl ?_
      (first | (rw [show g_gap x y = 360 - (x - y) by unfold g_gap; split <;> omega] at hq; exact hq) | (rw [show g_gap x y = 360 - (y - x) by unfold g_gap; split <;> omega] at hq; exact hq) | (rw [show g_gap x y = x - y by unfold g_gap; split <;> omega] at hq; exact hq) | (rw [show g_gap x y = y - x by unfold g_gap; split <;> omega] at hq; exact hq))
    · refine am_r_iconst (pc' := 25) rfl rfl ?_
      refine am_r_iload2 (pc' := 26) rfl rfl ?_
      refine am_r_isub (pc' := 27) rfl rfl ?_
      refine am_r_goto (pc' := 31) rfl rfl ?_
      refine am_r_iret rfl rfl ?_
      (first | (rw [show g_gap x y = 360 - (x - y) by unfold g_gap; split <;> omega] at hq; exact hq) | (rw [show g_gap x y = 360 - (y - x) by unfold g_gap; split <;> omega] at hq; exact hq) | (rw [show g_gap x y = x - y by unfold g_gap; split <;> omega] at hq; exact hq) | (rw [show g_gap x y = y - x by unfold g_gap; split <;> omega] at hq; exact hq))
  · refine am_r_iload0 (pc' := 6) rfl rfl ?_
    refine am_r_iload1 (pc' := 7) rfl rfl ?_
    refine am_r_isub (pc' := 8) rfl rfl ?_
    refine am_r_goto (pc' := 14) rfl rfl ?_
    refine am_r_istore2 (pc' := 15) rfl rfl rfl ?_
    refine am_r_iload2 (pc' := 16) rfl rfl ?_
    refine am_r_iconst (pc' := 19) rfl rfl ?_
    refine am_r_icmp_le (pt := 30) (pf := 22) rfl rfl rfl (fun h19 => ?_) (fun h19 => ?_)
    · refine am_r_iload2 (pc' := 31) rfl rfl ?_
      refine am_r_iret rfl rfl ?_
      (first | (rw [show g_gap x y = 360 - (x - y) by unfold g_gap; split <;> omega] at hq; exact hq) | (rw [show g_gap x y = 360 - (y - x) by unfold g_gap; split <;> omega] at hq; exact hq) | (rw [show g_gap x y = x - y by unfold g_gap; split <;> omega] at hq; exact hq) | (rw [show g_gap x y = y - x by unfold g_gap; split <;> omega] at hq; exact hq))
    · refine am_r_iconst (pc' := 25) rfl rfl ?_
      refine am_r_iload2 (pc' := 26) rfl rfl ?_
      refine am_r_isub (pc' := 27) rfl rfl ?_
      refine am_r_goto (pc' := 31) rfl rfl ?_
      refine am_r_iret rfl rfl ?_
      (first | (rw [show g_gap x y = 360 - (x - y) by unfold g_gap; split <;> omega] at hq; exact hq) | (rw [show g_gap x y = 360 - (y - x) by unfold g_gap; split <;> omega] at hq; exact hq) | (rw [show g_gap x y = x - y by unfold g_gap; split <;> omega] at hq; exact hq) | (rw [show g_gap x y = y - x by unfold g_gap; split <;> omega] at hq; exact hq))
theorem m_apartOn {sL : Nat} {xs : Nat → Int32} {d : Nat} {M : Am_M} {Q : Int32 → Am_M → Prop} (hd : 2 ≤ d) {σ : Sg} (hM : SM M σ) {a b d0 : Int} (ha : 0 ≤ a ∧ a < s_n σ) (hb : 0 ≤ b ∧ b < s_n σ) (hdd : 0 ≤ d0 ∧ d0 ≤ 1000000) (hq : Q (z_I (g_gap (g_dg σ a d0) (g_dg σ b d0))) M) : am_bi sL xs d 191 [.ref 53, .int (z_I a), .int (z_I b), .long (z_L d0)] M Q := by
  obtain ⟨d, rfl⟩ : ∃ e, d = e + 1 := ⟨d - 1, by omega⟩
  have hn := sb_nb hM.1
  have hnr := sb_nrb hM.1
  refine am_bi_of (P := am_pX11_apartOn) (rt := 1) (nL := 5) (Nat.le_of_ble_eq_true rfl) rfl (Nat.le_of_ble_eq_true rfl) rfl rfl rfl ?_
  refine am_r_aload0 (pc' := 1) rfl rfl ?_
  refine am_r_iload1 (pc' := 2) rfl rfl ?_
  refine am_r_aload0 (pc' := 3) rfl rfl ?_
  refine am_r_iload1 (pc' := 4) rfl rfl ?_
  refine am_r_lload3 (pc' := 5) rfl rfl ?_
  refine am_r_invI2 (pc' := 8) rfl rfl rfl (Nat.le_of_ble_eq_true rfl) (m_clock (by omega) hM (by omega) (by omega) ?_)
  refine am_r_invI2 (pc' := 11) rfl rfl rfl (Nat.le_of_ble_eq_true rfl) (m_degreesOf (by omega) hM (by omega) (g_pl_b hM.1 (by omega) _) ?_)
  refine am_r_aload0 (pc' := 12) rfl rfl ?_
  refine am_r_iload2 (pc' := 13) rfl rfl ?_
  refine am_r_aload0 (pc' := 14) rfl rfl ?_
  refine am_r_iload2 (pc' := 15) rfl rfl ?_
  refine am_r_lload3 (pc' := 16) rfl rfl ?_
  refine am_r_invI2 (pc' := 19) rfl rfl rfl (Nat.le_of_ble_eq_true rfl) (m_clock (by omega) hM (by omega) (by omega) ?_)
  refine am_r_invI2 (pc' := 22) rfl rfl rfl (Nat.le_of_ble_eq_true rfl) (m_degreesOf (by omega) hM (by omega) (g_pl_b hM.1 (by omega) _) ?_)
  refine am_r_ivsI2 (pc' := 25) rfl rfl rfl (Nat.le_of_ble_eq_true rfl) (m_arcOf (by omega) (g_dg_b hM.1 (by omega) _) (g_dg_b hM.1 (by omega) _) ?_)
  refine am_r_iret rfl rfl ?_
  exact hq
theorem m_meetOn {sL : Nat} {xs : Nat → Int32} {d : Nat} {M : Am_M} {Q : Int32 → Am_M → Prop} (hd : 3 ≤ d) {σ : Sg} (hM : SM M σ) {a b d0 : Int} (ha : 0 ≤ a ∧ a < s_n σ) (hb : 0 ≤ b ∧ b < s_n σ) (hdd : 0 ≤ d0 ∧ d0 ≤ 1000000) (hq : Q (z_b (g_mt σ a 0 b d0 = true)) M) : am_bi sL xs d 192 [.ref 53, .int (z_I a), .int (z_I b), .long (z_L d0)] M Q := by
  obtain ⟨d, rfl⟩ : ∃ e, d = e + 1 := ⟨d - 1, by omega⟩
  have hn := sb_nb hM.1
  have hnr := sb_nrb hM.1
  have hgap := g_gap_b (g_dg_b hM.1 ha d0) (g_dg_b hM.1 hb d0)
  refine am_bi_of (P := am_pX11_meetOn) (rt := 2) (nL := 5) (Nat.le_of_ble_eq_true rfl) rfl (Nat.le_of_ble_eq_true rfl) rfl rfl rfl ?_
  refine am_r_aload0 (pc' := 1) rfl rfl ?_
  refine am_r_iload1 (pc' := 2) rfl rfl ?_
  refine am_r_iload2 (pc' := 3) rfl rfl ?_
  refine am_r_lload3 (pc' := 4) rfl rfl ?_
  refine am_r_invI3 (pc' := 7) rfl rfl rfl (Nat.le_of_ble_eq_true rfl) (m_apartOn (by omega) hM (by omega) (by omega) (by omega) ?_)
  refine am_r_aload0 (pc' := 8) rfl rfl ?_
  refine am_r_getR (t := 54) (pc' := 11) rfl rfl rfl ?_
  refine am_r_iconst (pc' := 13) rfl rfl ?_
  refine am_r_iaZv (n := 81) (pc' := 14) rfl rfl rfl (by decide) (sm_nr hM) ?_
  refine am_r_icmp_gt (pt := 21) (pf := 17) rfl rfl rfl (fun h14 => ?_) (fun h14 => ?_)
  · refine am_r_iconst (pc' := 22) rfl rfl ?_
    refine am_r_zret rfl rfl (by first | exact Or.inr rfl | exact Or.inl rfl | exact z_b_01 _ | assumption) ?_
    first | (rw [show g_mt σ a 0 b d0 = true from by unfold g_mt; simp only [Int.zero_add, decide_eq_true_eq]; omega] at hq; exact hq) | (rw [show g_mt σ a 0 b d0 = false from by unfold g_mt; simp only [Int.zero_add, decide_eq_false_iff_not]; omega] at hq; exact hq)
  · refine am_r_iconst (pc' := 18) rfl rfl ?_
    refine am_r_goto (pc' := 22) rfl rfl ?_
    refine am_r_zret rfl rfl (by first | exact Or.inr rfl | exact Or.inl rfl | exact z_b_01 _ | assumption) ?_
    first | (rw [show g_mt σ a 0 b d0 = true from by unfold g_mt; simp only [Int.zero_add, decide_eq_true_eq]; omega] at hq; exact hq) | (rw [show g_mt σ a 0 b d0 = false from by unfold g_mt; simp only [Int.zero_add, decide_eq_false_iff_not]; omega] at hq; exact hq)
theorem z_tmodmod (x r : Int) (hr : 0 < r) : (x.tmod r + r) % r = x % r := by
  have h := Int.tmod_eq_emod (a := x) (b := r)
  rw [h]
  split
  · simp
  · have : (r.natAbs : Int) = r := by omega
    rw [this]
    simp
theorem z_tmodb (x r : Int) (hr : 0 < r) : -r < x.tmod r ∧ x.tmod r < r := by
  have h := Int.tmod_eq_emod (a := x) (b := r)
  have h1 := Int.emod_nonneg x (show r ≠ 0 by omega)
  have h2 := Int.emod_lt_of_pos x hr
  have : (r.natAbs : Int) = r := by omega
  split at h <;> omega
theorem m_meetsMoved {sL : Nat} {xs : Nat → Int32} {d : Nat} {M : Am_M} {Q : Int32 → Am_M → Prop} (hd : 2 ≤ d) {σ : Sg} (hM : SM M σ) {a m b d0 : Int} (ha : 0 ≤ a ∧ a < s_n σ) (hm : -1000 ≤ m ∧ m ≤ 1000) (hb : 0 ≤ b ∧ b < s_n σ) (hdd : 0 ≤ d0 ∧ d0 ≤ 200000) (hq : Q (z_b (g_mt σ a m b d0 = true)) M) : am_bi sL xs d 206 [.ref 53, .int (z_I a), .int (z_I b), .int (z_I m), .long (z_L d0)] M Q := by
  obtain ⟨d, rfl⟩ : ∃ e, d = e + 1 := ⟨d - 1, by omega⟩
  have hn := sb_nb hM.1
  have hnr := sb_nrb hM.1
  have hgap := g_gap_b (g_dg_b hM.1 ha (m + d0)) (g_dg_b hM.1 hb d0)
  have hb9 := sg_b hM.1 ha
  have htm := z_tmodb (s_pl σ a + m + d0) (s_rd σ a) (by omega)
  refine am_bi_of (P := am_pX11_meetsMoved) (rt := 2) (nL := 7) (Nat.le_of_ble_eq_true rfl) rfl (Nat.le_of_ble_eq_true rfl) rfl rfl rfl ?_
  refine am_r_aload0 (pc' := 1) rfl rfl ?_
  refine am_r_getR (t := 54) (pc' := 4) rfl rfl rfl ?_
  refine am_r_iload1 (pc' := 5) rfl rfl ?_
  refine am_r_iaZv (n := 81) (pc' := 6) rfl rfl rfl (by decide) (sm_pl hM (by omega)) ?_
  refine am_r_iload3 (pc' := 7) rfl rfl ?_
  refine am_r_iadd (pc' := 8) rfl rfl ?_
  refine am_r_i2l (pc' := 9) rfl rfl ?_
  refine am_r_lload4 (pc' := 11) rfl rfl ?_
  refine am_r_ladd (pc' := 12) rfl rfl ?_
  refine am_r_aload0 (pc' := 13) rfl rfl ?_
  refine am_r_getR (t := 58) (pc' := 16) rfl rfl rfl ?_
  refine am_r_iload1 (pc' := 17) rfl rfl ?_
  refine am_r_iaZv (n := 8) (pc' := 18) rfl rfl rfl (by decide) (sm_rd hM (by omega)) ?_
  refine am_r_i2l (pc' := 19) rfl rfl ?_
  refine am_r_lremT (pc' := 20) rfl rfl ?_
  refine am_r_aload0 (pc' := 21) rfl rfl ?_
  refine am_r_getR (t := 58) (pc' := 24) rfl rfl rfl ?_
  refine am_r_iload1 (pc' := 25) rfl rfl ?_
  refine am_r_iaZv (n := 8) (pc' := 26) rfl rfl rfl (by decide) (sm_rd hM (by omega)) ?_
  refine am_r_i2l (pc' := 27) rfl rfl ?_
  refine am_r_ladd (pc' := 28) rfl rfl ?_
  refine am_r_aload0 (pc' := 29) rfl rfl ?_
  refine am_r_getR (t := 58) (pc' := 32) rfl rfl rfl ?_
  refine am_r_iload1 (pc' := 33) rfl rfl ?_
  refine am_r_iaZv (n := 8) (pc' := 34) rfl rfl rfl (by decide) (sm_rd hM (by omega)) ?_
  refine am_r_i2l (pc' := 35) rfl rfl ?_
  refine am_r_lrem (pc' := 36) rfl rfl ?_
  refine am_r_l2i (pc' := 37) rfl rfl ?_
  rw [z_tmodmod _ _ (by omega), show s_pl σ a + m + d0 = s_pl σ a + (m + d0) by omega, show (s_pl σ a + (m + d0)) % s_rd σ a = g_pl σ a (m + d0) from rfl]
  refine am_r_istore6 (pc' := 39) rfl rfl rfl ?_
  have hgp := g_pl_b hM.1 ha (m + d0)
  refine am_r_aload0 (pc' := 40) rfl rfl ?_
  refine am_r_iload1 (pc' := 41) rfl rfl ?_
  refine am_r_iload6 (pc' := 43) rfl rfl ?_
  refine am_r_invI2 (pc' := 46) rfl rfl rfl (Nat.le_of_ble_eq_true rfl) (m_degreesOf (by omega) hM (by omega) (g_pl_b hM.1 (by omega) (m + d0)) ?_)
  refine am_r_aload0 (pc' := 47) rfl rfl ?_
  refine am_r_iload2 (pc' := 48) rfl rfl ?_
  refine am_r_aload0 (pc' := 49) rfl rfl ?_
  refine am_r_iload2 (pc' := 50) rfl rfl ?_
  refine am_r_lload4 (pc' := 52) rfl rfl ?_
  refine am_r_invI2 (pc' := 55) rfl rfl rfl (Nat.le_of_ble_eq_true rfl) (m_clock (by omega) hM (by omega) (by omega) ?_)
  refine am_r_invI2 (pc' := 58) rfl rfl rfl (Nat.le_of_ble_eq_true rfl) (m_degreesOf (by omega) hM (by omega) (g_pl_b hM.1 (by omega) _) ?_)
  refine am_r_ivsI2 (pc' := 61) rfl rfl rfl (Nat.le_of_ble_eq_true rfl) (m_arcOf (by omega) (g_dg_b hM.1 (by omega) _) (g_dg_b hM.1 (by omega) _) ?_)
  rw [show g_deg σ a (g_pl σ a (m + d0)) = g_dg σ a (m + d0) from rfl, show g_deg σ b (g_pl σ b d0) = g_dg σ b d0 from rfl]
  refine am_r_aload0 (pc' := 62) rfl rfl ?_
  refine am_r_getR (t := 54) (pc' := 65) rfl rfl rfl ?_
  refine am_r_iconst (pc' := 67) rfl rfl ?_
  refine am_r_iaZv (n := 81) (pc' := 68) rfl rfl rfl (by decide) (sm_nr hM) ?_
  refine am_r_icmp_gt (pt := 75) (pf := 71) rfl rfl rfl (fun h68 => ?_) (fun h68 => ?_)
  · refine am_r_iconst (pc' := 76) rfl rfl ?_
    refine am_r_zret rfl rfl (by first | exact Or.inr rfl | exact Or.inl rfl | exact z_b_01 _ | assumption) ?_
    first | (rw [show g_mt σ a m b d0 = true from by unfold g_mt; simp only [Int.zero_add, decide_eq_true_eq]; omega] at hq; exact hq) | (rw [show g_mt σ a m b d0 = false from by unfold g_mt; simp only [Int.zero_add, decide_eq_false_iff_not]; omega] at hq; exact hq)
  · refine am_r_iconst (pc' := 72) rfl rfl ?_
    refine am_r_goto (pc' := 76) rfl rfl ?_
    refine am_r_zret rfl rfl (by first | exact Or.inr rfl | exact Or.inl rfl | exact z_b_01 _ | assumption) ?_
    first | (rw [show g_mt σ a m b d0 = true from by unfold g_mt; simp only [Int.zero_add, decide_eq_true_eq]; omega] at hq; exact hq) | (rw [show g_mt σ a m b d0 = false from by unfold g_mt; simp only [Int.zero_add, decide_eq_false_iff_not]; omega] at hq; exact hq)
def t_at (a w : Int) : Int := if w = 2 then 16 + 8 * (a / 10) + a % 10 else if w = 3 then 80 else 8 * w + a
theorem sm_may {M : Am_M} {σ : Sg} (h : SM M σ) {a w : Int} (hh : ((w = 0 ∧ 0 ≤ a ∧ a < s_n σ) ∨ (w = 1 ∧ 0 ≤ a ∧ a < s_n σ) ∨ (w = 2 ∧ 0 ≤ a ∧ a / 10 < s_n σ ∧ a % 10 < s_n σ ∧ a / 10 ≠ a % 10) ∨ (w = 3 ∧ a = 0))) : M.1 54 (t_at a w).toNat = z_I (t_old σ a w) ∧ 0 ≤ t_at a w ∧ t_at a w < 81 := by
  have hn := sb_nb h.1
  rcases hh with ⟨rfl, h1⟩ | ⟨rfl, h1⟩ | ⟨rfl, h1⟩ | ⟨rfl, rfl⟩
  · refine ⟨?_, ?_⟩
    · rw [show t_at a 0 = a by unfold t_at; simp]
      exact sm_pl h h1
    · unfold t_at; simp; omega
  · refine ⟨?_, ?_⟩
    · rw [show t_at a 1 = 8 + a by unfold t_at; simp]
      exact sm_wt h h1
    · unfold t_at; simp; omega
  · refine ⟨?_, ?_⟩
    · rw [show t_at a 2 = 16 + 8 * (a / 10) + a % 10 by unfold t_at; simp]
      exact sm_lk h (by omega) (by omega)
    · unfold t_at; simp; omega
  · exact ⟨sm_nr h, by unfold t_at; simp, by unfold t_at; simp⟩
theorem sm_tell {M : Am_M} {σ : Sg} (h : SM M σ) {a w v : Int} (hh : ((w = 0 ∧ 0 ≤ a ∧ a < s_n σ) ∨ (w = 1 ∧ 0 ≤ a ∧ a < s_n σ) ∨ (w = 2 ∧ 0 ≤ a ∧ a / 10 < s_n σ ∧ a % 10 < s_n σ ∧ a / 10 ≠ a % 10) ∨ (w = 3 ∧ a = 0))) (hf : ((w = 0 ∧ 0 ≤ v ∧ v < s_rd σ a) ∨ (w = 1 ∧ 0 ≤ v ∧ v ≤ 9) ∨ (w = 2 ∧ -9 ≤ v ∧ v ≤ 9) ∨ (w = 3 ∧ 0 ≤ v ∧ v ≤ 90))) : SM (am_upI M 54 (t_at a w).toNat (z_I v)) (t_new σ a w v) := by
  have hn := sb_nb h.1
  obtain ⟨h0, h1, h2, h3, h4, h5, h6⟩ := h
  have e54 : ∀ j : Nat, (am_upI M 54 (t_at a w).toNat (z_I v)).1 54 j = if j = (t_at a w).toNat then z_I v else M.1 54 j := fun j => by
    show (if 54 = 54 ∧ j = (t_at a w).toNat then z_I v else M.1 54 j) = _
    simp
  rcases hh with ⟨rfl, hh⟩ | ⟨rfl, hh⟩ | ⟨rfl, hh⟩ | ⟨rfl, rfl⟩
  · have ea : t_at a 0 = a := by unfold t_at; simp
    have hv : 0 ≤ v ∧ v < s_rd σ a := by omega
    rw [ea] at e54 ⊢
    refine ⟨⟨h0.1, h0.2.1, fun x hx => ?_, h0.2.2.2⟩, h1, ?_, fun x hx => h3 x hx, fun x hx => ?_, fun x hx => ?_, fun x y hx hy => ?_⟩
    · have hb := h0.2.2.1 x hx
      refine ⟨hb.1, hb.2.1, ?_, ?_, hb.2.2.2.2.1, hb.2.2.2.2.2⟩
      · show 0 ≤ (if x = a then v else σ.2.2.1 x)
        split
        · exact hv.1
        · exact hb.2.2.1
      · show (if x = a then v else σ.2.2.1 x) < s_rd σ x
        split
        · rename_i e; subst e; exact hv.2
        · exact hb.2.2.2.1
    · rw [e54, if_neg (by omega)]; exact h2
    · rw [e54]
      show _ = z_I (if x = a then v else σ.2.2.1 x)
      by_cases e : x = a
      · rw [if_pos (by rw [e]), if_pos e]
      · rw [if_neg (by omega), if_neg e]; exact h4 x hx
    · rw [e54, if_neg (by omega)]; exact h5 x hx
    · rw [e54, if_neg (by omega)]; exact h6 x y hx hy
  · have ea : t_at a 1 = 8 + a := by unfold t_at; simp
    have hv : 0 ≤ v ∧ v ≤ 9 := by omega
    rw [ea] at e54 ⊢
    refine ⟨⟨h0.1, h0.2.1, fun x hx => ?_, h0.2.2.2⟩, h1, ?_, fun x hx => h3 x hx, fun x hx => ?_, fun x hx => ?_, fun x y hx hy => ?_⟩
    · have hb := h0.2.2.1 x hx
      refine ⟨hb.1, hb.2.1, hb.2.2.1, hb.2.2.2.1, ?_, ?_⟩
      · show 0 ≤ (if x = a then v else σ.2.2.2.1 x)
        split
        · exact hv.1
        · exact hb.2.2.2.2.1
      · show (if x = a then v else σ.2.2.2.1 x) ≤ 9
        split
        · exact hv.2
        · exact hb.2.2.2.2.2
    · rw [e54, if_neg (by omega)]; exact h2
    · rw [e54, if_neg (by have : s_n (t_new σ a 1 v) = s_n σ := rfl; omega)]; exact h4 x hx
    · rw [e54]
      show _ = z_I (if x = a then v else σ.2.2.2.1 x)
      by_cases e : x = a
      · rw [if_pos (by rw [e]), if_pos e]
      · rw [if_neg (by omega), if_neg e]; exact h5 x hx
    · rw [e54, if_neg (by omega)]; exact h6 x y hx hy
  · have ea : t_at a 2 = 16 + 8 * (a / 10) + a % 10 := by unfold t_at; simp
    have hv : -9 ≤ v ∧ v ≤ 9 := by omega
    rw [ea] at e54 ⊢
    have en : s_n (t_new σ a 2 v) = s_n σ := rfl
    refine ⟨⟨h0.1, h0.2.1, fun x hx => h0.2.2.1 x hx, fun x y hx hy => ?_⟩, h1, ?_, fun x hx => h3 x hx, fun x hx => ?_, fun x hx => ?_, fun x y hx hy => ?_⟩
    · have hbb := h0.2.2.2 x y hx hy
      show -9 ≤ (if x = a / 10 ∧ y = a % 10 then v else σ.2.2.2.2.1 x y) ∧ (if x = a / 10 ∧ y = a % 10 then v else σ.2.2.2.2.1 x y) ≤ 9
      split
      · exact hv
      · exact hbb
    · rw [e54, if_neg (by omega)]; exact h2
    · rw [e54, if_neg (by omega)]; exact h4 x hx
    · rw [e54, if_neg (by omega)]; exact h5 x hx
    · rw [e54]
      show _ = z_I (if x = a / 10 ∧ y = a % 10 then v else σ.2.2.2.2.1 x y)
      by_cases e : x = a / 10 ∧ y = a % 10
      · rw [if_pos (by rw [e.1, e.2]), if_pos e]
      · rw [if_neg (by omega), if_neg e]; exact h6 x y hx hy
  · have ea : t_at 0 3 = 80 := rfl
    have hv : 0 ≤ v ∧ v ≤ 90 := by omega
    rw [ea] at e54 ⊢
    have en : s_n (t_new σ 0 3 v) = s_n σ := rfl
    refine ⟨⟨h0.1, hv, fun x hx => h0.2.2.1 x hx, h0.2.2.2⟩, h1, rfl, fun x hx => h3 x hx, fun x hx => ?_, fun x hx => ?_, fun x y hx hy => ?_⟩
    · rw [e54, if_neg (by omega)]; exact h4 x hx
    · rw [e54, if_neg (by omega)]; exact h5 x hx
    · rw [e54, if_neg (by omega)]; exact h6 x y hx hy
theorem sm_add {M : Am_M} {σ : Sg} (h : SM M σ) {r p w : Int} (hn : s_n σ < 8) (hr : 1 ≤ r ∧ r ≤ 60) (hp : 0 ≤ p ∧ p < r) (hw : 0 ≤ w ∧ w ≤ 9) : SM (am_upI (am_upI (am_upI (am_upI M 58 (s_n σ).toNat (z_I r)) 54 (s_n σ).toNat (z_I p)) 54 (8 + s_n σ).toNat (z_I w)) 53 6 (z_I (s_n σ + 1))) (s_add σ r p w) := by
  obtain ⟨h0, h1, h2, h3, h4, h5, h6⟩ := h
  have hn0 := h0.1
  have en : s_n (s_add σ r p w) = s_n σ + 1 := rfl
  have e54 : ∀ j : Nat, (am_upI (am_upI (am_upI (am_upI M 58 (s_n σ).toNat (z_I r)) 54 (s_n σ).toNat (z_I p)) 54 (8 + s_n σ).toNat (z_I w)) 53 6 (z_I (s_n σ + 1))).1 54 j = if j = (8 + s_n σ).toNat then z_I w else if j = (s_n σ).toNat then z_I p else M.1 54 j := fun j => by
    simp [am_upI]
  refine ⟨⟨by rw [en]; omega, h0.2.1, fun x hx => ?_, h0.2.2.2⟩, rfl, ?_, fun x hx => ?_, fun x hx => ?_, fun x hx => ?_, fun x y hx hy => ?_⟩
  · show 1 ≤ (if x = s_n σ then r else s_rd σ x) ∧ (if x = s_n σ then r else s_rd σ x) ≤ 60 ∧ 0 ≤ (if x = s_n σ then p else s_pl σ x) ∧ (if x = s_n σ then p else s_pl σ x) < (if x = s_n σ then r else s_rd σ x) ∧ 0 ≤ (if x = s_n σ then w else s_wt σ x) ∧ (if x = s_n σ then w else s_wt σ x) ≤ 9
    by_cases e : x = s_n σ
    · simp only [if_pos e]
      omega
    · simp only [if_neg e]
      exact h0.2.2.1 x (by rw [en] at hx; omega)
  · rw [e54, if_neg (by omega), if_neg (by omega)]; exact h2
  · show (if 58 = 58 ∧ x.toNat = (s_n σ).toNat then z_I r else M.1 58 x.toNat) = z_I (if x = s_n σ then r else s_rd σ x)
    rw [en] at hx
    by_cases e : x = s_n σ
    · rw [if_pos ⟨rfl, by rw [e]⟩, if_pos e]
    · rw [if_neg (by omega), if_neg e]
      exact h3 x (by omega)
  · rw [en] at hx
    rw [e54, if_neg (by omega)]
    show _ = z_I (if x = s_n σ then p else s_pl σ x)
    by_cases e : x = s_n σ
    · rw [if_pos (by rw [e]), if_pos e]
    · rw [if_neg (by omega), if_neg e]; exact h4 x (by omega)
  · rw [en] at hx
    rw [e54]
    show _ = z_I (if x = s_n σ then w else s_wt σ x)
    by_cases e : x = s_n σ
    · rw [if_pos (by rw [e]), if_pos e]
    · rw [if_neg (by omega), if_neg (by omega), if_neg e]; exact h5 x (by omega)
  · rw [e54, if_neg (by omega), if_neg (by omega)]; exact h6 x y hx hy
theorem sm_fr {M M' : Am_M} {σ : Sg} (h : SM M σ) (h1 : ∀ j, M'.1 54 j = M.1 54 j) (h2 : M'.1 58 = M.1 58) (h3 : M'.1 53 6 = M.1 53 6) : SM M' σ := by
  obtain ⟨a0, a1, a2, a3, a4, a5, a6⟩ := h
  exact ⟨a0, by rw [h3]; exact a1, by rw [h1]; exact a2, fun x hx => by rw [h2]; exact a3 x hx, fun x hx => by rw [h1]; exact a4 x hx, fun x hx => by rw [h1]; exact a5 x hx, fun x y hx hy => by rw [h1]; exact a6 x y hx hy⟩
theorem m_placeOf {sL : Nat} {xs : Nat → Int32} {d : Nat} {M : Am_M} {Q : Int32 → Am_M → Prop} (hd : 4 ≤ d) {σ : Sg} (hM : SM M σ) {a : Int} (ha : -2147483648 ≤ a ∧ a < 2147483648) {w : Int} (hw : -2147483648 ≤ w ∧ w < 2147483648)  (hq1 : ((w = 0 ∧ 0 ≤ a ∧ a < s_n σ) ∨ (w = 1 ∧ 0 ≤ a ∧ a < s_n σ) ∨ (w = 2 ∧ 0 ≤ a ∧ a / 10 < s_n σ ∧ a % 10 < s_n σ ∧ a / 10 ≠ a % 10) ∨ (w = 3 ∧ a = 0)) → Q (z_I (t_at a w)) M) (hq2 : ¬ ((w = 0 ∧ 0 ≤ a ∧ a < s_n σ) ∨ (w = 1 ∧ 0 ≤ a ∧ a < s_n σ) ∨ (w = 2 ∧ 0 ≤ a ∧ a / 10 < s_n σ ∧ a % 10 < s_n σ ∧ a / 10 ≠ a % 10) ∨ (w = 3 ∧ a = 0)) → Q (z_I (-1)) M) : am_bi sL xs d 170 [.ref 53, .int (z_I a), .int (z_I w)] M Q := by
  obtain ⟨d, rfl⟩ : ∃ e, d = e + 1 := ⟨d - 1, by omega⟩
  have hn := sb_nb hM.1
  have hnr := sb_nrb hM.1
  refine am_bi_of (P := am_pX11_placeOf) (rt := 1) (nL := 3) (Nat.le_of_ble_eq_true rfl) rfl (Nat.le_of_ble_eq_true rfl) rfl rfl rfl ?_
  refine am_r_iload2 (pc' := 1) rfl rfl ?_
  rcases (show w = 0 ∨ w = 1 ∨ w = 2 ∨ (¬ w = 0 ∧ ¬ w = 1 ∧ ¬ w = 2) by omega) with rfl | rfl | rfl | hsw1
  · refine am_r_tsw (t := 28) rfl rfl ?_
    refine am_r_aload0 (pc' := 29) rfl rfl ?_
    refine am_r_iload1 (pc' := 30) rfl rfl ?_
    refine am_r_i2l (pc' := 31) rfl rfl ?_
    refine am_r_invI1 (pc' := 34) rfl rfl rfl (Nat.le_of_ble_eq_true rfl) (m_isOrb (by omega) hM (by omega) ?_)
    refine am_r_if_eqB (pt := 46) (pf := 37) rfl rfl rfl (fun h34 => ?_) (fun h34 => ?_)
    · refine am_r_iconst (pc' := 47) rfl rfl ?_
      refine am_r_iret rfl rfl ?_
      first | exact hq2 (by omega) | (have h3 : w = 3 := (by omega); have h0 : a = 0 := (by omega); subst h3 h0; exact hq1 (by omega)) | (have e := hq1 (by omega); simp only [t_at] at e; exact e)
    · refine am_r_iconst (pc' := 39) rfl rfl ?_
      refine am_r_iload2 (pc' := 40) rfl rfl ?_
      refine am_r_imul (pc' := 41) rfl rfl ?_
      refine am_r_iload1 (pc' := 42) rfl rfl ?_
      refine am_r_iadd (pc' := 43) rfl rfl ?_
      refine am_r_goto (pc' := 47) rfl rfl ?_
      refine am_r_iret rfl rfl ?_
      first | exact hq2 (by omega) | (have h3 : w = 3 := (by omega); have h0 : a = 0 := (by omega); subst h3 h0; exact hq1 (by omega)) | (have e := hq1 (by omega); simp only [t_at] at e; exact e)
  · refine am_r_tsw (t := 28) rfl rfl ?_
    refine am_r_aload0 (pc' := 29) rfl rfl ?_
    refine am_r_iload1 (pc' := 30) rfl rfl ?_
    refine am_r_i2l (pc' := 31) rfl rfl ?_
    refine am_r_invI1 (pc' := 34) rfl rfl rfl (Nat.le_of_ble_eq_true rfl) (m_isOrb (by omega) hM (by omega) ?_)
    refine am_r_if_eqB (pt := 46) (pf := 37) rfl rfl rfl (fun h34 => ?_) (fun h34 => ?_)
    · refine am_r_iconst (pc' := 47) rfl rfl ?_
      refine am_r_iret rfl rfl ?_
      first | exact hq2 (by omega) | (have h3 : w = 3 := (by omega); have h0 : a = 0 := (by omega); subst h3 h0; exact hq1 (by omega)) | (have e := hq1 (by omega); simp only [t_at] at e; exact e)
    · refine am_r_iconst (pc' := 39) rfl rfl ?_
      refine am_r_iload2 (pc' := 40) rfl rfl ?_
      refine am_r_imul (pc' := 41) rfl rfl ?_
      refine am_r_iload1 (pc' := 42) rfl rfl ?_
      refine am_r_iadd (pc' := 43) rfl rfl ?_
      refine am_r_goto (pc' := 47) rfl rfl ?_
      refine am_r_iret rfl rfl ?_
      first | exact hq2 (by omega) | (have h3 : w = 3 := (by omega); have h0 : a = 0 := (by omega); subst h3 h0; exact hq1 (by omega)) | (have e := hq1 (by omega); simp only [t_at] at e; exact e)
  · refine am_r_tsw (t := 48) rfl rfl ?_
    refine am_r_aload0 (pc' := 49) rfl rfl ?_
    refine am_r_iload1 (pc' := 50) rfl rfl ?_
    refine am_r_invI1 (pc' := 53) rfl rfl rfl (Nat.le_of_ble_eq_true rfl) (m_isAb (by omega) hM (by omega) ?_)
    refine am_r_if_eqB (pt := 74) (pf := 56) rfl rfl rfl (fun h53 => ?_) (fun h53 => ?_)
    · refine am_r_iconst (pc' := 75) rfl rfl ?_
      refine am_r_iret rfl rfl ?_
      first | exact hq2 (by omega) | (have h3 : w = 3 := (by omega); have h0 : a = 0 := (by omega); subst h3 h0; exact hq1 (by omega)) | (have e := hq1 (by omega); simp only [t_at] at e; exact e)
    · refine am_r_iconst (pc' := 58) rfl rfl ?_
      refine am_r_iconst (pc' := 60) rfl rfl ?_
      refine am_r_iload1 (pc' := 61) rfl rfl ?_
      refine am_r_iconst (pc' := 63) rfl rfl ?_
      refine am_r_idiv (pc' := 64) rfl rfl ?_
      refine am_r_imul (pc' := 65) rfl rfl ?_
      refine am_r_iadd (pc' := 66) rfl rfl ?_
      refine am_r_iload1 (pc' := 67) rfl rfl ?_
      refine am_r_iconst (pc' := 69) rfl rfl ?_
      refine am_r_irem (pc' := 70) rfl rfl ?_
      refine am_r_iadd (pc' := 71) rfl rfl ?_
      refine am_r_goto (pc' := 75) rfl rfl ?_
      refine am_r_iret rfl rfl ?_
      first | exact hq2 (by omega) | (have h3 : w = 3 := (by omega); have h0 : a = 0 := (by omega); subst h3 h0; exact hq1 (by omega)) | (have e := hq1 (by omega); simp only [t_at] at e; exact e)
  · refine am_r_tsw (t := 76) rfl (by rw [if_pos (by omega)]; rfl) ?_
    refine am_r_iload2 (pc' := 77) rfl rfl ?_
    refine am_r_iconst (pc' := 78) rfl rfl ?_
    refine am_r_icmp_ne (pt := 90) (pf := 81) rfl rfl rfl (fun h78 => ?_) (fun h78 => ?_)
    · refine am_r_iconst (pc' := 91) rfl rfl ?_
      refine am_r_iret rfl rfl ?_
      first | exact hq2 (by omega) | (have h3 : w = 3 := (by omega); have h0 : a = 0 := (by omega); subst h3 h0; exact hq1 (by omega)) | (have e := hq1 (by omega); simp only [t_at] at e; exact e)
    · refine am_r_iload1 (pc' := 82) rfl rfl ?_
      refine am_r_if_ne (pt := 90) (pf := 85) rfl rfl rfl (fun h82 => ?_) (fun h82 => ?_)
      · refine am_r_iconst (pc' := 91) rfl rfl ?_
        refine am_r_iret rfl rfl ?_
        first | exact hq2 (by omega) | (have h3 : w = 3 := (by omega); have h0 : a = 0 := (by omega); subst h3 h0; exact hq1 (by omega)) | (have e := hq1 (by omega); simp only [t_at] at e; exact e)
      · refine am_r_iconst (pc' := 87) rfl rfl ?_
        refine am_r_goto (pc' := 91) rfl rfl ?_
        refine am_r_iret rfl rfl ?_
        first | exact hq2 (by omega) | (have h3 : w = 3 := (by omega); have h0 : a = 0 := (by omega); subst h3 h0; exact hq1 (by omega)) | (have e := hq1 (by omega); simp only [t_at] at e; exact e)
theorem m_mayBecome {sL : Nat} {xs : Nat → Int32} {d : Nat} {M : Am_M} {Q : Int32 → Am_M → Prop} (hd : 2 ≤ d) {σ : Sg} (hM : SM M σ) {a w v : Int} (hh : ((w = 0 ∧ 0 ≤ a ∧ a < s_n σ) ∨ (w = 1 ∧ 0 ≤ a ∧ a < s_n σ) ∨ (w = 2 ∧ 0 ≤ a ∧ a / 10 < s_n σ ∧ a % 10 < s_n σ ∧ a / 10 ≠ a % 10) ∨ (w = 3 ∧ a = 0))) (hv : -2147483648 ≤ v ∧ v < 2147483648)  (hq : Q (z_b ((w = 0 ∧ 0 ≤ v ∧ v < s_rd σ a) ∨ (w = 1 ∧ 0 ≤ v ∧ v ≤ 9) ∨ (w = 2 ∧ -9 ≤ v ∧ v ≤ 9) ∨ (w = 3 ∧ 0 ≤ v ∧ v ≤ 90))) M) : am_bi sL xs d 171 [.ref 53, .int (z_I a), .int (z_I w), .int (z_I v)] M Q := by
  obtain ⟨d, rfl⟩ : ∃ e, d = e + 1 := ⟨d - 1, by omega⟩
  have hn := sb_nb hM.1
  have hnr := sb_nrb hM.1
  have hb := fun q => sg_b hM.1 (a := a) q
  refine am_bi_of (P := am_pX11_mayBecome) (rt := 2) (nL := 4) (Nat.le_of_ble_eq_true rfl) rfl (Nat.le_of_ble_eq_true rfl) rfl rfl rfl ?_
  refine am_r_iload2 (pc' := 1) rfl rfl ?_
  rcases (show w = 0 ∨ w = 1 ∨ w = 2 ∨ (¬ w = 0 ∧ ¬ w = 1 ∧ ¬ w = 2) by omega) with rfl | rfl | rfl | hsw1
  · refine am_r_tsw (t := 28) rfl rfl ?_
    refine am_r_iload3 (pc' := 29) rfl rfl ?_
    refine am_r_i2l (pc' := 30) rfl rfl ?_
    refine am_r_lconst (z := 0) (pc' := 31) rfl rfl rfl ?_
    refine am_r_aload0 (pc' := 32) rfl rfl ?_
    refine am_r_getR (t := 58) (pc' := 35) rfl rfl rfl ?_
    refine am_r_iload1 (pc' := 36) rfl rfl ?_
    have hb := hb (by omega)
    refine am_r_iaZv (n := 8) (pc' := 37) rfl rfl rfl (by decide) (sm_rd hM (by omega)) ?_
    refine am_r_iconst (pc' := 38) rfl rfl ?_
    refine am_r_isub (pc' := 39) rfl rfl ?_
    refine am_r_i2l (pc' := 40) rfl rfl ?_
    refine am_r_ivsI3 (pc' := 43) rfl rfl rfl (Nat.le_of_ble_eq_true rfl) (m_within (by omega) (by omega) (by omega) (by omega) ?_)
    refine am_r_zret rfl rfl (by first | exact Or.inr rfl | exact Or.inl rfl | exact z_b_01 _ | assumption) ?_
    first | (rw [z_bT (by omega)] at hq; exact hq) | (rw [z_bF (by omega)] at hq; exact hq) | (exact z_b_cg (by omega) hq)
  · refine am_r_tsw (t := 44) rfl rfl ?_
    refine am_r_iload3 (pc' := 45) rfl rfl ?_
    refine am_r_i2l (pc' := 46) rfl rfl ?_
    refine am_r_lconst (z := 0) (pc' := 47) rfl rfl rfl ?_
    refine am_r_lconst (z := 9) (pc' := 50) rfl rfl rfl ?_
    refine am_r_ivsI3 (pc' := 53) rfl rfl rfl (Nat.le_of_ble_eq_true rfl) (m_within (by omega) (by omega) (by omega) (by omega) ?_)
    refine am_r_zret rfl rfl (by first | exact Or.inr rfl | exact Or.inl rfl | exact z_b_01 _ | assumption) ?_
    first | (rw [z_bT (by omega)] at hq; exact hq) | (rw [z_bF (by omega)] at hq; exact hq) | (exact z_b_cg (by omega) hq)
  · refine am_r_tsw (t := 54) rfl rfl ?_
    refine am_r_iload3 (pc' := 55) rfl rfl ?_
    refine am_r_i2l (pc' := 56) rfl rfl ?_
    refine am_r_lconst (z := (-9)) (pc' := 59) rfl rfl rfl ?_
    refine am_r_lconst (z := 9) (pc' := 62) rfl rfl rfl ?_
    refine am_r_ivsI3 (pc' := 65) rfl rfl rfl (Nat.le_of_ble_eq_true rfl) (m_within (by omega) (by omega) (by omega) (by omega) ?_)
    refine am_r_zret rfl rfl (by first | exact Or.inr rfl | exact Or.inl rfl | exact z_b_01 _ | assumption) ?_
    first | (rw [z_bT (by omega)] at hq; exact hq) | (rw [z_bF (by omega)] at hq; exact hq) | (exact z_b_cg (by omega) hq)
  · refine am_r_tsw (t := 66) rfl (by rw [if_pos (by omega)]; rfl) ?_
    refine am_r_iload3 (pc' := 67) rfl rfl ?_
    refine am_r_i2l (pc' := 68) rfl rfl ?_
    refine am_r_lconst (z := 0) (pc' := 69) rfl rfl rfl ?_
    refine am_r_lconst (z := 90) (pc' := 72) rfl rfl rfl ?_
    refine am_r_ivsI3 (pc' := 75) rfl rfl rfl (Nat.le_of_ble_eq_true rfl) (m_within (by omega) (by omega) (by omega) (by omega) ?_)
    refine am_r_zret rfl rfl (by first | exact Or.inr rfl | exact Or.inl rfl | exact z_b_01 _ | assumption) ?_
    first | (rw [z_bT (by omega)] at hq; exact hq) | (rw [z_bF (by omega)] at hq; exact hq) | (exact z_b_cg (by omega) hq)
theorem m_adds {sL : Nat} {xs : Nat → Int32} {d : Nat} {M : Am_M} {Q : Am_M → Prop} (hd : 1 ≤ d) {σ : Sg} (hM : SM M σ) {r p w : Int} (hr : 1 ≤ r ∧ r ≤ 60) (hp : 0 ≤ p ∧ p < r) (hw : 0 ≤ w ∧ w ≤ 9) (hn8 : s_n σ < 8) (hq : ∀ M' : Am_M, am_fr 53 58 M M' → (∀ j, j ≠ 6 → M'.1 53 j = M.1 53 j) → (∀ k, 55 ≤ k → k ≤ 57 → M'.1 k = M.1 k) → SM M' (s_add σ r p w) → Q M') : am_bv sL xs d 167 [.ref 53, .int (z_I r), .int (z_I p), .int (z_I w)] M Q := by
  obtain ⟨d, rfl⟩ : ∃ e, d = e + 1 := ⟨d - 1, by omega⟩
  have hn := sb_nb hM.1
  have hnr := sb_nrb hM.1
  refine am_bv_of (P := am_pX11_adds) (rt := 0) (nL := 4) (Nat.le_of_ble_eq_true rfl) rfl (Nat.le_of_ble_eq_true rfl) rfl rfl rfl ?_
  refine am_r_aload0 (pc' := 1) rfl rfl ?_
  refine am_r_getR (t := 58) (pc' := 4) rfl rfl rfl ?_
  refine am_r_aload0 (pc' := 5) rfl rfl ?_
  refine am_r_getIv (f := 6) (pc' := 8) rfl rfl rfl (sm_n hM) ?_
  refine am_r_iload1 (pc' := 9) rfl rfl ?_
  refine am_r_iast (n := 8) (pc' := 10) rfl rfl (rfl) (by decide) ?_
  refine am_r_aload0 (pc' := 11) rfl rfl ?_
  refine am_r_getR (t := 54) (pc' := 14) rfl rfl rfl ?_
  refine am_r_aload0 (pc' := 15) rfl rfl ?_
  refine am_r_getIv (f := 6) (pc' := 18) rfl rfl rfl ((sm_n hM : M.1 53 6 = z_I (s_n σ))) ?_
  refine am_r_iload2 (pc' := 19) rfl rfl ?_
  refine am_r_iast (n := 81) (pc' := 20) rfl rfl (rfl) (by decide) ?_
  refine am_r_aload0 (pc' := 21) rfl rfl ?_
  refine am_r_getR (t := 54) (pc' := 24) rfl rfl rfl ?_
  refine am_r_iconst (pc' := 26) rfl rfl ?_
  refine am_r_aload0 (pc' := 27) rfl rfl ?_
  refine am_r_getIv (f := 6) (pc' := 30) rfl rfl rfl ((sm_n hM : M.1 53 6 = z_I (s_n σ))) ?_
  refine am_r_iadd (pc' := 31) rfl rfl ?_
  refine am_r_iload3 (pc' := 32) rfl rfl ?_
  refine am_r_iast (n := 81) (pc' := 33) rfl rfl (rfl) (by decide) ?_
  refine am_r_aload0 (pc' := 34) rfl rfl ?_
  refine am_r_dup (pc' := 35) rfl rfl rfl ?_
  refine am_r_getIv (f := 6) (pc' := 38) rfl rfl rfl ((sm_n hM : M.1 53 6 = z_I (s_n σ))) ?_
  refine am_r_iconst (pc' := 39) rfl rfl ?_
  refine am_r_iadd (pc' := 40) rfl rfl ?_
  refine am_r_putI (f := 6) (pc' := 43) rfl rfl rfl (by decide) ?_
  refine am_r_vret rfl rfl ?_
  exact hq _ (am_fr_upI (am_fr_upI (am_fr_upI (am_fr_upI (am_fr_rf _ _ _) (by omega)) (by omega)) (by omega)) (by omega)) (fun j hj => by simp [am_upI, hj]) (fun k h1 h2 => by funext j; show (if k = 53 ∧ _ then _ else (if k = 54 ∧ _ then _ else (if k = 54 ∧ _ then _ else (if k = 58 ∧ _ then _ else M.1 k j)))) = _; rw [if_neg (by omega), if_neg (by omega), if_neg (by omega), if_neg (by omega)]) (sm_add hM hn8 hr hp hw)
