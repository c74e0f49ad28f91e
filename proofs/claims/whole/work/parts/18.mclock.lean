/-! BY THE CLOCK, the reference; the answers that both give -/
theorem am_q {Q : Int32 → Am_M → Prop} {M : Am_M} {x y : Int} (h : x = y) (hq : Q (z_I y) M) : Q (z_I x) M := by rw [h]; exact hq
theorem am_ql {Q : Int64 → Am_M → Prop} {M : Am_M} {x y : Int} (h : x = y) (hq : Q (z_L y) M) : Q (z_L x) M := by rw [h]; exact hq
def r_at (σ : Sg) (a f0 w : Int) : Int := if (0 ≤ a ∧ a < s_n σ) ∧ (0 ≤ f0 ∧ f0 ≤ 99999) ∧ (w = 0 ∨ w = 1) then (if w = 0 then g_pl σ a f0 else g_dg σ a f0) else -1
def r_apart (σ : Sg) (ab f0 w : Int) : Int := if (0 ≤ ab ∧ ab / 10 < s_n σ ∧ ab % 10 < s_n σ ∧ ab / 10 ≠ ab % 10) ∧ (0 ≤ f0 ∧ f0 ≤ 99999) ∧ (w = 0 ∨ w = 1) then (if w = 0 then g_gap (g_dg σ (ab / 10) f0) (g_dg σ (ab % 10) f0) else if g_mt σ (ab / 10) 0 (ab % 10) f0 = true then 1 else 0) else -1
def r_meets (σ : Sg) (ab f0 : Int) (k : Nat) : Int := if (0 ≤ ab ∧ ab / 10 < s_n σ ∧ ab % 10 < s_n σ ∧ ab / 10 ≠ ab % 10) ∧ (0 ≤ f0 ∧ f0 ≤ 99999) then f_first (g_mt σ (ab / 10) 0 (ab % 10)) f0 k else -1
def r_often (σ : Sg) (ab f0 n : Int) : Int := if (0 ≤ ab ∧ ab / 10 < s_n σ ∧ ab % 10 < s_n σ ∧ ab / 10 ≠ ab % 10) ∧ (0 ≤ f0 ∧ f0 ≤ 99999) ∧ (1 ≤ n ∧ n ≤ 999) then f_cnt (g_mt σ (ab / 10) 0 (ab % 10)) f0 n.toNat else -1
def SETP (σ : Sg) (s : Int) : Prop := 0 ≤ s ∧ s < 2 ^ (s_n σ).toNat
def r_together (σ : Sg) (s : Int) : Int := if 0 ≤ s ∧ s < 2 ^ (s_n σ).toNat then g_tog σ s else -9223372036854775808
def r_start (σ : Sg) (s : Int) : Int := if 0 ≤ s ∧ s < 2 ^ (s_n σ).toNat then g_start σ s else -9223372036854775808
def r_mood (σ : Sg) (a f0 : Int) : Int := if (0 ≤ a ∧ a < s_n σ) ∧ (0 ≤ f0 ∧ f0 ≤ 99999) then g_mood σ a f0 else -2000000000
def r_best (σ : Sg) (a dn w : Int) : Int := if (0 ≤ a ∧ a < s_n σ) ∧ 0 ≤ dn ∧ dn / 1000 ≤ 9999 ∧ 1 ≤ dn % 1000 ∧ (w = 0 ∨ w = 1) then (if w = 0 then g_best σ a (dn / 1000) (dn % 1000) else g_mood σ a (g_best σ a (dn / 1000) (dn % 1000))) else -2000000000
/-- none of a set meets anybody: body by body, all of them -/
def g_qo (σ : Sg) (s d b o : Int) : Bool := decide (¬ (s_bit s b = 1 ∧ ¬ o = b ∧ g_mt σ b 0 o d = true))
def g_qb (σ : Sg) (s d b : Int) : Bool := f_all (g_qo σ s d b) 0 (s_n σ).toNat
def g_quiet (σ : Sg) (s d : Int) : Bool := f_all (g_qb σ s d) 0 (s_n σ).toNat
def r_sign (σ : Sg) (s f0 n : Int) (p : Int → Bool) (k : Nat) : Int := if (0 ≤ s ∧ s < 2 ^ (s_n σ).toNat) ∧ (0 ≤ f0 ∧ f0 ≤ 99999) ∧ (0 ≤ n ∧ n ≤ 999) then (if n = 0 then f_first p f0 k else f_cnt p f0 n.toNat) else -1
def r_nudge (σ : Sg) (ab f0 : Int) (k : Nat) : Int := if (0 ≤ ab ∧ ab / 10 < s_n σ ∧ ab % 10 < s_n σ ∧ ab / 10 ≠ ab % 10) ∧ (0 ≤ f0 ∧ f0 ≤ 99999) then g_nud σ (ab / 10) (ab % 10) f0 0 k else -2000000000
def r_never (σ : Sg) (ab n w : Int) : Int := if (0 ≤ ab ∧ ab / 10 < s_n σ ∧ ab % 10 < s_n σ ∧ ab / 10 ≠ ab % 10) ∧ (1 ≤ n ∧ n ≤ 999) ∧ (w = 0 ∨ w = 1) then (if w = 0 then f_cnt (g_lon σ (ab / 10) (ab % 10) n) 0 (s_rd σ (ab / 10)).toNat else f_first (g_lon σ (ab / 10) (ab % 10) n) 0 (s_rd σ (ab / 10)).toNat) else -1
def r_scene (σ : Sg) (ab : Int) : Int := if (0 ≤ ab ∧ ab / 10 < s_n σ ∧ ab % 10 < s_n σ ∧ ab / 10 ≠ ab % 10) then f_first (g_scn σ (ab / 10) (ab % 10)) 1 3600 else -1
theorem m_at {sL : Nat} {xs : Nat → Int32} {d : Nat} {M : Am_M} {Q : Int32 → Am_M → Prop} (hd : 3 ≤ d) {σ : Sg} (hM : SM M σ) {a : Int} (ha : -2147483648 ≤ a ∧ a < 2147483648) {f0 : Int} (hf0 : -2147483648 ≤ f0 ∧ f0 < 2147483648) {w : Int} (hw : -2147483648 ≤ w ∧ w < 2147483648)  (hq : Q (z_I (r_at σ a f0 w)) M) : am_bi sL xs d 193 [.ref 53, .int (z_I a), .int (z_I f0), .int (z_I w)] M Q := by
  obtain ⟨d, rfl⟩ : ∃ e, d = e + 1 := ⟨d - 1, by omega⟩
  have hn := sb_nb hM.1
  have hnr := sb_nrb hM.1
  refine am_bi_of (P := am_pX11_at) (rt := 1) (nL := 4) (Nat.le_of_ble_eq_true rfl) rfl (Nat.le_of_ble_eq_true rfl) rfl rfl rfl ?_
  refine am_r_aload0 (pc' := 1) rfl rfl ?_
  refine am_r_iload1 (pc' := 2) rfl rfl ?_
  refine am_r_i2l (pc' := 3) rfl rfl ?_
  refine am_r_invI1 (pc' := 6) rfl rfl rfl (Nat.le_of_ble_eq_true rfl) (m_isOrb (by omega) hM (by omega) ?_)
  refine am_r_if_eqB (pt := 26) (pf := 9) rfl rfl rfl (fun h6 => ?_) (fun h6 => ?_)
  · refine am_r_iconst (pc' := 27) rfl rfl ?_
    refine am_r_iret rfl rfl ?_
    refine am_q ?_ hq
    unfold r_at
    (repeat (first | rw [if_pos (by omega)] | rw [if_neg (by omega)]))
    all_goals first | rfl | omega
  · refine am_r_iload2 (pc' := 10) rfl rfl ?_
    refine am_r_ivsI1 (pc' := 13) rfl rfl rfl (Nat.le_of_ble_eq_true rfl) (m_isDay (by omega) (by omega) ?_)
    refine am_r_if_eqB (pt := 26) (pf := 16) rfl rfl rfl (fun h13 => ?_) (fun h13 => ?_)
    · refine am_r_iconst (pc' := 27) rfl rfl ?_
      refine am_r_iret rfl rfl ?_
      refine am_q ?_ hq
      unfold r_at
      (repeat (first | rw [if_pos (by omega)] | rw [if_neg (by omega)]))
      all_goals first | rfl | omega
    · refine am_r_iload3 (pc' := 17) rfl rfl ?_
      refine am_r_i2l (pc' := 18) rfl rfl ?_
      refine am_r_lconst (z := 0) (pc' := 19) rfl rfl rfl ?_
      refine am_r_lconst (z := 1) (pc' := 20) rfl rfl rfl ?_
      refine am_r_ivsI3 (pc' := 23) rfl rfl rfl (Nat.le_of_ble_eq_true rfl) (m_within (by omega) (by omega) (by omega) (by omega) ?_)
      refine am_r_if_neB (pt := 28) (pf := 26) rfl rfl rfl (fun h23 => ?_) (fun h23 => ?_)
      · refine am_r_iload3 (pc' := 29) rfl rfl ?_
        refine am_r_if_ne (pt := 42) (pf := 32) rfl rfl rfl (fun h29 => ?_) (fun h29 => ?_)
        · refine am_r_aload0 (pc' := 43) rfl rfl ?_
          refine am_r_iload1 (pc' := 44) rfl rfl ?_
          refine am_r_aload0 (pc' := 45) rfl rfl ?_
          refine am_r_iload1 (pc' := 46) rfl rfl ?_
          refine am_r_iload2 (pc' := 47) rfl rfl ?_
          refine am_r_i2l (pc' := 48) rfl rfl ?_
          refine am_r_invI2 (pc' := 51) rfl rfl rfl (Nat.le_of_ble_eq_true rfl) (m_clock (by omega) hM (by omega) (by omega) ?_)
          refine am_r_invI2 (pc' := 54) rfl rfl rfl (Nat.le_of_ble_eq_true rfl) (m_degreesOf (by omega) hM (by omega) (g_pl_b hM.1 (by omega) _) ?_)
          refine am_r_iret rfl rfl ?_
          refine am_q ?_ hq
          unfold r_at
          (repeat (first | rw [if_pos (by omega)] | rw [if_neg (by omega)]))
          all_goals first | rfl | omega
        · refine am_r_aload0 (pc' := 33) rfl rfl ?_
          refine am_r_iload1 (pc' := 34) rfl rfl ?_
          refine am_r_iload2 (pc' := 35) rfl rfl ?_
          refine am_r_i2l (pc' := 36) rfl rfl ?_
          refine am_r_invI2 (pc' := 39) rfl rfl rfl (Nat.le_of_ble_eq_true rfl) (m_clock (by omega) hM (by omega) (by omega) ?_)
          refine am_r_goto (pc' := 54) rfl rfl ?_
          refine am_r_iret rfl rfl ?_
          refine am_q ?_ hq
          unfold r_at
          (repeat (first | rw [if_pos (by omega)] | rw [if_neg (by omega)]))
          all_goals first | rfl | omega
      · refine am_r_iconst (pc' := 27) rfl rfl ?_
        refine am_r_iret rfl rfl ?_
        refine am_q ?_ hq
        unfold r_at
        (repeat (first | rw [if_pos (by omega)] | rw [if_neg (by omega)]))
        all_goals first | rfl | omega
theorem m_apart {sL : Nat} {xs : Nat → Int32} {d : Nat} {M : Am_M} {Q : Int32 → Am_M → Prop} (hd : 4 ≤ d) {σ : Sg} (hM : SM M σ) {ab : Int} (hab : -2147483648 ≤ ab ∧ ab < 2147483648) {f0 : Int} (hf0 : -2147483648 ≤ f0 ∧ f0 < 2147483648) {w : Int} (hw : -2147483648 ≤ w ∧ w < 2147483648)  (hq : Q (z_I (r_apart σ ab f0 w)) M) : am_bi sL xs d 194 [.ref 53, .int (z_I ab), .int (z_I f0), .int (z_I w)] M Q := by
  obtain ⟨d, rfl⟩ : ∃ e, d = e + 1 := ⟨d - 1, by omega⟩
  have hn := sb_nb hM.1
  have hnr := sb_nrb hM.1
  refine am_bi_of (P := am_pX11_apart) (rt := 1) (nL := 4) (Nat.le_of_ble_eq_true rfl) rfl (Nat.le_of_ble_eq_true rfl) rfl rfl rfl ?_
  refine am_r_aload0 (pc' := 1) rfl rfl ?_
  refine am_r_iload1 (pc' := 2) rfl rfl ?_
  refine am_r_invI1 (pc' := 5) rfl rfl rfl (Nat.le_of_ble_eq_true rfl) (m_isAb (by omega) hM (by omega) ?_)
  refine am_r_if_eqB (pt := 25) (pf := 8) rfl rfl rfl (fun h5 => ?_) (fun h5 => ?_)
  · refine am_r_iconst (pc' := 26) rfl rfl ?_
    refine am_r_iret rfl rfl ?_
    refine am_q ?_ hq
    unfold r_apart
    (repeat (first | rw [if_pos (by omega)] | rw [if_neg (by omega)]))
    all_goals first | rfl | (rw [if_pos h62]) | (rw [if_neg h62])
  · refine am_r_iload2 (pc' := 9) rfl rfl ?_
    refine am_r_ivsI1 (pc' := 12) rfl rfl rfl (Nat.le_of_ble_eq_true rfl) (m_isDay (by omega) (by omega) ?_)
    refine am_r_if_eqB (pt := 25) (pf := 15) rfl rfl rfl (fun h12 => ?_) (fun h12 => ?_)
    · refine am_r_iconst (pc' := 26) rfl rfl ?_
      refine am_r_iret rfl rfl ?_
      refine am_q ?_ hq
      unfold r_apart
      (repeat (first | rw [if_pos (by omega)] | rw [if_neg (by omega)]))
      all_goals first | rfl | (rw [if_pos h62]) | (rw [if_neg h62])
    · refine am_r_iload3 (pc' := 16) rfl rfl ?_
      refine am_r_i2l (pc' := 17) rfl rfl ?_
      refine am_r_lconst (z := 0) (pc' := 18) rfl rfl rfl ?_
      refine am_r_lconst (z := 1) (pc' := 19) rfl rfl rfl ?_
      refine am_r_ivsI3 (pc' := 22) rfl rfl rfl (Nat.le_of_ble_eq_true rfl) (m_within (by omega) (by omega) (by omega) (by omega) ?_)
      refine am_r_if_neB (pt := 27) (pf := 25) rfl rfl rfl (fun h22 => ?_) (fun h22 => ?_)
      · refine am_r_iload3 (pc' := 28) rfl rfl ?_
        refine am_r_if_ne (pt := 48) (pf := 31) rfl rfl rfl (fun h28 => ?_) (fun h28 => ?_)
        · refine am_r_aload0 (pc' := 49) rfl rfl ?_
          refine am_r_iload1 (pc' := 50) rfl rfl ?_
          refine am_r_iconst (pc' := 52) rfl rfl ?_
          refine am_r_idiv (pc' := 53) rfl rfl ?_
          refine am_r_iload1 (pc' := 54) rfl rfl ?_
          refine am_r_iconst (pc' := 56) rfl rfl ?_
          refine am_r_irem (pc' := 57) rfl rfl ?_
          refine am_r_iload2 (pc' := 58) rfl rfl ?_
          refine am_r_i2l (pc' := 59) rfl rfl ?_
          refine am_r_invI3 (pc' := 62) rfl rfl rfl (Nat.le_of_ble_eq_true rfl) (m_meetOn (by omega) hM (by omega) (by omega) (by omega) ?_)
          refine am_r_if_eqB (pt := 69) (pf := 65) rfl rfl rfl (fun h62 => ?_) (fun h62 => ?_)
          · refine am_r_iconst (pc' := 70) rfl rfl ?_
            refine am_r_iret rfl rfl ?_
            refine am_q ?_ hq
            unfold r_apart
            (repeat (first | rw [if_pos (by omega)] | rw [if_neg (by omega)]))
            all_goals first | rfl | (rw [if_pos h62]) | (rw [if_neg h62])
          · refine am_r_iconst (pc' := 66) rfl rfl ?_
            refine am_r_goto (pc' := 70) rfl rfl ?_
            refine am_r_iret rfl rfl ?_
            refine am_q ?_ hq
            unfold r_apart
            (repeat (first | rw [if_pos (by omega)] | rw [if_neg (by omega)]))
            all_goals first | rfl | (rw [if_pos h62]) | (rw [if_neg h62])
        · refine am_r_aload0 (pc' := 32) rfl rfl ?_
          refine am_r_iload1 (pc' := 33) rfl rfl ?_
          refine am_r_iconst (pc' := 35) rfl rfl ?_
          refine am_r_idiv (pc' := 36) rfl rfl ?_
          refine am_r_iload1 (pc' := 37) rfl rfl ?_
          refine am_r_iconst (pc' := 39) rfl rfl ?_
          refine am_r_irem (pc' := 40) rfl rfl ?_
          refine am_r_iload2 (pc' := 41) rfl rfl ?_
          refine am_r_i2l (pc' := 42) rfl rfl ?_
          refine am_r_invI3 (pc' := 45) rfl rfl rfl (Nat.le_of_ble_eq_true rfl) (m_apartOn (by omega) hM (by omega) (by omega) (by omega) ?_)
          refine am_r_goto (pc' := 70) rfl rfl ?_
          refine am_r_iret rfl rfl ?_
          refine am_q ?_ hq
          unfold r_apart
          (repeat (first | rw [if_pos (by omega)] | rw [if_neg (by omega)]))
          all_goals first | rfl | (rw [if_pos h62]) | (rw [if_neg h62])
      · refine am_r_iconst (pc' := 26) rfl rfl ?_
        refine am_r_iret rfl rfl ?_
        refine am_q ?_ hq
        unfold r_apart
        (repeat (first | rw [if_pos (by omega)] | rw [if_neg (by omega)]))
        all_goals first | rfl | (rw [if_pos h62]) | (rw [if_neg h62])
theorem m_meets {sL : Nat} {xs : Nat → Int32} {d : Nat} {M : Am_M} {Q : Int32 → Am_M → Prop} (hd : 4 ≤ d) {σ : Sg} (hM : SM M σ) {ab : Int} (hab : -2147483648 ≤ ab ∧ ab < 2147483648) {f0 : Int} (hf0 : -2147483648 ≤ f0 ∧ f0 < 2147483648)  (hq : Q (z_I (r_meets σ ab f0 (min (100000 - f0) 3600).toNat)) M) : am_bi sL xs d 195 [.ref 53, .int (z_I ab), .int (z_I f0)] M Q := by
  obtain ⟨d, rfl⟩ : ∃ e, d = e + 1 := ⟨d - 1, by omega⟩
  have hn := sb_nb hM.1
  have hnr := sb_nrb hM.1
  have hl : ∀ (k : Nat) (i : Int), (f0 ≤ i ∧ i + k = min 100000 (f0 + 3600) ∧ (0 ≤ ab ∧ ab / 10 < s_n σ ∧ ab % 10 < s_n σ ∧ ab / 10 ≠ ab % 10) ∧ (0 ≤ f0 ∧ f0 ≤ 99999)) → (Q (z_I (f_first (g_mt σ (ab / 10) 0 (ab % 10)) i k)) M) → am_rw sL xs d am_pX11_meets 1 19 [.ref 53, .int (z_I ab), .int (z_I f0), .int (z_I i)] [] M (am_pi Q) := by
    intro k
    induction k with
    | zero =>
      intro i hk hq
      refine am_r_iload3 (pc' := 20) rfl rfl ?_
      refine am_r_iconst (pc' := 22) rfl rfl ?_
      refine am_r_icmp_gt (pt := 59) (pf := 25) rfl rfl rfl (fun h22 => ?_) (fun h22 => ?_)
      · refine am_r_iconst (pc' := 61) rfl rfl ?_
        refine am_r_iret rfl rfl ?_
        exact hq
      · refine am_r_iload3 (pc' := 26) rfl rfl ?_
        refine am_r_iload2 (pc' := 27) rfl rfl ?_
        refine am_r_iconst (pc' := 30) rfl rfl ?_
        refine am_r_iadd (pc' := 31) rfl rfl ?_
        refine am_r_icmp_ge (pt := 59) (pf := 34) rfl rfl rfl (fun h31 => ?_) (fun h31 => ?_)
        · refine am_r_iconst (pc' := 61) rfl rfl ?_
          refine am_r_iret rfl rfl ?_
          exact hq
        · exfalso; omega
    | succ k ih =>
      intro i hk hq
      refine am_r_iload3 (pc' := 20) rfl rfl ?_
      refine am_r_iconst (pc' := 22) rfl rfl ?_
      refine am_r_icmp_gt (pt := 59) (pf := 25) rfl rfl rfl (fun h22 => ?_) (fun h22 => ?_)
      · exfalso; omega
      · refine am_r_iload3 (pc' := 26) rfl rfl ?_
        refine am_r_iload2 (pc' := 27) rfl rfl ?_
        refine am_r_iconst (pc' := 30) rfl rfl ?_
        refine am_r_iadd (pc' := 31) rfl rfl ?_
        refine am_r_icmp_ge (pt := 59) (pf := 34) rfl rfl rfl (fun h31 => ?_) (fun h31 => ?_)
        · exfalso; omega
        · refine am_r_aload0 (pc' := 35) rfl rfl ?_
          refine am_r_iload1 (pc' := 36) rfl rfl ?_
          refine am_r_iconst (pc' := 38) rfl rfl ?_
          refine am_r_idiv (pc' := 39) rfl rfl ?_
          refine am_r_iload1 (pc' := 40) rfl rfl ?_
          refine am_r_iconst (pc' := 42) rfl rfl ?_
          refine am_r_irem (pc' := 43) rfl rfl ?_
          refine am_r_iload3 (pc' := 44) rfl rfl ?_
          refine am_r_i2l (pc' := 45) rfl rfl ?_
          refine am_r_invI3 (pc' := 48) rfl rfl rfl (Nat.le_of_ble_eq_true rfl) (m_meetOn (by omega) hM (by omega) (by omega) (by omega) ?_)
          refine am_r_if_eqB (pt := 53) (pf := 51) rfl rfl rfl (fun h48 => ?_) (fun h48 => ?_)
          · refine am_r_iinc3 (pc' := 56) rfl rfl rfl ?_
            refine am_r_goto (pc' := 19) rfl rfl ?_
            rw [f_first_f (p := g_mt σ (ab / 10) 0 (ab % 10)) h48] at hq; exact ih _ (by omega) hq
          · refine am_r_iload3 (pc' := 52) rfl rfl ?_
            refine am_r_iret rfl rfl ?_
            rw [f_first_t (p := g_mt σ (ab / 10) 0 (ab % 10)) h48] at hq; exact hq
  refine am_bi_of (P := am_pX11_meets) (rt := 1) (nL := 4) (Nat.le_of_ble_eq_true rfl) rfl (Nat.le_of_ble_eq_true rfl) rfl rfl rfl ?_
  refine am_r_aload0 (pc' := 1) rfl rfl ?_
  refine am_r_iload1 (pc' := 2) rfl rfl ?_
  refine am_r_invI1 (pc' := 5) rfl rfl rfl (Nat.le_of_ble_eq_true rfl) (m_isAb (by omega) hM (by omega) ?_)
  refine am_r_if_eqB (pt := 15) (pf := 8) rfl rfl rfl (fun h5 => ?_) (fun h5 => ?_)
  · refine am_r_iconst (pc' := 16) rfl rfl ?_
    refine am_r_iret rfl rfl ?_
    refine am_q ?_ hq
    unfold r_meets
    (repeat (first | rw [if_pos (by omega)] | rw [if_neg (by omega)]))
    all_goals first | rfl | omega
  · refine am_r_iload2 (pc' := 9) rfl rfl ?_
    refine am_r_ivsI1 (pc' := 12) rfl rfl rfl (Nat.le_of_ble_eq_true rfl) (m_isDay (by omega) (by omega) ?_)
    refine am_r_if_neB (pt := 17) (pf := 15) rfl rfl rfl (fun h12 => ?_) (fun h12 => ?_)
    · refine am_r_iload2 (pc' := 18) rfl rfl ?_
      refine am_r_istore3 (pc' := 19) rfl rfl rfl ?_
      exact hl (min (100000 - f0) 3600).toNat _ (by omega) (by unfold r_meets at hq; rw [if_pos (by omega)] at hq; exact hq)
    · refine am_r_iconst (pc' := 16) rfl rfl ?_
      refine am_r_iret rfl rfl ?_
      refine am_q ?_ hq
      unfold r_meets
      (repeat (first | rw [if_pos (by omega)] | rw [if_neg (by omega)]))
      all_goals first | rfl | omega
theorem m_often {sL : Nat} {xs : Nat → Int32} {d : Nat} {M : Am_M} {Q : Int32 → Am_M → Prop} (hd : 4 ≤ d) {σ : Sg} (hM : SM M σ) {ab : Int} (hab : -2147483648 ≤ ab ∧ ab < 2147483648) {f0 : Int} (hf0 : -2147483648 ≤ f0 ∧ f0 < 2147483648) {n : Int} (hn : -2147483648 ≤ n ∧ n < 2147483648)  (hq : Q (z_I (r_often σ ab f0 n)) M) : am_bi sL xs d 196 [.ref 53, .int (z_I ab), .int (z_I f0), .int (z_I n)] M Q := by
  obtain ⟨d, rfl⟩ : ∃ e, d = e + 1 := ⟨d - 1, by omega⟩
  have hn := sb_nb hM.1
  have hnr := sb_nrb hM.1
  have hl : ∀ (k : Nat) (i c : Int), (0 ≤ i ∧ i + k = n ∧ (0 ≤ ab ∧ ab / 10 < s_n σ ∧ ab % 10 < s_n σ ∧ ab / 10 ≠ ab % 10) ∧ (0 ≤ f0 ∧ f0 ≤ 99999) ∧ n ≤ 999) → (Q (z_I (c + f_cnt (g_mt σ (ab / 10) 0 (ab % 10)) (f0 + i) k)) M) → am_rw sL xs d am_pX11_often 1 35 [.ref 53, .int (z_I ab), .int (z_I f0), .int (z_I n), .int (z_I c), .int (z_I i)] [] M (am_pi Q) := by
    intro k
    induction k with
    | zero =>
      intro i c hk hq
      refine am_r_iload5 (pc' := 37) rfl rfl ?_
      refine am_r_iload3 (pc' := 38) rfl rfl ?_
      refine am_r_icmp_ge (pt := 77) (pf := 41) rfl rfl rfl (fun h38 => ?_) (fun h38 => ?_)
      · refine am_r_iload4 (pc' := 79) rfl rfl ?_
        refine am_r_iret rfl rfl ?_
        rw [f_cnt_0] at hq; exact hq
      · exfalso; omega
    | succ k ih =>
      intro i c hk hq
      refine am_r_iload5 (pc' := 37) rfl rfl ?_
      refine am_r_iload3 (pc' := 38) rfl rfl ?_
      refine am_r_icmp_ge (pt := 77) (pf := 41) rfl rfl rfl (fun h38 => ?_) (fun h38 => ?_)
      · exfalso; omega
      · refine am_r_iload4 (pc' := 43) rfl rfl ?_
        refine am_r_aload0 (pc' := 44) rfl rfl ?_
        refine am_r_iload1 (pc' := 45) rfl rfl ?_
        refine am_r_iconst (pc' := 47) rfl rfl ?_
        refine am_r_idiv (pc' := 48) rfl rfl ?_
        refine am_r_iload1 (pc' := 49) rfl rfl ?_
        refine am_r_iconst (pc' := 51) rfl rfl ?_
        refine am_r_irem (pc' := 52) rfl rfl ?_
        refine am_r_iload2 (pc' := 53) rfl rfl ?_
        refine am_r_iload5 (pc' := 55) rfl rfl ?_
        refine am_r_iadd (pc' := 56) rfl rfl ?_
        refine am_r_i2l (pc' := 57) rfl rfl ?_
        refine am_r_invI3 (pc' := 60) rfl rfl rfl (Nat.le_of_ble_eq_true rfl) (m_meetOn (by omega) hM (by omega) (by omega) (by omega) ?_)
        refine am_r_if_eqB (pt := 67) (pf := 63) rfl rfl rfl (fun h60 => ?_) (fun h60 => ?_)
        · refine am_r_iconst (pc' := 68) rfl rfl ?_
          refine am_r_iadd (pc' := 69) rfl rfl ?_
          refine am_r_istore4 (pc' := 71) rfl rfl rfl ?_
          refine am_r_iinc5 (pc' := 74) rfl rfl rfl ?_
          refine am_r_goto (pc' := 35) rfl rfl ?_
          first | (rw [f_cnt_t (p := g_mt σ (ab / 10) 0 (ab % 10)) h60, Int.add_assoc f0] at hq; exact ih _ _ (by omega) hq) | (rw [f_cnt_f (p := g_mt σ (ab / 10) 0 (ab % 10)) h60, Int.add_assoc f0] at hq; rw [Int.add_zero]; exact ih _ _ (by omega) hq)
        · refine am_r_iconst (pc' := 64) rfl rfl ?_
          refine am_r_goto (pc' := 68) rfl rfl ?_
          refine am_r_iadd (pc' := 69) rfl rfl ?_
          refine am_r_istore4 (pc' := 71) rfl rfl rfl ?_
          refine am_r_iinc5 (pc' := 74) rfl rfl rfl ?_
          refine am_r_goto (pc' := 35) rfl rfl ?_
          first | (rw [f_cnt_t (p := g_mt σ (ab / 10) 0 (ab % 10)) h60, Int.add_assoc f0] at hq; exact ih _ _ (by omega) hq) | (rw [f_cnt_f (p := g_mt σ (ab / 10) 0 (ab % 10)) h60, Int.add_assoc f0] at hq; rw [Int.add_zero]; exact ih _ _ (by omega) hq)
  refine am_bi_of (P := am_pX11_often) (rt := 1) (nL := 6) (Nat.le_of_ble_eq_true rfl) rfl (Nat.le_of_ble_eq_true rfl) rfl rfl rfl ?_
  refine am_r_aload0 (pc' := 1) rfl rfl ?_
  refine am_r_iload1 (pc' := 2) rfl rfl ?_
  refine am_r_invI1 (pc' := 5) rfl rfl rfl (Nat.le_of_ble_eq_true rfl) (m_isAb (by omega) hM (by omega) ?_)
  refine am_r_if_eqB (pt := 27) (pf := 8) rfl rfl rfl (fun h5 => ?_) (fun h5 => ?_)
  · refine am_r_iconst (pc' := 28) rfl rfl ?_
    refine am_r_iret rfl rfl ?_
    refine am_q ?_ hq
    unfold r_often
    (repeat (first | rw [if_pos (by omega)] | rw [if_neg (by omega)]))
    all_goals first | rfl | omega
  · refine am_r_iload2 (pc' := 9) rfl rfl ?_
    refine am_r_ivsI1 (pc' := 12) rfl rfl rfl (Nat.le_of_ble_eq_true rfl) (m_isDay (by omega) (by omega) ?_)
    refine am_r_if_eqB (pt := 27) (pf := 15) rfl rfl rfl (fun h12 => ?_) (fun h12 => ?_)
    · refine am_r_iconst (pc' := 28) rfl rfl ?_
      refine am_r_iret rfl rfl ?_
      refine am_q ?_ hq
      unfold r_often
      (repeat (first | rw [if_pos (by omega)] | rw [if_neg (by omega)]))
      all_goals first | rfl | omega
    · refine am_r_iload3 (pc' := 16) rfl rfl ?_
      refine am_r_i2l (pc' := 17) rfl rfl ?_
      refine am_r_lconst (z := 1) (pc' := 18) rfl rfl rfl ?_
      refine am_r_lconst (z := 999) (pc' := 21) rfl rfl rfl ?_
      refine am_r_ivsI3 (pc' := 24) rfl rfl rfl (Nat.le_of_ble_eq_true rfl) (m_within (by omega) (by omega) (by omega) (by omega) ?_)
      refine am_r_if_neB (pt := 29) (pf := 27) rfl rfl rfl (fun h24 => ?_) (fun h24 => ?_)
      · refine am_r_iconst (pc' := 30) rfl rfl ?_
        refine am_r_istore4 (pc' := 32) rfl rfl rfl ?_
        refine am_r_iconst (pc' := 33) rfl rfl ?_
        refine am_r_istore5 (pc' := 35) rfl rfl rfl ?_
        exact hl n.toNat 0 0 (by omega) (by unfold r_often at hq; rw [if_pos (by omega)] at hq; rw [Int.zero_add, Int.add_zero]; exact hq)
      · refine am_r_iconst (pc' := 28) rfl rfl ?_
        refine am_r_iret rfl rfl ?_
        refine am_q ?_ hq
        unfold r_often
        (repeat (first | rw [if_pos (by omega)] | rw [if_neg (by omega)]))
        all_goals first | rfl | omega
theorem m_common {sL : Nat} {xs : Nat → Int32} {d : Nat} {M : Am_M} {Q : Int64 → Am_M → Prop} (hd : 1 ≤ d) {a b : Int} (ha : 1 ≤ a ∧ a ≤ 2799360000000) (hb : 1 ≤ b ∧ b ≤ 60) (hq : Q (z_L (f_eu 100 a b)) M) : am_bl sL xs d 197 [.long (z_L a), .long (z_L b)] M Q := by
  obtain ⟨d, rfl⟩ : ∃ e, d = e + 1 := ⟨d - 1, by omega⟩
  have hlp : ∀ (k : Nat) (x y : Int) (w8 w9 : Value), (0 ≤ y ∧ 1 ≤ x ∧ x ≤ 2799360000000 ∧ y ≤ 60 ∧ y < k ∧ f_eu k x y = f_eu 100 a b) → am_rw sL xs d am_pX11_common 3 6 [.long (z_L a), .null, .long (z_L b), .null, .long (z_L x), .null, .long (z_L y), .null, w8, w9] [] M (am_pl Q) := by
    intro k
    induction k with
    | zero => intro x y w8 w9 hk; omega
    | succ k ih =>
      intro x y w8 w9 hk
      have hm1 : y ≠ 0 → 0 ≤ x % y ∧ x % y < y := fun q => ⟨Int.emod_nonneg x q, Int.emod_lt_of_pos x (by omega)⟩
      refine am_r_lload6 (pc' := 8) rfl rfl ?_
      refine am_r_lconst (z := 0) (pc' := 9) rfl rfl rfl ?_
      refine am_r_lcmp (pc' := 10) rfl rfl ?_
      refine am_r_lif_eq (pt := 31) (pf := 13) rfl rfl rfl (fun h10 => ?_) (fun h10 => ?_)
      · refine am_r_lload4 (pc' := 33) rfl rfl ?_
        refine am_r_lret rfl rfl ?_
        have e := hk.2.2.2.2.2
        rw [show f_eu (k + 1) x y = x from if_pos (by omega)] at e
        rw [e]
        exact hq
      · have hm1 := hm1 (by omega)
        refine am_r_lload4 (pc' := 15) rfl rfl ?_
        refine am_r_lload6 (pc' := 17) rfl rfl ?_
        refine am_r_lrem (pc' := 18) rfl rfl ?_
        refine am_r_lstore8 (pc' := 20) rfl rfl rfl ?_
        refine am_r_lload6 (pc' := 22) rfl rfl ?_
        refine am_r_lstore4 (pc' := 24) rfl rfl rfl ?_
        refine am_r_lload8 (pc' := 26) rfl rfl ?_
        refine am_r_lstore6 (pc' := 28) rfl rfl rfl ?_
        refine am_r_goto (pc' := 6) rfl rfl ?_
        exact ih _ _ _ _ (by have e := hk.2.2.2.2.2; rw [show f_eu (k + 1) x y = f_eu k y (x % y) from if_neg (by omega)] at e; omega)
  refine am_bl_of (P := am_pX11_common) (rt := 3) (nL := 10) (Nat.le_of_ble_eq_true rfl) rfl (Nat.le_of_ble_eq_true rfl) rfl rfl rfl ?_
  refine am_r_lload0 (pc' := 1) rfl rfl ?_
  refine am_r_lstore4 (pc' := 3) rfl rfl rfl ?_
  refine am_r_lload2 (pc' := 4) rfl rfl ?_
  refine am_r_lstore6 (pc' := 6) rfl rfl rfl ?_
  exact hlp 100 _ _ _ _ (by refine ⟨by omega, by omega, by omega, by omega, by omega, rfl⟩)
theorem m_together {sL : Nat} {xs : Nat → Int32} {d : Nat} {M : Am_M} {Q : Int64 → Am_M → Prop} (hd : 3 ≤ d) {σ : Sg} (hM : SM M σ) {s : Int} (hs : -2147483648 ≤ s ∧ s < 2147483648)  (hq : Q (z_L (r_together σ s)) M) : am_bl sL xs d 199 [.ref 53, .int (z_I s)] M Q := by
  obtain ⟨d, rfl⟩ : ∃ e, d = e + 1 := ⟨d - 1, by omega⟩
  have hn := sb_nb hM.1
  have hnr := sb_nrb hM.1
  have hp8 := z_pow8 hn
  have hl : ∀ (k : Nat) (i c : Int), (0 ≤ i ∧ i + k = s_n σ ∧ 1 ≤ c ∧ c ≤ 60 ^ i.toNat ∧ 0 ≤ s ∧ s < 256) → (Q (z_L (g_tg σ s c i k)) M) → am_rw sL xs d am_pX11_together 3 17 [.ref 53, .int (z_I s), .long (z_L c), .null, .int (z_I i)] [] M (am_pl Q) := by
    intro k
    induction k with
    | zero =>
      intro i c hk hq
      have hbt := s_bit01 s i
      have hps := p60_s hk.1
      refine am_r_iload4 (pc' := 19) rfl rfl ?_
      refine am_r_aload0 (pc' := 20) rfl rfl ?_
      refine am_r_getIv (f := 6) (pc' := 23) rfl rfl rfl (sm_n hM) ?_
      refine am_r_icmp_ge (pt := 69) (pf := 26) rfl rfl rfl (fun h23 => ?_) (fun h23 => ?_)
      · refine am_r_lload2 (pc' := 70) rfl rfl ?_
        refine am_r_lret rfl rfl ?_
        exact hq
      · exfalso; omega
    | succ k ih =>
      intro i c hk hq
      have hbt := s_bit01 s i
      have hps := p60_s hk.1
      refine am_r_iload4 (pc' := 19) rfl rfl ?_
      refine am_r_aload0 (pc' := 20) rfl rfl ?_
      refine am_r_getIv (f := 6) (pc' := 23) rfl rfl rfl (sm_n hM) ?_
      refine am_r_icmp_ge (pt := 69) (pf := 26) rfl rfl rfl (fun h23 => ?_) (fun h23 => ?_)
      · exfalso; omega
      · refine am_r_iload1 (pc' := 27) rfl rfl ?_
        refine am_r_iload4 (pc' := 29) rfl rfl ?_
        refine am_r_ivsI2 (pc' := 32) rfl rfl rfl (Nat.le_of_ble_eq_true rfl) (m_isIn (by omega) (by omega) (by omega) ?_)
        refine am_r_if_eqB (pt := 61) (pf := 35) rfl rfl rfl (fun h32 => ?_) (fun h32 => ?_)
        · refine am_r_lload2 (pc' := 62) rfl rfl ?_
          refine am_r_lstore2 (pc' := 63) rfl rfl rfl ?_
          refine am_r_iinc4 (pc' := 66) rfl rfl rfl ?_
          refine am_r_goto (pc' := 17) rfl rfl ?_
          first | exact ih _ _ (by omega) (by rw [show g_tg σ s c i (k + 1) = g_tg σ s (g_lcm c (s_rd σ i)) (i + 1) k by (rw [g_tg, if_pos (by omega)])] at hq; exact hq) | exact ih _ _ (by omega) (by rw [show g_tg σ s c i (k + 1) = g_tg σ s c (i + 1) k by (rw [g_tg, if_neg (by omega)])] at hq; exact hq)
        · have hbb := sg_b hM.1 (a := i) (by omega)
          have h8 := p60 (i := i + 1) (by omega)
          have hlb := g_lcm_b (a := c) (b := s_rd σ i) (by omega) (by omega)
          refine am_r_lload2 (pc' := 36) rfl rfl ?_
          refine am_r_lload2 (pc' := 37) rfl rfl ?_
          refine am_r_aload0 (pc' := 38) rfl rfl ?_
          refine am_r_getR (t := 58) (pc' := 41) rfl rfl rfl ?_
          refine am_r_iload4 (pc' := 43) rfl rfl ?_
          refine am_r_iaZv (n := 8) (pc' := 44) rfl rfl rfl (by decide) (sm_rd hM (by omega)) ?_
          refine am_r_i2l (pc' := 45) rfl rfl ?_
          refine am_r_ivsL2 (pc' := 48) rfl rfl rfl (Nat.le_of_ble_eq_true rfl) (m_common (by omega) (by omega) (by omega) ?_)
          refine am_r_ldiv (pc' := 49) rfl rfl ?_
          refine am_r_aload0 (pc' := 50) rfl rfl ?_
          refine am_r_getR (t := 58) (pc' := 53) rfl rfl rfl ?_
          refine am_r_iload4 (pc' := 55) rfl rfl ?_
          refine am_r_iaZv (n := 8) (pc' := 56) rfl rfl rfl (by decide) (sm_rd hM (by omega)) ?_
          refine am_r_i2l (pc' := 57) rfl rfl ?_
          refine am_r_lmul (pc' := 58) rfl rfl ?_
          rw [show c / f_eu 100 c (s_rd σ i) * s_rd σ i = g_lcm c (s_rd σ i) from rfl]
          refine am_r_goto (pc' := 62) rfl rfl ?_
          refine am_r_lstore2 (pc' := 63) rfl rfl rfl ?_
          refine am_r_iinc4 (pc' := 66) rfl rfl rfl ?_
          refine am_r_goto (pc' := 17) rfl rfl ?_
          first | exact ih _ _ (by omega) (by rw [show g_tg σ s c i (k + 1) = g_tg σ s (g_lcm c (s_rd σ i)) (i + 1) k by (rw [g_tg, if_pos (by omega)])] at hq; exact hq) | exact ih _ _ (by omega) (by rw [show g_tg σ s c i (k + 1) = g_tg σ s c (i + 1) k by (rw [g_tg, if_neg (by omega)])] at hq; exact hq)
  refine am_bl_of (P := am_pX11_together) (rt := 3) (nL := 5) (Nat.le_of_ble_eq_true rfl) rfl (Nat.le_of_ble_eq_true rfl) rfl rfl rfl ?_
  refine am_r_aload0 (pc' := 1) rfl rfl ?_
  refine am_r_iload1 (pc' := 2) rfl rfl ?_
  refine am_r_invI1 (pc' := 5) rfl rfl rfl (Nat.le_of_ble_eq_true rfl) (m_isSet (by omega) hM (by omega) ?_)
  refine am_r_if_neB (pt := 12) (pf := 8) rfl rfl rfl (fun h5 => ?_) (fun h5 => ?_)
  · refine am_r_lconst (z := 1) (pc' := 13) rfl rfl rfl ?_
    refine am_r_lstore2 (pc' := 14) rfl rfl rfl ?_
    refine am_r_iconst (pc' := 15) rfl rfl ?_
    refine am_r_istore4 (pc' := 17) rfl rfl rfl ?_
    exact hl (s_n σ).toNat 0 1 (by refine ⟨by omega, by omega, by omega, ?_, by omega, by omega⟩; decide) (by unfold r_together at hq; rw [if_pos (by omega)] at hq; exact hq)
  · refine am_r_lconst (z := (-9223372036854775808)) (pc' := 11) rfl rfl rfl ?_
    refine am_r_lret rfl rfl ?_
    refine am_ql ?_ hq
    unfold r_together
    (repeat (first | rw [if_pos (by omega)] | rw [if_neg (by omega)]))
    all_goals first | rfl | omega
