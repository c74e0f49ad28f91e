/-! BY THE CLOCK, the reference: starts, moods, sets, nudges -/
theorem m_start {sL : Nat} {xs : Nat → Int32} {d : Nat} {M : Am_M} {Q : Int64 → Am_M → Prop} (hd : 3 ≤ d) {σ : Sg} (hM : SM M σ) {s : Int} (hs : -2147483648 ≤ s ∧ s < 2147483648)  (hq : Q (z_L (r_start σ s)) M) : am_bl sL xs d 200 [.ref 53, .int (z_I s)] M Q := by
  obtain ⟨d, rfl⟩ : ∃ e, d = e + 1 := ⟨d - 1, by omega⟩
  have hn := sb_nb hM.1
  have hnr := sb_nrb hM.1
  have hp8 := z_pow8 hn
  have hs8 : ∀ i : Int, 0 ≤ i → i < s_n σ → i < 8 := fun i _ h => by omega
  have hin : ∀ (k : Nat) (i e j c : Int), ((0 ≤ i ∧ i < s_n σ) ∧ 0 ≤ j ∧ j + k = s_rd σ i ∧ 0 ≤ c ∧ 1 ≤ e ∧ c + e * k ≤ 1000000000000000) → (∀ c2 j2 : Int, ((g_nx σ i e c k < 0 ∧ j2 = s_rd σ i) ∨ (g_nx σ i e c k = c2 ∧ 0 ≤ c2 ∧ j2 < s_rd σ i)) ∧ 0 ≤ j2 → am_rw sL xs d am_pX11_start 3 88 [.ref 53, .int (z_I s), .long (z_L c2), .null, .long (z_L e), .null, .int (z_I i), .int (z_I j2)] [] M (am_pl Q)) → am_rw sL xs d am_pX11_start 3 41 [.ref 53, .int (z_I s), .long (z_L c), .null, .long (z_L e), .null, .int (z_I i), .int (z_I j)] [] M (am_pl Q) := by
    intro k
    induction k with
    | zero =>
      intro i e j c hk hq
      have hbb := sg_b hM.1 hk.1
      have hek1 : e * ((0 : Nat) : Int) = 0 := (by simp)
      refine am_r_aload0 (pc' := 42) rfl rfl ?_
      refine am_r_getR (t := 54) (pc' := 45) rfl rfl rfl ?_
      refine am_r_iload6 (pc' := 47) rfl rfl ?_
      refine am_r_iaZv (n := 81) (pc' := 48) rfl rfl rfl (by decide) (sm_pl hM (by omega)) ?_
      refine am_r_i2l (pc' := 49) rfl rfl ?_
      refine am_r_lload2 (pc' := 50) rfl rfl ?_
      refine am_r_ladd (pc' := 51) rfl rfl ?_
      refine am_r_aload0 (pc' := 52) rfl rfl ?_
      refine am_r_getR (t := 58) (pc' := 55) rfl rfl rfl ?_
      refine am_r_iload6 (pc' := 57) rfl rfl ?_
      refine am_r_iaZv (n := 8) (pc' := 58) rfl rfl rfl (by decide) (sm_rd hM (by omega)) ?_
      refine am_r_i2l (pc' := 59) rfl rfl ?_
      have hmm1 := Int.emod_nonneg (s_pl σ i + c) (show s_rd σ i ≠ 0 by omega)
      have hmm2 := Int.emod_lt_of_pos (s_pl σ i + c) (show 0 < s_rd σ i by omega)
      refine am_r_lrem (pc' := 60) rfl rfl ?_
      refine am_r_lconst (z := 0) (pc' := 61) rfl rfl rfl ?_
      refine am_r_lcmp (pc' := 62) rfl rfl ?_
      refine am_r_lif_eq (pt := 88) (pf := 65) rfl rfl rfl (fun h62 => ?_) (fun h62 => ?_)
      · exact hq _ _ ⟨Or.inl ⟨by simp [g_nx], by omega⟩, by omega⟩
      · refine am_r_iload7 (pc' := 67) rfl rfl ?_
        refine am_r_aload0 (pc' := 68) rfl rfl ?_
        refine am_r_getR (t := 58) (pc' := 71) rfl rfl rfl ?_
        refine am_r_iload6 (pc' := 73) rfl rfl ?_
        refine am_r_iaZv (n := 8) (pc' := 74) rfl rfl rfl (by decide) (sm_rd hM (by omega)) ?_
        refine am_r_icmp_ge (pt := 88) (pf := 77) rfl rfl rfl (fun h74 => ?_) (fun h74 => ?_)
        · exact hq _ _ ⟨Or.inl ⟨by simp [g_nx], by omega⟩, by omega⟩
        · exfalso; omega
    | succ k ih =>
      intro i e j c hk hq
      have hbb := sg_b hM.1 hk.1
      have hek : 0 ≤ e * (k : Int) := Int.mul_nonneg (by omega) (by omega)
      have hek1 : e * ((k + 1 : Nat) : Int) = e * k + e := (by rw [show ((k + 1 : Nat) : Int) = (k : Int) + 1 by omega, Int.mul_add, Int.mul_one])
      refine am_r_aload0 (pc' := 42) rfl rfl ?_
      refine am_r_getR (t := 54) (pc' := 45) rfl rfl rfl ?_
      refine am_r_iload6 (pc' := 47) rfl rfl ?_
      refine am_r_iaZv (n := 81) (pc' := 48) rfl rfl rfl (by decide) (sm_pl hM (by omega)) ?_
      refine am_r_i2l (pc' := 49) rfl rfl ?_
      refine am_r_lload2 (pc' := 50) rfl rfl ?_
      refine am_r_ladd (pc' := 51) rfl rfl ?_
      refine am_r_aload0 (pc' := 52) rfl rfl ?_
      refine am_r_getR (t := 58) (pc' := 55) rfl rfl rfl ?_
      refine am_r_iload6 (pc' := 57) rfl rfl ?_
      refine am_r_iaZv (n := 8) (pc' := 58) rfl rfl rfl (by decide) (sm_rd hM (by omega)) ?_
      refine am_r_i2l (pc' := 59) rfl rfl ?_
      have hmm1 := Int.emod_nonneg (s_pl σ i + c) (show s_rd σ i ≠ 0 by omega)
      have hmm2 := Int.emod_lt_of_pos (s_pl σ i + c) (show 0 < s_rd σ i by omega)
      refine am_r_lrem (pc' := 60) rfl rfl ?_
      refine am_r_lconst (z := 0) (pc' := 61) rfl rfl rfl ?_
      refine am_r_lcmp (pc' := 62) rfl rfl ?_
      refine am_r_lif_eq (pt := 88) (pf := 65) rfl rfl rfl (fun h62 => ?_) (fun h62 => ?_)
      · first | exact hq _ _ ⟨Or.inr ⟨by rw [g_nx, if_pos (by omega)], by omega, by omega⟩, by omega⟩ | (exfalso; omega)
      · refine am_r_iload7 (pc' := 67) rfl rfl ?_
        refine am_r_aload0 (pc' := 68) rfl rfl ?_
        refine am_r_getR (t := 58) (pc' := 71) rfl rfl rfl ?_
        refine am_r_iload6 (pc' := 73) rfl rfl ?_
        refine am_r_iaZv (n := 8) (pc' := 74) rfl rfl rfl (by decide) (sm_rd hM (by omega)) ?_
        refine am_r_icmp_ge (pt := 88) (pf := 77) rfl rfl rfl (fun h74 => ?_) (fun h74 => ?_)
        · first | exact hq _ _ ⟨Or.inr ⟨by rw [g_nx, if_pos (by omega)], by omega, by omega⟩, by omega⟩ | (exfalso; omega)
        · refine am_r_lload2 (pc' := 78) rfl rfl ?_
          refine am_r_lload4 (pc' := 80) rfl rfl ?_
          refine am_r_ladd (pc' := 81) rfl rfl ?_
          refine am_r_lstore2 (pc' := 82) rfl rfl rfl ?_
          refine am_r_iinc7 (pc' := 85) rfl rfl rfl ?_
          refine am_r_goto (pc' := 41) rfl rfl ?_
          exact ih _ _ _ _ (by omega) (by rw [show g_nx σ i e c (k + 1) = g_nx σ i e (c + e) k by (rw [g_nx, if_neg (by omega)])] at hq; exact hq)
  have hl : ∀ (k : Nat) (i c e : Int) (w7 : Value), (0 ≤ i ∧ i + k = s_n σ ∧ 0 ≤ c ∧ c ≤ 60 ^ i.toNat ∧ 1 ≤ e ∧ e ≤ 60 ^ i.toNat ∧ 0 ≤ s ∧ s < 256) → (Q (z_L (g_st σ s c e i k)) M) → am_rw sL xs d am_pX11_start 3 20 [.ref 53, .int (z_I s), .long (z_L c), .null, .long (z_L e), .null, .int (z_I i), w7] [] M (am_pl Q) := by
    intro k
    induction k with
    | zero =>
      intro i c e w7 hk hq
      have hbt := s_bit01 s i
      have hps := p60_s hk.1
      have h88 := p60 (i := i) (by omega)
      refine am_r_iload6 (pc' := 22) rfl rfl ?_
      refine am_r_aload0 (pc' := 23) rfl rfl ?_
      refine am_r_getIv (f := 6) (pc' := 26) rfl rfl rfl (sm_n hM) ?_
      refine am_r_icmp_ge (pt := 137) (pf := 29) rfl rfl rfl (fun h26 => ?_) (fun h26 => ?_)
      · refine am_r_lload2 (pc' := 138) rfl rfl ?_
        refine am_r_lret rfl rfl ?_
        exact hq
      · exfalso; omega
    | succ k ih =>
      intro i c e w7 hk hq
      have hbt := s_bit01 s i
      have hps := p60_s hk.1
      have h88 := p60 (i := i) (by omega)
      refine am_r_iload6 (pc' := 22) rfl rfl ?_
      refine am_r_aload0 (pc' := 23) rfl rfl ?_
      refine am_r_getIv (f := 6) (pc' := 26) rfl rfl rfl (sm_n hM) ?_
      refine am_r_icmp_ge (pt := 137) (pf := 29) rfl rfl rfl (fun h26 => ?_) (fun h26 => ?_)
      · exfalso; omega
      · refine am_r_iload1 (pc' := 30) rfl rfl ?_
        refine am_r_iload6 (pc' := 32) rfl rfl ?_
        refine am_r_ivsI2 (pc' := 35) rfl rfl rfl (Nat.le_of_ble_eq_true rfl) (m_isIn (by omega) (by omega) (by omega) ?_)
        refine am_r_if_eqB (pt := 131) (pf := 38) rfl rfl rfl (fun h35 => ?_) (fun h35 => ?_)
        · refine am_r_iinc6 (pc' := 134) rfl rfl rfl ?_
          refine am_r_goto (pc' := 20) rfl rfl ?_
          exact ih _ _ _ _ (by omega) (by rw [show g_st σ s c e i (k + 1) = g_st σ s c e (i + 1) k by (rw [g_st, if_neg (by omega)])] at hq; exact hq)
        · refine am_r_iconst (pc' := 39) rfl rfl ?_
          refine am_r_istore7 (pc' := 41) rfl rfl rfl ?_
          have hbb := sg_b hM.1 (a := i) (by omega)
          have h8 := p60 (i := i + 1) (by omega)
          have hlb := g_lcm_b (a := e) (b := s_rd σ i) (by omega) (by omega)
          have hnb2 := g_nx_b σ i e (by omega) (s_rd σ i).toNat c (by omega)
          have hee : e * ((s_rd σ i).toNat : Int) ≤ 60 ^ i.toNat * 60 := Int.mul_le_mul (by omega) (by omega) (by omega) (by omega)
          have hnx : g_nx σ i e c (s_rd σ i).toNat ≤ 60 * 60 ^ i.toNat := (by have q1 : e * (((s_rd σ i).toNat : Int) - 1) ≤ 60 ^ i.toNat * 59 := Int.mul_le_mul (by omega) (by omega) (by omega) (by omega); omega)
          refine hin (s_rd σ i).toNat i e 0 c (by omega) ?_
          intro c2 j2 hj
          refine am_r_iload7 (pc' := 90) rfl rfl ?_
          refine am_r_aload0 (pc' := 91) rfl rfl ?_
          refine am_r_getR (t := 58) (pc' := 94) rfl rfl rfl ?_
          refine am_r_iload6 (pc' := 96) rfl rfl ?_
          refine am_r_iaZv (n := 8) (pc' := 97) rfl rfl rfl (by decide) (sm_rd hM (by omega)) ?_
          refine am_r_icmp_ne (pt := 104) (pf := 100) rfl rfl rfl (fun h97 => ?_) (fun h97 => ?_)
          · refine am_r_lload4 (pc' := 106) rfl rfl ?_
            refine am_r_lload4 (pc' := 108) rfl rfl ?_
            refine am_r_aload0 (pc' := 109) rfl rfl ?_
            refine am_r_getR (t := 58) (pc' := 112) rfl rfl rfl ?_
            refine am_r_iload6 (pc' := 114) rfl rfl ?_
            refine am_r_iaZv (n := 8) (pc' := 115) rfl rfl rfl (by decide) (sm_rd hM (by omega)) ?_
            refine am_r_i2l (pc' := 116) rfl rfl ?_
            refine am_r_ivsL2 (pc' := 119) rfl rfl rfl (Nat.le_of_ble_eq_true rfl) (m_common (by omega) (by omega) (by omega) ?_)
            refine am_r_ldiv (pc' := 120) rfl rfl ?_
            refine am_r_aload0 (pc' := 121) rfl rfl ?_
            refine am_r_getR (t := 58) (pc' := 124) rfl rfl rfl ?_
            refine am_r_iload6 (pc' := 126) rfl rfl ?_
            refine am_r_iaZv (n := 8) (pc' := 127) rfl rfl rfl (by decide) (sm_rd hM (by omega)) ?_
            refine am_r_i2l (pc' := 128) rfl rfl ?_
            refine am_r_lmul (pc' := 129) rfl rfl ?_
            rw [show e / f_eu 100 e (s_rd σ i) * s_rd σ i = g_lcm e (s_rd σ i) from rfl]
            refine am_r_lstore4 (pc' := 131) rfl rfl rfl ?_
            refine am_r_iinc6 (pc' := 134) rfl rfl rfl ?_
            refine am_r_goto (pc' := 20) rfl rfl ?_
            exact ih _ _ _ _ (by omega) (by rw [show g_st σ s c e i (k + 1) = g_st σ s (g_nx σ i e c (s_rd σ i).toNat) (g_lcm e (s_rd σ i)) (i + 1) k by (rw [g_st, if_pos (by omega), if_neg (by omega)]), show g_nx σ i e c (s_rd σ i).toNat = c2 by omega] at hq; exact hq)
          · refine am_r_lconst (z := (-2)) (pc' := 103) rfl rfl rfl ?_
            refine am_r_lret rfl rfl ?_
            rw [show g_st σ s c e i (k + 1) = -2 by (rw [g_st, if_pos (by omega), if_pos (by omega)])] at hq; exact hq
  refine am_bl_of (P := am_pX11_start) (rt := 3) (nL := 8) (Nat.le_of_ble_eq_true rfl) rfl (Nat.le_of_ble_eq_true rfl) rfl rfl rfl ?_
  refine am_r_aload0 (pc' := 1) rfl rfl ?_
  refine am_r_iload1 (pc' := 2) rfl rfl ?_
  refine am_r_invI1 (pc' := 5) rfl rfl rfl (Nat.le_of_ble_eq_true rfl) (m_isSet (by omega) hM (by omega) ?_)
  refine am_r_if_neB (pt := 12) (pf := 8) rfl rfl rfl (fun h5 => ?_) (fun h5 => ?_)
  · refine am_r_lconst (z := 0) (pc' := 13) rfl rfl rfl ?_
    refine am_r_lstore2 (pc' := 14) rfl rfl rfl ?_
    refine am_r_lconst (z := 1) (pc' := 15) rfl rfl rfl ?_
    refine am_r_lstore4 (pc' := 17) rfl rfl rfl ?_
    refine am_r_iconst (pc' := 18) rfl rfl ?_
    refine am_r_istore6 (pc' := 20) rfl rfl rfl ?_
    exact hl (s_n σ).toNat 0 0 1 _ (by refine ⟨by omega, by omega, by omega, ?_, by omega, ?_, by omega, by omega⟩ <;> decide) (by unfold r_start at hq; rw [if_pos (by omega)] at hq; exact hq)
  · refine am_r_lconst (z := (-9223372036854775808)) (pc' := 11) rfl rfl rfl ?_
    refine am_r_lret rfl rfl ?_
    refine am_ql ?_ hq
    unfold r_start
    (repeat (first | rw [if_pos (by omega)] | rw [if_neg (by omega)]))
    all_goals first | rfl | omega
theorem m_moodOn {sL : Nat} {xs : Nat → Int32} {d : Nat} {M : Am_M} {Q : Int32 → Am_M → Prop} (hd : 4 ≤ d) {σ : Sg} (hM : SM M σ) {a f0 : Int} (ha : 0 ≤ a ∧ a < s_n σ) (hf : 0 ≤ f0 ∧ f0 ≤ 101000) (hq : Q (z_I (g_mood σ a f0)) M) : am_bi sL xs d 201 [.ref 53, .int (z_I a), .long (z_L f0)] M Q := by
  obtain ⟨d, rfl⟩ : ∃ e, d = e + 1 := ⟨d - 1, by omega⟩
  have hn := sb_nb hM.1
  have hnr := sb_nrb hM.1
  have hl : ∀ (k : Nat) (i c : Int), (0 ≤ i ∧ i + k = s_n σ) → (Q (z_I (c + f_sum (g_ms σ a f0) i k)) M) → am_rw sL xs d am_pX11_moodOn 1 6 [.ref 53, .int (z_I a), .long (z_L f0), .null, .int (z_I c), .int (z_I i)] [] M (am_pi Q) := by
    intro k
    induction k with
    | zero =>
      intro i c hk hq
      refine am_r_iload5 (pc' := 8) rfl rfl ?_
      refine am_r_aload0 (pc' := 9) rfl rfl ?_
      refine am_r_getIv (f := 6) (pc' := 12) rfl rfl rfl (sm_n hM) ?_
      refine am_r_icmp_ge (pt := 62) (pf := 15) rfl rfl rfl (fun h12 => ?_) (fun h12 => ?_)
      · refine am_r_iload4 (pc' := 64) rfl rfl ?_
        refine am_r_iret rfl rfl ?_
        rw [f_sum_0] at hq; exact hq
      · exfalso; omega
    | succ k ih =>
      intro i c hk hq
      refine am_r_iload5 (pc' := 8) rfl rfl ?_
      refine am_r_aload0 (pc' := 9) rfl rfl ?_
      refine am_r_getIv (f := 6) (pc' := 12) rfl rfl rfl (sm_n hM) ?_
      refine am_r_icmp_ge (pt := 62) (pf := 15) rfl rfl rfl (fun h12 => ?_) (fun h12 => ?_)
      · exfalso; omega
      · refine am_r_iload4 (pc' := 17) rfl rfl ?_
        refine am_r_iload5 (pc' := 19) rfl rfl ?_
        refine am_r_iload1 (pc' := 20) rfl rfl ?_
        refine am_r_icmp_eq (pt := 52) (pf := 23) rfl rfl rfl (fun h20 => ?_) (fun h20 => ?_)
        · refine am_r_iconst (pc' := 53) rfl rfl ?_
          refine am_r_iadd (pc' := 54) rfl rfl ?_
          refine am_r_istore4 (pc' := 56) rfl rfl rfl ?_
          refine am_r_iinc5 (pc' := 59) rfl rfl rfl ?_
          refine am_r_goto (pc' := 6) rfl rfl ?_
          first | exact ih _ _ (by omega) (by rw [f_sum_s, show g_ms σ a f0 i = s_lk σ a i from if_pos ⟨h20, h31⟩] at hq; exact hq) | exact ih _ _ (by omega) (by rw [f_sum_s, show g_ms σ a f0 i = 0 from if_neg (fun z => h31 z.2), Int.add_zero] at hq; rw [Int.add_zero]; exact hq) | exact ih _ _ (by omega) (by rw [f_sum_s, show g_ms σ a f0 i = 0 from if_neg (fun z => z.1 h20), Int.add_zero] at hq; rw [Int.add_zero]; exact hq)
        · refine am_r_aload0 (pc' := 24) rfl rfl ?_
          refine am_r_iload1 (pc' := 25) rfl rfl ?_
          refine am_r_iload5 (pc' := 27) rfl rfl ?_
          refine am_r_lload2 (pc' := 28) rfl rfl ?_
          refine am_r_invI3 (pc' := 31) rfl rfl rfl (Nat.le_of_ble_eq_true rfl) (m_meetOn (by omega) hM (by omega) (by omega) (by omega) ?_)
          refine am_r_if_eqB (pt := 52) (pf := 34) rfl rfl rfl (fun h31 => ?_) (fun h31 => ?_)
          · refine am_r_iconst (pc' := 53) rfl rfl ?_
            refine am_r_iadd (pc' := 54) rfl rfl ?_
            refine am_r_istore4 (pc' := 56) rfl rfl rfl ?_
            refine am_r_iinc5 (pc' := 59) rfl rfl rfl ?_
            refine am_r_goto (pc' := 6) rfl rfl ?_
            first | exact ih _ _ (by omega) (by rw [f_sum_s, show g_ms σ a f0 i = s_lk σ a i from if_pos ⟨h20, h31⟩] at hq; exact hq) | exact ih _ _ (by omega) (by rw [f_sum_s, show g_ms σ a f0 i = 0 from if_neg (fun z => h31 z.2), Int.add_zero] at hq; rw [Int.add_zero]; exact hq) | exact ih _ _ (by omega) (by rw [f_sum_s, show g_ms σ a f0 i = 0 from if_neg (fun z => z.1 h20), Int.add_zero] at hq; rw [Int.add_zero]; exact hq)
          · refine am_r_aload0 (pc' := 35) rfl rfl ?_
            refine am_r_getR (t := 54) (pc' := 38) rfl rfl rfl ?_
            refine am_r_iconst (pc' := 40) rfl rfl ?_
            refine am_r_iconst (pc' := 42) rfl rfl ?_
            refine am_r_iload1 (pc' := 43) rfl rfl ?_
            refine am_r_imul (pc' := 44) rfl rfl ?_
            refine am_r_iadd (pc' := 45) rfl rfl ?_
            refine am_r_iload5 (pc' := 47) rfl rfl ?_
            refine am_r_iadd (pc' := 48) rfl rfl ?_
            refine am_r_iaZv (n := 81) (pc' := 49) rfl rfl rfl (by decide) (sm_lk hM (by omega) (by omega)) ?_
            refine am_r_goto (pc' := 53) rfl rfl ?_
            refine am_r_iadd (pc' := 54) rfl rfl ?_
            refine am_r_istore4 (pc' := 56) rfl rfl rfl ?_
            refine am_r_iinc5 (pc' := 59) rfl rfl rfl ?_
            refine am_r_goto (pc' := 6) rfl rfl ?_
            first | exact ih _ _ (by omega) (by rw [f_sum_s, show g_ms σ a f0 i = s_lk σ a i from if_pos ⟨h20, h31⟩] at hq; exact hq) | exact ih _ _ (by omega) (by rw [f_sum_s, show g_ms σ a f0 i = 0 from if_neg (fun z => h31 z.2), Int.add_zero] at hq; rw [Int.add_zero]; exact hq) | exact ih _ _ (by omega) (by rw [f_sum_s, show g_ms σ a f0 i = 0 from if_neg (fun z => z.1 h20), Int.add_zero] at hq; rw [Int.add_zero]; exact hq)
  refine am_bi_of (P := am_pX11_moodOn) (rt := 1) (nL := 6) (Nat.le_of_ble_eq_true rfl) rfl (Nat.le_of_ble_eq_true rfl) rfl rfl rfl ?_
  refine am_r_iconst (pc' := 1) rfl rfl ?_
  refine am_r_istore4 (pc' := 3) rfl rfl rfl ?_
  refine am_r_iconst (pc' := 4) rfl rfl ?_
  refine am_r_istore5 (pc' := 6) rfl rfl rfl ?_
  exact hl (s_n σ).toNat 0 0 (by omega) (by rw [Int.zero_add]; exact hq)
theorem m_mood {sL : Nat} {xs : Nat → Int32} {d : Nat} {M : Am_M} {Q : Int32 → Am_M → Prop} (hd : 5 ≤ d) {σ : Sg} (hM : SM M σ) {a : Int} (ha : -2147483648 ≤ a ∧ a < 2147483648) {f0 : Int} (hf0 : -2147483648 ≤ f0 ∧ f0 < 2147483648)  (hq : Q (z_I (r_mood σ a f0)) M) : am_bi sL xs d 202 [.ref 53, .int (z_I a), .int (z_I f0)] M Q := by
  obtain ⟨d, rfl⟩ : ∃ e, d = e + 1 := ⟨d - 1, by omega⟩
  have hn := sb_nb hM.1
  have hnr := sb_nrb hM.1
  refine am_bi_of (P := am_pX11_mood) (rt := 1) (nL := 3) (Nat.le_of_ble_eq_true rfl) rfl (Nat.le_of_ble_eq_true rfl) rfl rfl rfl ?_
  refine am_r_aload0 (pc' := 1) rfl rfl ?_
  refine am_r_iload1 (pc' := 2) rfl rfl ?_
  refine am_r_i2l (pc' := 3) rfl rfl ?_
  refine am_r_invI1 (pc' := 6) rfl rfl rfl (Nat.le_of_ble_eq_true rfl) (m_isOrb (by omega) hM (by omega) ?_)
  refine am_r_if_eqB (pt := 26) (pf := 9) rfl rfl rfl (fun h6 => ?_) (fun h6 => ?_)
  · refine am_r_iconst (pc' := 28) rfl rfl ?_
    refine am_r_iret rfl rfl ?_
    refine am_q ?_ hq
    unfold r_mood
    (repeat (first | rw [if_pos (by omega)] | rw [if_neg (by omega)]))
    all_goals first | rfl | omega
  · refine am_r_iload2 (pc' := 10) rfl rfl ?_
    refine am_r_ivsI1 (pc' := 13) rfl rfl rfl (Nat.le_of_ble_eq_true rfl) (m_isDay (by omega) (by omega) ?_)
    refine am_r_if_eqB (pt := 26) (pf := 16) rfl rfl rfl (fun h13 => ?_) (fun h13 => ?_)
    · refine am_r_iconst (pc' := 28) rfl rfl ?_
      refine am_r_iret rfl rfl ?_
      refine am_q ?_ hq
      unfold r_mood
      (repeat (first | rw [if_pos (by omega)] | rw [if_neg (by omega)]))
      all_goals first | rfl | omega
    · refine am_r_aload0 (pc' := 17) rfl rfl ?_
      refine am_r_iload1 (pc' := 18) rfl rfl ?_
      refine am_r_iload2 (pc' := 19) rfl rfl ?_
      refine am_r_i2l (pc' := 20) rfl rfl ?_
      refine am_r_invI2 (pc' := 23) rfl rfl rfl (Nat.le_of_ble_eq_true rfl) (m_moodOn (by omega) hM (by omega) (by omega) ?_)
      refine am_r_goto (pc' := 28) rfl rfl ?_
      refine am_r_iret rfl rfl ?_
      refine am_q ?_ hq
      unfold r_mood
      (repeat (first | rw [if_pos (by omega)] | rw [if_neg (by omega)]))
      all_goals first | rfl | omega
theorem m_best {sL : Nat} {xs : Nat → Int32} {d : Nat} {M : Am_M} {Q : Int32 → Am_M → Prop} (hd : 5 ≤ d) {σ : Sg} (hM : SM M σ) {a : Int} (ha : -2147483648 ≤ a ∧ a < 2147483648) {dn : Int} (hdn : -2147483648 ≤ dn ∧ dn < 2147483648) {w : Int} (hw : -2147483648 ≤ w ∧ w < 2147483648)  (hq : Q (z_I (r_best σ a dn w)) M) : am_bi sL xs d 203 [.ref 53, .int (z_I a), .int (z_I dn), .int (z_I w)] M Q := by
  obtain ⟨d, rfl⟩ : ∃ e, d = e + 1 := ⟨d - 1, by omega⟩
  have hn := sb_nb hM.1
  have hnr := sb_nrb hM.1
  have hl : ∀ (k : Nat) (i c v : Int) (w8 : Value), (1 ≤ i ∧ i + k = dn % 1000 ∧ -72 ≤ v ∧ v ≤ 72 ∧ v = g_mood σ a c ∧ ((0 ≤ a ∧ a < s_n σ) ∧ 0 ≤ dn ∧ dn / 1000 ≤ 9999 ∧ 1 ≤ dn % 1000 ∧ (w = 0 ∨ w = 1))) → (Q (z_I (if w = 0 then g_bst σ a c v (dn / 1000 + i) k else g_mood σ a (g_bst σ a c v (dn / 1000 + i) k))) M) → am_rw sL xs d am_pX11_best 1 82 [.ref 53, .int (z_I a), .int (z_I dn), .int (z_I w), .int (z_I (dn / 1000)), .int (z_I c), .int (z_I v), .int (z_I i), w8] [] M (am_pi Q) := by
    intro k
    induction k with
    | zero =>
      intro i c v w8 hk hq
      refine am_r_iload7 (pc' := 84) rfl rfl ?_
      refine am_r_iload2 (pc' := 85) rfl rfl ?_
      refine am_r_iconst (pc' := 88) rfl rfl ?_
      refine am_r_irem (pc' := 89) rfl rfl ?_
      refine am_r_icmp_ge (pt := 129) (pf := 92) rfl rfl rfl (fun h89 => ?_) (fun h89 => ?_)
      · refine am_r_iload3 (pc' := 130) rfl rfl ?_
        refine am_r_if_ne (pt := 138) (pf := 133) rfl rfl rfl (fun h130 => ?_) (fun h130 => ?_)
        · refine am_r_iload6 (pc' := 140) rfl rfl ?_
          refine am_r_iret rfl rfl ?_
          first | (rw [if_pos (by omega)] at hq; exact hq) | (rw [if_neg (by omega)] at hq; rw [hk.2.2.2.2.1]; exact hq)
        · refine am_r_iload5 (pc' := 135) rfl rfl ?_
          refine am_r_goto (pc' := 140) rfl rfl ?_
          refine am_r_iret rfl rfl ?_
          first | (rw [if_pos (by omega)] at hq; exact hq) | (rw [if_neg (by omega)] at hq; rw [hk.2.2.2.2.1]; exact hq)
      · exfalso; omega
    | succ k ih =>
      intro i c v w8 hk hq
      refine am_r_iload7 (pc' := 84) rfl rfl ?_
      refine am_r_iload2 (pc' := 85) rfl rfl ?_
      refine am_r_iconst (pc' := 88) rfl rfl ?_
      refine am_r_irem (pc' := 89) rfl rfl ?_
      refine am_r_icmp_ge (pt := 129) (pf := 92) rfl rfl rfl (fun h89 => ?_) (fun h89 => ?_)
      · exfalso; omega
      · refine am_r_aload0 (pc' := 93) rfl rfl ?_
        refine am_r_iload1 (pc' := 94) rfl rfl ?_
        refine am_r_iload4 (pc' := 96) rfl rfl ?_
        refine am_r_iload7 (pc' := 98) rfl rfl ?_
        refine am_r_iadd (pc' := 99) rfl rfl ?_
        refine am_r_i2l (pc' := 100) rfl rfl ?_
        refine am_r_invI2 (pc' := 103) rfl rfl rfl (Nat.le_of_ble_eq_true rfl) (m_moodOn (by omega) hM (by omega) (by omega) ?_)
        have hmb := g_mood_b hM.1 (a := a) (d := dn / 1000 + i) (by omega)
        refine am_r_istore8 (pc' := 105) rfl rfl rfl ?_
        refine am_r_iload8 (pc' := 107) rfl rfl ?_
        refine am_r_iload6 (pc' := 109) rfl rfl ?_
        refine am_r_icmp_le (pt := 123) (pf := 112) rfl rfl rfl (fun h109 => ?_) (fun h109 => ?_)
        · refine am_r_iinc7 (pc' := 126) rfl rfl rfl ?_
          refine am_r_goto (pc' := 82) rfl rfl ?_
          first | exact ih _ _ _ _ (by refine ⟨by omega, by omega, by omega, by omega, rfl, hk.2.2.2.2.2⟩) (by rw [show g_bst σ a c v (dn / 1000 + i) (k + 1) = g_bst σ a (dn / 1000 + i) (g_mood σ a (dn / 1000 + i)) (dn / 1000 + i + 1) k from if_pos (by omega), Int.add_assoc (dn / 1000)] at hq; exact hq) | exact ih _ _ _ _ (by refine ⟨by omega, by omega, by omega, by omega, hk.2.2.2.2.1, hk.2.2.2.2.2⟩) (by rw [show g_bst σ a c v (dn / 1000 + i) (k + 1) = g_bst σ a c v (dn / 1000 + i + 1) k from if_neg (by omega), Int.add_assoc (dn / 1000)] at hq; exact hq)
        · refine am_r_iload4 (pc' := 114) rfl rfl ?_
          refine am_r_iload7 (pc' := 116) rfl rfl ?_
          refine am_r_iadd (pc' := 117) rfl rfl ?_
          refine am_r_istore5 (pc' := 119) rfl rfl rfl ?_
          refine am_r_iload8 (pc' := 121) rfl rfl ?_
          refine am_r_istore6 (pc' := 123) rfl rfl rfl ?_
          refine am_r_iinc7 (pc' := 126) rfl rfl rfl ?_
          refine am_r_goto (pc' := 82) rfl rfl ?_
          first | exact ih _ _ _ _ (by refine ⟨by omega, by omega, by omega, by omega, rfl, hk.2.2.2.2.2⟩) (by rw [show g_bst σ a c v (dn / 1000 + i) (k + 1) = g_bst σ a (dn / 1000 + i) (g_mood σ a (dn / 1000 + i)) (dn / 1000 + i + 1) k from if_pos (by omega), Int.add_assoc (dn / 1000)] at hq; exact hq) | exact ih _ _ _ _ (by refine ⟨by omega, by omega, by omega, by omega, hk.2.2.2.2.1, hk.2.2.2.2.2⟩) (by rw [show g_bst σ a c v (dn / 1000 + i) (k + 1) = g_bst σ a c v (dn / 1000 + i + 1) k from if_neg (by omega), Int.add_assoc (dn / 1000)] at hq; exact hq)
  refine am_bi_of (P := am_pX11_best) (rt := 1) (nL := 9) (Nat.le_of_ble_eq_true rfl) rfl (Nat.le_of_ble_eq_true rfl) rfl rfl rfl ?_
  refine am_r_aload0 (pc' := 1) rfl rfl ?_
  refine am_r_iload1 (pc' := 2) rfl rfl ?_
  refine am_r_i2l (pc' := 3) rfl rfl ?_
  refine am_r_invI1 (pc' := 6) rfl rfl rfl (Nat.le_of_ble_eq_true rfl) (m_isOrb (by omega) hM (by omega) ?_)
  refine am_r_if_eqB (pt := 55) (pf := 9) rfl rfl rfl (fun h6 => ?_) (fun h6 => ?_)
  · refine am_r_iconst (pc' := 57) rfl rfl ?_
    refine am_r_iret rfl rfl ?_
    refine am_q ?_ hq
    unfold r_best
    (repeat (first | rw [if_pos (by omega)] | rw [if_neg (by omega)]))
    all_goals first | rfl | omega
  · refine am_r_iload2 (pc' := 10) rfl rfl ?_
    refine am_r_if_lt (pt := 55) (pf := 13) rfl rfl rfl (fun h10 => ?_) (fun h10 => ?_)
    · refine am_r_iconst (pc' := 57) rfl rfl ?_
      refine am_r_iret rfl rfl ?_
      refine am_q ?_ hq
      unfold r_best
      (repeat (first | rw [if_pos (by omega)] | rw [if_neg (by omega)]))
      all_goals first | rfl | omega
    · refine am_r_iload2 (pc' := 14) rfl rfl ?_
      refine am_r_iconst (pc' := 17) rfl rfl ?_
      refine am_r_idiv (pc' := 18) rfl rfl ?_
      refine am_r_i2l (pc' := 19) rfl rfl ?_
      refine am_r_lconst (z := 0) (pc' := 20) rfl rfl rfl ?_
      refine am_r_lconst (z := 9999) (pc' := 23) rfl rfl rfl ?_
      refine am_r_ivsI3 (pc' := 26) rfl rfl rfl (Nat.le_of_ble_eq_true rfl) (m_within (by omega) (by omega) (by omega) (by omega) ?_)
      refine am_r_if_eqB (pt := 55) (pf := 29) rfl rfl rfl (fun h26 => ?_) (fun h26 => ?_)
      · refine am_r_iconst (pc' := 57) rfl rfl ?_
        refine am_r_iret rfl rfl ?_
        refine am_q ?_ hq
        unfold r_best
        (repeat (first | rw [if_pos (by omega)] | rw [if_neg (by omega)]))
        all_goals first | rfl | omega
      · refine am_r_iload2 (pc' := 30) rfl rfl ?_
        refine am_r_iconst (pc' := 33) rfl rfl ?_
        refine am_r_irem (pc' := 34) rfl rfl ?_
        refine am_r_i2l (pc' := 35) rfl rfl ?_
        refine am_r_lconst (z := 1) (pc' := 36) rfl rfl rfl ?_
        refine am_r_lconst (z := 999) (pc' := 39) rfl rfl rfl ?_
        refine am_r_ivsI3 (pc' := 42) rfl rfl rfl (Nat.le_of_ble_eq_true rfl) (m_within (by omega) (by omega) (by omega) (by omega) ?_)
        refine am_r_if_eqB (pt := 55) (pf := 45) rfl rfl rfl (fun h42 => ?_) (fun h42 => ?_)
        · refine am_r_iconst (pc' := 57) rfl rfl ?_
          refine am_r_iret rfl rfl ?_
          refine am_q ?_ hq
          unfold r_best
          (repeat (first | rw [if_pos (by omega)] | rw [if_neg (by omega)]))
          all_goals first | rfl | omega
        · refine am_r_iload3 (pc' := 46) rfl rfl ?_
          refine am_r_i2l (pc' := 47) rfl rfl ?_
          refine am_r_lconst (z := 0) (pc' := 48) rfl rfl rfl ?_
          refine am_r_lconst (z := 1) (pc' := 49) rfl rfl rfl ?_
          refine am_r_ivsI3 (pc' := 52) rfl rfl rfl (Nat.le_of_ble_eq_true rfl) (m_within (by omega) (by omega) (by omega) (by omega) ?_)
          refine am_r_if_neB (pt := 58) (pf := 55) rfl rfl rfl (fun h52 => ?_) (fun h52 => ?_)
          · refine am_r_iload2 (pc' := 59) rfl rfl ?_
            refine am_r_iconst (pc' := 62) rfl rfl ?_
            refine am_r_idiv (pc' := 63) rfl rfl ?_
            refine am_r_istore4 (pc' := 65) rfl rfl rfl ?_
            refine am_r_iload4 (pc' := 67) rfl rfl ?_
            refine am_r_istore5 (pc' := 69) rfl rfl rfl ?_
            refine am_r_aload0 (pc' := 70) rfl rfl ?_
            refine am_r_iload1 (pc' := 71) rfl rfl ?_
            refine am_r_iload4 (pc' := 73) rfl rfl ?_
            refine am_r_i2l (pc' := 74) rfl rfl ?_
            refine am_r_invI2 (pc' := 77) rfl rfl rfl (Nat.le_of_ble_eq_true rfl) (m_moodOn (by omega) hM (by omega) (by omega) ?_)
            refine am_r_istore6 (pc' := 79) rfl rfl rfl ?_
            refine am_r_iconst (pc' := 80) rfl rfl ?_
            refine am_r_istore7 (pc' := 82) rfl rfl rfl ?_
            have hmb0 := g_mood_b hM.1 (a := a) (d := dn / 1000) (by omega)
            exact hl (dn % 1000 - 1).toNat _ _ _ _ (by refine ⟨by omega, by omega, by omega, by omega, rfl, by omega⟩) (by unfold r_best at hq; rw [if_pos (by omega)] at hq; exact hq)
          · refine am_r_iconst (pc' := 57) rfl rfl ?_
            refine am_r_iret rfl rfl ?_
            refine am_q ?_ hq
            unfold r_best
            (repeat (first | rw [if_pos (by omega)] | rw [if_neg (by omega)]))
            all_goals first | rfl | omega
theorem m_isQuiet {sL : Nat} {xs : Nat → Int32} {d : Nat} {M : Am_M} {Q : Int32 → Am_M → Prop} (hd : 4 ≤ d) {σ : Sg} (hM : SM M σ) {s f0 : Int} (hs : 0 ≤ s ∧ s < 256) (hf : 0 ≤ f0 ∧ f0 ≤ 101000) (hq : Q (z_b (g_quiet σ s f0 = true)) M) : am_bi sL xs d 204 [.ref 53, .int (z_I s), .long (z_L f0)] M Q := by
  obtain ⟨d, rfl⟩ : ∃ e, d = e + 1 := ⟨d - 1, by omega⟩
  have hn := sb_nb hM.1
  have hnr := sb_nrb hM.1
  have hin : ∀ (k : Nat) (i j : Int), ((0 ≤ i ∧ i < s_n σ) ∧ 0 ≤ j ∧ j + k = s_n σ) → ((∀ j2 : Int, f_all (g_qo σ s f0 i) j k = true → am_rw sL xs d am_pX11_isQuiet 2 60 [.ref 53, .int (z_I s), .long (z_L f0), .null, .int (z_I i), .int (z_I j2)] [] M (am_pi Q)) ∧ (¬ f_all (g_qo σ s f0 i) j k = true → Q (z_I 0) M)) → am_rw sL xs d am_pX11_isQuiet 2 15 [.ref 53, .int (z_I s), .long (z_L f0), .null, .int (z_I i), .int (z_I j)] [] M (am_pi Q) := by
    intro k
    induction k with
    | zero =>
      intro i j hk hq
      refine am_r_iload5 (pc' := 17) rfl rfl ?_
      refine am_r_aload0 (pc' := 18) rfl rfl ?_
      refine am_r_getIv (f := 6) (pc' := 21) rfl rfl rfl (sm_n hM) ?_
      refine am_r_icmp_ge (pt := 60) (pf := 24) rfl rfl rfl (fun h21 => ?_) (fun h21 => ?_)
      · exact hq.1 _ rfl
      · exfalso; omega
    | succ k ih =>
      intro i j hk hq
      have hbt := s_bit01 s i
      refine am_r_iload5 (pc' := 17) rfl rfl ?_
      refine am_r_aload0 (pc' := 18) rfl rfl ?_
      refine am_r_getIv (f := 6) (pc' := 21) rfl rfl rfl (sm_n hM) ?_
      refine am_r_icmp_ge (pt := 60) (pf := 24) rfl rfl rfl (fun h21 => ?_) (fun h21 => ?_)
      · exfalso; omega
      · refine am_r_iload1 (pc' := 25) rfl rfl ?_
        refine am_r_iload4 (pc' := 27) rfl rfl ?_
        refine am_r_ivsI2 (pc' := 30) rfl rfl rfl (Nat.le_of_ble_eq_true rfl) (m_isIn (by omega) (by omega) (by omega) ?_)
        refine am_r_if_eqB (pt := 54) (pf := 33) rfl rfl rfl (fun h30 => ?_) (fun h30 => ?_)
        · refine am_r_iinc5 (pc' := 57) rfl rfl rfl ?_
          refine am_r_goto (pc' := 15) rfl rfl ?_
          exact ih _ _ (by omega) (by rw [f_all_t (p := g_qo σ s f0 i) (by unfold g_qo; rw [decide_eq_true_eq]; rintro ⟨q1, q2, q3⟩; first | exact h49 q3 | omega)] at hq; exact hq)
        · refine am_r_iload5 (pc' := 35) rfl rfl ?_
          refine am_r_iload4 (pc' := 37) rfl rfl ?_
          refine am_r_icmp_eq (pt := 54) (pf := 40) rfl rfl rfl (fun h37 => ?_) (fun h37 => ?_)
          · refine am_r_iinc5 (pc' := 57) rfl rfl rfl ?_
            refine am_r_goto (pc' := 15) rfl rfl ?_
            exact ih _ _ (by omega) (by rw [f_all_t (p := g_qo σ s f0 i) (by unfold g_qo; rw [decide_eq_true_eq]; rintro ⟨q1, q2, q3⟩; first | exact h49 q3 | omega)] at hq; exact hq)
          · refine am_r_aload0 (pc' := 41) rfl rfl ?_
            refine am_r_iload4 (pc' := 43) rfl rfl ?_
            refine am_r_iload5 (pc' := 45) rfl rfl ?_
            refine am_r_lload2 (pc' := 46) rfl rfl ?_
            refine am_r_invI3 (pc' := 49) rfl rfl rfl (Nat.le_of_ble_eq_true rfl) (m_meetOn (by omega) hM (by omega) (by omega) (by omega) ?_)
            refine am_r_if_eqB (pt := 54) (pf := 52) rfl rfl rfl (fun h49 => ?_) (fun h49 => ?_)
            · refine am_r_iinc5 (pc' := 57) rfl rfl rfl ?_
              refine am_r_goto (pc' := 15) rfl rfl ?_
              exact ih _ _ (by omega) (by rw [f_all_t (p := g_qo σ s f0 i) (by unfold g_qo; rw [decide_eq_true_eq]; rintro ⟨q1, q2, q3⟩; first | exact h49 q3 | omega)] at hq; exact hq)
            · refine am_r_iconst (pc' := 53) rfl rfl ?_
              refine am_r_zret rfl rfl (by first | exact Or.inr rfl | exact Or.inl rfl | exact z_b_01 _ | assumption) ?_
              exact hq.2 (by rw [f_all_f (p := g_qo σ s f0 i) (by unfold g_qo; rw [decide_eq_true_eq]; exact fun q => q ⟨by omega, by omega, h49⟩)]; decide)
  have hdone : ∀ i : Int, f_all (g_qb σ s f0) i 0 = true := fun _ => rfl
  have hl : ∀ (k : Nat) (i : Int) (w5 : Value), (0 ≤ i ∧ i + k = s_n σ) → (Q (z_b (f_all (g_qb σ s f0) i k = true)) M) → am_rw sL xs d am_pX11_isQuiet 2 3 [.ref 53, .int (z_I s), .long (z_L f0), .null, .int (z_I i), w5] [] M (am_pi Q) := by
    intro k
    induction k with
    | zero =>
      intro i w5 hk hq
      refine am_r_iload4 (pc' := 5) rfl rfl ?_
      refine am_r_aload0 (pc' := 6) rfl rfl ?_
      refine am_r_getIv (f := 6) (pc' := 9) rfl rfl rfl (sm_n hM) ?_
      refine am_r_icmp_ge (pt := 66) (pf := 12) rfl rfl rfl (fun h9 => ?_) (fun h9 => ?_)
      · refine am_r_iconst (pc' := 67) rfl rfl ?_
        refine am_r_zret rfl rfl (by first | exact Or.inr rfl | exact Or.inl rfl | exact z_b_01 _ | assumption) ?_
        rw [z_bT (hdone _)] at hq; exact hq
      · exfalso; omega
    | succ k ih =>
      intro i w5 hk hq
      refine am_r_iload4 (pc' := 5) rfl rfl ?_
      refine am_r_aload0 (pc' := 6) rfl rfl ?_
      refine am_r_getIv (f := 6) (pc' := 9) rfl rfl rfl (sm_n hM) ?_
      refine am_r_icmp_ge (pt := 66) (pf := 12) rfl rfl rfl (fun h9 => ?_) (fun h9 => ?_)
      · exfalso; omega
      · refine am_r_iconst (pc' := 13) rfl rfl ?_
        refine am_r_istore5 (pc' := 15) rfl rfl rfl ?_
        refine hin (s_n σ).toNat i 0 (by omega) ⟨fun j2 q => ?_, fun q => ?_⟩
        · refine am_r_iinc4 (pc' := 63) rfl rfl rfl ?_
          refine am_r_goto (pc' := 3) rfl rfl ?_
          exact ih _ _ (by omega) (by rw [f_all_t (p := g_qb σ s f0) q] at hq; exact hq)
        · rw [f_all_f (p := g_qb σ s f0) q, z_bF (by decide)] at hq; exact hq
  refine am_bi_of (P := am_pX11_isQuiet) (rt := 2) (nL := 6) (Nat.le_of_ble_eq_true rfl) rfl (Nat.le_of_ble_eq_true rfl) rfl rfl rfl ?_
  refine am_r_iconst (pc' := 1) rfl rfl ?_
  refine am_r_istore4 (pc' := 3) rfl rfl rfl ?_
  exact hl (s_n σ).toNat 0 _ (by omega) hq
theorem m_sign {sL : Nat} {xs : Nat → Int32} {d : Nat} {M : Am_M} {Q : Int32 → Am_M → Prop} (hd : 5 ≤ d) {σ : Sg} (hM : SM M σ) {s : Int} (hs : -2147483648 ≤ s ∧ s < 2147483648) {f0 : Int} (hf0 : -2147483648 ≤ f0 ∧ f0 < 2147483648) {n : Int} (hn : -2147483648 ≤ n ∧ n < 2147483648)  (hq : Q (z_I (r_sign σ s f0 n (g_quiet σ s) (100000 - f0).toNat)) M) : am_bi sL xs d 205 [.ref 53, .int (z_I s), .int (z_I f0), .int (z_I n)] M Q := by
  obtain ⟨d, rfl⟩ : ∃ e, d = e + 1 := ⟨d - 1, by omega⟩
  have hn := sb_nb hM.1
  have hnr := sb_nrb hM.1
  have hp8 := z_pow8 hn
  have hl : ∀ (k : Nat) (i c : Int), (0 ≤ i ∧ i + k = n ∧ n ≤ 999 ∧ ((0 ≤ s ∧ s < 256 ∧ s < 2 ^ (s_n σ).toNat) ∧ (0 ≤ f0 ∧ f0 ≤ 99999))) → (Q (z_I (c + f_cnt (g_quiet σ s) (f0 + i) k)) M) → am_rw sL xs d am_pX11_sign 1 39 [.ref 53, .int (z_I s), .int (z_I f0), .int (z_I n), .int (z_I c), .int (z_I i)] [] M (am_pi Q) := by
    intro k
    induction k with
    | zero =>
      intro i c hk hq
      refine am_r_iload5 (pc' := 41) rfl rfl ?_
      refine am_r_iload3 (pc' := 42) rfl rfl ?_
      refine am_r_icmp_ge (pt := 74) (pf := 45) rfl rfl rfl (fun h42 => ?_) (fun h42 => ?_)
      · refine am_r_iload4 (pc' := 76) rfl rfl ?_
        refine am_r_iret rfl rfl ?_
        rw [f_cnt_0] at hq; exact hq
      · exfalso; omega
    | succ k ih =>
      intro i c hk hq
      refine am_r_iload5 (pc' := 41) rfl rfl ?_
      refine am_r_iload3 (pc' := 42) rfl rfl ?_
      refine am_r_icmp_ge (pt := 74) (pf := 45) rfl rfl rfl (fun h42 => ?_) (fun h42 => ?_)
      · exfalso; omega
      · refine am_r_iload4 (pc' := 47) rfl rfl ?_
        refine am_r_aload0 (pc' := 48) rfl rfl ?_
        refine am_r_iload1 (pc' := 49) rfl rfl ?_
        refine am_r_iload2 (pc' := 50) rfl rfl ?_
        refine am_r_iload5 (pc' := 52) rfl rfl ?_
        refine am_r_iadd (pc' := 53) rfl rfl ?_
        refine am_r_i2l (pc' := 54) rfl rfl ?_
        refine am_r_invI2 (pc' := 57) rfl rfl rfl (Nat.le_of_ble_eq_true rfl) (m_isQuiet (by omega) hM (by omega) (by omega) ?_)
        refine am_r_if_eqB (pt := 64) (pf := 60) rfl rfl rfl (fun h57 => ?_) (fun h57 => ?_)
        · refine am_r_iconst (pc' := 65) rfl rfl ?_
          refine am_r_iadd (pc' := 66) rfl rfl ?_
          refine am_r_istore4 (pc' := 68) rfl rfl rfl ?_
          refine am_r_iinc5 (pc' := 71) rfl rfl rfl ?_
          refine am_r_goto (pc' := 39) rfl rfl ?_
          first | (rw [f_cnt_t (p := g_quiet σ s) h57, Int.add_assoc f0] at hq; exact ih _ _ (by omega) hq) | (rw [f_cnt_f (p := g_quiet σ s) h57, Int.add_assoc f0] at hq; rw [Int.add_zero]; exact ih _ _ (by omega) hq)
        · refine am_r_iconst (pc' := 61) rfl rfl ?_
          refine am_r_goto (pc' := 65) rfl rfl ?_
          refine am_r_iadd (pc' := 66) rfl rfl ?_
          refine am_r_istore4 (pc' := 68) rfl rfl rfl ?_
          refine am_r_iinc5 (pc' := 71) rfl rfl rfl ?_
          refine am_r_goto (pc' := 39) rfl rfl ?_
          first | (rw [f_cnt_t (p := g_quiet σ s) h57, Int.add_assoc f0] at hq; exact ih _ _ (by omega) hq) | (rw [f_cnt_f (p := g_quiet σ s) h57, Int.add_assoc f0] at hq; rw [Int.add_zero]; exact ih _ _ (by omega) hq)
  have hm : ∀ (k : Nat) (i : Int) (w5 : Value), (f0 ≤ i ∧ i + k = 100000 ∧ ((0 ≤ s ∧ s < 256 ∧ s < 2 ^ (s_n σ).toNat) ∧ (0 ≤ f0 ∧ f0 ≤ 99999))) → (Q (z_I (f_first (g_quiet σ s) i k)) M) → am_rw sL xs d am_pX11_sign 1 80 [.ref 53, .int (z_I s), .int (z_I f0), .int (z_I n), .int (z_I i), w5] [] M (am_pi Q) := by
    intro k
    induction k with
    | zero =>
      intro i w5 hk hq
      refine am_r_iload4 (pc' := 82) rfl rfl ?_
      refine am_r_iconst (pc' := 84) rfl rfl ?_
      refine am_r_icmp_gt (pt := 107) (pf := 87) rfl rfl rfl (fun h84 => ?_) (fun h84 => ?_)
      · refine am_r_iconst (pc' := 109) rfl rfl ?_
        refine am_r_iret rfl rfl ?_
        exact hq
      · exfalso; omega
    | succ k ih =>
      intro i w5 hk hq
      refine am_r_iload4 (pc' := 82) rfl rfl ?_
      refine am_r_iconst (pc' := 84) rfl rfl ?_
      refine am_r_icmp_gt (pt := 107) (pf := 87) rfl rfl rfl (fun h84 => ?_) (fun h84 => ?_)
      · exfalso; omega
      · refine am_r_aload0 (pc' := 88) rfl rfl ?_
        refine am_r_iload1 (pc' := 89) rfl rfl ?_
        refine am_r_iload4 (pc' := 91) rfl rfl ?_
        refine am_r_i2l (pc' := 92) rfl rfl ?_
        refine am_r_invI2 (pc' := 95) rfl rfl rfl (Nat.le_of_ble_eq_true rfl) (m_isQuiet (by omega) hM (by omega) (by omega) ?_)
        refine am_r_if_eqB (pt := 101) (pf := 98) rfl rfl rfl (fun h95 => ?_) (fun h95 => ?_)
        · refine am_r_iinc4 (pc' := 104) rfl rfl rfl ?_
          refine am_r_goto (pc' := 80) rfl rfl ?_
          rw [f_first_f (p := g_quiet σ s) h95] at hq; exact ih _ _ (by omega) hq
        · refine am_r_iload4 (pc' := 100) rfl rfl ?_
          refine am_r_iret rfl rfl ?_
          rw [f_first_t (p := g_quiet σ s) h95] at hq; exact hq
  refine am_bi_of (P := am_pX11_sign) (rt := 1) (nL := 6) (Nat.le_of_ble_eq_true rfl) rfl (Nat.le_of_ble_eq_true rfl) rfl rfl rfl ?_
  refine am_r_aload0 (pc' := 1) rfl rfl ?_
  refine am_r_iload1 (pc' := 2) rfl rfl ?_
  refine am_r_invI1 (pc' := 5) rfl rfl rfl (Nat.le_of_ble_eq_true rfl) (m_isSet (by omega) hM (by omega) ?_)
  refine am_r_if_eqB (pt := 27) (pf := 8) rfl rfl rfl (fun h5 => ?_) (fun h5 => ?_)
  · refine am_r_iconst (pc' := 28) rfl rfl ?_
    refine am_r_iret rfl rfl ?_
    refine am_q ?_ hq
    unfold r_sign
    (repeat (first | rw [if_pos (by omega)] | rw [if_neg (by omega)]))
    all_goals first | rfl | omega
  · refine am_r_iload2 (pc' := 9) rfl rfl ?_
    refine am_r_ivsI1 (pc' := 12) rfl rfl rfl (Nat.le_of_ble_eq_true rfl) (m_isDay (by omega) (by omega) ?_)
    refine am_r_if_eqB (pt := 27) (pf := 15) rfl rfl rfl (fun h12 => ?_) (fun h12 => ?_)
    · refine am_r_iconst (pc' := 28) rfl rfl ?_
      refine am_r_iret rfl rfl ?_
      refine am_q ?_ hq
      unfold r_sign
      (repeat (first | rw [if_pos (by omega)] | rw [if_neg (by omega)]))
      all_goals first | rfl | omega
    · refine am_r_iload3 (pc' := 16) rfl rfl ?_
      refine am_r_i2l (pc' := 17) rfl rfl ?_
      refine am_r_lconst (z := 0) (pc' := 18) rfl rfl rfl ?_
      refine am_r_lconst (z := 999) (pc' := 21) rfl rfl rfl ?_
      refine am_r_ivsI3 (pc' := 24) rfl rfl rfl (Nat.le_of_ble_eq_true rfl) (m_within (by omega) (by omega) (by omega) (by omega) ?_)
      refine am_r_if_neB (pt := 29) (pf := 27) rfl rfl rfl (fun h24 => ?_) (fun h24 => ?_)
      · refine am_r_iload3 (pc' := 30) rfl rfl ?_
        refine am_r_if_le (pt := 77) (pf := 33) rfl rfl rfl (fun h30 => ?_) (fun h30 => ?_)
        · refine am_r_iload2 (pc' := 78) rfl rfl ?_
          refine am_r_istore4 (pc' := 80) rfl rfl rfl ?_
          exact hm (100000 - f0).toNat _ _ (by omega) (by unfold r_sign at hq; rw [if_pos (by omega), if_pos (by omega)] at hq; exact hq)
        · refine am_r_iconst (pc' := 34) rfl rfl ?_
          refine am_r_istore4 (pc' := 36) rfl rfl rfl ?_
          refine am_r_iconst (pc' := 37) rfl rfl ?_
          refine am_r_istore5 (pc' := 39) rfl rfl rfl ?_
          exact hl n.toNat 0 0 (by omega) (by unfold r_sign at hq; rw [if_pos (by omega), if_neg (by omega)] at hq; rw [Int.zero_add, Int.add_zero]; exact hq)
      · refine am_r_iconst (pc' := 28) rfl rfl ?_
        refine am_r_iret rfl rfl ?_
        refine am_q ?_ hq
        unfold r_sign
        (repeat (first | rw [if_pos (by omega)] | rw [if_neg (by omega)]))
        all_goals first | rfl | omega
theorem m_nudge {sL : Nat} {xs : Nat → Int32} {d : Nat} {M : Am_M} {Q : Int32 → Am_M → Prop} (hd : 4 ≤ d) {σ : Sg} (hM : SM M σ) {ab : Int} (hab : -2147483648 ≤ ab ∧ ab < 2147483648) {f0 : Int} (hf0 : -2147483648 ≤ f0 ∧ f0 < 2147483648)  (hq : Q (z_I (r_nudge σ ab f0 (s_rd σ (ab / 10) + 1).toNat)) M) : am_bi sL xs d 207 [.ref 53, .int (z_I ab), .int (z_I f0)] M Q := by
  obtain ⟨d, rfl⟩ : ∃ e, d = e + 1 := ⟨d - 1, by omega⟩
  have hn := sb_nb hM.1
  have hnr := sb_nrb hM.1
  have hl : ∀ (k : Nat) (v : Int), (0 ≤ v ∧ v + k = s_rd σ (ab / 10) + 1 ∧ (0 ≤ ab ∧ ab / 10 < s_n σ ∧ ab % 10 < s_n σ ∧ ab / 10 ≠ ab % 10) ∧ (0 ≤ f0 ∧ f0 ≤ 99999)) → (Q (z_I (g_nud σ (ab / 10) (ab % 10) f0 v k)) M) → am_rw sL xs d am_pX11_nudge 1 26 [.ref 53, .int (z_I ab), .int (z_I f0), .int (z_I (ab / 10)), .int (z_I v)] [] M (am_pi Q) := by
    intro k
    induction k with
    | zero =>
      intro v hk hq
      have hbb := sg_b hM.1 (a := ab / 10) (by omega)
      refine am_r_iload4 (pc' := 28) rfl rfl ?_
      refine am_r_aload0 (pc' := 29) rfl rfl ?_
      refine am_r_getR (t := 58) (pc' := 32) rfl rfl rfl ?_
      refine am_r_iload3 (pc' := 33) rfl rfl ?_
      refine am_r_iaZv (n := 8) (pc' := 34) rfl rfl rfl (by decide) (sm_rd hM (by omega)) ?_
      refine am_r_icmp_gt (pt := 83) (pf := 37) rfl rfl rfl (fun h34 => ?_) (fun h34 => ?_)
      · refine am_r_iconst (pc' := 86) rfl rfl ?_
        refine am_r_iret rfl rfl ?_
        exact hq
      · exfalso; omega
    | succ k ih =>
      intro v hk hq
      have hbb := sg_b hM.1 (a := ab / 10) (by omega)
      refine am_r_iload4 (pc' := 28) rfl rfl ?_
      refine am_r_aload0 (pc' := 29) rfl rfl ?_
      refine am_r_getR (t := 58) (pc' := 32) rfl rfl rfl ?_
      refine am_r_iload3 (pc' := 33) rfl rfl ?_
      refine am_r_iaZv (n := 8) (pc' := 34) rfl rfl rfl (by decide) (sm_rd hM (by omega)) ?_
      refine am_r_icmp_gt (pt := 83) (pf := 37) rfl rfl rfl (fun h34 => ?_) (fun h34 => ?_)
      · exfalso; omega
      · refine am_r_aload0 (pc' := 38) rfl rfl ?_
        refine am_r_iload3 (pc' := 39) rfl rfl ?_
        refine am_r_iload1 (pc' := 40) rfl rfl ?_
        refine am_r_iconst (pc' := 42) rfl rfl ?_
        refine am_r_irem (pc' := 43) rfl rfl ?_
        refine am_r_iload4 (pc' := 45) rfl rfl ?_
        refine am_r_iload2 (pc' := 46) rfl rfl ?_
        refine am_r_i2l (pc' := 47) rfl rfl ?_
        refine am_r_invI4 (pc' := 50) rfl rfl rfl (Nat.le_of_ble_eq_true rfl) (m_meetsMoved (by omega) hM (by omega) (by omega) (by omega) (by omega) ?_)
        refine am_r_if_eqB (pt := 56) (pf := 53) rfl rfl rfl (fun h50 => ?_) (fun h50 => ?_)
        · refine am_r_aload0 (pc' := 57) rfl rfl ?_
          refine am_r_iload3 (pc' := 58) rfl rfl ?_
          refine am_r_iload1 (pc' := 59) rfl rfl ?_
          refine am_r_iconst (pc' := 61) rfl rfl ?_
          refine am_r_irem (pc' := 62) rfl rfl ?_
          refine am_r_iload4 (pc' := 64) rfl rfl ?_
          refine am_r_ineg (pc' := 65) rfl rfl ?_
          refine am_r_iload2 (pc' := 66) rfl rfl ?_
          refine am_r_i2l (pc' := 67) rfl rfl ?_
          refine am_r_invI4 (pc' := 70) rfl rfl rfl (Nat.le_of_ble_eq_true rfl) (m_meetsMoved (by omega) hM (by omega) (by omega) (by omega) (by omega) ?_)
          refine am_r_if_eqB (pt := 77) (pf := 73) rfl rfl rfl (fun h70 => ?_) (fun h70 => ?_)
          · refine am_r_iinc4 (pc' := 80) rfl rfl rfl ?_
            refine am_r_goto (pc' := 26) rfl rfl ?_
            exact ih _ (by omega) (by rw [show g_nud σ (ab / 10) (ab % 10) f0 v (k + 1) = g_nud σ (ab / 10) (ab % 10) f0 (v + 1) k by (rw [g_nud, if_neg h50, if_neg h70])] at hq; exact hq)
          · refine am_r_iload4 (pc' := 75) rfl rfl ?_
            refine am_r_ineg (pc' := 76) rfl rfl ?_
            refine am_r_iret rfl rfl ?_
            rw [show g_nud σ (ab / 10) (ab % 10) f0 v (k + 1) = -v by (rw [g_nud, if_neg h50, if_pos h70])] at hq; exact hq
        · refine am_r_iload4 (pc' := 55) rfl rfl ?_
          refine am_r_iret rfl rfl ?_
          rw [show g_nud σ (ab / 10) (ab % 10) f0 v (k + 1) = v by (rw [g_nud, if_pos h50])] at hq; exact hq
  refine am_bi_of (P := am_pX11_nudge) (rt := 1) (nL := 5) (Nat.le_of_ble_eq_true rfl) rfl (Nat.le_of_ble_eq_true rfl) rfl rfl rfl ?_
  refine am_r_aload0 (pc' := 1) rfl rfl ?_
  refine am_r_iload1 (pc' := 2) rfl rfl ?_
  refine am_r_invI1 (pc' := 5) rfl rfl rfl (Nat.le_of_ble_eq_true rfl) (m_isAb (by omega) hM (by omega) ?_)
  refine am_r_if_eqB (pt := 15) (pf := 8) rfl rfl rfl (fun h5 => ?_) (fun h5 => ?_)
  · refine am_r_iconst (pc' := 17) rfl rfl ?_
    refine am_r_iret rfl rfl ?_
    refine am_q ?_ hq
    unfold r_nudge
    (repeat (first | rw [if_pos (by omega)] | rw [if_neg (by omega)]))
    all_goals first | rfl | omega
  · refine am_r_iload2 (pc' := 9) rfl rfl ?_
    refine am_r_ivsI1 (pc' := 12) rfl rfl rfl (Nat.le_of_ble_eq_true rfl) (m_isDay (by omega) (by omega) ?_)
    refine am_r_if_neB (pt := 18) (pf := 15) rfl rfl rfl (fun h12 => ?_) (fun h12 => ?_)
    · refine am_r_iload1 (pc' := 19) rfl rfl ?_
      refine am_r_iconst (pc' := 21) rfl rfl ?_
      refine am_r_idiv (pc' := 22) rfl rfl ?_
      refine am_r_istore3 (pc' := 23) rfl rfl rfl ?_
      refine am_r_iconst (pc' := 24) rfl rfl ?_
      refine am_r_istore4 (pc' := 26) rfl rfl rfl ?_
      have hbb := sg_b hM.1 (a := ab / 10) (by omega)
      exact hl (s_rd σ (ab / 10) + 1).toNat 0 (by omega) (by unfold r_nudge at hq; rw [if_pos (by omega)] at hq; exact hq)
    · refine am_r_iconst (pc' := 17) rfl rfl ?_
      refine am_r_iret rfl rfl ?_
      refine am_q ?_ hq
      unfold r_nudge
      (repeat (first | rw [if_pos (by omega)] | rw [if_neg (by omega)]))
      all_goals first | rfl | omega
theorem m_never {sL : Nat} {xs : Nat → Int32} {d : Nat} {M : Am_M} {Q : Int32 → Am_M → Prop} (hd : 4 ≤ d) {σ : Sg} (hM : SM M σ) {ab : Int} (hab : -2147483648 ≤ ab ∧ ab < 2147483648) {n : Int} (hn : -2147483648 ≤ n ∧ n < 2147483648) {w : Int} (hw : -2147483648 ≤ w ∧ w < 2147483648)  (hq : Q (z_I (r_never σ ab n w)) M) : am_bi sL xs d 208 [.ref 53, .int (z_I ab), .int (z_I n), .int (z_I w)] M Q := by
  obtain ⟨d, rfl⟩ : ∃ e, d = e + 1 := ⟨d - 1, by omega⟩
  have hn := sb_nb hM.1
  have hnr := sb_nrb hM.1
  have hrb : (0 ≤ ab ∧ ab / 10 < s_n σ ∧ ab % 10 < s_n σ ∧ ab / 10 ≠ ab % 10) → 1 ≤ s_rd σ (ab / 10) ∧ s_rd σ (ab / 10) ≤ 60 ∧ 0 ≤ s_pl σ (ab / 10) ∧ s_pl σ (ab / 10) < s_rd σ (ab / 10) := fun q => by have := sg_b hM.1 (a := ab / 10) (by omega); omega
  have hin : ∀ (k : Nat) (c f i j : Int), ((0 ≤ i ∧ i < s_rd σ (ab / 10)) ∧ ((0 ≤ ab ∧ ab / 10 < s_n σ ∧ ab % 10 < s_n σ ∧ ab / 10 ≠ ab % 10) ∧ (1 ≤ n ∧ n ≤ 999) ∧ (w = 0 ∨ w = 1)) ∧ 0 ≤ j ∧ j + k = n) → ((∀ j2 : Int, f_all (g_lnp σ (ab / 10) i (ab % 10)) j k = true → am_rw sL xs d am_pX11_never 1 108 [.ref 53, .int (z_I ab), .int (z_I n), .int (z_I w), .int (z_I (ab / 10)), .int (z_I c), .int (z_I f), .int (z_I i), .int (z_I 0), .int (z_I j2)] [] M (am_pi Q)) ∧ (∀ j2 : Int, ¬ f_all (g_lnp σ (ab / 10) i (ab % 10)) j k = true → am_rw sL xs d am_pX11_never 1 108 [.ref 53, .int (z_I ab), .int (z_I n), .int (z_I w), .int (z_I (ab / 10)), .int (z_I c), .int (z_I f), .int (z_I i), .int (z_I 1), .int (z_I j2)] [] M (am_pi Q))) → am_rw sL xs d am_pX11_never 1 66 [.ref 53, .int (z_I ab), .int (z_I n), .int (z_I w), .int (z_I (ab / 10)), .int (z_I c), .int (z_I f), .int (z_I i), .int (z_I 0), .int (z_I j)] [] M (am_pi Q) := by
    intro k
    induction k with
    | zero =>
      intro c f i j hk hq
      have hrb := hrb hk.2.1.1
      refine am_r_iload9 (pc' := 68) rfl rfl ?_
      refine am_r_iload2 (pc' := 69) rfl rfl ?_
      refine am_r_icmp_ge (pt := 108) (pf := 72) rfl rfl rfl (fun h69 => ?_) (fun h69 => ?_)
      · exact hq.1 _ rfl
      · exfalso; omega
    | succ k ih =>
      intro c f i j hk hq
      have hrb := hrb hk.2.1.1
      refine am_r_iload9 (pc' := 68) rfl rfl ?_
      refine am_r_iload2 (pc' := 69) rfl rfl ?_
      refine am_r_icmp_ge (pt := 108) (pf := 72) rfl rfl rfl (fun h69 => ?_) (fun h69 => ?_)
      · exfalso; omega
      · refine am_r_iload8 (pc' := 74) rfl rfl ?_
        refine am_r_if_ne (pt := 108) (pf := 77) rfl rfl rfl (fun h74 => ?_) (fun h74 => ?_)
        · exfalso; omega
        · refine am_r_aload0 (pc' := 78) rfl rfl ?_
          refine am_r_iload4 (pc' := 80) rfl rfl ?_
          refine am_r_iload1 (pc' := 81) rfl rfl ?_
          refine am_r_iconst (pc' := 83) rfl rfl ?_
          refine am_r_irem (pc' := 84) rfl rfl ?_
          refine am_r_iload7 (pc' := 86) rfl rfl ?_
          refine am_r_aload0 (pc' := 87) rfl rfl ?_
          refine am_r_getR (t := 54) (pc' := 90) rfl rfl rfl ?_
          refine am_r_iload4 (pc' := 92) rfl rfl ?_
          refine am_r_iaZv (n := 81) (pc' := 93) rfl rfl rfl (by decide) (sm_pl hM (by omega)) ?_
          refine am_r_isub (pc' := 94) rfl rfl ?_
          refine am_r_iload9 (pc' := 96) rfl rfl ?_
          refine am_r_i2l (pc' := 97) rfl rfl ?_
          refine am_r_invI4 (pc' := 100) rfl rfl rfl (Nat.le_of_ble_eq_true rfl) (m_meetsMoved (by omega) hM (by omega) (by omega) (by omega) (by omega) ?_)
          refine am_r_istore8 (pc' := 102) rfl rfl rfl ?_
          refine am_r_iinc9 (pc' := 105) rfl rfl rfl ?_
          refine am_r_goto (pc' := 66) rfl rfl ?_
          by_cases hc : g_mt σ (ab / 10) (i - s_pl σ (ab / 10)) (ab % 10) j = true
          · rw [z_bT hc]
            refine am_r_iload9 (pc' := 68) rfl rfl ?_
            refine am_r_iload2 (pc' := 69) rfl rfl ?_
            refine am_r_icmp_ge (pt := 108) (pf := 72) rfl rfl rfl (fun h69 => ?_) (fun h69 => ?_)
            · exact hq.2 _ (by rw [f_all_f (p := g_lnp σ (ab / 10) i (ab % 10)) (by unfold g_lnp; simp [hc])]; decide)
            · refine am_r_iload8 (pc' := 74) rfl rfl ?_
              refine am_r_if_ne (pt := 108) (pf := 77) rfl rfl rfl (fun h74 => ?_) (fun h74 => ?_)
              · exact hq.2 _ (by rw [f_all_f (p := g_lnp σ (ab / 10) i (ab % 10)) (by unfold g_lnp; simp [hc])]; decide)
              · exfalso; omega
          · rw [z_bF hc]
            exact ih _ _ _ _ (by omega) (by rw [f_all_t (p := g_lnp σ (ab / 10) i (ab % 10)) (by unfold g_lnp; simp [hc])] at hq; exact hq)
  have hl : ∀ (k : Nat) (c f i : Int) (w8 w9 : Value), (0 ≤ i ∧ i + k = s_rd σ (ab / 10) ∧ 0 ≤ c ∧ c ≤ i ∧ (c = 0 → f = -2) ∧ ((0 ≤ ab ∧ ab / 10 < s_n σ ∧ ab % 10 < s_n σ ∧ ab / 10 ≠ ab % 10) ∧ (1 ≤ n ∧ n ≤ 999) ∧ (w = 0 ∨ w = 1))) → (Q (z_I (if w = 0 then c + f_cnt (g_lon σ (ab / 10) (ab % 10) n) i k else if c = 0 then f_first (g_lon σ (ab / 10) (ab % 10) n) i k else f)) M) → am_rw sL xs d am_pX11_never 1 48 [.ref 53, .int (z_I ab), .int (z_I n), .int (z_I w), .int (z_I (ab / 10)), .int (z_I c), .int (z_I f), .int (z_I i), w8, w9] [] M (am_pi Q) := by
    intro k
    induction k with
    | zero =>
      intro c f i w8 w9 hk hq
      have hrb := hrb hk.2.2.2.2.2.1
      refine am_r_iload7 (pc' := 50) rfl rfl ?_
      refine am_r_aload0 (pc' := 51) rfl rfl ?_
      refine am_r_getR (t := 58) (pc' := 54) rfl rfl rfl ?_
      refine am_r_iload4 (pc' := 56) rfl rfl ?_
      refine am_r_iaZv (n := 8) (pc' := 57) rfl rfl rfl (by decide) (sm_rd hM (by omega)) ?_
      refine am_r_icmp_ge (pt := 136) (pf := 60) rfl rfl rfl (fun h57 => ?_) (fun h57 => ?_)
      · refine am_r_iload3 (pc' := 137) rfl rfl ?_
        refine am_r_if_ne (pt := 145) (pf := 140) rfl rfl rfl (fun h137 => ?_) (fun h137 => ?_)
        · refine am_r_iload6 (pc' := 147) rfl rfl ?_
          refine am_r_iret rfl rfl ?_
          first | (rw [if_pos (by omega), f_cnt_0] at hq; exact hq) | (rw [if_neg (by omega)] at hq; rw [(dite (c = 0) (fun q => by rw [if_pos q, hk.2.2.2.2.1 q]; rfl) (fun q => if_neg q) : (if c = 0 then f_first (g_lon σ (ab / 10) (ab % 10) n) i 0 else f) = f)] at hq; exact hq)
        · refine am_r_iload5 (pc' := 142) rfl rfl ?_
          refine am_r_goto (pc' := 147) rfl rfl ?_
          refine am_r_iret rfl rfl ?_
          first | (rw [if_pos (by omega), f_cnt_0] at hq; exact hq) | (rw [if_neg (by omega)] at hq; rw [(dite (c = 0) (fun q => by rw [if_pos q, hk.2.2.2.2.1 q]; rfl) (fun q => if_neg q) : (if c = 0 then f_first (g_lon σ (ab / 10) (ab % 10) n) i 0 else f) = f)] at hq; exact hq)
      · exfalso; omega
    | succ k ih =>
      intro c f i w8 w9 hk hq
      have hrb := hrb hk.2.2.2.2.2.1
      refine am_r_iload7 (pc' := 50) rfl rfl ?_
      refine am_r_aload0 (pc' := 51) rfl rfl ?_
      refine am_r_getR (t := 58) (pc' := 54) rfl rfl rfl ?_
      refine am_r_iload4 (pc' := 56) rfl rfl ?_
      refine am_r_iaZv (n := 8) (pc' := 57) rfl rfl rfl (by decide) (sm_rd hM (by omega)) ?_
      refine am_r_icmp_ge (pt := 136) (pf := 60) rfl rfl rfl (fun h57 => ?_) (fun h57 => ?_)
      · exfalso; omega
      · refine am_r_iconst (pc' := 61) rfl rfl ?_
        refine am_r_istore8 (pc' := 63) rfl rfl rfl ?_
        refine am_r_iconst (pc' := 64) rfl rfl ?_
        refine am_r_istore9 (pc' := 66) rfl rfl rfl ?_
        refine hin n.toNat c f i 0 (by omega) ⟨fun j2 q => ?_, fun j2 q => ?_⟩
        · refine am_r_iload8 (pc' := 110) rfl rfl ?_
          refine am_r_if_ne (pt := 130) (pf := 113) rfl rfl rfl (fun h110 => ?_) (fun h110 => ?_)
          · refine am_r_iinc7 (pc' := 133) rfl rfl rfl ?_
            refine am_r_goto (pc' := 48) rfl rfl ?_
            first | (exfalso; omega) | (refine ih _ _ _ _ _ (by omega) ?_; (repeat rw [f_cnt_t (p := g_lon σ (ab / 10) (ab % 10) n) q] at hq); (repeat rw [f_first_t (p := g_lon σ (ab / 10) (ab % 10) n) q] at hq); first | (rw [if_pos (show c = 0 by omega)] at hq; rw [if_neg (show ¬ c + 1 = 0 by omega)]; exact hq) | (rw [if_neg (show ¬ c = 0 by omega)] at hq; rw [if_neg (show ¬ c + 1 = 0 by omega)]; exact hq))
          · refine am_r_iload5 (pc' := 115) rfl rfl ?_
            refine am_r_if_ne (pt := 123) (pf := 118) rfl rfl rfl (fun h115 => ?_) (fun h115 => ?_)
            · refine am_r_iload6 (pc' := 125) rfl rfl ?_
              refine am_r_istore6 (pc' := 127) rfl rfl rfl ?_
              refine am_r_iinc5 (pc' := 130) rfl rfl rfl ?_
              refine am_r_iinc7 (pc' := 133) rfl rfl rfl ?_
              refine am_r_goto (pc' := 48) rfl rfl ?_
              first | (exfalso; omega) | (refine ih _ _ _ _ _ (by omega) ?_; (repeat rw [f_cnt_t (p := g_lon σ (ab / 10) (ab % 10) n) q] at hq); (repeat rw [f_first_t (p := g_lon σ (ab / 10) (ab % 10) n) q] at hq); first | (rw [if_pos (show c = 0 by omega)] at hq; rw [if_neg (show ¬ c + 1 = 0 by omega)]; exact hq) | (rw [if_neg (show ¬ c = 0 by omega)] at hq; rw [if_neg (show ¬ c + 1 = 0 by omega)]; exact hq))
            · refine am_r_iload7 (pc' := 120) rfl rfl ?_
              refine am_r_goto (pc' := 125) rfl rfl ?_
              refine am_r_istore6 (pc' := 127) rfl rfl rfl ?_
              refine am_r_iinc5 (pc' := 130) rfl rfl rfl ?_
              refine am_r_iinc7 (pc' := 133) rfl rfl rfl ?_
              refine am_r_goto (pc' := 48) rfl rfl ?_
              first | (exfalso; omega) | (refine ih _ _ _ _ _ (by omega) ?_; (repeat rw [f_cnt_t (p := g_lon σ (ab / 10) (ab % 10) n) q] at hq); (repeat rw [f_first_t (p := g_lon σ (ab / 10) (ab % 10) n) q] at hq); first | (rw [if_pos (show c = 0 by omega)] at hq; rw [if_neg (show ¬ c + 1 = 0 by omega)]; exact hq) | (rw [if_neg (show ¬ c = 0 by omega)] at hq; rw [if_neg (show ¬ c + 1 = 0 by omega)]; exact hq))
        · refine am_r_iload8 (pc' := 110) rfl rfl ?_
          refine am_r_if_ne (pt := 130) (pf := 113) rfl rfl rfl (fun h110 => ?_) (fun h110 => ?_)
          · refine am_r_iinc7 (pc' := 133) rfl rfl rfl ?_
            refine am_r_goto (pc' := 48) rfl rfl ?_
            refine ih _ _ _ _ _ (by omega) ?_
            (repeat rw [f_cnt_f (p := g_lon σ (ab / 10) (ab % 10) n) q] at hq)
            (repeat rw [f_first_f (p := g_lon σ (ab / 10) (ab % 10) n) q] at hq)
            exact hq
          · exfalso; omega
  refine am_bi_of (P := am_pX11_never) (rt := 1) (nL := 10) (Nat.le_of_ble_eq_true rfl) rfl (Nat.le_of_ble_eq_true rfl) rfl rfl rfl ?_
  refine am_r_aload0 (pc' := 1) rfl rfl ?_
  refine am_r_iload1 (pc' := 2) rfl rfl ?_
  refine am_r_invI1 (pc' := 5) rfl rfl rfl (Nat.le_of_ble_eq_true rfl) (m_isAb (by omega) hM (by omega) ?_)
  refine am_r_if_eqB (pt := 30) (pf := 8) rfl rfl rfl (fun h5 => ?_) (fun h5 => ?_)
  · refine am_r_iconst (pc' := 31) rfl rfl ?_
    refine am_r_iret rfl rfl ?_
    refine am_q ?_ hq
    unfold r_never
    (repeat (first | rw [if_pos (by omega)] | rw [if_neg (by omega)]))
    all_goals first | rfl | omega
  · refine am_r_iload2 (pc' := 9) rfl rfl ?_
    refine am_r_i2l (pc' := 10) rfl rfl ?_
    refine am_r_lconst (z := 1) (pc' := 11) rfl rfl rfl ?_
    refine am_r_lconst (z := 999) (pc' := 14) rfl rfl rfl ?_
    refine am_r_ivsI3 (pc' := 17) rfl rfl rfl (Nat.le_of_ble_eq_true rfl) (m_within (by omega) (by omega) (by omega) (by omega) ?_)
    refine am_r_if_eqB (pt := 30) (pf := 20) rfl rfl rfl (fun h17 => ?_) (fun h17 => ?_)
    · refine am_r_iconst (pc' := 31) rfl rfl ?_
      refine am_r_iret rfl rfl ?_
      refine am_q ?_ hq
      unfold r_never
      (repeat (first | rw [if_pos (by omega)] | rw [if_neg (by omega)]))
      all_goals first | rfl | omega
    · refine am_r_iload3 (pc' := 21) rfl rfl ?_
      refine am_r_i2l (pc' := 22) rfl rfl ?_
      refine am_r_lconst (z := 0) (pc' := 23) rfl rfl rfl ?_
      refine am_r_lconst (z := 1) (pc' := 24) rfl rfl rfl ?_
      refine am_r_ivsI3 (pc' := 27) rfl rfl rfl (Nat.le_of_ble_eq_true rfl) (m_within (by omega) (by omega) (by omega) (by omega) ?_)
      refine am_r_if_neB (pt := 32) (pf := 30) rfl rfl rfl (fun h27 => ?_) (fun h27 => ?_)
      · refine am_r_iload1 (pc' := 33) rfl rfl ?_
        refine am_r_iconst (pc' := 35) rfl rfl ?_
        refine am_r_idiv (pc' := 36) rfl rfl ?_
        refine am_r_istore4 (pc' := 38) rfl rfl rfl ?_
        refine am_r_iconst (pc' := 39) rfl rfl ?_
        refine am_r_istore5 (pc' := 41) rfl rfl rfl ?_
        refine am_r_iconst (pc' := 43) rfl rfl ?_
        refine am_r_istore6 (pc' := 45) rfl rfl rfl ?_
        refine am_r_iconst (pc' := 46) rfl rfl ?_
        refine am_r_istore7 (pc' := 48) rfl rfl rfl ?_
        have hbb := sg_b hM.1 (a := ab / 10) (by omega)
        exact hl (s_rd σ (ab / 10)).toNat 0 (-2) 0 _ _ (by refine ⟨by omega, by omega, by omega, by omega, fun _ => rfl, by omega⟩) (by unfold r_never at hq; rw [if_pos (by omega)] at hq; rw [Int.zero_add, if_pos rfl]; exact hq)
      · refine am_r_iconst (pc' := 31) rfl rfl ?_
        refine am_r_iret rfl rfl ?_
        refine am_q ?_ hq
        unfold r_never
        (repeat (first | rw [if_pos (by omega)] | rw [if_neg (by omega)]))
        all_goals first | rfl | omega
theorem m_ago {sL : Nat} {xs : Nat → Int32} {d : Nat} {M : Am_M} {Q : Int32 → Am_M → Prop} (hd : 1 ≤ d) {σ : Sg} (hM : SM M σ) {a k0 : Int} (ha : 0 ≤ a ∧ a < s_n σ) (hk : 0 ≤ k0 ∧ k0 ≤ 3600) (hq : Q (z_I (g_pl σ a (-k0))) M) : am_bi sL xs d 209 [.ref 53, .int (z_I a), .int (z_I k0)] M Q := by
  obtain ⟨d, rfl⟩ : ∃ e, d = e + 1 := ⟨d - 1, by omega⟩
  have hn := sb_nb hM.1
  have hnr := sb_nrb hM.1
  have hb := sg_b hM.1 ha
  have htm := z_tmodb (s_pl σ a - k0) (s_rd σ a) (by omega)
  refine am_bi_of (P := am_pX11_ago) (rt := 1) (nL := 3) (Nat.le_of_ble_eq_true rfl) rfl (Nat.le_of_ble_eq_true rfl) rfl rfl rfl ?_
  refine am_r_aload0 (pc' := 1) rfl rfl ?_
  refine am_r_getR (t := 54) (pc' := 4) rfl rfl rfl ?_
  refine am_r_iload1 (pc' := 5) rfl rfl ?_
  refine am_r_iaZv (n := 81) (pc' := 6) rfl rfl rfl (by decide) (sm_pl hM (by omega)) ?_
  refine am_r_iload2 (pc' := 7) rfl rfl ?_
  refine am_r_isub (pc' := 8) rfl rfl ?_
  refine am_r_aload0 (pc' := 9) rfl rfl ?_
  refine am_r_getR (t := 58) (pc' := 12) rfl rfl rfl ?_
  refine am_r_iload1 (pc' := 13) rfl rfl ?_
  refine am_r_iaZv (n := 8) (pc' := 14) rfl rfl rfl (by decide) (sm_rd hM (by omega)) ?_
  refine am_r_iremT (pc' := 15) rfl rfl ?_
  refine am_r_aload0 (pc' := 16) rfl rfl ?_
  refine am_r_getR (t := 58) (pc' := 19) rfl rfl rfl ?_
  refine am_r_iload1 (pc' := 20) rfl rfl ?_
  refine am_r_iaZv (n := 8) (pc' := 21) rfl rfl rfl (by decide) (sm_rd hM (by omega)) ?_
  refine am_r_iadd (pc' := 22) rfl rfl ?_
  refine am_r_aload0 (pc' := 23) rfl rfl ?_
  refine am_r_getR (t := 58) (pc' := 26) rfl rfl rfl ?_
  refine am_r_iload1 (pc' := 27) rfl rfl ?_
  refine am_r_iaZv (n := 8) (pc' := 28) rfl rfl rfl (by decide) (sm_rd hM (by omega)) ?_
  refine am_r_irem (pc' := 29) rfl rfl ?_
  refine am_r_iret rfl rfl ?_
  rw [z_tmodmod _ _ (by omega)]
  exact hq
theorem m_scene {sL : Nat} {xs : Nat → Int32} {d : Nat} {M : Am_M} {Q : Int32 → Am_M → Prop} (hd : 4 ≤ d) {σ : Sg} (hM : SM M σ) {ab : Int} (hab : -2147483648 ≤ ab ∧ ab < 2147483648)  (hq : Q (z_I (r_scene σ ab)) M) : am_bi sL xs d 210 [.ref 53, .int (z_I ab)] M Q := by
  obtain ⟨d, rfl⟩ : ∃ e, d = e + 1 := ⟨d - 1, by omega⟩
  have hn := sb_nb hM.1
  have hnr := sb_nrb hM.1
  have hl : ∀ (k : Nat) (i : Int), (1 ≤ i ∧ i + k = 3601 ∧ (0 ≤ ab ∧ ab / 10 < s_n σ ∧ ab % 10 < s_n σ ∧ ab / 10 ≠ ab % 10)) → (Q (z_I (f_first (g_scn σ (ab / 10) (ab % 10)) i k)) M) → am_rw sL xs d am_pX11_scene 1 12 [.ref 53, .int (z_I ab), .int (z_I i)] [] M (am_pi Q) := by
    intro k
    induction k with
    | zero =>
      intro i hk hq
      have hba := sg_b hM.1 (a := ab / 10) (by omega)
      have hbb := sg_b hM.1 (a := ab % 10) (by omega)
      refine am_r_iload2 (pc' := 13) rfl rfl ?_
      refine am_r_iconst (pc' := 16) rfl rfl ?_
      refine am_r_icmp_gt (pt := 68) (pf := 19) rfl rfl rfl (fun h16 => ?_) (fun h16 => ?_)
      · refine am_r_iconst (pc' := 70) rfl rfl ?_
        refine am_r_iret rfl rfl ?_
        exact hq
      · exfalso; omega
    | succ k ih =>
      intro i hk hq
      have hba := sg_b hM.1 (a := ab / 10) (by omega)
      have hbb := sg_b hM.1 (a := ab % 10) (by omega)
      refine am_r_iload2 (pc' := 13) rfl rfl ?_
      refine am_r_iconst (pc' := 16) rfl rfl ?_
      refine am_r_icmp_gt (pt := 68) (pf := 19) rfl rfl rfl (fun h16 => ?_) (fun h16 => ?_)
      · exfalso; omega
      · refine am_r_aload0 (pc' := 20) rfl rfl ?_
        refine am_r_iload1 (pc' := 21) rfl rfl ?_
        refine am_r_iconst (pc' := 23) rfl rfl ?_
        refine am_r_idiv (pc' := 24) rfl rfl ?_
        refine am_r_iload2 (pc' := 25) rfl rfl ?_
        refine am_r_invI2 (pc' := 28) rfl rfl rfl (Nat.le_of_ble_eq_true rfl) (m_ago (by omega) hM (by omega) (by omega) ?_)
        refine am_r_aload0 (pc' := 29) rfl rfl ?_
        refine am_r_getR (t := 58) (pc' := 32) rfl rfl rfl ?_
        refine am_r_iload1 (pc' := 33) rfl rfl ?_
        refine am_r_iconst (pc' := 35) rfl rfl ?_
        refine am_r_irem (pc' := 36) rfl rfl ?_
        refine am_r_iaZv (n := 8) (pc' := 37) rfl rfl rfl (by decide) (sm_rd hM (by omega)) ?_
        refine am_r_imul (pc' := 38) rfl rfl ?_
        refine am_r_aload0 (pc' := 39) rfl rfl ?_
        refine am_r_iload1 (pc' := 40) rfl rfl ?_
        refine am_r_iconst (pc' := 42) rfl rfl ?_
        refine am_r_irem (pc' := 43) rfl rfl ?_
        refine am_r_iload2 (pc' := 44) rfl rfl ?_
        refine am_r_invI2 (pc' := 47) rfl rfl rfl (Nat.le_of_ble_eq_true rfl) (m_ago (by omega) hM (by omega) (by omega) ?_)
        refine am_r_aload0 (pc' := 48) rfl rfl ?_
        refine am_r_getR (t := 58) (pc' := 51) rfl rfl rfl ?_
        refine am_r_iload1 (pc' := 52) rfl rfl ?_
        refine am_r_iconst (pc' := 54) rfl rfl ?_
        refine am_r_idiv (pc' := 55) rfl rfl ?_
        refine am_r_iaZv (n := 8) (pc' := 56) rfl rfl rfl (by decide) (sm_rd hM (by omega)) ?_
        refine am_r_imul (pc' := 57) rfl rfl ?_
        have hpa := g_pl_b hM.1 (a := ab / 10) (by omega) (-i)
        have hpb := g_pl_b hM.1 (a := ab % 10) (by omega) (-i)
        have hm1 : g_pl σ (ab / 10) (-i) * s_rd σ (ab % 10) ≤ 60 * 60 := Int.mul_le_mul (by omega) (by omega) (by omega) (by omega)
        have hm2 : g_pl σ (ab % 10) (-i) * s_rd σ (ab / 10) ≤ 60 * 60 := Int.mul_le_mul (by omega) (by omega) (by omega) (by omega)
        have hm3 : 0 ≤ g_pl σ (ab / 10) (-i) * s_rd σ (ab % 10) := Int.mul_nonneg (by omega) (by omega)
        have hm4 : 0 ≤ g_pl σ (ab % 10) (-i) * s_rd σ (ab / 10) := Int.mul_nonneg (by omega) (by omega)
        refine am_r_icmp_ne (pt := 62) (pf := 60) rfl rfl rfl (fun h57 => ?_) (fun h57 => ?_)
        · refine am_r_iinc2 (pc' := 65) rfl rfl rfl ?_
          refine am_r_goto (pc' := 12) rfl rfl ?_
          rw [f_first_f (p := g_scn σ (ab / 10) (ab % 10)) (by unfold g_scn; rw [decide_eq_true_eq]; exact h57)] at hq; exact ih _ (by omega) hq
        · refine am_r_iload2 (pc' := 61) rfl rfl ?_
          refine am_r_iret rfl rfl ?_
          first | (rw [f_first_t (p := g_scn σ (ab / 10) (ab % 10)) (by unfold g_scn; rw [decide_eq_true_eq]; exact h57)] at hq; exact hq) | exact hq
  refine am_bi_of (P := am_pX11_scene) (rt := 1) (nL := 3) (Nat.le_of_ble_eq_true rfl) rfl (Nat.le_of_ble_eq_true rfl) rfl rfl rfl ?_
  refine am_r_aload0 (pc' := 1) rfl rfl ?_
  refine am_r_iload1 (pc' := 2) rfl rfl ?_
  refine am_r_invI1 (pc' := 5) rfl rfl rfl (Nat.le_of_ble_eq_true rfl) (m_isAb (by omega) hM (by omega) ?_)
  refine am_r_if_neB (pt := 10) (pf := 8) rfl rfl rfl (fun h5 => ?_) (fun h5 => ?_)
  · refine am_r_iconst (pc' := 11) rfl rfl ?_
    refine am_r_istore2 (pc' := 12) rfl rfl rfl ?_
    exact hl 3600 1 (by omega) (by unfold r_scene at hq; rw [if_pos (by omega)] at hq; exact hq)
  · refine am_r_iconst (pc' := 9) rfl rfl ?_
    refine am_r_iret rfl rfl ?_
    refine am_q ?_ hq
    unfold r_scene
    (repeat (first | rw [if_pos (by omega)] | rw [if_neg (by omega)]))
    all_goals first | rfl | omega
