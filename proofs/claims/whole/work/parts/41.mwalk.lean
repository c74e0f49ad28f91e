/-! PUSHED, the reference: a day of it -/
def am_fm (M M' : Am_M) : Prop := (∀ k i, ¬ (k = 53 ∧ ((12 ≤ i ∧ i ≤ 16) ∨ i = 19 ∨ i = 20)) → ¬ (61 ≤ k ∧ k ≤ 64) → M'.1 k i = M.1 k i) ∧ M'.2 = M.2
theorem am_fm_rf (M : Am_M) : am_fm M M := ⟨fun _ _ _ _ => rfl, rfl⟩
theorem am_fm_tr {M M' M'' : Am_M} (h : am_fm M M') (h2 : am_fm M' M'') : am_fm M M'' := ⟨fun k i q r => (h2.1 k i q r).trans (h.1 k i q r), h2.2.trans h.2⟩
theorem am_fm_fw {M M' : Am_M} (h : am_fw M M') : am_fm M M' := ⟨fun k i q _ => h.1 k i (by omega), h.2⟩
theorem am_fm_up {M M' : Am_M} (h : am_fm M M') {k i : Nat} {x : Int32} (hk : (k = 53 ∧ ((12 ≤ i ∧ i ≤ 16) ∨ i = 19 ∨ i = 20)) ∨ (61 ≤ k ∧ k ≤ 64)) : am_fm M (am_upI M' k i x) := ⟨fun k' j q r => by
  show (if k' = k ∧ j = i then x else M'.1 k' j) = _
  rw [if_neg (by omega)]; exact h.1 k' j q r, h.2⟩
theorem sm_fm {M M' : Am_M} {σ : Sg} (h : SM M σ) (hf : am_fm M M') : SM M' σ := sm_fr h (fun j => hf.1 54 j (by omega) (by omega)) (by funext j; exact hf.1 58 j (by omega) (by omega)) (hf.1 53 6 (by omega) (by omega))
theorem lm_cg {M M' : Am_M} {χ : q_X} (h : LM M χ) (h1 : M'.1 53 11 = M.1 53 11) (h2 : ∀ i, M'.1 60 i = M.1 60 i) : LM M' χ := by
  cases χ with
  | none => exact h1.trans h
  | some c =>
    obtain ⟨a1, n, a2, a3, a4, a5⟩ := h
    exact ⟨a1, n, a2, a3, h1.trans a4, fun i x y => (h2 _).trans (a5 i x y)⟩
theorem lm_fm {M M' : Am_M} {χ : q_X} (h : LM M χ) (hf : am_fm M M') : LM M' χ := lm_cg h (hf.1 53 11 (by omega) (by omega)) (fun i => hf.1 60 i (by omega) (by omega))
def WM (M : Am_M) (σ : Sg) (π : y_P) : Prop := SM M σ ∧ y_B σ π ∧ ∀ a, 0 ≤ a ∧ a < s_n σ → M.1 62 a.toNat = z_I (π a)
theorem wm_pl {M : Am_M} {σ : Sg} {π : y_P} (h : WM M σ π) {a : Int} (ha : 0 ≤ a ∧ a < s_n σ) : M.1 62 a.toNat = z_I (π a) := h.2.2 a ha
theorem wm_b {M : Am_M} {σ : Sg} {π : y_P} (h : WM M σ π) {a : Int} (ha : 0 ≤ a ∧ a < s_n σ) : 0 ≤ π a ∧ π a < s_rd σ a := h.2.1 a ha
theorem wm_fm {M M' : Am_M} {σ : Sg} {π : y_P} (h : WM M σ π) (hf : am_fm M M') (h2 : M'.1 62 = M.1 62) : WM M' σ π := ⟨sm_fm h.1 hf, h.2.1, fun a ha => by rw [h2]; exact h.2.2 a ha⟩
theorem wm_u {M : Am_M} {σ : Sg} {π : y_P} (h : WM M σ π) {k i : Nat} {x : Int32} (hk : (k = 53 ∧ ((12 ≤ i ∧ i ≤ 16) ∨ i = 19 ∨ i = 20)) ∨ k = 61 ∨ k = 63 ∨ k = 64) : WM (am_upI M k i x) σ π := wm_fm h (am_fm_up (am_fm_rf M) (by omega)) (am_up_o _ _ _ _ (by omega))
theorem m_begins {sL : Nat} {xs : Nat → Int32} {d : Nat} {M : Am_M} {Q : Am_M → Prop} (hd : 1 ≤ d) {σ : Sg} (hM : SM M σ) (hq : ∀ M', am_fm M M' → WM M' σ (s_pl σ) → M'.1 53 19 = z_I 0 → M'.1 53 20 = z_I 0 → Q M') : am_bv sL xs d 211 [.ref 53] M Q := by
  obtain ⟨d, rfl⟩ : ∃ e, d = e + 1 := ⟨d - 1, by omega⟩
  have hn := sb_nb hM.1
  have hnr := sb_nrb hM.1
  have hloop : ∀ (k : Nat) (i : Int) (N : Am_M), 0 ≤ i ∧ i + k = s_n σ → am_fm M N → (∀ a, 0 ≤ a ∧ a < i → N.1 62 a.toNat = z_I (s_pl σ a)) → am_rw sL xs d am_pX11_begins 0 2 [.ref 53, .int (z_I i)] [] N (am_pv Q) := by
    intro k
    induction k with
    | zero =>
      intro i N hk hF hv
      have hM := sm_fm hM hF
      refine am_r_iload1 (pc' := 3) rfl rfl ?_
      refine am_r_aload0 (pc' := 4) rfl rfl ?_
      refine am_r_getIv (f := 6) (pc' := 7) rfl rfl rfl (sm_n hM) ?_
      refine am_r_icmp_ge (pt := 28) (pf := 10) rfl rfl rfl (fun h7 => ?_) (fun h7 => ?_)
      · refine am_r_aload0 (pc' := 29) rfl rfl ?_
        refine am_r_iconst (pc' := 30) rfl rfl ?_
        refine am_r_putI (f := 19) (pc' := 33) rfl rfl rfl (by decide) ?_
        refine am_r_aload0 (pc' := 34) rfl rfl ?_
        refine am_r_iconst (pc' := 35) rfl rfl ?_
        refine am_r_putI (f := 20) (pc' := 38) rfl rfl rfl (by decide) ?_
        refine am_r_vret rfl rfl ?_
        exact hq _ (am_fm_up (am_fm_up hF (by omega)) (by omega)) (wm_u (wm_u ⟨hM, s_pl_B hM.1, fun a ha => hv a (by omega)⟩ (by omega)) (by omega)) (by simp [am_upI]) (by simp [am_upI])
      · exfalso; omega
    | succ k ih =>
      intro i N hk hF hv
      have hM := sm_fm hM hF
      refine am_r_iload1 (pc' := 3) rfl rfl ?_
      refine am_r_aload0 (pc' := 4) rfl rfl ?_
      refine am_r_getIv (f := 6) (pc' := 7) rfl rfl rfl (sm_n hM) ?_
      refine am_r_icmp_ge (pt := 28) (pf := 10) rfl rfl rfl (fun h7 => ?_) (fun h7 => ?_)
      · exfalso; omega
      · refine am_r_aload0 (pc' := 11) rfl rfl ?_
        refine am_r_getR (t := 62) (pc' := 14) rfl rfl rfl ?_
        refine am_r_iload1 (pc' := 15) rfl rfl ?_
        refine am_r_aload0 (pc' := 16) rfl rfl ?_
        refine am_r_getR (t := 54) (pc' := 19) rfl rfl rfl ?_
        refine am_r_iload1 (pc' := 20) rfl rfl ?_
        refine am_r_iaZv (n := 81) (pc' := 21) rfl rfl rfl (by decide) (sm_pl hM (by omega)) ?_
        refine am_r_iast (n := 8) (pc' := 22) rfl rfl (rfl) (by decide) ?_
        refine am_r_iinc1 (pc' := 25) rfl rfl rfl ?_
        refine am_r_goto (pc' := 2) rfl rfl ?_
        refine ih _ _ (by omega) (am_fm_up hF (by omega)) (fun a ha => ?_)
        by_cases q : a = i
        · rw [q]; exact am_up_e _ _ _ _
        · have q2 : a.toNat ≠ i.toNat := by omega
          rw [am_up_n _ _ _ _ _ q2]
          exact hv a (by omega)
  refine am_bv_of (P := am_pX11_begins) (rt := 0) (nL := 2) (Nat.le_of_ble_eq_true rfl) rfl (Nat.le_of_ble_eq_true rfl) rfl rfl rfl ?_
  refine am_r_iconst (pc' := 1) rfl rfl ?_
  refine am_r_istore1 (pc' := 2) rfl rfl rfl ?_
  exact hloop (s_n σ).toNat 0 M (by omega) (am_fm_rf _) (fun a ha => by omega)
theorem m_apartNow {sL : Nat} {xs : Nat → Int32} {d : Nat} {M : Am_M} {Q : Int32 → Am_M → Prop} (hd : 2 ≤ d) {σ : Sg} {π : y_P} (hW : WM M σ π) {a b : Int} (ha : 0 ≤ a ∧ a < s_n σ) (hb : 0 ≤ b ∧ b < s_n σ)  (hq : Q (z_I (y_gap σ π a b)) M) : am_bi sL xs d 212 [.ref 53, .int (z_I a), .int (z_I b)] M Q := by
  obtain ⟨d, rfl⟩ : ∃ e, d = e + 1 := ⟨d - 1, by omega⟩
  have hM := hW.1
  have hn := sb_nb hM.1
  have hnr := sb_nrb hM.1
  refine am_bi_of (P := am_pX11_apartNow) (rt := 1) (nL := 3) (Nat.le_of_ble_eq_true rfl) rfl (Nat.le_of_ble_eq_true rfl) rfl rfl rfl ?_
  refine am_r_aload0 (pc' := 1) rfl rfl ?_
  refine am_r_iload1 (pc' := 2) rfl rfl ?_
  refine am_r_aload0 (pc' := 3) rfl rfl ?_
  refine am_r_getR (t := 62) (pc' := 6) rfl rfl rfl ?_
  refine am_r_iload1 (pc' := 7) rfl rfl ?_
  refine am_r_iaZv (n := 8) (pc' := 8) rfl rfl rfl (by decide) (wm_pl hW (by omega)) ?_
  refine am_r_invI2 (pc' := 11) rfl rfl rfl (Nat.le_of_ble_eq_true rfl) (m_degreesOf (by omega) hM (by omega) (wm_b hW (by omega)) ?_)
  refine am_r_aload0 (pc' := 12) rfl rfl ?_
  refine am_r_iload2 (pc' := 13) rfl rfl ?_
  refine am_r_aload0 (pc' := 14) rfl rfl ?_
  refine am_r_getR (t := 62) (pc' := 17) rfl rfl rfl ?_
  refine am_r_iload2 (pc' := 18) rfl rfl ?_
  refine am_r_iaZv (n := 8) (pc' := 19) rfl rfl rfl (by decide) (wm_pl hW (by omega)) ?_
  refine am_r_invI2 (pc' := 22) rfl rfl rfl (Nat.le_of_ble_eq_true rfl) (m_degreesOf (by omega) hM (by omega) (wm_b hW (by omega)) ?_)
  refine am_r_ivsI2 (pc' := 25) rfl rfl rfl (Nat.le_of_ble_eq_true rfl) (m_arcOf (by omega) (y_dg_b hM.1 hW.2.1 (by omega)) (y_dg_b hM.1 hW.2.1 (by omega)) ?_)
  refine am_r_iret rfl rfl ?_
  exact hq
theorem m_meetNow {sL : Nat} {xs : Nat → Int32} {d : Nat} {M : Am_M} {Q : Int32 → Am_M → Prop} (hd : 3 ≤ d) {σ : Sg} {π : y_P} (hW : WM M σ π) {a b : Int} (ha : 0 ≤ a ∧ a < s_n σ) (hb : 0 ≤ b ∧ b < s_n σ)  (hq : Q (z_b (y_mt σ π a b = true)) M) : am_bi sL xs d 213 [.ref 53, .int (z_I a), .int (z_I b)] M Q := by
  obtain ⟨d, rfl⟩ : ∃ e, d = e + 1 := ⟨d - 1, by omega⟩
  have hM := hW.1
  have hn := sb_nb hM.1
  have hnr := sb_nrb hM.1
  have hgb := y_gap_b hM.1 hW.2.1 ha hb
  refine am_bi_of (P := am_pX11_meetNow) (rt := 2) (nL := 3) (Nat.le_of_ble_eq_true rfl) rfl (Nat.le_of_ble_eq_true rfl) rfl rfl rfl ?_
  refine am_r_aload0 (pc' := 1) rfl rfl ?_
  refine am_r_iload1 (pc' := 2) rfl rfl ?_
  refine am_r_iload2 (pc' := 3) rfl rfl ?_
  refine am_r_invI2 (pc' := 6) rfl rfl rfl (Nat.le_of_ble_eq_true rfl) (m_apartNow (by omega) hW (by omega) (by omega) ?_)
  refine am_r_aload0 (pc' := 7) rfl rfl ?_
  refine am_r_getR (t := 54) (pc' := 10) rfl rfl rfl ?_
  refine am_r_iconst (pc' := 12) rfl rfl ?_
  refine am_r_iaZv (n := 81) (pc' := 13) rfl rfl rfl (by decide) (sm_nr hM) ?_
  refine am_r_icmp_gt (pt := 20) (pf := 16) rfl rfl rfl (fun h13 => ?_) (fun h13 => ?_)
  · refine am_r_iconst (pc' := 21) rfl rfl ?_
    refine am_r_zret rfl rfl (by first | exact Or.inr rfl | exact Or.inl rfl | exact z_b_01 _ | assumption) ?_
    first
    | (rw [z_bT (show y_mt σ π a b = true from decide_eq_true (by omega))] at hq; exact hq)
    | (rw [z_bF (show ¬ y_mt σ π a b = true from fun q => by have := of_decide_eq_true q; omega)] at hq; exact hq)
  · refine am_r_iconst (pc' := 17) rfl rfl ?_
    refine am_r_goto (pc' := 21) rfl rfl ?_
    refine am_r_zret rfl rfl (by first | exact Or.inr rfl | exact Or.inl rfl | exact z_b_01 _ | assumption) ?_
    first
    | (rw [z_bT (show y_mt σ π a b = true from decide_eq_true (by omega))] at hq; exact hq)
    | (rw [z_bF (show ¬ y_mt σ π a b = true from fun q => by have := of_decide_eq_true q; omega)] at hq; exact hq)
theorem m_meetsAnybody {sL : Nat} {xs : Nat → Int32} {d : Nat} {M : Am_M} {Q : Int32 → Am_M → Prop} (hd : 4 ≤ d) {σ : Sg} {π : y_P} (hW : WM M σ π) {a : Int} (ha : 0 ≤ a ∧ a < s_n σ) (hq : Q (z_b (y_bits σ π a ≠ 0)) M) : am_bi sL xs d 214 [.ref 53, .int (z_I a)] M Q := by
  obtain ⟨d, rfl⟩ : ∃ e, d = e + 1 := ⟨d - 1, by omega⟩
  have hM := hW.1
  have hn := sb_nb hM.1
  have hnr := sb_nrb hM.1
  have hb0 := y_bits_0 hM.1 π a
  have hloop : ∀ (k : Nat) (i : Int), 0 ≤ i ∧ i + k = s_n σ → (∀ b, 0 ≤ b → b < i → ¬ (b ≠ a ∧ y_mt σ π a b = true)) → am_rw sL xs d am_pX11_meetsAnybody 2 2 [.ref 53, .int (z_I a), .int (z_I i)] [] M (am_pi Q) := by
    intro k
    induction k with
    | zero =>
      intro i hk hv
      refine am_r_iload2 (pc' := 3) rfl rfl ?_
      refine am_r_aload0 (pc' := 4) rfl rfl ?_
      refine am_r_getIv (f := 6) (pc' := 7) rfl rfl rfl (sm_n hM) ?_
      refine am_r_icmp_ge (pt := 32) (pf := 10) rfl rfl rfl (fun h7 => ?_) (fun h7 => ?_)
      · refine am_r_iconst (pc' := 33) rfl rfl ?_
        refine am_r_zret rfl rfl (by first | exact Or.inr rfl | exact Or.inl rfl | exact z_b_01 _ | assumption) ?_
        rw [z_bF (show ¬ (y_bits σ π a ≠ 0) from fun q => by obtain ⟨b, b1, b2, b3, b4⟩ := hb0.mp q; exact hv b b1 (by omega) ⟨b3, b4⟩)] at hq
        exact hq
      · exfalso; omega
    | succ k ih =>
      intro i hk hv
      refine am_r_iload2 (pc' := 3) rfl rfl ?_
      refine am_r_aload0 (pc' := 4) rfl rfl ?_
      refine am_r_getIv (f := 6) (pc' := 7) rfl rfl rfl (sm_n hM) ?_
      refine am_r_icmp_ge (pt := 32) (pf := 10) rfl rfl rfl (fun h7 => ?_) (fun h7 => ?_)
      · exfalso; omega
      · refine am_r_iload2 (pc' := 11) rfl rfl ?_
        refine am_r_iload1 (pc' := 12) rfl rfl ?_
        refine am_r_icmp_eq (pt := 26) (pf := 15) rfl rfl rfl (fun h12 => ?_) (fun h12 => ?_)
        · refine am_r_iinc2 (pc' := 29) rfl rfl rfl ?_
          refine am_r_goto (pc' := 2) rfl rfl ?_
          refine ih _ (by omega) (fun b h0 h1 q => ?_)
          by_cases e : b = i
          · exact q.1 (e.trans h12)
          · exact hv b h0 (by omega) q
        · refine am_r_aload0 (pc' := 16) rfl rfl ?_
          refine am_r_iload1 (pc' := 17) rfl rfl ?_
          refine am_r_iload2 (pc' := 18) rfl rfl ?_
          refine am_r_invI2 (pc' := 21) rfl rfl rfl (Nat.le_of_ble_eq_true rfl) (m_meetNow (by omega) hW (by omega) (by omega) ?_)
          refine am_r_if_eqB (pt := 26) (pf := 24) rfl rfl rfl (fun h21 => ?_) (fun h21 => ?_)
          · refine am_r_iinc2 (pc' := 29) rfl rfl rfl ?_
            refine am_r_goto (pc' := 2) rfl rfl ?_
            refine ih _ (by omega) (fun b h0 h1 q => ?_)
            by_cases e : b = i
            · rw [e] at q; exact h21 q.2
            · exact hv b h0 (by omega) q
          · refine am_r_iconst (pc' := 25) rfl rfl ?_
            refine am_r_zret rfl rfl (by first | exact Or.inr rfl | exact Or.inl rfl | exact z_b_01 _ | assumption) ?_
            rw [z_bT (show y_bits σ π a ≠ 0 from hb0.mpr ⟨i, by omega, by omega, h12, h21⟩)] at hq
            exact hq
  refine am_bi_of (P := am_pX11_meetsAnybody) (rt := 2) (nL := 3) (Nat.le_of_ble_eq_true rfl) rfl (Nat.le_of_ble_eq_true rfl) rfl rfl rfl ?_
  refine am_r_iconst (pc' := 1) rfl rfl ?_
  refine am_r_istore2 (pc' := 2) rfl rfl rfl ?_
  exact hloop (s_n σ).toNat 0 (by omega) (fun b h0 h1 => by omega)
def am_fo (M M' : Am_M) : Prop := (∀ k i, ¬ (k = 53 ∧ (12 ≤ i ∧ i ≤ 16)) → k ≠ 61 → M'.1 k i = M.1 k i) ∧ M'.2 = M.2
theorem am_fo_rf (M : Am_M) : am_fo M M := ⟨fun _ _ _ _ => rfl, rfl⟩
theorem am_fo_fw {M M' M'' : Am_M} (h : am_fo M M') (h2 : am_fw M' M'') : am_fo M M'' := ⟨fun k i q r => (h2.1 k i (by omega)).trans (h.1 k i q r), h2.2.trans h.2⟩
theorem am_fo_up {M M' : Am_M} (h : am_fo M M') {i : Nat} {x : Int32} : am_fo M (am_upI M' 61 i x) := ⟨fun k' j q r => by
  show (if k' = 61 ∧ j = i then x else M'.1 k' j) = _
  rw [if_neg (by omega)]; exact h.1 k' j q r, h.2⟩
theorem am_fm_fo {M M' : Am_M} (h : am_fo M M') : am_fm M M' := ⟨fun k i q r => h.1 k i (by omega) (by omega), h.2⟩
theorem am_fo_62 {M M' : Am_M} (h : am_fo M M') (k : Nat) (hk : k ≠ 53 ∧ k ≠ 61) : M'.1 k = M.1 k := by funext j; exact h.1 k j (by omega) hk.2
theorem wm_fo {M M' : Am_M} {σ : Sg} {π : y_P} (h : WM M σ π) (hf : am_fo M M') : WM M' σ π := wm_fm h (am_fm_fo hf) (am_fo_62 hf 62 (by omega))
theorem m_pushOf {sL : Nat} {xs : Nat → Int32} {d : Nat} {M : Am_M} {Q : Int32 → Am_M → Prop} (hd : 53 ≤ d) {σ : Sg} {π : y_P} (hW : WM M σ π) {χ : q_X} (hL : LM M χ) {a b t : Int} (ha : 0 ≤ a ∧ a < s_n σ) (hb : 0 ≤ b ∧ b < s_n σ) (hq : ∀ M', am_fo M M' → Q (z_I (y_ps σ χ π t a b)) M') : am_bi sL xs d 215 [.ref 53, .int (z_I a), .int (z_I b), .int (z_I t)] M Q := by
  obtain ⟨d, rfl⟩ : ∃ e, d = e + 1 := ⟨d - 1, by omega⟩
  have hM := hW.1
  have hn := sb_nb hM.1
  have hnr := sb_nrb hM.1
  have hlk := sb_lk hM.1 (a := a) (b := b) (by omega) (by omega)
  have hgs := sg_b hM.1 hb
  have hlw : -81 ≤ s_lk σ a b * s_wt σ b ∧ s_lk σ a b * s_wt σ b ≤ 81 := by
    obtain ⟨j, hj⟩ : ∃ j : Nat, s_wt σ b = j := ⟨(s_wt σ b).toNat, by omega⟩
    rw [hj]
    rcases (show j = 0 ∨ j = 1 ∨ j = 2 ∨ j = 3 ∨ j = 4 ∨ j = 5 ∨ j = 6 ∨ j = 7 ∨ j = 8 ∨ j = 9 by omega) with rfl | rfl | rfl | rfl | rfl | rfl | rfl | rfl | rfl | rfl <;> omega
  have hfin : ∀ (N : Am_M) (g : Int), -2147483648 ≤ g ∧ g < 2147483648 → z_I g = g_given χ (s_lk σ a b) (s_wt σ b) (s_rd σ a) (y_gap σ π a b) t (π a) → am_fo M N → am_rw sL xs d am_pX11_pushOf 1 114 [.ref 53, .int (z_I a), .int (z_I b), .int (z_I t), .int (z_I (s_lk σ a b)), .int (z_I g)] [] N (am_pi Q) := by
    intro N g hg he hF
    have e : y_ps σ χ π t a b = max (-9) (min 9 g) := by
      unfold y_ps g_push
      rw [← he, z_toInt hg]
    refine am_r_iload5 (pc' := 116) rfl rfl ?_
    refine am_r_iconst (pc' := 118) rfl rfl ?_
    refine am_r_icmp_ge (pt := 126) (pf := 121) rfl rfl rfl (fun h118 => ?_) (fun h118 => ?_)
    · refine am_r_iload5 (pc' := 128) rfl rfl ?_
      refine am_r_iconst (pc' := 130) rfl rfl ?_
      refine am_r_icmp_le (pt := 138) (pf := 133) rfl rfl rfl (fun h130 => ?_) (fun h130 => ?_)
      · refine am_r_iload5 (pc' := 140) rfl rfl ?_
        refine am_r_iret rfl rfl ?_
        refine am_q ?_ (hq N hF)
        rw [e]
        omega
      · refine am_r_iconst (pc' := 135) rfl rfl ?_
        refine am_r_goto (pc' := 140) rfl rfl ?_
        refine am_r_iret rfl rfl ?_
        refine am_q ?_ (hq N hF)
        rw [e]
        omega
    · refine am_r_iconst (pc' := 123) rfl rfl ?_
      refine am_r_goto (pc' := 140) rfl rfl ?_
      refine am_r_iret rfl rfl ?_
      refine am_q ?_ (hq N hF)
      rw [e]
      omega
  refine am_bi_of (P := am_pX11_pushOf) (rt := 1) (nL := 6) (Nat.le_of_ble_eq_true rfl) rfl (Nat.le_of_ble_eq_true rfl) rfl rfl rfl ?_
  cases χ with
  | none =>
    have h11 : M.1 53 11 = z_I (-1) := hL
    refine am_r_aload0 (pc' := 1) rfl rfl ?_
    refine am_r_getR (t := 54) (pc' := 4) rfl rfl rfl ?_
    refine am_r_iconst (pc' := 6) rfl rfl ?_
    refine am_r_iconst (pc' := 8) rfl rfl ?_
    refine am_r_iload1 (pc' := 9) rfl rfl ?_
    refine am_r_imul (pc' := 10) rfl rfl ?_
    refine am_r_iadd (pc' := 11) rfl rfl ?_
    refine am_r_iload2 (pc' := 12) rfl rfl ?_
    refine am_r_iadd (pc' := 13) rfl rfl ?_
    refine am_r_iaZv (n := 81) (pc' := 14) rfl rfl rfl (by decide) (sm_lk hM (by omega) (by omega)) ?_
    refine am_r_istore4 (pc' := 16) rfl rfl rfl ?_
    refine am_r_iload4 (pc' := 18) rfl rfl ?_
    refine am_r_aload0 (pc' := 19) rfl rfl ?_
    refine am_r_getR (t := 54) (pc' := 22) rfl rfl rfl ?_
    refine am_r_iconst (pc' := 24) rfl rfl ?_
    refine am_r_iload2 (pc' := 25) rfl rfl ?_
    refine am_r_iadd (pc' := 26) rfl rfl ?_
    refine am_r_iaZv (n := 81) (pc' := 27) rfl rfl rfl (by decide) (sm_wt hM (by omega)) ?_
    refine am_r_imul (pc' := 28) rfl rfl ?_
    refine am_r_istore5 (pc' := 30) rfl rfl rfl ?_
    refine am_r_aload0 (pc' := 31) rfl rfl ?_
    refine am_r_getIv (f := 11) (pc' := 34) rfl rfl rfl (h11) ?_
    refine am_r_if_lt (pt := 114) (pf := 37) rfl rfl rfl (fun h34 => ?_) (fun h34 => ?_)
    · exact hfin M _ (by omega) rfl (am_fo_rf M)
    · exfalso; omega
  | some c =>
    obtain ⟨hgd, n, hnb, hc, hn2, hsrc⟩ := id hL
    refine am_r_aload0 (pc' := 1) rfl rfl ?_
    refine am_r_getR (t := 54) (pc' := 4) rfl rfl rfl ?_
    refine am_r_iconst (pc' := 6) rfl rfl ?_
    refine am_r_iconst (pc' := 8) rfl rfl ?_
    refine am_r_iload1 (pc' := 9) rfl rfl ?_
    refine am_r_imul (pc' := 10) rfl rfl ?_
    refine am_r_iadd (pc' := 11) rfl rfl ?_
    refine am_r_iload2 (pc' := 12) rfl rfl ?_
    refine am_r_iadd (pc' := 13) rfl rfl ?_
    refine am_r_iaZv (n := 81) (pc' := 14) rfl rfl rfl (by decide) (sm_lk hM (by omega) (by omega)) ?_
    refine am_r_istore4 (pc' := 16) rfl rfl rfl ?_
    refine am_r_iload4 (pc' := 18) rfl rfl ?_
    refine am_r_aload0 (pc' := 19) rfl rfl ?_
    refine am_r_getR (t := 54) (pc' := 22) rfl rfl rfl ?_
    refine am_r_iconst (pc' := 24) rfl rfl ?_
    refine am_r_iload2 (pc' := 25) rfl rfl ?_
    refine am_r_iadd (pc' := 26) rfl rfl ?_
    refine am_r_iaZv (n := 81) (pc' := 27) rfl rfl rfl (by decide) (sm_wt hM (by omega)) ?_
    refine am_r_imul (pc' := 28) rfl rfl ?_
    refine am_r_istore5 (pc' := 30) rfl rfl rfl ?_
    refine am_r_aload0 (pc' := 31) rfl rfl ?_
    refine am_r_getIv (f := 11) (pc' := 34) rfl rfl rfl (hn2) ?_
    refine am_r_if_lt (pt := 114) (pf := 37) rfl rfl rfl (fun h34 => ?_) (fun h34 => ?_)
    · first
      | (exfalso; omega)
      | exact hfin M4 g hg eg2.symm (am_fo_fw (am_fo_up (am_fo_up (am_fo_up (am_fo_up (am_fo_up (am_fo_up (am_fo_rf M))))))) hf4)
    · refine am_r_aload0 (pc' := 38) rfl rfl ?_
      refine am_r_getR (t := 61) (pc' := 41) rfl rfl rfl ?_
      refine am_r_iconst (pc' := 42) rfl rfl ?_
      refine am_r_iload4 (pc' := 44) rfl rfl ?_
      refine am_r_iast (n := 6) (pc' := 45) rfl rfl (rfl) (by decide) ?_
      refine am_r_aload0 (pc' := 46) rfl rfl ?_
      refine am_r_getR (t := 61) (pc' := 49) rfl rfl rfl ?_
      refine am_r_iconst (pc' := 50) rfl rfl ?_
      refine am_r_aload0 (pc' := 51) rfl rfl ?_
      refine am_r_getR (t := 54) (pc' := 54) rfl rfl rfl ?_
      refine am_r_iconst (pc' := 56) rfl rfl ?_
      refine am_r_iload2 (pc' := 57) rfl rfl ?_
      refine am_r_iadd (pc' := 58) rfl rfl ?_
      refine am_r_iaZv (n := 81) (pc' := 59) rfl rfl rfl (by decide) (show _ = z_I (s_wt σ b) by simpa [am_upI] using sm_wt hM (a := b) (by omega)) ?_
      refine am_r_iast (n := 6) (pc' := 60) rfl rfl (rfl) (by decide) ?_
      refine am_r_aload0 (pc' := 61) rfl rfl ?_
      refine am_r_getR (t := 61) (pc' := 64) rfl rfl rfl ?_
      refine am_r_iconst (pc' := 65) rfl rfl ?_
      refine am_r_aload0 (pc' := 66) rfl rfl ?_
      refine am_r_getR (t := 58) (pc' := 69) rfl rfl rfl ?_
      refine am_r_iload1 (pc' := 70) rfl rfl ?_
      refine am_r_iaZv (n := 8) (pc' := 71) rfl rfl rfl (by decide) (show _ = z_I (s_rd σ a) by simpa [am_upI] using sm_rd hM (a := a) (by omega)) ?_
      refine am_r_iast (n := 6) (pc' := 72) rfl rfl (rfl) (by decide) ?_
      refine am_r_aload0 (pc' := 73) rfl rfl ?_
      refine am_r_getR (t := 61) (pc' := 76) rfl rfl rfl ?_
      refine am_r_iconst (pc' := 77) rfl rfl ?_
      refine am_r_aload0 (pc' := 78) rfl rfl ?_
      refine am_r_iload1 (pc' := 79) rfl rfl ?_
      refine am_r_iload2 (pc' := 80) rfl rfl ?_
      refine am_r_invI2 (pc' := 83) rfl rfl rfl (Nat.le_of_ble_eq_true rfl) (m_apartNow (by omega) (wm_u (wm_u (wm_u hW (by omega)) (by omega)) (by omega)) (by omega) (by omega) ?_)
      refine am_r_iast (n := 6) (pc' := 84) rfl rfl (rfl) (by decide) ?_
      refine am_r_aload0 (pc' := 85) rfl rfl ?_
      refine am_r_getR (t := 61) (pc' := 88) rfl rfl rfl ?_
      refine am_r_iconst (pc' := 89) rfl rfl ?_
      refine am_r_iload3 (pc' := 90) rfl rfl ?_
      refine am_r_iast (n := 6) (pc' := 91) rfl rfl (rfl) (by decide) ?_
      refine am_r_aload0 (pc' := 92) rfl rfl ?_
      refine am_r_getR (t := 61) (pc' := 95) rfl rfl rfl ?_
      refine am_r_iconst (pc' := 96) rfl rfl ?_
      refine am_r_aload0 (pc' := 97) rfl rfl ?_
      refine am_r_getR (t := 62) (pc' := 100) rfl rfl rfl ?_
      refine am_r_iload1 (pc' := 101) rfl rfl ?_
      refine am_r_iaZv (n := 8) (pc' := 102) rfl rfl rfl (by decide) (show _ = z_I (π a) by simpa [am_upI] using wm_pl hW (a := a) (by omega)) ?_
      refine am_r_iast (n := 6) (pc' := 103) rfl rfl (rfl) (by decide) ?_
      refine am_r_aload0 (pc' := 104) rfl rfl ?_
      refine am_r_iconst (pc' := 105) rfl rfl ?_
      refine am_r_aload0 (pc' := 106) rfl rfl ?_
      refine am_r_getIv (f := 11) (pc' := 109) rfl rfl rfl (show _ = z_I n by simpa [am_upI] using hn2) ?_
      refine am_r_invI2 (pc' := 112) rfl rfl rfl (Nat.le_of_ble_eq_true rfl) (m_workOut (c := c) (ν := q_n6 (s_lk σ a b) (s_wt σ b) (s_rd σ a) (y_gap σ π a b) t (π a)) (by omega) hnb hc (Or.inr ⟨rfl, fun i x y => by have := hsrc i x y; simpa [am_upI] using this⟩) (fun k x y => ?_) ?_ ?_)
      · rcases (show k = 0 ∨ k = 1 ∨ k = 2 ∨ k = 3 ∨ k = 4 ∨ k = 5 by omega) with rfl | rfl | rfl | rfl | rfl | rfl <;> simp [am_upI] <;> rfl
      · intro M4 hf4 eg ef
        obtain ⟨g, hg, eg2⟩ := z_of (((q_all c).2.2.2 (q_n6 (s_lk σ a b) (s_wt σ b) (s_rd σ a) (y_gap σ π a b) t (π a))).getD (z_I 0))
        rw [eg2]
        refine am_r_istore5 (pc' := 114) rfl rfl rfl ?_
        first
        | (exfalso; omega)
        | exact hfin M4 g hg eg2.symm (am_fo_fw (am_fo_up (am_fo_up (am_fo_up (am_fo_up (am_fo_up (am_fo_up (am_fo_rf M))))))) hf4)
      · intro M4 x4 hf4 eg e0 e1 ef
        rw [hgd] at eg
        exact absurd eg (by decide)
theorem m_passes {sL : Nat} {xs : Nat → Int32} {d : Nat} {M : Am_M} {Q : Am_M → Prop} (hd : 54 ≤ d) {σ : Sg} {π : y_P} (hW : WM M σ π) {χ : q_X} (hL : LM M χ) {t p m : Int} (h19 : M.1 53 19 = z_I p) (h20 : M.1 53 20 = z_I m) (hq : ∀ M', am_fm M M' → M'.1 64 = M.1 64 → WM M' σ (y_nx σ χ π t) → M'.1 53 19 = z_I (p + y_pu σ χ π t) → M'.1 53 20 = z_I (m + y_me σ π) → Q M') : am_bv sL xs d 216 [.ref 53, .int (z_I t)] M Q := by
  obtain ⟨d, rfl⟩ : ∃ e, d = e + 1 := ⟨d - 1, by omega⟩
  have hM := hW.1
  have hn := sb_nb hM.1
  have hnr := sb_nrb hM.1
  have hin : ∀ (a : Int), 0 ≤ a ∧ a < s_n σ → ∀ (k : Nat) (b s p m : Int) (N : Am_M) (w4 : Value) (Z : Option Value → Am_M → Prop), 0 ≤ b ∧ b + k = s_n σ → am_fm M N → N.1 62 = M.1 62 → N.1 64 = M.1 64 → N.1 63 a.toNat = z_I s → N.1 53 19 = z_I p → N.1 53 20 = z_I m → (∀ (N' : Am_M) (w4' : Value), am_fm M N' → N'.1 62 = M.1 62 → N'.1 64 = M.1 64 → N'.1 63 a.toNat = z_I (s + f_sum (y_v σ χ π t a) b k) → N'.1 53 19 = z_I (p + f_sum (y_c σ χ π t a) b k) → N'.1 53 20 = z_I (m + f_sum (y_q σ π a) b k) → (∀ x, x ≠ a.toNat → N'.1 63 x = N.1 63 x) → am_rw sL xs d am_pX11_passes 0 105 [.ref 53, .int (z_I t), .int (z_I a), .int (z_I (s_n σ)), w4'] [] N' Z) → am_rw sL xs d am_pX11_passes 0 19 [.ref 53, .int (z_I t), .int (z_I a), .int (z_I b), w4] [] N Z := by
    intro a ha k
    induction k with
    | zero =>
      intro b s p m N w4 Z hk hF h62 h64 h63 h19 h20 hz
      obtain rfl : b = s_n σ := by omega
      have hW := wm_fm hW hF h62
      have hM := hW.1
      have hL := lm_fm hL hF
      refine am_r_iload3 (pc' := 20) rfl rfl ?_
      refine am_r_aload0 (pc' := 21) rfl rfl ?_
      refine am_r_getIv (f := 6) (pc' := 24) rfl rfl rfl (sm_n hM) ?_
      refine am_r_icmp_ge (pt := 105) (pf := 27) rfl rfl rfl (fun h24 => ?_) (fun h24 => ?_)
      · exact hz N w4 hF h62 h64 (by rw [f_sum_0]; exact h63) (by rw [f_sum_0]; exact h19) (by rw [f_sum_0]; exact h20) (fun _ _ => rfl)
      · exfalso; omega
    | succ k ih =>
      intro b s p m N w4 Z hk hF h62 h64 h63s h19 h20 hz
      have hW := wm_fm hW hF h62
      have hM := hW.1
      have hL := lm_fm hL hF
      refine am_r_iload3 (pc' := 20) rfl rfl ?_
      refine am_r_aload0 (pc' := 21) rfl rfl ?_
      refine am_r_getIv (f := 6) (pc' := 24) rfl rfl rfl (sm_n hM) ?_
      refine am_r_icmp_ge (pt := 105) (pf := 27) rfl rfl rfl (fun h24 => ?_) (fun h24 => ?_)
      · exfalso; omega
      · refine am_r_iload3 (pc' := 28) rfl rfl ?_
        refine am_r_iload2 (pc' := 29) rfl rfl ?_
        refine am_r_icmp_eq (pt := 99) (pf := 32) rfl rfl rfl (fun h29 => ?_) (fun h29 => ?_)
        · refine am_r_iinc3 (pc' := 102) rfl rfl rfl ?_
          refine am_r_goto (pc' := 19) rfl rfl ?_
          have e0 : ¬ (b ≠ a ∧ y_mt σ π a b = true) := fun q => q.1 h29
          refine ih _ _ _ _ N _ Z (by omega) hF h62 h64 h63s h19 h20 (fun N' w a1 a2 a3 a4 a5 a6 a7 => hz N' w a1 a2 a3 ?_ ?_ ?_ a7)
          · rw [a4, f_sum_s, show y_v σ χ π t a b = 0 from if_neg (fun q => e0 ⟨q.1, q.2⟩), Int.add_zero]
          · rw [a5, f_sum_s, show y_c σ χ π t a b = 0 from if_neg (fun q => e0 ⟨q.1, q.2.1⟩), Int.add_zero]
          · rw [a6, f_sum_s, show y_q σ π a b = 0 from if_neg (fun q => e0 ⟨by omega, q.1⟩), Int.add_zero]
        · refine am_r_aload0 (pc' := 33) rfl rfl ?_
          refine am_r_iload2 (pc' := 34) rfl rfl ?_
          refine am_r_iload3 (pc' := 35) rfl rfl ?_
          refine am_r_invI2 (pc' := 38) rfl rfl rfl (Nat.le_of_ble_eq_true rfl) (m_meetNow (by omega) hW (by omega) (by omega) ?_)
          refine am_r_if_eqB (pt := 99) (pf := 41) rfl rfl rfl (fun h38 => ?_) (fun h38 => ?_)
          · refine am_r_iinc3 (pc' := 102) rfl rfl rfl ?_
            refine am_r_goto (pc' := 19) rfl rfl ?_
            have e0 : ¬ (b ≠ a ∧ y_mt σ π a b = true) := fun q => h38 q.2
            refine ih _ _ _ _ N _ Z (by omega) hF h62 h64 h63s h19 h20 (fun N' w a1 a2 a3 a4 a5 a6 a7 => hz N' w a1 a2 a3 ?_ ?_ ?_ a7)
            · rw [a4, f_sum_s, show y_v σ χ π t a b = 0 from if_neg (fun q => e0 ⟨q.1, q.2⟩), Int.add_zero]
            · rw [a5, f_sum_s, show y_c σ χ π t a b = 0 from if_neg (fun q => e0 ⟨q.1, q.2.1⟩), Int.add_zero]
            · rw [a6, f_sum_s, show y_q σ π a b = 0 from if_neg (fun q => e0 ⟨by omega, q.1⟩), Int.add_zero]
          · refine am_r_aload0 (pc' := 42) rfl rfl ?_
            refine am_r_iload2 (pc' := 43) rfl rfl ?_
            refine am_r_iload3 (pc' := 44) rfl rfl ?_
            refine am_r_iload1 (pc' := 45) rfl rfl ?_
            refine am_r_invI3 (pc' := 48) rfl rfl rfl (Nat.le_of_ble_eq_true rfl) (m_pushOf (χ := χ) (t := t) (by omega) hW hL (by omega) (by omega) ?_)
            · intro M4 hf4
              have hpb := y_v_b σ χ π t a b
              have hpg := g_push_b χ (s_lk σ a b) (s_wt σ b) (s_rd σ a) (y_gap σ π a b) t (π a)
              have hpe : y_ps σ χ π t a b = g_push χ (s_lk σ a b) (s_wt σ b) (s_rd σ a) (y_gap σ π a b) t (π a) := rfl
              have e0 : b ≠ a ∧ y_mt σ π a b = true := ⟨h29, h38⟩
              have h19 : M4.1 53 19 = z_I p := (hf4.1 53 19 (by omega) (by omega)).trans h19
              have h20 : M4.1 53 20 = z_I m := (hf4.1 53 20 (by omega) (by omega)).trans h20
              have h63 : M4.1 63 = N.1 63 := am_fo_62 hf4 63 (by omega)
              refine am_r_istore4 (pc' := 50) rfl rfl rfl ?_
              refine am_r_aload0 (pc' := 51) rfl rfl ?_
              refine am_r_getR (t := 63) (pc' := 54) rfl rfl rfl ?_
              refine am_r_iload2 (pc' := 55) rfl rfl ?_
              refine am_r_dup2 (pc' := 56) rfl rfl rfl rfl ?_
              refine am_r_iaZv (n := 8) (pc' := 57) rfl rfl rfl (by decide) (show _ = z_I s by rw [h63]; exact h63s) ?_
              refine am_r_iload4 (pc' := 59) rfl rfl ?_
              refine am_r_iadd (pc' := 60) rfl rfl ?_
              refine am_r_iast (n := 8) (pc' := 61) rfl rfl (rfl) (by decide) ?_
              refine am_r_aload0 (pc' := 62) rfl rfl ?_
              refine am_r_dup (pc' := 63) rfl rfl rfl ?_
              refine am_r_getIv (f := 19) (pc' := 66) rfl rfl rfl (show _ = z_I p by simpa [am_upI] using h19) ?_
              refine am_r_iload4 (pc' := 68) rfl rfl ?_
              refine am_r_if_ne (pt := 75) (pf := 71) rfl rfl rfl (fun h68 => ?_) (fun h68 => ?_)
              · refine am_r_iconst (pc' := 76) rfl rfl ?_
                refine am_r_iadd (pc' := 77) rfl rfl ?_
                refine am_r_putI (f := 19) (pc' := 80) rfl rfl rfl (by decide) ?_
                refine am_r_aload0 (pc' := 81) rfl rfl ?_
                refine am_r_dup (pc' := 82) rfl rfl rfl ?_
                refine am_r_getIv (f := 20) (pc' := 85) rfl rfl rfl (show _ = z_I m by simpa [am_upI] using h20) ?_
                refine am_r_iload2 (pc' := 86) rfl rfl ?_
                refine am_r_iload3 (pc' := 87) rfl rfl ?_
                refine am_r_icmp_ge (pt := 94) (pf := 90) rfl rfl rfl (fun h87 => ?_) (fun h87 => ?_)
                · refine am_r_iconst (pc' := 95) rfl rfl ?_
                  refine am_r_iadd (pc' := 96) rfl rfl ?_
                  refine am_r_putI (f := 20) (pc' := 99) rfl rfl rfl (by decide) ?_
                  refine am_r_iinc3 (pc' := 102) rfl rfl rfl ?_
                  refine am_r_goto (pc' := 19) rfl rfl ?_
                  refine ih _ _ _ _ _ _ Z (by omega) (am_fm_up (am_fm_up (am_fm_up (am_fm_tr hF (am_fm_fo hf4)) (by omega)) (by omega)) (by omega)) ?_ ?_ (show _ = z_I (s + y_ps σ χ π t a b) by simp [am_upI]) (show _ = z_I (p + 1) by simp [am_upI]) (show _ = z_I (m + 0) by simp [am_upI]) (fun N' w a1 a2 a3 a4 a5 a6 a7 => hz N' w a1 a2 a3 ?_ ?_ ?_ (fun x hx => ?_))
                  · rw [am_up_o _ _ _ _ (by omega), am_up_o _ _ _ _ (by omega), am_up_o _ _ _ _ (by omega), am_fo_62 hf4 62 (by omega)]; exact h62
                  · rw [am_up_o _ _ _ _ (by omega), am_up_o _ _ _ _ (by omega), am_up_o _ _ _ _ (by omega), am_fo_62 hf4 64 (by omega)]; exact h64
                  · rw [a4, f_sum_s, show y_v σ χ π t a b = y_ps σ χ π t a b from if_pos e0]
                  · rw [a5, f_sum_s, show y_c σ χ π t a b = 1 from if_pos ⟨e0.1, e0.2, h68⟩]
                  · rw [a6, f_sum_s, show y_q σ π a b = 0 from if_neg (fun q => by omega)]
                  · rw [a7 x hx, am_up_o _ _ _ _ (by omega), am_up_o _ _ _ _ (by omega), am_up_n _ _ _ _ _ hx, h63]
                · refine am_r_iconst (pc' := 91) rfl rfl ?_
                  refine am_r_goto (pc' := 95) rfl rfl ?_
                  refine am_r_iadd (pc' := 96) rfl rfl ?_
                  refine am_r_putI (f := 20) (pc' := 99) rfl rfl rfl (by decide) ?_
                  refine am_r_iinc3 (pc' := 102) rfl rfl rfl ?_
                  refine am_r_goto (pc' := 19) rfl rfl ?_
                  refine ih _ _ _ _ _ _ Z (by omega) (am_fm_up (am_fm_up (am_fm_up (am_fm_tr hF (am_fm_fo hf4)) (by omega)) (by omega)) (by omega)) ?_ ?_ (show _ = z_I (s + y_ps σ χ π t a b) by simp [am_upI]) (show _ = z_I (p + 1) by simp [am_upI]) (show _ = z_I (m + 1) by simp [am_upI]) (fun N' w a1 a2 a3 a4 a5 a6 a7 => hz N' w a1 a2 a3 ?_ ?_ ?_ (fun x hx => ?_))
                  · rw [am_up_o _ _ _ _ (by omega), am_up_o _ _ _ _ (by omega), am_up_o _ _ _ _ (by omega), am_fo_62 hf4 62 (by omega)]; exact h62
                  · rw [am_up_o _ _ _ _ (by omega), am_up_o _ _ _ _ (by omega), am_up_o _ _ _ _ (by omega), am_fo_62 hf4 64 (by omega)]; exact h64
                  · rw [a4, f_sum_s, show y_v σ χ π t a b = y_ps σ χ π t a b from if_pos e0]
                  · rw [a5, f_sum_s, show y_c σ χ π t a b = 1 from if_pos ⟨e0.1, e0.2, h68⟩]
                  · rw [a6, f_sum_s, show y_q σ π a b = 1 from if_pos ⟨e0.2, h87⟩]
                  · rw [a7 x hx, am_up_o _ _ _ _ (by omega), am_up_o _ _ _ _ (by omega), am_up_n _ _ _ _ _ hx, h63]
              · refine am_r_iconst (pc' := 72) rfl rfl ?_
                refine am_r_goto (pc' := 76) rfl rfl ?_
                refine am_r_iadd (pc' := 77) rfl rfl ?_
                refine am_r_putI (f := 19) (pc' := 80) rfl rfl rfl (by decide) ?_
                refine am_r_aload0 (pc' := 81) rfl rfl ?_
                refine am_r_dup (pc' := 82) rfl rfl rfl ?_
                refine am_r_getIv (f := 20) (pc' := 85) rfl rfl rfl (show _ = z_I m by simpa [am_upI] using h20) ?_
                refine am_r_iload2 (pc' := 86) rfl rfl ?_
                refine am_r_iload3 (pc' := 87) rfl rfl ?_
                refine am_r_icmp_ge (pt := 94) (pf := 90) rfl rfl rfl (fun h87 => ?_) (fun h87 => ?_)
                · refine am_r_iconst (pc' := 95) rfl rfl ?_
                  refine am_r_iadd (pc' := 96) rfl rfl ?_
                  refine am_r_putI (f := 20) (pc' := 99) rfl rfl rfl (by decide) ?_
                  refine am_r_iinc3 (pc' := 102) rfl rfl rfl ?_
                  refine am_r_goto (pc' := 19) rfl rfl ?_
                  refine ih _ _ _ _ _ _ Z (by omega) (am_fm_up (am_fm_up (am_fm_up (am_fm_tr hF (am_fm_fo hf4)) (by omega)) (by omega)) (by omega)) ?_ ?_ (show _ = z_I (s + y_ps σ χ π t a b) by simp [am_upI]) (show _ = z_I (p + 0) by simp [am_upI]) (show _ = z_I (m + 0) by simp [am_upI]) (fun N' w a1 a2 a3 a4 a5 a6 a7 => hz N' w a1 a2 a3 ?_ ?_ ?_ (fun x hx => ?_))
                  · rw [am_up_o _ _ _ _ (by omega), am_up_o _ _ _ _ (by omega), am_up_o _ _ _ _ (by omega), am_fo_62 hf4 62 (by omega)]; exact h62
                  · rw [am_up_o _ _ _ _ (by omega), am_up_o _ _ _ _ (by omega), am_up_o _ _ _ _ (by omega), am_fo_62 hf4 64 (by omega)]; exact h64
                  · rw [a4, f_sum_s, show y_v σ χ π t a b = y_ps σ χ π t a b from if_pos e0]
                  · rw [a5, f_sum_s, show y_c σ χ π t a b = 0 from if_neg (fun q => q.2.2 h68)]
                  · rw [a6, f_sum_s, show y_q σ π a b = 0 from if_neg (fun q => by omega)]
                  · rw [a7 x hx, am_up_o _ _ _ _ (by omega), am_up_o _ _ _ _ (by omega), am_up_n _ _ _ _ _ hx, h63]
                · refine am_r_iconst (pc' := 91) rfl rfl ?_
                  refine am_r_goto (pc' := 95) rfl rfl ?_
                  refine am_r_iadd (pc' := 96) rfl rfl ?_
                  refine am_r_putI (f := 20) (pc' := 99) rfl rfl rfl (by decide) ?_
                  refine am_r_iinc3 (pc' := 102) rfl rfl rfl ?_
                  refine am_r_goto (pc' := 19) rfl rfl ?_
                  refine ih _ _ _ _ _ _ Z (by omega) (am_fm_up (am_fm_up (am_fm_up (am_fm_tr hF (am_fm_fo hf4)) (by omega)) (by omega)) (by omega)) ?_ ?_ (show _ = z_I (s + y_ps σ χ π t a b) by simp [am_upI]) (show _ = z_I (p + 0) by simp [am_upI]) (show _ = z_I (m + 1) by simp [am_upI]) (fun N' w a1 a2 a3 a4 a5 a6 a7 => hz N' w a1 a2 a3 ?_ ?_ ?_ (fun x hx => ?_))
                  · rw [am_up_o _ _ _ _ (by omega), am_up_o _ _ _ _ (by omega), am_up_o _ _ _ _ (by omega), am_fo_62 hf4 62 (by omega)]; exact h62
                  · rw [am_up_o _ _ _ _ (by omega), am_up_o _ _ _ _ (by omega), am_up_o _ _ _ _ (by omega), am_fo_62 hf4 64 (by omega)]; exact h64
                  · rw [a4, f_sum_s, show y_v σ χ π t a b = y_ps σ χ π t a b from if_pos e0]
                  · rw [a5, f_sum_s, show y_c σ χ π t a b = 0 from if_neg (fun q => q.2.2 h68)]
                  · rw [a6, f_sum_s, show y_q σ π a b = 1 from if_pos ⟨e0.2, h87⟩]
                  · rw [a7 x hx, am_up_o _ _ _ _ (by omega), am_up_o _ _ _ _ (by omega), am_up_n _ _ _ _ _ hx, h63]
  have hlast : ∀ (k : Nat) (i : Int) (N : Am_M) (w3 w4 : Value), 0 ≤ i ∧ i + k = s_n σ → am_fm M N → N.1 64 = M.1 64 → (∀ x, 0 ≤ x ∧ x < s_n σ → N.1 63 x.toNat = z_I (1 + y_sum σ χ π t x)) → (∀ x, 0 ≤ x ∧ x < s_n σ → N.1 62 x.toNat = z_I (if x < i then y_nx σ χ π t x else π x)) → N.1 53 19 = z_I (p + y_pu σ χ π t) → N.1 53 20 = z_I (m + y_me σ π) → am_rw sL xs d am_pX11_passes 0 113 [.ref 53, .int (z_I t), .int (z_I i), w3, w4] [] N (am_pv Q) := by
    intro k
    induction k with
    | zero =>
      intro i N w3 w4 hk hF h64 h63 h62 h19 h20
      have hM := sm_fm hM hF
      refine am_r_iload2 (pc' := 114) rfl rfl ?_
      refine am_r_aload0 (pc' := 115) rfl rfl ?_
      refine am_r_getIv (f := 6) (pc' := 118) rfl rfl rfl (sm_n hM) ?_
      refine am_r_icmp_ge (pt := 167) (pf := 121) rfl rfl rfl (fun h118 => ?_) (fun h118 => ?_)
      · refine am_r_vret rfl rfl ?_
        exact hq N hF h64 ⟨hM, y_nx_B hM.1 χ π t, fun x hx => (h62 x hx).trans (by rw [if_pos (by omega)])⟩ h19 h20
      · exfalso; omega
    | succ k ih =>
      intro i N w3 w4 hk hF h64 h63 h62 h19 h20
      have hM := sm_fm hM hF
      have hsb := y_sum_b hM.1 χ π t i
      have hgs := sg_b hM.1 (a := i) (by omega)
      have hpi := hW.2.1 i (by omega)
      have htm := z_tmodb (π i + (1 + y_sum σ χ π t i)) (s_rd σ i) (by omega)
      refine am_r_iload2 (pc' := 114) rfl rfl ?_
      refine am_r_aload0 (pc' := 115) rfl rfl ?_
      refine am_r_getIv (f := 6) (pc' := 118) rfl rfl rfl (sm_n hM) ?_
      refine am_r_icmp_ge (pt := 167) (pf := 121) rfl rfl rfl (fun h118 => ?_) (fun h118 => ?_)
      · exfalso; omega
      · refine am_r_aload0 (pc' := 122) rfl rfl ?_
        refine am_r_getR (t := 62) (pc' := 125) rfl rfl rfl ?_
        refine am_r_iload2 (pc' := 126) rfl rfl ?_
        refine am_r_aload0 (pc' := 127) rfl rfl ?_
        refine am_r_getR (t := 62) (pc' := 130) rfl rfl rfl ?_
        refine am_r_iload2 (pc' := 131) rfl rfl ?_
        refine am_r_iaZv (n := 8) (pc' := 132) rfl rfl rfl (by decide) ((h62 i (by omega)).trans (by rw [if_neg (by omega)])) ?_
        refine am_r_aload0 (pc' := 133) rfl rfl ?_
        refine am_r_getR (t := 63) (pc' := 136) rfl rfl rfl ?_
        refine am_r_iload2 (pc' := 137) rfl rfl ?_
        refine am_r_iaZv (n := 8) (pc' := 138) rfl rfl rfl (by decide) (h63 i (by omega)) ?_
        refine am_r_iadd (pc' := 139) rfl rfl ?_
        refine am_r_aload0 (pc' := 140) rfl rfl ?_
        refine am_r_getR (t := 58) (pc' := 143) rfl rfl rfl ?_
        refine am_r_iload2 (pc' := 144) rfl rfl ?_
        refine am_r_iaZv (n := 8) (pc' := 145) rfl rfl rfl (by decide) (sm_rd hM (by omega)) ?_
        refine am_r_iremT (pc' := 146) rfl rfl ?_
        refine am_r_aload0 (pc' := 147) rfl rfl ?_
        refine am_r_getR (t := 58) (pc' := 150) rfl rfl rfl ?_
        refine am_r_iload2 (pc' := 151) rfl rfl ?_
        refine am_r_iaZv (n := 8) (pc' := 152) rfl rfl rfl (by decide) (sm_rd hM (by omega)) ?_
        refine am_r_iadd (pc' := 153) rfl rfl ?_
        refine am_r_aload0 (pc' := 154) rfl rfl ?_
        refine am_r_getR (t := 58) (pc' := 157) rfl rfl rfl ?_
        refine am_r_iload2 (pc' := 158) rfl rfl ?_
        refine am_r_iaZv (n := 8) (pc' := 159) rfl rfl rfl (by decide) (sm_rd hM (by omega)) ?_
        refine am_r_irem (pc' := 160) rfl rfl ?_
        rw [z_tmodmod _ _ (by omega)]
        refine am_r_iast (n := 8) (pc' := 161) rfl rfl (rfl) (by decide) ?_
        refine am_r_iinc2 (pc' := 164) rfl rfl rfl ?_
        refine am_r_goto (pc' := 113) rfl rfl ?_
        refine ih _ _ _ _ (by omega) (am_fm_up hF (by omega)) ((am_up_o _ _ _ _ (by omega)).trans h64) (fun x hx => (congrFun (am_up_o _ _ _ _ (by omega)) _).trans (h63 x hx)) (fun x hx => ?_) ((congrFun (am_up_o _ _ _ _ (by omega)) _).trans h19) ((congrFun (am_up_o _ _ _ _ (by omega)) _).trans h20)
        by_cases q : x = i
        · rw [q, if_pos (by omega), show y_nx σ χ π t i = (π i + (1 + y_sum σ χ π t i)) % s_rd σ i by unfold y_nx; rw [show y_sum σ χ π t i + 1 = 1 + y_sum σ χ π t i by omega]]
          exact am_up_e _ _ _ _
        · have q2 : x.toNat ≠ i.toNat := by omega
          rw [am_up_n _ _ _ _ _ q2, h62 x hx]
          by_cases q3 : x < i
          · rw [if_pos q3, if_pos (by omega)]
          · rw [if_neg q3, if_neg (by omega)]
  have hout : ∀ (k : Nat) (a p' m' : Int) (N : Am_M) (w3 w4 : Value), 0 ≤ a ∧ a + k = s_n σ → am_fm M N → N.1 62 = M.1 62 → N.1 64 = M.1 64 → (∀ x, 0 ≤ x ∧ x < a → N.1 63 x.toNat = z_I (1 + y_sum σ χ π t x)) → N.1 53 19 = z_I p' → N.1 53 20 = z_I m' → p' + f_sum (y_cs σ χ π t) a k = p + y_pu σ χ π t → m' + f_sum (y_qs σ π) a k = m + y_me σ π → am_rw sL xs d am_pX11_passes 0 2 [.ref 53, .int (z_I t), .int (z_I a), w3, w4] [] N (am_pv Q) := by
    intro k
    induction k with
    | zero =>
      intro a p' m' N w3 w4 hk hF h62 h64 h63 h19 h20 hp hm
      have hW := wm_fm hW hF h62
      have hM := hW.1
      have hL := lm_fm hL hF
      refine am_r_iload2 (pc' := 3) rfl rfl ?_
      refine am_r_aload0 (pc' := 4) rfl rfl ?_
      refine am_r_getIv (f := 6) (pc' := 7) rfl rfl rfl (sm_n hM) ?_
      refine am_r_icmp_ge (pt := 111) (pf := 10) rfl rfl rfl (fun h7 => ?_) (fun h7 => ?_)
      · refine am_r_iconst (pc' := 112) rfl rfl ?_
        refine am_r_istore2 (pc' := 113) rfl rfl rfl ?_
        exact hlast (s_n σ).toNat 0 N _ _ (by omega) hF h64 (fun x hx => h63 x (by omega)) (fun x hx => by rw [if_neg (by omega)]; exact wm_pl hW hx) (by rw [← hp, f_sum_0]; exact h19) (by rw [← hm, f_sum_0]; exact h20)
      · exfalso; omega
    | succ k ih =>
      intro a p' m' N w3 w4 hk hF h62 h64 h63 h19 h20 hp hm
      have hW := wm_fm hW hF h62
      have hM := hW.1
      have hL := lm_fm hL hF
      refine am_r_iload2 (pc' := 3) rfl rfl ?_
      refine am_r_aload0 (pc' := 4) rfl rfl ?_
      refine am_r_getIv (f := 6) (pc' := 7) rfl rfl rfl (sm_n hM) ?_
      refine am_r_icmp_ge (pt := 111) (pf := 10) rfl rfl rfl (fun h7 => ?_) (fun h7 => ?_)
      · exfalso; omega
      · refine am_r_aload0 (pc' := 11) rfl rfl ?_
        refine am_r_getR (t := 63) (pc' := 14) rfl rfl rfl ?_
        refine am_r_iload2 (pc' := 15) rfl rfl ?_
        refine am_r_iconst (pc' := 16) rfl rfl ?_
        refine am_r_iast (n := 8) (pc' := 17) rfl rfl (rfl) (by decide) ?_
        refine am_r_iconst (pc' := 18) rfl rfl ?_
        refine am_r_istore3 (pc' := 19) rfl rfl rfl ?_
        refine hin a (by omega) (s_n σ).toNat 0 1 p' m' _ _ _ (by omega) (am_fm_up hF (by omega)) ((am_up_o _ _ _ _ (by omega)).trans h62) ((am_up_o _ _ _ _ (by omega)).trans h64) (am_up_e _ _ _ _) ((congrFun (am_up_o _ _ _ _ (by omega)) _).trans h19) ((congrFun (am_up_o _ _ _ _ (by omega)) _).trans h20) (fun N' w a1 a2 a3 a4 a5 a6 a7 => ?_)
        refine am_r_iinc2 (pc' := 108) rfl rfl rfl ?_
        refine am_r_goto (pc' := 2) rfl rfl ?_
        refine ih (a + 1) _ _ N' _ _ (by omega) a1 a2 a3 (fun x hx => ?_) a5 a6 ?_ ?_
        · by_cases q : x = a
          · rw [q]; exact a4
          · have q2 : x.toNat ≠ a.toNat := by omega
            rw [a7 _ q2, am_up_n _ _ _ _ _ q2]
            exact h63 x (by omega)
        · rw [← hp, f_sum_s]; rfl
        · rw [← hm, f_sum_s]; rfl
  refine am_bv_of (P := am_pX11_passes) (rt := 0) (nL := 5) (Nat.le_of_ble_eq_true rfl) rfl (Nat.le_of_ble_eq_true rfl) rfl rfl rfl ?_
  refine am_r_iconst (pc' := 1) rfl rfl ?_
  refine am_r_istore2 (pc' := 2) rfl rfl rfl ?_
  refine hout (s_n σ).toNat 0 p m M _ _ (by omega) (am_fm_rf M) rfl rfl (fun x hx => by omega) h19 h20 rfl rfl
