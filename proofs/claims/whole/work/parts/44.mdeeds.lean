/-! the reference: deeds, changes, bodies, the tape -/
theorem sm_plv {M : Am_M} {σ : Sg} (h : SM M σ) {a v : Int} (ha : 0 ≤ a ∧ a < s_n σ) (hv : 0 ≤ v ∧ v < s_rd σ a) : SM (am_upI M 54 a.toNat (z_I v)) (s_setPl σ a v) := by
  have h2 := sm_tell h (a := a) (w := 0) (v := v) (Or.inl ⟨rfl, ha.1, ha.2⟩) (Or.inl ⟨rfl, hv.1, hv.2⟩)
  have e : t_at a 0 = a := by unfold t_at; simp
  rw [e] at h2
  exact h2
theorem sm_pls_ext {M : Am_M} {σ : Sg} {f g : y_P} (h : SM M (s_pls σ f)) (e : ∀ a, 0 ≤ a ∧ a < s_n σ → f a = g a) : SM M (s_pls σ g) := by
  obtain ⟨h0, h1, h2, h3, h4, h5, h6⟩ := h
  refine ⟨⟨h0.1, h0.2.1, fun a ha => ?_, h0.2.2.2⟩, h1, h2, h3, fun a ha => (h4 a ha).trans (by show z_I (f a) = z_I (g a); rw [e a ha]), h5, h6⟩
  have hb := h0.2.2.1 a ha
  have e2 : s_pl (s_pls σ f) a = s_pl (s_pls σ g) a := e a ha
  rw [e2] at hb
  exact hb
theorem s_pls_s (σ : Sg) : s_pls σ (s_pl σ) = σ := rfl
theorem sm_pls_go {M : Am_M} {σ : Sg} {π : y_P} {i : Int} (h : SM M (s_pls σ (fun a => if 0 ≤ a ∧ a < i then π a else s_pl σ a))) (hi : 0 ≤ i ∧ i < s_n σ) (hp : 0 ≤ π i ∧ π i < s_rd σ i) : SM (am_upI M 54 i.toNat (z_I (π i))) (s_pls σ (fun a => if 0 ≤ a ∧ a < i + 1 then π a else s_pl σ a)) := by
  have h2 := sm_plv h (a := i) (v := π i) hi hp
  refine sm_pls_ext (f := fun a => if a = i then π i else if 0 ≤ a ∧ a < i then π a else s_pl σ a) h2 (fun a ha => ?_)
  by_cases q : a = i
  · simp only [if_pos q]
    rw [if_pos (by omega), q]
  · simp only [if_neg q]
    by_cases r : 0 ≤ a ∧ a < i
    · rw [if_pos r, if_pos (by omega)]
    · rw [if_neg r, if_neg (by omega)]
def DM (M : Am_M) (δ : Ds) (σ : Sg) : Prop := DB δ σ ∧ M.1 66 0 = z_I (d_0 δ) ∧ M.1 66 1 = z_I (d_1 δ) ∧ M.1 66 2 = z_I (d_2 δ) ∧ M.1 66 3 = z_I (d_3 δ) ∧ M.1 53 25 = z_I (if d_k δ = true then 1 else 0) ∧ (d_k δ = true → M.1 53 26 = z_I (d_n δ) ∧ M.1 68 0 = z_I (d_i δ).1 ∧ M.1 68 1 = z_I (d_i δ).2.1 ∧ M.1 68 2 = z_I (d_i δ).2.2.1 ∧ M.1 68 3 = z_I (d_i δ).2.2.2 ∧ ∀ a, 0 ≤ a ∧ a < d_n δ → M.1 67 a.toNat = z_I (d_p δ a))
theorem dm_cg {M M' : Am_M} {δ : Ds} {σ : Sg} (h : DM M δ σ) (h1 : ∀ i, M'.1 66 i = M.1 66 i) (h2 : M'.1 53 25 = M.1 53 25) (h3 : M'.1 53 26 = M.1 53 26) (h4 : ∀ i, M'.1 67 i = M.1 67 i) (h5 : ∀ i, M'.1 68 i = M.1 68 i) : DM M' δ σ := by
  unfold DM at h ⊢
  simp only [h1, h2, h3, h4, h5]
  exact h
theorem dm_sg {M : Am_M} {δ : Ds} {σ σ' : Sg} (h : DM M δ σ) (hn : s_n σ ≤ s_n σ') (hr : ∀ a, 0 ≤ a ∧ a < s_n σ → s_rd σ' a = s_rd σ a) : DM M δ σ' := ⟨fun k => ⟨⟨(h.1 k).1.1, Int.le_trans (h.1 k).1.2 hn⟩, fun a ha => by
  have h1 := (h.1 k).1
  rw [hr a (by omega)]
  exact (h.1 k).2 a ha⟩, h.2⟩
def am_fy (M M' : Am_M) : Prop := (∀ k i, ¬ (k = 53 ∧ ((12 ≤ i ∧ i ≤ 16) ∨ i = 19 ∨ i = 20)) → ¬ (61 ≤ k ∧ k ≤ 64) → k ≠ 54 → k ≠ 66 → M'.1 k i = M.1 k i) ∧ M'.2 = M.2
theorem am_fy_rf (M : Am_M) : am_fy M M := ⟨fun _ _ _ _ _ _ => rfl, rfl⟩
theorem am_fy_fm {M M' : Am_M} (h : am_fm M M') : am_fy M M' := ⟨fun k i q r _ _ => h.1 k i q r, h.2⟩
theorem am_fy_up {M M' : Am_M} (h : am_fy M M') {k i : Nat} {x : Int32} (hk : k = 54 ∨ k = 66) : am_fy M (am_upI M' k i x) := ⟨fun k' j q r s t => by
  show (if k' = k ∧ j = i then x else M'.1 k' j) = _
  rw [if_neg (by omega)]; exact h.1 k' j q r s t, h.2⟩
theorem sm_o {M : Am_M} {σ : Sg} (h : SM M σ) {k i : Nat} {x : Int32} (hk : (k ≠ 53 ∧ k ≠ 54 ∧ k ≠ 58) ∨ (k = 53 ∧ i ≠ 6)) : SM (am_upI M k i x) σ := sm_fr h (fun j => by simp only [am_upI]; rw [if_neg (by omega)]) (by funext j; simp only [am_upI]; rw [if_neg (by omega)]) (by simp only [am_upI]; rw [if_neg (by omega)])
theorem m_day {sL : Nat} {xs : Nat → Int32} {d : Nat} {M : Am_M} {Q : Int32 → Am_M → Prop} (hd : 55 ≤ d) {σ : Sg} {χ : q_X} (hM : SM M σ) (hL : LM M χ) {δ : Ds} (hD : DM M δ σ) (hq : ∀ M', am_fy M M' → SM M' (s_pls σ (y_nx σ χ (s_pl σ) 0)) → DM M' (d_day δ (y_pu σ χ (s_pl σ) 0) (y_me σ (s_pl σ))) (s_pls σ (y_nx σ χ (s_pl σ) 0)) → Q (z_I (y_pu σ χ (s_pl σ) 0)) M') : am_bi sL xs d 234 [.ref 53] M Q := by
  obtain ⟨d, rfl⟩ : ∃ e, d = e + 1 := ⟨d - 1, by omega⟩
  have hn := sb_nb hM.1
  have hnr := sb_nrb hM.1
  have hloop : ∀ (k : Nat) (i : Int) (N : Am_M), 0 ≤ i ∧ i + k = s_n σ → am_fy M N → SM N (s_pls σ (fun a => if 0 ≤ a ∧ a < i then y_nx σ χ (s_pl σ) 0 a else s_pl σ a)) → (∀ a, 0 ≤ a ∧ a < s_n σ → N.1 62 a.toNat = z_I (y_nx σ χ (s_pl σ) 0 a)) → N.1 53 19 = z_I (y_pu σ χ (s_pl σ) 0) → N.1 53 20 = z_I (y_me σ (s_pl σ)) → (∀ j, N.1 66 j = M.1 66 j) → am_rw sL xs d am_pX11_day 1 11 [.ref 53, .int (z_I i)] [] N (am_pi Q) := by
    intro k
    induction k with
    | zero =>
      intro i N hk hF hM2 hp h19 h20 h66
      have hSZ : N.1 53 6 = z_I (s_n σ) := hM2.2.1
      have hS2 : SM N (s_pls σ (y_nx σ χ (s_pl σ) 0)) := sm_pls_ext hM2 (fun a ha => if_pos (by omega))
      have f25 := hF.1 53 25 (by omega) (by omega) (by omega) (by omega)
      have f26 := hF.1 53 26 (by omega) (by omega) (by omega) (by omega)
      have f67 := fun j => hF.1 67 j (by omega) (by omega) (by omega) (by omega)
      have f68 := fun j => hF.1 68 j (by omega) (by omega) (by omega) (by omega)
      obtain ⟨d1, d2, d3, d4, d5, d6, d7⟩ := hD
      refine am_r_iload1 (pc' := 12) rfl rfl ?_
      refine am_r_aload0 (pc' := 13) rfl rfl ?_
      refine am_r_getIv (f := 6) (pc' := 16) rfl rfl rfl (hSZ) ?_
      refine am_r_icmp_ge (pt := 37) (pf := 19) rfl rfl rfl (fun h16 => ?_) (fun h16 => ?_)
      · refine am_r_aload0 (pc' := 38) rfl rfl ?_
        refine am_r_getR (t := 66) (pc' := 41) rfl rfl rfl ?_
        refine am_r_iconst (pc' := 42) rfl rfl ?_
        refine am_r_dup2 (pc' := 43) rfl rfl rfl rfl ?_
        refine am_r_iaZv (n := 4) (pc' := 44) rfl rfl rfl (by decide) ((h66 0).trans d2) ?_
        refine am_r_iconst (pc' := 45) rfl rfl ?_
        refine am_r_iadd (pc' := 46) rfl rfl ?_
        refine am_r_iast (n := 4) (pc' := 47) rfl rfl (rfl) (by decide) ?_
        refine am_r_aload0 (pc' := 48) rfl rfl ?_
        refine am_r_getR (t := 66) (pc' := 51) rfl rfl rfl ?_
        refine am_r_iconst (pc' := 52) rfl rfl ?_
        refine am_r_dup2 (pc' := 53) rfl rfl rfl rfl ?_
        refine am_r_iaZv (n := 4) (pc' := 54) rfl rfl rfl (by decide) (show _ = z_I (d_1 δ) by simpa [am_upI] using (h66 1).trans d3) ?_
        refine am_r_aload0 (pc' := 55) rfl rfl ?_
        refine am_r_getIv (f := 19) (pc' := 58) rfl rfl rfl (show _ = z_I (y_pu σ χ (s_pl σ) 0) by simpa [am_upI] using h19) ?_
        refine am_r_iadd (pc' := 59) rfl rfl ?_
        refine am_r_iast (n := 4) (pc' := 60) rfl rfl (rfl) (by decide) ?_
        refine am_r_aload0 (pc' := 61) rfl rfl ?_
        refine am_r_getR (t := 66) (pc' := 64) rfl rfl rfl ?_
        refine am_r_iconst (pc' := 65) rfl rfl ?_
        refine am_r_dup2 (pc' := 66) rfl rfl rfl rfl ?_
        refine am_r_iaZv (n := 4) (pc' := 67) rfl rfl rfl (by decide) (show _ = z_I (d_2 δ) by simpa [am_upI] using (h66 2).trans d4) ?_
        refine am_r_aload0 (pc' := 68) rfl rfl ?_
        refine am_r_getIv (f := 20) (pc' := 71) rfl rfl rfl (show _ = z_I (y_me σ (s_pl σ)) by simpa [am_upI] using h20) ?_
        refine am_r_iadd (pc' := 72) rfl rfl ?_
        refine am_r_iast (n := 4) (pc' := 73) rfl rfl (rfl) (by decide) ?_
        refine am_r_aload0 (pc' := 74) rfl rfl ?_
        refine am_r_getIv (f := 19) (pc' := 77) rfl rfl rfl (show _ = z_I (y_pu σ χ (s_pl σ) 0) by simpa [am_upI] using h19) ?_
        refine am_r_iret rfl rfl ?_
        refine hq _ (am_fy_up (am_fy_up (am_fy_up hF (by omega)) (by omega)) (by omega)) (sm_o (sm_o (sm_o hS2 (by omega)) (by omega)) (by omega)) ⟨d1, ?_, ?_, ?_, ?_, ?_, fun z => ?_⟩
        · simp [am_upI]; rfl
        · simp [am_upI]; rfl
        · simp [am_upI]; rfl
        · have := (h66 3).trans d5
          show _ = z_I (d_3 δ)
          simpa [am_upI] using this
        · have := f25.trans d6
          show _ = z_I (if d_k δ = true then 1 else 0)
          simpa [am_upI] using this
        · have := d7 z
          rw [← f26, ← f68 0, ← f68 1, ← f68 2, ← f68 3] at this
          obtain ⟨g1, g2, g3, g4, g5, g6⟩ := this
          refine ⟨show _ = z_I (d_n δ) by simpa [am_upI] using g1, show _ = z_I (d_i δ).1 by simpa [am_upI] using g2, show _ = z_I (d_i δ).2.1 by simpa [am_upI] using g3, show _ = z_I (d_i δ).2.2.1 by simpa [am_upI] using g4, show _ = z_I (d_i δ).2.2.2 by simpa [am_upI] using g5, fun a ha => ?_⟩
          have := g6 a ha
          rw [← f67] at this
          show _ = z_I (d_p δ a)
          simpa [am_upI] using this
      · exfalso; omega
    | succ k ih =>
      intro i N hk hF hM2 hp h19 h20 h66
      have hSZ : N.1 53 6 = z_I (s_n σ) := hM2.2.1
      have hnb := y_nx_B hM.1 χ (s_pl σ) 0 i (by omega)
      refine am_r_iload1 (pc' := 12) rfl rfl ?_
      refine am_r_aload0 (pc' := 13) rfl rfl ?_
      refine am_r_getIv (f := 6) (pc' := 16) rfl rfl rfl (hSZ) ?_
      refine am_r_icmp_ge (pt := 37) (pf := 19) rfl rfl rfl (fun h16 => ?_) (fun h16 => ?_)
      · exfalso; omega
      · refine am_r_aload0 (pc' := 20) rfl rfl ?_
        refine am_r_getR (t := 54) (pc' := 23) rfl rfl rfl ?_
        refine am_r_iload1 (pc' := 24) rfl rfl ?_
        refine am_r_aload0 (pc' := 25) rfl rfl ?_
        refine am_r_getR (t := 62) (pc' := 28) rfl rfl rfl ?_
        refine am_r_iload1 (pc' := 29) rfl rfl ?_
        refine am_r_iaZv (n := 8) (pc' := 30) rfl rfl rfl (by decide) (hp i (by omega)) ?_
        refine am_r_iast (n := 81) (pc' := 31) rfl rfl (rfl) (by decide) ?_
        refine am_r_iinc1 (pc' := 34) rfl rfl rfl ?_
        refine am_r_goto (pc' := 11) rfl rfl ?_
        refine ih (i + 1) _ (by omega) (am_fy_up hF (by omega)) (sm_pls_go hM2 (by omega) hnb) (fun a ha => (congrFun (am_up_o _ _ _ _ (by omega)) _).trans (hp a ha)) ((congrFun (am_up_o _ _ _ _ (by omega)) _).trans h19) ((congrFun (am_up_o _ _ _ _ (by omega)) _).trans h20) (fun j => (congrFun (am_up_o _ _ _ _ (by omega)) _).trans (h66 j))
  refine am_bi_of (P := am_pX11_day) (rt := 1) (nL := 2) (Nat.le_of_ble_eq_true rfl) rfl (Nat.le_of_ble_eq_true rfl) rfl rfl rfl ?_
  refine am_r_aload0 (pc' := 1) rfl rfl ?_
  refine am_r_invV0 (pc' := 4) rfl rfl rfl (Nat.le_of_ble_eq_true rfl) (m_begins (by omega) hM ?_)
  · intro M2 hf2 hW2 h19 h20
    have hF := hf2
    refine am_r_aload0 (pc' := 5) rfl rfl ?_
    refine am_r_iconst (pc' := 6) rfl rfl ?_
    refine am_r_invV1 (pc' := 9) rfl rfl rfl (Nat.le_of_ble_eq_true rfl) (m_passes (χ := χ) (t := 0) (by omega) hW2 (lm_fm hL hF) h19 h20 ?_)
    · intro M4 hf4 h464 hW4 h419 h420
      have hF := am_fm_tr hF hf4
      refine am_r_iconst (pc' := 10) rfl rfl ?_
      refine am_r_istore1 (pc' := 11) rfl rfl rfl ?_
      refine hloop (s_n σ).toNat 0 M4 (by omega) (am_fy_fm hF) ?_ (fun a ha => wm_pl hW4 ha) (by rw [Int.zero_add] at h419; exact h419) (by rw [Int.zero_add] at h420; exact h420) (fun j => hF.1 66 j (by omega) (by omega))
      refine sm_pls_ext (f := s_pl σ) (sm_fm hM hF) (fun a ha => ?_)
      rw [if_neg (by omega)]
theorem m_nudged {sL : Nat} {xs : Nat → Int32} {d : Nat} {M : Am_M} {Q : Int32 → Am_M → Prop} (hd : 3 ≤ d) {σ : Sg} (hM : SM M σ) {δ : Ds} (hD : DM M δ σ) {a : Int} (ha : -2147483648 ≤ a ∧ a < 2147483648) {v : Int} (hv : -2147483648 ≤ v ∧ v < 2147483648) (hq : ∀ M', am_fy M M' → SM M' (t_nudged σ a v) → DM M' (u_nudged δ σ a v) (t_nudged σ a v) → Q (z_I (r_nudged σ a v)) M') : am_bi sL xs d 235 [.ref 53, .int (z_I a), .int (z_I v)] M Q := by
  obtain ⟨d, rfl⟩ : ∃ e, d = e + 1 := ⟨d - 1, by omega⟩
  have hn := sb_nb hM.1
  have hnr := sb_nrb hM.1
  refine am_bi_of (P := am_pX11_nudged) (rt := 1) (nL := 3) (Nat.le_of_ble_eq_true rfl) rfl (Nat.le_of_ble_eq_true rfl) rfl rfl rfl ?_
  refine am_r_aload0 (pc' := 1) rfl rfl ?_
  refine am_r_iload1 (pc' := 2) rfl rfl ?_
  refine am_r_i2l (pc' := 3) rfl rfl ?_
  refine am_r_invI1 (pc' := 6) rfl rfl rfl (Nat.le_of_ble_eq_true rfl) (m_isOrb (by omega) hM (by omega) ?_)
  refine am_r_if_eqB (pt := 23) (pf := 9) rfl rfl rfl (fun h6 => ?_) (fun h6 => ?_)
  · refine am_r_iconst (pc' := 24) rfl rfl ?_
    refine am_r_iret rfl rfl ?_
    have e1 : ¬ ((0 ≤ a ∧ a < s_n σ) ∧ (-9 ≤ v ∧ v ≤ 9)) := by omega
    unfold t_nudged u_nudged r_nudged at hq
    simp only [if_neg e1] at hq
    exact hq M (am_fy_rf M) hM hD
  · refine am_r_iload2 (pc' := 10) rfl rfl ?_
    refine am_r_i2l (pc' := 11) rfl rfl ?_
    refine am_r_lconst (z := (-9)) (pc' := 14) rfl rfl rfl ?_
    refine am_r_lconst (z := 9) (pc' := 17) rfl rfl rfl ?_
    refine am_r_ivsI3 (pc' := 20) rfl rfl rfl (Nat.le_of_ble_eq_true rfl) (m_within (by omega) (by omega) (by omega) (by omega) ?_)
    refine am_r_if_neB (pt := 25) (pf := 23) rfl rfl rfl (fun h20 => ?_) (fun h20 => ?_)
    · have hg := sg_b hM.1 (a := a) (by omega)
      have htm := z_tmodb (s_pl σ a + v) (s_rd σ a) (by omega)
      have hmd : 0 ≤ (s_pl σ a + v) % s_rd σ a ∧ (s_pl σ a + v) % s_rd σ a < s_rd σ a := ⟨Int.emod_nonneg _ (by omega), Int.emod_lt_of_pos _ (by omega)⟩
      refine am_r_aload0 (pc' := 26) rfl rfl ?_
      refine am_r_getR (t := 54) (pc' := 29) rfl rfl rfl ?_
      refine am_r_iload1 (pc' := 30) rfl rfl ?_
      refine am_r_aload0 (pc' := 31) rfl rfl ?_
      refine am_r_getR (t := 54) (pc' := 34) rfl rfl rfl ?_
      refine am_r_iload1 (pc' := 35) rfl rfl ?_
      refine am_r_iaZv (n := 81) (pc' := 36) rfl rfl rfl (by decide) (sm_pl hM (by omega)) ?_
      refine am_r_iload2 (pc' := 37) rfl rfl ?_
      refine am_r_iadd (pc' := 38) rfl rfl ?_
      refine am_r_aload0 (pc' := 39) rfl rfl ?_
      refine am_r_getR (t := 58) (pc' := 42) rfl rfl rfl ?_
      refine am_r_iload1 (pc' := 43) rfl rfl ?_
      refine am_r_iaZv (n := 8) (pc' := 44) rfl rfl rfl (by decide) (sm_rd hM (by omega)) ?_
      refine am_r_iremT (pc' := 45) rfl rfl ?_
      refine am_r_aload0 (pc' := 46) rfl rfl ?_
      refine am_r_getR (t := 58) (pc' := 49) rfl rfl rfl ?_
      refine am_r_iload1 (pc' := 50) rfl rfl ?_
      refine am_r_iaZv (n := 8) (pc' := 51) rfl rfl rfl (by decide) (sm_rd hM (by omega)) ?_
      refine am_r_iadd (pc' := 52) rfl rfl ?_
      refine am_r_aload0 (pc' := 53) rfl rfl ?_
      refine am_r_getR (t := 58) (pc' := 56) rfl rfl rfl ?_
      refine am_r_iload1 (pc' := 57) rfl rfl ?_
      refine am_r_iaZv (n := 8) (pc' := 58) rfl rfl rfl (by decide) (sm_rd hM (by omega)) ?_
      refine am_r_irem (pc' := 59) rfl rfl ?_
      rw [z_tmodmod _ _ (by omega)]
      refine am_r_iast (n := 81) (pc' := 60) rfl rfl (rfl) (by decide) ?_
      refine am_r_aload0 (pc' := 61) rfl rfl ?_
      refine am_r_getR (t := 66) (pc' := 64) rfl rfl rfl ?_
      refine am_r_iconst (pc' := 65) rfl rfl ?_
      refine am_r_dup2 (pc' := 66) rfl rfl rfl rfl ?_
      refine am_r_iaZv (n := 4) (pc' := 67) rfl rfl rfl (by decide) (show _ = z_I (d_3 δ) by simpa [am_upI] using hD.2.2.2.2.1) ?_
      refine am_r_iconst (pc' := 68) rfl rfl ?_
      refine am_r_iadd (pc' := 69) rfl rfl ?_
      refine am_r_iast (n := 4) (pc' := 70) rfl rfl (rfl) (by decide) ?_
      refine am_r_aload0 (pc' := 71) rfl rfl ?_
      refine am_r_getR (t := 54) (pc' := 74) rfl rfl rfl ?_
      refine am_r_iload1 (pc' := 75) rfl rfl ?_
      refine am_r_iaZv (n := 81) (pc' := 76) rfl rfl rfl (by decide) (show _ = z_I ((s_pl σ a + v) % s_rd σ a) by simp [am_upI]) ?_
      refine am_r_iret rfl rfl ?_
      have e1 : (0 ≤ a ∧ a < s_n σ) ∧ (-9 ≤ v ∧ v ≤ 9) := by omega
      unfold t_nudged u_nudged r_nudged at hq
      simp only [if_pos e1] at hq
      obtain ⟨d1, d2, d3, d4, d5, d6, d7⟩ := hD
      refine hq _ (am_fy_up (am_fy_up (am_fy_rf M) (by omega)) (by omega)) (sm_o (sm_plv hM (by omega) hmd) (by omega)) ⟨d1, ?_, ?_, ?_, ?_, ?_, fun z => ?_⟩
      · show _ = z_I (d_0 δ)
        simpa [am_upI] using d2
      · show _ = z_I (d_1 δ)
        simpa [am_upI] using d3
      · show _ = z_I (d_2 δ)
        simpa [am_upI] using d4
      · simp [am_upI]; rfl
      · show _ = z_I (if d_k δ = true then 1 else 0)
        simpa [am_upI] using d6
      · have g := d7 z
        exact ⟨show _ = z_I (d_n δ) by simpa [am_upI] using g.1, show _ = z_I (d_i δ).1 by simpa [am_upI] using g.2.1, show _ = z_I (d_i δ).2.1 by simpa [am_upI] using g.2.2.1, show _ = z_I (d_i δ).2.2.1 by simpa [am_upI] using g.2.2.2.1, show _ = z_I (d_i δ).2.2.2 by simpa [am_upI] using g.2.2.2.2.1, fun a ha => show _ = z_I (d_p δ a) by simpa [am_upI] using g.2.2.2.2.2 a ha⟩
    · refine am_r_iconst (pc' := 24) rfl rfl ?_
      refine am_r_iret rfl rfl ?_
      have e1 : ¬ ((0 ≤ a ∧ a < s_n σ) ∧ (-9 ≤ v ∧ v ≤ 9)) := by omega
      unfold t_nudged u_nudged r_nudged at hq
      simp only [if_neg e1] at hq
      exact hq M (am_fy_rf M) hM hD
theorem dm_led {M : Am_M} {δ : Ds} {σ : Sg} (h : DM M δ σ) {w : Int} (hw : 0 ≤ w ∧ w ≤ 3) : M.1 66 w.toNat = z_I (r_led δ w) := by
  obtain ⟨d1, d2, d3, d4, d5, d6, d7⟩ := h
  rcases (show w = 0 ∨ w = 1 ∨ w = 2 ∨ w = 3 by omega) with rfl | rfl | rfl | rfl
  · exact d2
  · exact d3
  · exact d4
  · exact d5
theorem m_led {sL : Nat} {xs : Nat → Int32} {d : Nat} {M : Am_M} {Q : Int32 → Am_M → Prop} (hd : 2 ≤ d) {σ : Sg} {δ : Ds} (hD : DM M δ σ) {w : Int} (hw : -2147483648 ≤ w ∧ w < 2147483648)  (hq : Q (z_I (r_led δ w)) M) : am_bi sL xs d 236 [.ref 53, .int (z_I w)] M Q := by
  obtain ⟨d, rfl⟩ : ∃ e, d = e + 1 := ⟨d - 1, by omega⟩
  refine am_bi_of (P := am_pX11_led) (rt := 1) (nL := 2) (Nat.le_of_ble_eq_true rfl) rfl (Nat.le_of_ble_eq_true rfl) rfl rfl rfl ?_
  refine am_r_iload1 (pc' := 1) rfl rfl ?_
  refine am_r_i2l (pc' := 2) rfl rfl ?_
  refine am_r_lconst (z := 0) (pc' := 3) rfl rfl rfl ?_
  refine am_r_lconst (z := 3) (pc' := 6) rfl rfl rfl ?_
  refine am_r_ivsI3 (pc' := 9) rfl rfl rfl (Nat.le_of_ble_eq_true rfl) (m_within (by omega) (by omega) (by omega) (by omega) ?_)
  refine am_r_if_eqB (pt := 21) (pf := 12) rfl rfl rfl (fun h9 => ?_) (fun h9 => ?_)
  · refine am_r_iconst (pc' := 22) rfl rfl ?_
    refine am_r_iret rfl rfl ?_
    first | exact hq | (rw [show r_led δ w = -1 by unfold r_led; rw [if_neg (by omega), if_neg (by omega), if_neg (by omega), if_neg (by omega)]] at hq; exact hq)
  · refine am_r_aload0 (pc' := 13) rfl rfl ?_
    refine am_r_getR (t := 66) (pc' := 16) rfl rfl rfl ?_
    refine am_r_iload1 (pc' := 17) rfl rfl ?_
    refine am_r_iaZv (n := 4) (pc' := 18) rfl rfl rfl (by decide) (dm_led hD (by omega)) ?_
    refine am_r_goto (pc' := 22) rfl rfl ?_
    refine am_r_iret rfl rfl ?_
    first | exact hq | (rw [show r_led δ w = -1 by unfold r_led; rw [if_neg (by omega), if_neg (by omega), if_neg (by omega), if_neg (by omega)]] at hq; exact hq)
def am_fi (M M' : Am_M) : Prop := (∀ k i, ¬ (k = 53 ∧ (i = 25 ∨ i = 26)) → k ≠ 67 → k ≠ 68 → M'.1 k i = M.1 k i) ∧ M'.2 = M.2
theorem am_fi_rf (M : Am_M) : am_fi M M := ⟨fun _ _ _ _ _ => rfl, rfl⟩
theorem am_fi_up {M M' : Am_M} (h : am_fi M M') {k i : Nat} {x : Int32} (hk : (k = 53 ∧ (i = 25 ∨ i = 26)) ∨ k = 67 ∨ k = 68) : am_fi M (am_upI M' k i x) := ⟨fun k' j q r s => by
  show (if k' = k ∧ j = i then x else M'.1 k' j) = _
  rw [if_neg (by omega)]; exact h.1 k' j q r s, h.2⟩
theorem m_image {sL : Nat} {xs : Nat → Int32} {d : Nat} {M : Am_M} {Q : Int32 → Am_M → Prop} (hd : 1 ≤ d) {σ : Sg} (hM : SM M σ) {δ : Ds} (hD : DM M δ σ) (hq : ∀ M', am_fi M M' → DM M' (d_img δ σ) σ → Q (z_I (d_0 δ)) M') : am_bi sL xs d 237 [.ref 53] M Q := by
  obtain ⟨d, rfl⟩ : ∃ e, d = e + 1 := ⟨d - 1, by omega⟩
  have hn := sb_nb hM.1
  have hnr := sb_nrb hM.1
  obtain ⟨d1, d2, d3, d4, d5, d6, d7⟩ := id hD
  have hled := fun (w : Int) (hw : 0 ≤ w ∧ w ≤ 3) => dm_led hD hw
  have hl2 : ∀ (k : Nat) (i : Int) (N : Am_M), 0 ≤ i ∧ i + k = 4 → am_fi M N → N.1 53 25 = z_I 1 ∧ N.1 53 26 = z_I (s_n σ) → (∀ a, 0 ≤ a ∧ a < s_n σ → N.1 67 a.toNat = z_I (s_pl σ a)) → (∀ w, 0 ≤ w ∧ w < i → N.1 68 w.toNat = z_I (r_led δ w)) → am_rw sL xs d am_pX11_image 1 43 [.ref 53, .int (z_I i)] [] N (am_pi Q) := by
    intro k
    induction k with
    | zero =>
      intro i N hk hF hi hp hl
      have f66 := fun j => hF.1 66 j (by omega) (by omega) (by omega)
      refine am_r_iload1 (pc' := 44) rfl rfl ?_
      refine am_r_iconst (pc' := 45) rfl rfl ?_
      refine am_r_icmp_ge (pt := 66) (pf := 48) rfl rfl rfl (fun h45 => ?_) (fun h45 => ?_)
      · refine am_r_aload0 (pc' := 67) rfl rfl ?_
        refine am_r_getR (t := 66) (pc' := 70) rfl rfl rfl ?_
        refine am_r_iconst (pc' := 71) rfl rfl ?_
        refine am_r_iaZv (n := 4) (pc' := 72) rfl rfl rfl (by decide) ((f66 0).trans d2) ?_
        refine am_r_iret rfl rfl ?_
        exact hq N hF ⟨fun _ => ⟨⟨hn.1, Int.le_refl _⟩, fun a ha => by have := sg_b hM.1 ha; exact ⟨this.2.2.1, this.2.2.2.1⟩⟩, (f66 0).trans d2, (f66 1).trans d3, (f66 2).trans d4, (f66 3).trans d5, hi.1, fun _ => ⟨hi.2, hl 0 (by omega), hl 1 (by omega), hl 2 (by omega), hl 3 (by omega), hp⟩⟩
      · exfalso; omega
    | succ k ih =>
      intro i N hk hF hi hp hl
      have f66 := fun j => hF.1 66 j (by omega) (by omega) (by omega)
      refine am_r_iload1 (pc' := 44) rfl rfl ?_
      refine am_r_iconst (pc' := 45) rfl rfl ?_
      refine am_r_icmp_ge (pt := 66) (pf := 48) rfl rfl rfl (fun h45 => ?_) (fun h45 => ?_)
      · exfalso; omega
      · refine am_r_aload0 (pc' := 49) rfl rfl ?_
        refine am_r_getR (t := 68) (pc' := 52) rfl rfl rfl ?_
        refine am_r_iload1 (pc' := 53) rfl rfl ?_
        refine am_r_aload0 (pc' := 54) rfl rfl ?_
        refine am_r_getR (t := 66) (pc' := 57) rfl rfl rfl ?_
        refine am_r_iload1 (pc' := 58) rfl rfl ?_
        refine am_r_iaZv (n := 4) (pc' := 59) rfl rfl rfl (by decide) ((f66 _).trans (hled i (by omega))) ?_
        refine am_r_iast (n := 4) (pc' := 60) rfl rfl (rfl) (by decide) ?_
        refine am_r_iinc1 (pc' := 63) rfl rfl rfl ?_
        refine am_r_goto (pc' := 43) rfl rfl ?_
        refine ih (i + 1) _ (by omega) (am_fi_up hF (by omega)) (by simpa [am_upI] using hi) (fun a ha => (congrFun (am_up_o _ _ _ _ (by omega)) _).trans (hp a ha)) (fun w hw => ?_)
        by_cases q : w = i
        · rw [q]; exact am_up_e _ _ _ _
        · rw [am_up_n _ _ _ _ _ (by omega)]
          exact hl w (by omega)
  have hl1 : ∀ (k : Nat) (i : Int) (N : Am_M), 0 ≤ i ∧ i + k = s_n σ → am_fi M N → N.1 53 25 = z_I 1 ∧ N.1 53 26 = z_I (s_n σ) → (∀ a, 0 ≤ a ∧ a < i → N.1 67 a.toNat = z_I (s_pl σ a)) → am_rw sL xs d am_pX11_image 1 15 [.ref 53, .int (z_I i)] [] N (am_pi Q) := by
    intro k
    induction k with
    | zero =>
      intro i N hk hF hi hp
      have hSZ : N.1 53 6 = z_I (s_n σ) := (hF.1 53 6 (by omega) (by omega) (by omega)).trans (sm_n hM)
      refine am_r_iload1 (pc' := 16) rfl rfl ?_
      refine am_r_aload0 (pc' := 17) rfl rfl ?_
      refine am_r_getIv (f := 6) (pc' := 20) rfl rfl rfl (hSZ) ?_
      refine am_r_icmp_ge (pt := 41) (pf := 23) rfl rfl rfl (fun h20 => ?_) (fun h20 => ?_)
      · refine am_r_iconst (pc' := 42) rfl rfl ?_
        refine am_r_istore1 (pc' := 43) rfl rfl rfl ?_
        exact hl2 4 0 N (by omega) hF hi (fun a ha => hp a (by omega)) (fun w hw => by omega)
      · exfalso; omega
    | succ k ih =>
      intro i N hk hF hi hp
      have hSZ : N.1 53 6 = z_I (s_n σ) := (hF.1 53 6 (by omega) (by omega) (by omega)).trans (sm_n hM)
      refine am_r_iload1 (pc' := 16) rfl rfl ?_
      refine am_r_aload0 (pc' := 17) rfl rfl ?_
      refine am_r_getIv (f := 6) (pc' := 20) rfl rfl rfl (hSZ) ?_
      refine am_r_icmp_ge (pt := 41) (pf := 23) rfl rfl rfl (fun h20 => ?_) (fun h20 => ?_)
      · exfalso; omega
      · refine am_r_aload0 (pc' := 24) rfl rfl ?_
        refine am_r_getR (t := 67) (pc' := 27) rfl rfl rfl ?_
        refine am_r_iload1 (pc' := 28) rfl rfl ?_
        refine am_r_aload0 (pc' := 29) rfl rfl ?_
        refine am_r_getR (t := 54) (pc' := 32) rfl rfl rfl ?_
        refine am_r_iload1 (pc' := 33) rfl rfl ?_
        refine am_r_iaZv (n := 81) (pc' := 34) rfl rfl rfl (by decide) ((hF.1 54 _ (by omega) (by omega) (by omega)).trans (sm_pl hM (by omega))) ?_
        refine am_r_iast (n := 8) (pc' := 35) rfl rfl (rfl) (by decide) ?_
        refine am_r_iinc1 (pc' := 38) rfl rfl rfl ?_
        refine am_r_goto (pc' := 15) rfl rfl ?_
        refine ih (i + 1) _ (by omega) (am_fi_up hF (by omega)) (by simpa [am_upI] using hi) (fun w hw => ?_)
        by_cases q : w = i
        · rw [q]; exact am_up_e _ _ _ _
        · rw [am_up_n _ _ _ _ _ (by omega)]
          exact hp w (by omega)
  refine am_bi_of (P := am_pX11_image) (rt := 1) (nL := 2) (Nat.le_of_ble_eq_true rfl) rfl (Nat.le_of_ble_eq_true rfl) rfl rfl rfl ?_
  refine am_r_aload0 (pc' := 1) rfl rfl ?_
  refine am_r_iconst (pc' := 2) rfl rfl ?_
  refine am_r_putZ (f := 25) (pc' := 5) rfl rfl rfl (by first | exact Or.inr rfl | exact Or.inl rfl) ?_
  refine am_r_aload0 (pc' := 6) rfl rfl ?_
  refine am_r_aload0 (pc' := 7) rfl rfl ?_
  refine am_r_getIv (f := 6) (pc' := 10) rfl rfl rfl (show _ = z_I (s_n σ) by simpa [am_upI] using sm_n hM) ?_
  refine am_r_putI (f := 26) (pc' := 13) rfl rfl rfl (by decide) ?_
  refine am_r_iconst (pc' := 14) rfl rfl ?_
  refine am_r_istore1 (pc' := 15) rfl rfl rfl ?_
  exact hl1 (s_n σ).toNat 0 _ (by omega) (am_fi_up (am_fi_up (am_fi_rf M) (by omega)) (by omega)) ⟨by simp [am_upI], by simp [am_upI]⟩ (fun a ha => by omega)
theorem dm_img {M : Am_M} {δ : Ds} {σ : Sg} (h : DM M δ σ) (hk : d_k δ = true) {w : Int} (hw : 0 ≤ w ∧ w ≤ 3) : M.1 68 w.toNat = z_I (r_led (d_bck δ) w) := by
  obtain ⟨g1, g2, g3, g4, g5, g6⟩ := h.2.2.2.2.2.2 hk
  rcases (show w = 0 ∨ w = 1 ∨ w = 2 ∨ w = 3 by omega) with rfl | rfl | rfl | rfl
  · exact g2
  · exact g3
  · exact g4
  · exact g5
theorem m_back {sL : Nat} {xs : Nat → Int32} {d : Nat} {M : Am_M} {Q : Int32 → Am_M → Prop} (hd : 1 ≤ d) {σ : Sg} (hM : SM M σ) {δ : Ds} (hD : DM M δ σ) (hq : ∀ M', am_fy M M' → SM M' (t_back σ δ) → DM M' (u_back δ) (t_back σ δ) → Q (z_I (r_back δ)) M') : am_bi sL xs d 238 [.ref 53] M Q := by
  obtain ⟨d, rfl⟩ : ∃ e, d = e + 1 := ⟨d - 1, by omega⟩
  have hn := sb_nb hM.1
  have hnr := sb_nrb hM.1
  by_cases hk : d_k δ = true
  · have hk5 : M.1 53 25 = z_I 1 := hD.2.2.2.2.2.1.trans (by rw [if_pos hk])
    unfold r_back t_back u_back at hq
    simp only [if_pos hk] at hq
    have hb := hD.1 hk
    obtain ⟨d1, d2, d3, d4, d5, d6, d7⟩ := id hD
    obtain ⟨g1, g2, g3, g4, g5, g6⟩ := d7 hk
    have hl2 : ∀ (k : Nat) (i : Int) (N : Am_M), 0 ≤ i ∧ i + k = 4 → am_fy M N → SM N (s_bck σ δ) → (∀ w, 0 ≤ w ∧ w < i → N.1 66 w.toNat = z_I (r_led (d_bck δ) w)) → am_rw sL xs d am_pX11_back 1 40 [.ref 53, .int (z_I i)] [] N (am_pi Q) := by
      intro k
      induction k with
      | zero =>
        intro i N hk4 hF hS hl
        have f25 := hF.1 53 25 (by omega) (by omega) (by omega) (by omega)
        have f26 := hF.1 53 26 (by omega) (by omega) (by omega) (by omega)
        have f67 := fun j => hF.1 67 j (by omega) (by omega) (by omega) (by omega)
        have f68 := fun j => hF.1 68 j (by omega) (by omega) (by omega) (by omega)
        refine am_r_iload1 (pc' := 41) rfl rfl ?_
        refine am_r_iconst (pc' := 42) rfl rfl ?_
        refine am_r_icmp_ge (pt := 63) (pf := 45) rfl rfl rfl (fun h42 => ?_) (fun h42 => ?_)
        · refine am_r_aload0 (pc' := 64) rfl rfl ?_
          refine am_r_getR (t := 66) (pc' := 67) rfl rfl rfl ?_
          refine am_r_iconst (pc' := 68) rfl rfl ?_
          refine am_r_iaZv (n := 4) (pc' := 69) rfl rfl rfl (by decide) (show _ = z_I (d_i δ).1 from hl 0 (by omega)) ?_
          refine am_r_iret rfl rfl ?_
          exact hq N hF hS ⟨d1, hl 0 (by omega), hl 1 (by omega), hl 2 (by omega), hl 3 (by omega), f25.trans d6, fun _ => ⟨f26.trans g1, (f68 0).trans g2, (f68 1).trans g3, (f68 2).trans g4, (f68 3).trans g5, fun a ha => (f67 _).trans (g6 a ha)⟩⟩
        · exfalso; omega
      | succ k ih =>
        intro i N hk4 hF hS hl
        have f68 := fun j => hF.1 68 j (by omega) (by omega) (by omega) (by omega)
        refine am_r_iload1 (pc' := 41) rfl rfl ?_
        refine am_r_iconst (pc' := 42) rfl rfl ?_
        refine am_r_icmp_ge (pt := 63) (pf := 45) rfl rfl rfl (fun h42 => ?_) (fun h42 => ?_)
        · exfalso; omega
        · refine am_r_aload0 (pc' := 46) rfl rfl ?_
          refine am_r_getR (t := 66) (pc' := 49) rfl rfl rfl ?_
          refine am_r_iload1 (pc' := 50) rfl rfl ?_
          refine am_r_aload0 (pc' := 51) rfl rfl ?_
          refine am_r_getR (t := 68) (pc' := 54) rfl rfl rfl ?_
          refine am_r_iload1 (pc' := 55) rfl rfl ?_
          refine am_r_iaZv (n := 4) (pc' := 56) rfl rfl rfl (by decide) ((f68 _).trans (dm_img hD hk (by omega))) ?_
          refine am_r_iast (n := 4) (pc' := 57) rfl rfl (rfl) (by decide) ?_
          refine am_r_iinc1 (pc' := 60) rfl rfl rfl ?_
          refine am_r_goto (pc' := 40) rfl rfl ?_
          refine ih (i + 1) _ (by omega) (am_fy_up hF (by omega)) (sm_o hS (by omega)) (fun w hw => ?_)
          by_cases q : w = i
          · rw [q]; exact am_up_e _ _ _ _
          · rw [am_up_n _ _ _ _ _ (by omega)]
            exact hl w (by omega)
    have hl1 : ∀ (k : Nat) (i : Int) (N : Am_M), 0 ≤ i ∧ i + k = d_n δ → am_fy M N → SM N (s_pls σ (fun a => if 0 ≤ a ∧ a < i then d_p δ a else s_pl σ a)) → am_rw sL xs d am_pX11_back 1 12 [.ref 53, .int (z_I i)] [] N (am_pi Q) := by
      intro k
      induction k with
      | zero =>
        intro i N hk4 hF hS
        have f26 := (hF.1 53 26 (by omega) (by omega) (by omega) (by omega)).trans g1
        have hi : i = d_n δ := by omega
        refine am_r_iload1 (pc' := 13) rfl rfl ?_
        refine am_r_aload0 (pc' := 14) rfl rfl ?_
        refine am_r_getIv (f := 26) (pc' := 17) rfl rfl rfl (f26) ?_
        refine am_r_icmp_ge (pt := 38) (pf := 20) rfl rfl rfl (fun h17 => ?_) (fun h17 => ?_)
        · refine am_r_iconst (pc' := 39) rfl rfl ?_
          refine am_r_istore1 (pc' := 40) rfl rfl rfl ?_
          rw [hi] at hS
          exact hl2 4 0 N (by omega) hF hS (fun w hw => by omega)
        · exfalso; omega
      | succ k ih =>
        intro i N hk4 hF hS
        have f26 := (hF.1 53 26 (by omega) (by omega) (by omega) (by omega)).trans g1
        have f67 := fun j => hF.1 67 j (by omega) (by omega) (by omega) (by omega)
        have hpb := hb.2 i (by omega)
        refine am_r_iload1 (pc' := 13) rfl rfl ?_
        refine am_r_aload0 (pc' := 14) rfl rfl ?_
        refine am_r_getIv (f := 26) (pc' := 17) rfl rfl rfl (f26) ?_
        refine am_r_icmp_ge (pt := 38) (pf := 20) rfl rfl rfl (fun h17 => ?_) (fun h17 => ?_)
        · exfalso; omega
        · refine am_r_aload0 (pc' := 21) rfl rfl ?_
          refine am_r_getR (t := 54) (pc' := 24) rfl rfl rfl ?_
          refine am_r_iload1 (pc' := 25) rfl rfl ?_
          refine am_r_aload0 (pc' := 26) rfl rfl ?_
          refine am_r_getR (t := 67) (pc' := 29) rfl rfl rfl ?_
          refine am_r_iload1 (pc' := 30) rfl rfl ?_
          refine am_r_iaZv (n := 8) (pc' := 31) rfl rfl rfl (by decide) ((f67 _).trans (g6 i (by omega))) ?_
          refine am_r_iast (n := 81) (pc' := 32) rfl rfl (rfl) (by decide) ?_
          refine am_r_iinc1 (pc' := 35) rfl rfl rfl ?_
          refine am_r_goto (pc' := 12) rfl rfl ?_
          exact ih (i + 1) _ (by omega) (am_fy_up hF (by omega)) (sm_pls_go hS (by omega) hpb)
    refine am_bi_of (P := am_pX11_back) (rt := 1) (nL := 2) (Nat.le_of_ble_eq_true rfl) rfl (Nat.le_of_ble_eq_true rfl) rfl rfl rfl ?_
    refine am_r_aload0 (pc' := 1) rfl rfl ?_
    refine am_r_getIv (f := 25) (pc' := 4) rfl rfl rfl (hk5) ?_
    refine am_r_if_ne (pt := 10) (pf := 7) rfl rfl rfl (fun h4 => ?_) (fun h4 => ?_)
    · refine am_r_iconst (pc' := 11) rfl rfl ?_
      refine am_r_istore1 (pc' := 12) rfl rfl rfl ?_
      exact hl1 (d_n δ).toNat 0 M (by omega) (am_fy_rf M) (sm_pls_ext (f := s_pl σ) hM (fun a ha => by rw [if_neg (by omega)]))
    · exfalso; omega
  · have hk5 : M.1 53 25 = z_I 0 := hD.2.2.2.2.2.1.trans (by rw [if_neg hk])
    unfold r_back t_back u_back at hq
    simp only [if_neg hk] at hq
    refine am_bi_of (P := am_pX11_back) (rt := 1) (nL := 2) (Nat.le_of_ble_eq_true rfl) rfl (Nat.le_of_ble_eq_true rfl) rfl rfl rfl ?_
    refine am_r_aload0 (pc' := 1) rfl rfl ?_
    refine am_r_getIv (f := 25) (pc' := 4) rfl rfl rfl (hk5) ?_
    refine am_r_if_ne (pt := 10) (pf := 7) rfl rfl rfl (fun h4 => ?_) (fun h4 => ?_)
    · exfalso; omega
    · refine am_r_iconst (pc' := 9) rfl rfl ?_
      refine am_r_iret rfl rfl ?_
      exact hq M (am_fy_rf M) hM hD
