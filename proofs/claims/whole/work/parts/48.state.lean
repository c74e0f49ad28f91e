/-! THE WHOLE STATE, on both sides -/
theorem sx_k2 {M M' : Am_M} {σ : Sg} (h : SX M σ) (hf : ∀ k, 1 ≤ k → k ≤ 13 → M'.1 k = M.1 k) : SX M' σ := by
  obtain ⟨h0, h1, h2, h3, h4, h5, h6⟩ := h
  refine ⟨h0, ?_, ?_, fun a ha => ?_, fun a ha => ?_, fun a ha => ?_, fun a b ha hb => ?_⟩
  · rw [hf 1 (by omega) (by omega)]; exact h1
  · rw [hf 1 (by omega) (by omega)]; exact h2
  · rw [hf 2 (by omega) (by omega)]; exact h3 a ha
  · rw [hf 3 (by omega) (by omega)]; exact h4 a ha
  · rw [hf 4 (by omega) (by omega)]; exact h5 a ha
  · rw [hf _ (by omega) (by omega)]; exact h6 a b ha hb
theorem tb_k {M M' : Am_M} {c : Int → Int} {n : Int} (h : TB M c n) (h1 : M'.1 15 = M.1 15) (h2 : M'.1 16 = M.1 16) : TB M' c n := by
  unfold TB at h ⊢
  rw [h1, h2]
  exact h
theorem sm_k {M M' : Am_M} {σ : Sg} (h : SM M σ) (hf : ∀ k i, k = 54 ∨ k = 58 ∨ (k = 53 ∧ i = 6) → M'.1 k i = M.1 k i) : SM M' σ := sm_fr h (fun j => hf 54 j (by omega)) (by funext j; exact hf 58 j (by omega)) (hf 53 6 (by omega))
theorem lm_k {M M' : Am_M} {χ : q_X} (h : LM M χ) (hf : ∀ k i, k = 60 ∨ (k = 53 ∧ i = 11) → M'.1 k i = M.1 k i) : LM M' χ := lm_cg h (hf 53 11 (by omega)) (fun i => hf 60 i (by omega))
theorem tm_k {M M' : Am_M} {c : Int → Int} {n : Int} (h : TM M c n) (hf : ∀ k i, k = 59 ∨ (k = 53 ∧ i = 9) → M'.1 k i = M.1 k i) : TM M' c n := tm_cg h (hf 53 9 (by omega)) (fun i => hf 59 i (by omega))
theorem hm_k2 {M M' : Am_M} {η : Hs} (h : HM M η) (hf : ∀ k i, k = 71 ∨ k = 72 → M'.1 k i = M.1 k i) (h3 : M'.2 73 = M.2 73) : HM M' η := hm_cg h (fun i => hf 71 i (by omega)) (fun i => hf 72 i (by omega)) h3
theorem km_k {M M' : Am_M} {ε : Cs} {σ : Sg} (h : KM M ε σ) (hf : ∀ k i, k = 55 ∨ k = 56 ∨ k = 57 ∨ (k = 53 ∧ (i = 4 ∨ i = 5)) → M'.1 k i = M.1 k i) : KM M' ε σ := km_cg h (hf 53 5 (by omega)) (hf 53 4 (by omega)) (fun i => hf 55 i (by omega)) (fun i => hf 56 i (by omega)) (fun i => hf 57 i (by omega))
theorem dm_k {M M' : Am_M} {δ : Ds} {σ : Sg} (h : DM M δ σ) (hf : ∀ k i, k = 66 ∨ k = 67 ∨ k = 68 ∨ (k = 53 ∧ (i = 25 ∨ i = 26)) → M'.1 k i = M.1 k i) : DM M' δ σ := dm_cg h (fun i => hf 66 i (by omega)) (hf 53 25 (by omega)) (hf 53 26 (by omega)) (fun i => hf 67 i (by omega)) (fun i => hf 68 i (by omega))
theorem qm_k2 {M M' : Am_M} {κ : Int → Int} {n : Int} {l : List Int} (h : QM M κ n l) (hf : ∀ k i, k = 69 ∨ k = 70 ∨ (k = 53 ∧ (i = 29 ∨ i = 32)) → M'.1 k i = M.1 k i) : QM M' κ n l := qm_cg h (hf 53 29 (by omega)) (fun i => hf 69 i (by omega)) (hf 53 32 (by omega)) (fun i => hf 70 i (by omega))
/-- the class's cells, the reference's cells -/
def CI (M : Am_M) (σ : Sg) (χ : q_X) (c : Int → Int) (t : Int) (η : Hs) (ε : Cs) (δ : Ds) (κ : Int → Int) (m : Int) (l : List Int) : Prop := SX M σ ∧ CL M χ ∧ TB M c t ∧ HX M η ∧ KX M ε σ ∧ DX M δ σ ∧ OK M κ m l
def MI (M : Am_M) (σ : Sg) (χ : q_X) (c : Int → Int) (t : Int) (η : Hs) (ε : Cs) (δ : Ds) (κ : Int → Int) (m : Int) (l : List Int) : Prop := SM M σ ∧ LM M χ ∧ TM M c t ∧ HM M η ∧ KM M ε σ ∧ DM M δ σ ∧ QM M κ m l
def Inv (M : Am_M) : Prop := ∃ σ χ c t η ε δ κ m l, CI M σ χ c t η ε δ κ m l ∧ MI M σ χ c t η ε δ κ m l ∧ HO η m ∧ l.length ≤ 1000
section MK
variable {M M' : Am_M} {σ : Sg} {χ : q_X} {c : Int → Int} {t : Int} {η : Hs} {ε : Cs} {δ : Ds} {κ : Int → Int} {m : Int} {l : List Int}
theorem ci_mk (hX : SX M σ) (hL : CL M χ) (hT : TB M c t) (hH : HX M η) (hK : KX M ε σ) (hD : DX M δ σ) (hO : OK M κ m l) : CI M σ χ c t η ε δ κ m l := ⟨hX, hL, hT, hH, hK, hD, hO⟩
theorem mi_mk (hX : SM M σ) (hL : LM M χ) (hT : TM M c t) (hH : HM M η) (hK : KM M ε σ) (hD : DM M δ σ) (hO : QM M κ m l) : MI M σ χ c t η ε δ κ m l := ⟨hX, hL, hT, hH, hK, hD, hO⟩
theorem inv_mk (h : CI M σ χ c t η ε δ κ m l) (g : MI M σ χ c t η ε δ κ m l) (hN : HO η m) (hl : l.length ≤ 1000) : Inv M := ⟨σ, χ, c, t, η, ε, δ, κ, m, l, h, g, hN, hl⟩
theorem ci_keep (h : CI M σ χ c t η ε δ κ m l) (hf : ∀ k, k ≤ 52 → M'.1 k = M.1 k ∧ M'.2 k = M.2 k) : CI M' σ χ c t η ε δ κ m l := by
  obtain ⟨hX, hL, hT, hH, hK, hD, hO⟩ := h
  exact ⟨sx_k2 hX (fun k a b => (hf k (by omega)).1), cl_cg hL (hf 19 (by omega)).1 (hf 20 (by omega)).1 (hf 21 (by omega)).1, tb_k hT (hf 15 (by omega)).1 (hf 16 (by omega)).1, hx_cg hH (fun k a b => hf k (by omega)), kx_cg hK (fun k a b => (hf k (by omega)).1), dx_cg hD (hf 31 (by omega)).1 (hf 32 (by omega)).1, ok_cg hO (hf 50 (by omega)).1 (hf 51 (by omega)).1 (hf 52 (by omega)).1⟩
theorem mi_keep (h : MI M σ χ c t η ε δ κ m l) (hf : ∀ k, 53 ≤ k → M'.1 k = M.1 k ∧ M'.2 k = M.2 k) : MI M' σ χ c t η ε δ κ m l := by
  obtain ⟨hX, hL, hT, hH, hK, hD, hO⟩ := h
  have hg : ∀ k i, 53 ≤ k → M'.1 k i = M.1 k i := fun k i q => congrFun (hf k q).1 i
  exact ⟨sm_k hX (fun k i q => hg k i (by omega)), lm_k hL (fun k i q => hg k i (by omega)), tm_k hT (fun k i q => hg k i (by omega)), hm_k2 hH (fun k i q => hg k i (by omega)) (hf 73 (by omega)).2, km_k hK (fun k i q => hg k i (by omega)), dm_k hD (fun k i q => hg k i (by omega)), qm_k2 hO (fun k i q => hg k i (by omega))⟩
end MK
/-- rounds stay, bodies stay or come -/
def s_up (σ σ' : Sg) : Prop := s_n σ ≤ s_n σ' ∧ ∀ a, 0 ≤ a ∧ a < s_n σ → s_rd σ' a = s_rd σ a
theorem su_rf (σ : Sg) : s_up σ σ := ⟨Int.le_refl _, fun _ _ => rfl⟩
theorem su_new (σ : Sg) (a w v : Int) : s_up σ (t_new σ a w v) := ⟨by rw [t_new_n]; exact Int.le_refl _, fun _ _ => by rw [t_new_r]⟩
theorem su_mend {σ : Sg} {a w v : Int} : s_up σ (t_mend σ a w v) := by
  unfold t_mend
  split
  · exact su_new _ _ _ _
  · exact su_rf _
theorem su_undo {σ : Sg} {ε : Cs} : s_up σ (t_undo σ ε) := by
  unfold t_undo
  split
  · exact su_new _ _ _ _
  · exact su_rf _
theorem su_redo {σ : Sg} {ε : Cs} : s_up σ (t_redo σ ε) := by
  unfold t_redo
  split
  · exact su_new _ _ _ _
  · exact su_rf _
theorem su_pls {σ : Sg} {π : y_P} : s_up σ (s_pls σ π) := ⟨Int.le_refl _, fun _ _ => rfl⟩
theorem su_nudged {σ : Sg} {a v : Int} : s_up σ (t_nudged σ a v) := by
  unfold t_nudged
  split
  · exact ⟨Int.le_refl _, fun _ _ => rfl⟩
  · exact su_rf _
theorem su_back {σ : Sg} {δ : Ds} : s_up σ (t_back σ δ) := by
  unfold t_back
  split
  · exact su_pls
  · exact su_rf _
theorem su_orb {σ : Sg} {r p : Int} : s_up σ (t_orb σ r p) := by
  unfold t_orb
  split
  · exact ⟨by show s_n σ ≤ s_n σ + 1; omega, fun a ha => s_add_r _ _ _ _ _ ha.2⟩
  · exact su_rf _
theorem su_orbs {σ : Sg} {η : Hs} {e i n : Int} : s_up σ (t_orbs σ η e i n) := by
  unfold t_orbs
  split
  · have h := y_or_m (h_v η e) (h_n η e) n.toNat i σ
    exact ⟨h.1, fun a ha => h.2 a ha.2⟩
  · exact su_rf _
/-- shelves' moods are there -/
theorem ho_set {η : Hs} {n e : Int} {v : Int × Int × (Int → Int)} (h : HO η n) (hv : v.1 < 50 → v.1 < n) : HO (h_set η e v) n := fun x hx => by
  unfold h_k
  by_cases q : x = e
  · rw [q, h_set_e]; exact hv
  · rw [h_set_n _ _ _ q]; exact h x hx
theorem ho_keep {η : Hs} {n e w : Int} (h : HO η n) (hn : 0 ≤ n) : HO (t_keep η n e w) n := by
  unfold t_keep
  split
  · exact ho_set h (by simp only; omega)
  · exact h
theorem ho_row {η : Hs} {n e s n2 : Int} (h : HO η n) : HO (t_row η e s n2) n := by
  unfold t_row
  split
  · exact ho_set h (by simp only; omega)
  · exact h
theorem ho_put {η : Hs} {n e i v : Int} (h : HO η n) : HO (t_put η e i v) n := by
  unfold t_put
  split
  · rename_i q
    have := (h_pr_b η e i).2.2.mp q
    exact ho_set h (by simp only; omega)
  · exact h
theorem ho_shift {η : Hs} {n e i f j k : Int} (h : HO η n) : HO (t_shift η e i f j k) n := by
  unfold t_shift
  split
  · rename_i q
    have := (h_qr_b η e f).2.2.mp q.1
    exact ho_set h (by simp only; omega)
  · exact h
theorem ho_body {η : Hs} {n k : Int} (h : HO η n) : HO η (u_body n k) := fun e he q => by
  have := h e he q
  unfold u_body
  split <;> omega
theorem t_act_l {κ : Int → Int} {n m w : Int} {x : Int32} : (t_act κ n m w x).length ≤ 1000 := by
  have h1 := o_d_l (κ m) m x
  have h2 := o_m_l (κ m) (κ m) m x
  have h3 := o_s_l (κ m) (κ m) m x
  have h4 : ∀ k, (o_t k (κ m) m x).2.length ≤ 1000 := fun k => by
    have a1 := o_m_l (κ m) (κ m) m x
    have a2 := o_s_l (κ m) (κ m) m (z_I 1)
    unfold o_t o_t0
    repeat' split
    all_goals simp only [List.length_append, List.length_cons]
    all_goals omega
  have h5 := h4 (κ m)
  unfold t_act o_a
  repeat' split
  all_goals first | omega | simp
/-! the script's places; answers alike -/
theorem z_ofNat (n : Nat) : Int32.ofNat n = z_I n := by
  unfold z_I
  simp [Int32.ofInt_eq_ofNat]
section RW
variable {sL : Nat} {xs : Nat → Int32} {d : Nat} {P : Am_p} {rt pc pc' len : Nat} {lv r : List Value} {M : Am_M} {Q : Option Value → Am_M → Prop}
theorem am_r_iaSv {a : Int} {x : Int32} (h : am_lk P pc = some (.iaload, len)) (e : pc + len = pc') (hL : sL ≤ 3072) (hx : xs a.toNat = x) (k : am_rw sL xs d P rt pc' lv (.int x :: r) M Q) (hi : 0 ≤ a ∧ a < sL := by omega) : am_rw sL xs d P rt pc lv (.int (z_I a) :: .ref 900 :: r) M Q := by
  subst hx
  exact am_r_iaS h e (z_in hi (by omega)) (by omega) k
theorem am_r_eqs {t : Int} {pt : Nat} {x : Int32} (h : am_lk P pc = some (.if_icmp .eq t, len)) (e2 : t.toNat = pt) (k : am_rw sL xs d P rt pt lv r M Q) : am_rw sL xs d P rt pc lv (.int x :: .int x :: r) M Q := am_r_icmp_eqR h rfl e2 (fun _ => k) (fun q => absurd rfl q)
theorem am_r_lcs {x : Int64} (h : am_lk P pc = some (.lcmp, len)) (e : pc + len = pc') (k : am_rw sL xs d P rt pc' lv (.int (z_I 0) :: r) M Q) : am_rw sL xs d P rt pc lv (.long x :: .long x :: r) M Q := by
  obtain ⟨a, ha, rfl⟩ := z_ofL x
  refine am_r_lcmpR h e ?_
  rw [am_cmp_of ha ha, show am_cmp a a = 0 by unfold am_cmp; rw [if_neg (by omega)]; simp]
  exact k
theorem am_r_ifz {t : Int} {pt : Nat} (h : am_lk P pc = some (.ifCond .eq t, len)) (e2 : t.toNat = pt) (k : am_rw sL xs d P rt pt lv r M Q) : am_rw sL xs d P rt pc lv (.int (z_I 0) :: r) M Q := am_r_if_eqR h rfl e2 (fun _ => k) (fun q => absurd rfl q)
end RW
