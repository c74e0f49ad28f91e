/-! the reference: changes, bodies, the tape -/
def KM (M : Am_M) (ε : Cs) (σ : Sg) : Prop := KB ε σ ∧ M.1 53 5 = z_I ε.1.1 ∧ M.1 53 4 = z_I ε.1.2 ∧ ∀ i, 0 ≤ i ∧ i < ε.1.2 → M.1 55 i.toNat = z_I (t_at (ε.2 i).1 (ε.2 i).2.1) ∧ M.1 56 i.toNat = z_I (ε.2 i).2.2.1 ∧ M.1 57 i.toNat = z_I (ε.2 i).2.2.2
theorem km_cg {M M' : Am_M} {ε : Cs} {σ : Sg} (h : KM M ε σ) (h1 : M'.1 53 5 = M.1 53 5) (h2 : M'.1 53 4 = M.1 53 4) (h3 : ∀ i, M'.1 55 i = M.1 55 i) (h4 : ∀ i, M'.1 56 i = M.1 56 i) (h5 : ∀ i, M'.1 57 i = M.1 57 i) : KM M' ε σ := ⟨h.1, h1.trans h.2.1, h2.trans h.2.2.1, fun i hi => ⟨(h3 _).trans (h.2.2.2 i hi).1, (h4 _).trans (h.2.2.2 i hi).2.1, (h5 _).trans (h.2.2.2 i hi).2.2⟩⟩
theorem km_sg {M : Am_M} {ε : Cs} {σ σ' : Sg} (h : KM M ε σ) (hn : s_n σ ≤ s_n σ') (hr : ∀ a, 0 ≤ a ∧ a < s_n σ → s_rd σ' a = s_rd σ a) : KM M ε σ' := ⟨kb_mono h.1 hn hr, h.2⟩
/-- changes and the sky's numbers -/
def am_fk2 (M M' : Am_M) : Prop := (∀ k i, ¬ (k = 53 ∧ (i = 4 ∨ i = 5)) → ¬ (54 ≤ k ∧ k ≤ 57) → M'.1 k i = M.1 k i) ∧ M'.2 = M.2
theorem am_fk2_rf (M : Am_M) : am_fk2 M M := ⟨fun _ _ _ _ => rfl, rfl⟩
theorem am_fk2_up {M M' : Am_M} (h : am_fk2 M M') {k i : Nat} {x : Int32} (hk : (k = 53 ∧ (i = 4 ∨ i = 5)) ∨ (54 ≤ k ∧ k ≤ 57)) : am_fk2 M (am_upI M' k i x) := ⟨fun k' j q r => by
  show (if k' = k ∧ j = i then x else M'.1 k' j) = _
  rw [if_neg (by omega)]; exact h.1 k' j q r, h.2⟩
def t_bec (σ : Sg) (a w v : Int) : Sg := if t_old σ a w = v then σ else t_new σ a w v
def u_bec (ε : Cs) (σ : Sg) (a w v : Int) : Cs := if t_old σ a w = v then ε else k_add ε (a, w, t_old σ a w, v)
theorem m_becomes {sL : Nat} {xs : Nat → Int32} {d : Nat} {M : Am_M} {Q : Int32 → Am_M → Prop} (hd : 1 ≤ d) {σ : Sg} (hM : SM M σ) {ε : Cs} (hK : KM M ε σ) {a w v : Int} (h1 : HN σ a w) (h3 : HF σ a w v) (hq : ∀ M', am_fk2 M M' → SM M' (t_bec σ a w v) → KM M' (u_bec ε σ a w v) (t_bec σ a w v) → Q (z_I (t_old σ a w)) M') : am_bi sL xs d 161 [.ref 53, .int (z_I (t_at a w)), .int (z_I v)] M Q := by
  obtain ⟨d, rfl⟩ : ∃ e, d = e + 1 := ⟨d - 1, by omega⟩
  have hn := sb_nb hM.1
  have hnr := sb_nrb hM.1
  have hb := hK.1.1
  have h2 := t_old_F hM.1 h1
  have htb := t_old_b hM.1 h1
  have hvb : -100 ≤ v ∧ v ≤ 100 := by
    have g1 := hn_of h1
    have g2 := hf_of h3
    by_cases e : w = 0
    · have := sg_b hM.1 (a := a) (by omega)
      omega
    · omega
  have hB := k_add_B hK.1 h1 h2 h3
  obtain ⟨hm, hta, htb2⟩ := sm_may hM (a := a) (w := w) (hn_of h1)
  obtain ⟨-, hd5, hd4, he⟩ := id hK
  have key : ∀ (N : Am_M) (t : Int) (g : Int → Int × Int × Int × Int) (w4 : Value), ¬ t_old σ a w = v → 0 ≤ t ∧ t < 40 → k_add ε (a, w, t_old σ a w, v) = ((t + 1, t + 1), fun i => if i = t then (a, w, t_old σ a w, v) else g i) → am_fk2 M N → SM N σ → N.1 53 5 = z_I t → (∀ i, 0 ≤ i ∧ i < t → N.1 55 i.toNat = z_I (t_at (g i).1 (g i).2.1) ∧ N.1 56 i.toNat = z_I (g i).2.2.1 ∧ N.1 57 i.toNat = z_I (g i).2.2.2) → am_rw sL xs d am_pX11_becomes 1 97 [.ref 53, .int (z_I (t_at a w)), .int (z_I v), .int (z_I (t_old σ a w)), w4] [] N (am_pi Q) := by
    intro N t g w4 hne ht hk hF hS hn5 hg
    have hbe : t_bec σ a w v = t_new σ a w v := if_neg hne
    have hue : u_bec ε σ a w v = k_add ε (a, w, t_old σ a w, v) := if_neg hne
    rw [hbe, hue] at hq
    refine am_r_aload0 (pc' := 98) rfl rfl ?_
    refine am_r_getR (t := 55) (pc' := 101) rfl rfl rfl ?_
    refine am_r_aload0 (pc' := 102) rfl rfl ?_
    refine am_r_getIv (f := 5) (pc' := 105) rfl rfl rfl (hn5) ?_
    refine am_r_iload1 (pc' := 106) rfl rfl ?_
    refine am_r_iast (n := 40) (pc' := 107) rfl rfl (rfl) (by decide) ?_
    refine am_r_aload0 (pc' := 108) rfl rfl ?_
    refine am_r_getR (t := 56) (pc' := 111) rfl rfl rfl ?_
    refine am_r_aload0 (pc' := 112) rfl rfl ?_
    refine am_r_getIv (f := 5) (pc' := 115) rfl rfl rfl (show _ = z_I t by simpa [am_upI] using hn5) ?_
    refine am_r_iload3 (pc' := 116) rfl rfl ?_
    refine am_r_iast (n := 40) (pc' := 117) rfl rfl (rfl) (by decide) ?_
    refine am_r_aload0 (pc' := 118) rfl rfl ?_
    refine am_r_getR (t := 57) (pc' := 121) rfl rfl rfl ?_
    refine am_r_aload0 (pc' := 122) rfl rfl ?_
    refine am_r_getIv (f := 5) (pc' := 125) rfl rfl rfl (show _ = z_I t by simpa [am_upI] using hn5) ?_
    refine am_r_iload2 (pc' := 126) rfl rfl ?_
    refine am_r_iast (n := 40) (pc' := 127) rfl rfl (rfl) (by decide) ?_
    refine am_r_aload0 (pc' := 128) rfl rfl ?_
    refine am_r_dup (pc' := 129) rfl rfl rfl ?_
    refine am_r_getIv (f := 5) (pc' := 132) rfl rfl rfl (show _ = z_I t by simpa [am_upI] using hn5) ?_
    refine am_r_iconst (pc' := 133) rfl rfl ?_
    refine am_r_iadd (pc' := 134) rfl rfl ?_
    refine am_r_putI (f := 5) (pc' := 137) rfl rfl rfl (by decide) ?_
    refine am_r_aload0 (pc' := 138) rfl rfl ?_
    refine am_r_aload0 (pc' := 139) rfl rfl ?_
    refine am_r_getIv (f := 5) (pc' := 142) rfl rfl rfl (show _ = z_I (t + 1) by simp [am_upI]) ?_
    refine am_r_putI (f := 4) (pc' := 145) rfl rfl rfl (by decide) ?_
    refine am_r_aload0 (pc' := 146) rfl rfl ?_
    refine am_r_getR (t := 54) (pc' := 149) rfl rfl rfl ?_
    refine am_r_iload1 (pc' := 150) rfl rfl ?_
    refine am_r_iload2 (pc' := 151) rfl rfl ?_
    refine am_r_iast (n := 81) (pc' := 152) rfl rfl (rfl) (by decide) ?_
    refine am_r_iload3 (pc' := 153) rfl rfl ?_
    refine am_r_iret rfl rfl ?_
    refine hq _ (am_fk2_up (am_fk2_up (am_fk2_up (am_fk2_up (am_fk2_up (am_fk2_up hF (by omega)) (by omega)) (by omega)) (by omega)) (by omega)) (by omega)) ?_ ?_
    · exact sm_tell (sm_o (sm_o (sm_o (sm_o (sm_o hS (by omega)) (by omega)) (by omega)) (by omega)) (by omega)) (hn_of h1) (hf_of h3)
    · refine ⟨kb_mono hB (Int.le_of_eq (t_new_n _ _ _ _).symm) (fun x _ => congrFun (t_new_r _ _ _ _) x), ?_, ?_, fun i hi => ?_⟩
      · rw [hk]; simp [am_upI]
      · rw [hk]; simp [am_upI]
      · rw [hk] at hi ⊢
        simp only at hi ⊢
        by_cases q : i = t
        · rw [if_pos q, q]
          simp [am_upI]
        · rw [if_neg q]
          have q2 : ¬ i.toNat = t.toNat := by omega
          have := hg i (by omega)
          simpa [am_upI, q2] using this
  have hloop : ∀ (k : Nat) (i : Int) (N : Am_M), ¬ t_old σ a w = v → ε.1.1 = 40 → 1 ≤ i ∧ i + k = 40 → am_fk2 M N → SM N σ → N.1 53 5 = z_I 40 → (∀ (c : Nat) (j : Int), 55 ≤ c → c ≤ 57 → 0 ≤ j ∧ j < i - 1 → N.1 c j.toNat = M.1 c (j + 1).toNat) → (∀ (c : Nat) (j : Int), 55 ≤ c → c ≤ 57 → i - 1 ≤ j → N.1 c j.toNat = M.1 c j.toNat) → am_rw sL xs d am_pX11_becomes 1 26 [.ref 53, .int (z_I (t_at a w)), .int (z_I v), .int (z_I (t_old σ a w)), .int (z_I i)] [] N (am_pi Q) := by
    intro k
    induction k with
    | zero =>
      intro i N hne h40 hk hF hS h5 g1 g2
      refine am_r_iload4 (pc' := 28) rfl rfl ?_
      refine am_r_iconst (pc' := 30) rfl rfl ?_
      refine am_r_icmp_ge (pt := 87) (pf := 33) rfl rfl rfl (fun h30 => ?_) (fun h30 => ?_)
      · refine am_r_aload0 (pc' := 88) rfl rfl ?_
        refine am_r_dup (pc' := 89) rfl rfl rfl ?_
        refine am_r_getIv (f := 5) (pc' := 92) rfl rfl rfl (h5) ?_
        refine am_r_iconst (pc' := 93) rfl rfl ?_
        refine am_r_isub (pc' := 94) rfl rfl ?_
        refine am_r_putI (f := 5) (pc' := 97) rfl rfl rfl (by decide) ?_
        refine key _ 39 (fun i => ε.2 (i + 1)) _ hne (by omega) (if_neg (by omega)) (am_fk2_up hF (by omega)) (sm_o hS (by omega)) (am_up_e _ _ _ _) (fun j hj => ?_)
        have := he (j + 1) (by omega)
        rw [am_up_o _ _ _ _ (by omega), am_up_o _ _ _ _ (by omega), am_up_o _ _ _ _ (by omega), g1 55 j (by omega) (by omega) (by omega), g1 56 j (by omega) (by omega) (by omega), g1 57 j (by omega) (by omega) (by omega)]
        exact this
      · exfalso; omega
    | succ k ih =>
      intro i N hne h40 hk hF hS h5 g1 g2
      have g : ∀ c, 55 ≤ c → c ≤ 57 → N.1 c i.toNat = M.1 c i.toNat := fun c a b => g2 c i a b (by omega)
      have hi1 : ¬ i.toNat = (i - 1).toNat := by omega
      refine am_r_iload4 (pc' := 28) rfl rfl ?_
      refine am_r_iconst (pc' := 30) rfl rfl ?_
      refine am_r_icmp_ge (pt := 87) (pf := 33) rfl rfl rfl (fun h30 => ?_) (fun h30 => ?_)
      · exfalso; omega
      · refine am_r_aload0 (pc' := 34) rfl rfl ?_
        refine am_r_getR (t := 55) (pc' := 37) rfl rfl rfl ?_
        refine am_r_iload4 (pc' := 39) rfl rfl ?_
        refine am_r_iconst (pc' := 40) rfl rfl ?_
        refine am_r_isub (pc' := 41) rfl rfl ?_
        refine am_r_aload0 (pc' := 42) rfl rfl ?_
        refine am_r_getR (t := 55) (pc' := 45) rfl rfl rfl ?_
        refine am_r_iload4 (pc' := 47) rfl rfl ?_
        refine am_r_iaZv (n := 40) (pc' := 48) rfl rfl rfl (by decide) (g 55 (by omega) (by omega)) ?_
        refine am_r_iast (n := 40) (pc' := 49) rfl rfl (rfl) (by decide) ?_
        refine am_r_aload0 (pc' := 50) rfl rfl ?_
        refine am_r_getR (t := 56) (pc' := 53) rfl rfl rfl ?_
        refine am_r_iload4 (pc' := 55) rfl rfl ?_
        refine am_r_iconst (pc' := 56) rfl rfl ?_
        refine am_r_isub (pc' := 57) rfl rfl ?_
        refine am_r_aload0 (pc' := 58) rfl rfl ?_
        refine am_r_getR (t := 56) (pc' := 61) rfl rfl rfl ?_
        refine am_r_iload4 (pc' := 63) rfl rfl ?_
        refine am_r_iaZv (n := 40) (pc' := 64) rfl rfl rfl (by decide) (show _ = M.1 56 i.toNat by simpa [am_upI] using g 56 (by omega) (by omega)) ?_
        refine am_r_iast (n := 40) (pc' := 65) rfl rfl (rfl) (by decide) ?_
        refine am_r_aload0 (pc' := 66) rfl rfl ?_
        refine am_r_getR (t := 57) (pc' := 69) rfl rfl rfl ?_
        refine am_r_iload4 (pc' := 71) rfl rfl ?_
        refine am_r_iconst (pc' := 72) rfl rfl ?_
        refine am_r_isub (pc' := 73) rfl rfl ?_
        refine am_r_aload0 (pc' := 74) rfl rfl ?_
        refine am_r_getR (t := 57) (pc' := 77) rfl rfl rfl ?_
        refine am_r_iload4 (pc' := 79) rfl rfl ?_
        refine am_r_iaZv (n := 40) (pc' := 80) rfl rfl rfl (by decide) (show _ = M.1 57 i.toNat by simpa [am_upI] using g 57 (by omega) (by omega)) ?_
        refine am_r_iast (n := 40) (pc' := 81) rfl rfl (rfl) (by decide) ?_
        refine am_r_iinc4 (pc' := 84) rfl rfl rfl ?_
        refine am_r_goto (pc' := 26) rfl rfl ?_
        refine ih _ _ hne h40 (by omega) (am_fk2_up (am_fk2_up (am_fk2_up hF (by omega)) (by omega)) (by omega)) (sm_o (sm_o (sm_o hS (by omega)) (by omega)) (by omega)) (by simpa [am_upI] using h5) (fun c j a b hj => ?_) (fun c j a b hj => ?_)
        · by_cases q : j = i - 1
          · rw [q, show i - 1 + 1 = i by omega]
            rcases (show c = 55 ∨ c = 56 ∨ c = 57 by omega) with rfl | rfl | rfl <;> simp [am_upI]
          · have q2 : ¬ j.toNat = i.toNat - 1 := by omega
            have := g1 c j a b (by omega)
            simpa [am_upI, q2] using this
        · have q2 : ¬ j.toNat = i.toNat - 1 := by omega
          have := g2 c j a b (by omega)
          simpa [am_upI, q2] using this
  refine am_bi_of (P := am_pX11_becomes) (rt := 1) (nL := 5) (Nat.le_of_ble_eq_true rfl) rfl (Nat.le_of_ble_eq_true rfl) rfl rfl rfl ?_
  refine am_r_aload0 (pc' := 1) rfl rfl ?_
  refine am_r_getR (t := 54) (pc' := 4) rfl rfl rfl ?_
  refine am_r_iload1 (pc' := 5) rfl rfl ?_
  refine am_r_iaZv (n := 81) (pc' := 6) rfl rfl rfl (by decide) (hm) ?_
  refine am_r_istore3 (pc' := 7) rfl rfl rfl ?_
  refine am_r_iload3 (pc' := 8) rfl rfl ?_
  refine am_r_iload2 (pc' := 9) rfl rfl ?_
  refine am_r_icmp_ne (pt := 14) (pf := 12) rfl rfl rfl (fun h9 => ?_) (fun h9 => ?_)
  · refine am_r_aload0 (pc' := 15) rfl rfl ?_
    refine am_r_getIv (f := 5) (pc' := 18) rfl rfl rfl (hd5) ?_
    refine am_r_iconst (pc' := 20) rfl rfl ?_
    refine am_r_icmp_ne (pt := 97) (pf := 23) rfl rfl rfl (fun h20 => ?_) (fun h20 => ?_)
    · exact key M ε.1.1 ε.2 _ h9 (by omega) (if_pos (by omega)) (am_fk2_rf M) hM hd5 (fun i hi => he i (by omega))
    · refine am_r_iconst (pc' := 24) rfl rfl ?_
      refine am_r_istore4 (pc' := 26) rfl rfl rfl ?_
      exact hloop 39 1 M h9 h20 (by omega) (am_fk2_rf M) hM (by rw [← h20]; exact hd5) (fun c j a b hj => by omega) (fun c j a b hj => rfl)
  · refine am_r_iload3 (pc' := 13) rfl rfl ?_
    refine am_r_iret rfl rfl ?_
    rw [show t_bec σ a w v = σ from if_pos h9, show u_bec ε σ a w v = ε from if_pos h9] at hq
    exact hq M (am_fk2_rf M) hM hK
theorem m_mend {sL : Nat} {xs : Nat → Int32} {d : Nat} {M : Am_M} {Q : Int32 → Am_M → Prop} (hd : 5 ≤ d) {σ : Sg} (hM : SM M σ) {ε : Cs} (hK : KM M ε σ) {a : Int} (ha : -2147483648 ≤ a ∧ a < 2147483648) {w : Int} (hw : -2147483648 ≤ w ∧ w < 2147483648) {v : Int} (hv : -2147483648 ≤ v ∧ v < 2147483648) (hq : ∀ M', am_fk2 M M' → SM M' (t_mend σ a w v) → KM M' (u_mend ε σ a w v) (t_mend σ a w v) → Q (z_I (r_mend σ a w v)) M') : am_bi sL xs d 172 [.ref 53, .int (z_I a), .int (z_I w), .int (z_I v)] M Q := by
  obtain ⟨d, rfl⟩ : ∃ e, d = e + 1 := ⟨d - 1, by omega⟩
  have hn := sb_nb hM.1
  have hnr := sb_nrb hM.1
  refine am_bi_of (P := am_pX11_mend) (rt := 1) (nL := 5) (Nat.le_of_ble_eq_true rfl) rfl (Nat.le_of_ble_eq_true rfl) rfl rfl rfl ?_
  refine am_r_aload0 (pc' := 1) rfl rfl ?_
  refine am_r_iload1 (pc' := 2) rfl rfl ?_
  refine am_r_iload2 (pc' := 3) rfl rfl ?_
  refine am_r_invI2 (pc' := 6) rfl rfl rfl (Nat.le_of_ble_eq_true rfl) (m_placeOf (by omega) hM (by omega) (by omega) ?_ ?_)
  · intro hnn
    obtain ⟨hmm, ht0, ht1⟩ := sm_may hM hnn
    refine am_r_istore4 (pc' := 8) rfl rfl rfl ?_
    refine am_r_iload4 (pc' := 10) rfl rfl ?_
    refine am_r_if_lt (pt := 33) (pf := 13) rfl rfl rfl (fun h10 => ?_) (fun h10 => ?_)
    · exfalso; omega
    · refine am_r_aload0 (pc' := 14) rfl rfl ?_
      refine am_r_iload1 (pc' := 15) rfl rfl ?_
      refine am_r_iload2 (pc' := 16) rfl rfl ?_
      refine am_r_iload3 (pc' := 17) rfl rfl ?_
      refine am_r_invI3 (pc' := 20) rfl rfl rfl (Nat.le_of_ble_eq_true rfl) (m_mayBecome (by omega) hM hnn (by omega) ?_)
      refine am_r_if_eqB (pt := 33) (pf := 23) rfl rfl rfl (fun h20 => ?_) (fun h20 => ?_)
      · refine am_r_iconst (pc' := 35) rfl rfl ?_
        refine am_r_iret rfl rfl ?_
        rw [show t_mend σ a w v = σ from if_neg (fun q => h20 q.1.2), show u_mend ε σ a w v = ε from if_neg (fun q => h20 q.1.2), show r_mend σ a w v = -2000000000 from if_neg (fun q => h20 q.2)] at hq
        exact hq M (am_fk2_rf M) hM hK
      · have hff : HF σ a w v := h20
        refine am_r_aload0 (pc' := 24) rfl rfl ?_
        refine am_r_iload4 (pc' := 26) rfl rfl ?_
        refine am_r_iload3 (pc' := 27) rfl rfl ?_
        refine am_r_invI2 (pc' := 30) rfl rfl rfl (Nat.le_of_ble_eq_true rfl) (m_becomes (a := a) (w := w) (by omega) hM hK hnn hff ?_)
        · intro M4 hf4 hM4 hK4
          refine am_r_goto (pc' := 35) rfl rfl ?_
          refine am_r_iret rfl rfl ?_
          by_cases e : t_old σ a w = v
          · rw [show t_bec σ a w v = σ from if_pos e] at hM4 hK4
            rw [show u_bec ε σ a w v = ε from if_pos e] at hK4
            rw [show t_mend σ a w v = σ from if_neg (fun q => q.2 e), show u_mend ε σ a w v = ε from if_neg (fun q => q.2 e), show r_mend σ a w v = t_old σ a w from if_pos ⟨hnn, hff⟩] at hq
            exact hq M4 hf4 hM4 hK4
          · rw [show t_bec σ a w v = t_new σ a w v from if_neg e] at hM4 hK4
            rw [show u_bec ε σ a w v = k_add ε (a, w, t_old σ a w, v) from if_neg e] at hK4
            rw [show t_mend σ a w v = t_new σ a w v from if_pos ⟨⟨hnn, hff⟩, e⟩, show u_mend ε σ a w v = k_add ε (a, w, t_old σ a w, v) from if_pos ⟨⟨hnn, hff⟩, e⟩, show r_mend σ a w v = t_old σ a w from if_pos ⟨hnn, hff⟩] at hq
            exact hq M4 hf4 hM4 hK4
  · intro hnn
    refine am_r_istore4 (pc' := 8) rfl rfl rfl ?_
    refine am_r_iload4 (pc' := 10) rfl rfl ?_
    refine am_r_if_lt (pt := 33) (pf := 13) rfl rfl rfl (fun h10 => ?_) (fun h10 => ?_)
    · refine am_r_iconst (pc' := 35) rfl rfl ?_
      refine am_r_iret rfl rfl ?_
      rw [show t_mend σ a w v = σ from if_neg (fun q => hnn q.1.1), show u_mend ε σ a w v = ε from if_neg (fun q => hnn q.1.1), show r_mend σ a w v = -2000000000 from if_neg (fun q => hnn q.1)] at hq
      exact hq M (am_fk2_rf M) hM hK
    · exfalso; omega
theorem m_of {sL : Nat} {xs : Nat → Int32} {d : Nat} {M : Am_M} {Q : Int32 → Am_M → Prop} (hd : 5 ≤ d) {σ : Sg} (hM : SM M σ) {a : Int} (ha : -2147483648 ≤ a ∧ a < 2147483648) {w : Int} (hw : -2147483648 ≤ w ∧ w < 2147483648) (hq : Q (z_I (r_of σ a w)) M) : am_bi sL xs d 173 [.ref 53, .int (z_I a), .int (z_I w)] M Q := by
  obtain ⟨d, rfl⟩ : ∃ e, d = e + 1 := ⟨d - 1, by omega⟩
  have hn := sb_nb hM.1
  have hnr := sb_nrb hM.1
  refine am_bi_of (P := am_pX11_of) (rt := 1) (nL := 4) (Nat.le_of_ble_eq_true rfl) rfl (Nat.le_of_ble_eq_true rfl) rfl rfl rfl ?_
  refine am_r_aload0 (pc' := 1) rfl rfl ?_
  refine am_r_iload1 (pc' := 2) rfl rfl ?_
  refine am_r_iload2 (pc' := 3) rfl rfl ?_
  refine am_r_invI2 (pc' := 6) rfl rfl rfl (Nat.le_of_ble_eq_true rfl) (m_placeOf (by omega) hM (by omega) (by omega) ?_ ?_)
  · intro hnn
    obtain ⟨hmm, ht0, ht1⟩ := sm_may hM hnn
    refine am_r_istore3 (pc' := 7) rfl rfl rfl ?_
    refine am_r_iload3 (pc' := 8) rfl rfl ?_
    refine am_r_if_lt (pt := 20) (pf := 11) rfl rfl rfl (fun h8 => ?_) (fun h8 => ?_)
    · exfalso; omega
    · refine am_r_aload0 (pc' := 12) rfl rfl ?_
      refine am_r_getR (t := 54) (pc' := 15) rfl rfl rfl ?_
      refine am_r_iload3 (pc' := 16) rfl rfl ?_
      refine am_r_iaZv (n := 81) (pc' := 17) rfl rfl rfl (by decide) (hmm) ?_
      refine am_r_goto (pc' := 45) rfl rfl ?_
      refine am_r_iret rfl rfl ?_
      rw [show r_of σ a w = t_old σ a w from (if_neg (by omega)).trans (if_pos hnn)] at hq
      exact hq
  · intro hnn
    refine am_r_istore3 (pc' := 7) rfl rfl rfl ?_
    refine am_r_iload3 (pc' := 8) rfl rfl ?_
    refine am_r_if_lt (pt := 20) (pf := 11) rfl rfl rfl (fun h8 => ?_) (fun h8 => ?_)
    · refine am_r_iload2 (pc' := 21) rfl rfl ?_
      refine am_r_iconst (pc' := 22) rfl rfl ?_
      refine am_r_icmp_ne (pt := 43) (pf := 25) rfl rfl rfl (fun h22 => ?_) (fun h22 => ?_)
      · refine am_r_iconst (pc' := 45) rfl rfl ?_
        refine am_r_iret rfl rfl ?_
        rw [show r_of σ a w = -2000000000 from (if_neg (by omega)).trans (if_neg hnn)] at hq
        exact hq
      · refine am_r_aload0 (pc' := 26) rfl rfl ?_
        refine am_r_iload1 (pc' := 27) rfl rfl ?_
        refine am_r_i2l (pc' := 28) rfl rfl ?_
        refine am_r_invI1 (pc' := 31) rfl rfl rfl (Nat.le_of_ble_eq_true rfl) (m_isOrb (by omega) hM (by omega) ?_)
        refine am_r_if_eqB (pt := 43) (pf := 34) rfl rfl rfl (fun h31 => ?_) (fun h31 => ?_)
        · refine am_r_iconst (pc' := 45) rfl rfl ?_
          refine am_r_iret rfl rfl ?_
          rw [show r_of σ a w = -2000000000 from (if_pos (by omega)).trans (if_neg (by omega))] at hq
          exact hq
        · refine am_r_aload0 (pc' := 35) rfl rfl ?_
          refine am_r_getR (t := 58) (pc' := 38) rfl rfl rfl ?_
          refine am_r_iload1 (pc' := 39) rfl rfl ?_
          refine am_r_iaZv (n := 8) (pc' := 40) rfl rfl rfl (by decide) (sm_rd hM (by omega)) ?_
          refine am_r_goto (pc' := 45) rfl rfl ?_
          refine am_r_iret rfl rfl ?_
          rw [show r_of σ a w = s_rd σ a from (if_pos (by omega)).trans (if_pos (by omega))] at hq
          exact hq
    · exfalso; omega
theorem m_undo {sL : Nat} {xs : Nat → Int32} {d : Nat} {M : Am_M} {Q : Int32 → Am_M → Prop} (hd : 1 ≤ d) {σ : Sg} (hM : SM M σ) {ε : Cs} (hK : KM M ε σ) (hq : ∀ M', am_fk2 M M' → SM M' (t_undo σ ε) → KM M' (u_undo ε) (t_undo σ ε) → Q (z_I (r_undo ε)) M') : am_bi sL xs d 162 [.ref 53] M Q := by
  obtain ⟨d, rfl⟩ : ∃ e, d = e + 1 := ⟨d - 1, by omega⟩
  have hn := sb_nb hM.1
  have hnr := sb_nrb hM.1
  have hb := hK.1.1
  obtain ⟨hB, hd5, hd4, he⟩ := id hK
  refine am_bi_of (P := am_pX11_undo) (rt := 1) (nL := 1) (Nat.le_of_ble_eq_true rfl) rfl (Nat.le_of_ble_eq_true rfl) rfl rfl rfl ?_
  refine am_r_aload0 (pc' := 1) rfl rfl ?_
  refine am_r_getIv (f := 5) (pc' := 4) rfl rfl rfl (hd5) ?_
  refine am_r_if_ne (pt := 10) (pf := 7) rfl rfl rfl (fun h4 => ?_) (fun h4 => ?_)
  · obtain ⟨hmm, ht0, ht1⟩ := sm_may hM (hn_of (hB.2 (ε.1.1 - 1) (by omega)).1)
    refine am_r_aload0 (pc' := 11) rfl rfl ?_
    refine am_r_dup (pc' := 12) rfl rfl rfl ?_
    refine am_r_getIv (f := 5) (pc' := 15) rfl rfl rfl (hd5) ?_
    refine am_r_iconst (pc' := 16) rfl rfl ?_
    refine am_r_isub (pc' := 17) rfl rfl ?_
    refine am_r_putI (f := 5) (pc' := 20) rfl rfl rfl (by decide) ?_
    refine am_r_aload0 (pc' := 21) rfl rfl ?_
    refine am_r_getR (t := 54) (pc' := 24) rfl rfl rfl ?_
    refine am_r_aload0 (pc' := 25) rfl rfl ?_
    refine am_r_getR (t := 55) (pc' := 28) rfl rfl rfl ?_
    refine am_r_aload0 (pc' := 29) rfl rfl ?_
    refine am_r_getIv (f := 5) (pc' := 32) rfl rfl rfl (show _ = z_I (ε.1.1 - 1) by simp [am_upI]) ?_
    refine am_r_iaZv (n := 40) (pc' := 33) rfl rfl rfl (by decide) (show _ = z_I (t_at (ε.2 (ε.1.1 - 1)).1 (ε.2 (ε.1.1 - 1)).2.1) by simpa [am_upI] using (he (ε.1.1 - 1) (by omega)).1) ?_
    refine am_r_aload0 (pc' := 34) rfl rfl ?_
    refine am_r_getR (t := 56) (pc' := 37) rfl rfl rfl ?_
    refine am_r_aload0 (pc' := 38) rfl rfl ?_
    refine am_r_getIv (f := 5) (pc' := 41) rfl rfl rfl (show _ = z_I (ε.1.1 - 1) by simp [am_upI]) ?_
    refine am_r_iaZv (n := 40) (pc' := 42) rfl rfl rfl (by decide) (show _ = z_I (ε.2 (ε.1.1 - 1)).2.2.1 by simpa [am_upI] using (he (ε.1.1 - 1) (by omega)).2.1) ?_
    refine am_r_iast (n := 81) (pc' := 43) rfl rfl (rfl) (by decide) ?_
    refine am_r_aload0 (pc' := 44) rfl rfl ?_
    refine am_r_getIv (f := 5) (pc' := 47) rfl rfl rfl (show _ = z_I (ε.1.1 - 1) by simp [am_upI]) ?_
    refine am_r_iret rfl rfl ?_
    rw [show t_undo σ ε = t_new σ (ε.2 (ε.1.1 - 1)).1 (ε.2 (ε.1.1 - 1)).2.1 (ε.2 (ε.1.1 - 1)).2.2.1 from if_pos (by omega), show u_undo ε = ((ε.1.1 - 1, ε.1.2), ε.2) from if_pos (by omega), show r_undo ε = ε.1.1 - 1 from if_pos (by omega)] at hq
    refine hq _ (am_fk2_up (am_fk2_up (am_fk2_rf M) (by omega)) (by omega)) (sm_tell (sm_o hM (by omega)) (hn_of (hB.2 (ε.1.1 - 1) (by omega)).1) (hf_of (hB.2 (ε.1.1 - 1) (by omega)).2.1)) (km_sg (σ := σ) ⟨⟨by simp only; omega, hB.2⟩, ?_, ?_, fun i hi => ?_⟩ (Int.le_of_eq (t_new_n _ _ _ _).symm) (fun x _ => congrFun (t_new_r _ _ _ _) x))
    · simp [am_upI]
    · simpa [am_upI] using hd4
    · have := he i hi
      simpa [am_upI] using this
  · refine am_r_iconst (pc' := 9) rfl rfl ?_
    refine am_r_iret rfl rfl ?_
    rw [show t_undo σ ε = σ from if_neg (by omega), show u_undo ε = ε from if_neg (by omega), show r_undo ε = -5 from if_neg (by omega)] at hq
    exact hq M (am_fk2_rf M) hM hK
theorem m_redo {sL : Nat} {xs : Nat → Int32} {d : Nat} {M : Am_M} {Q : Int32 → Am_M → Prop} (hd : 1 ≤ d) {σ : Sg} (hM : SM M σ) {ε : Cs} (hK : KM M ε σ) (hq : ∀ M', am_fk2 M M' → SM M' (t_redo σ ε) → KM M' (u_redo ε) (t_redo σ ε) → Q (z_I (r_redo ε)) M') : am_bi sL xs d 163 [.ref 53] M Q := by
  obtain ⟨d, rfl⟩ : ∃ e, d = e + 1 := ⟨d - 1, by omega⟩
  have hn := sb_nb hM.1
  have hnr := sb_nrb hM.1
  have hb := hK.1.1
  obtain ⟨hB, hd5, hd4, he⟩ := id hK
  refine am_bi_of (P := am_pX11_redo) (rt := 1) (nL := 1) (Nat.le_of_ble_eq_true rfl) rfl (Nat.le_of_ble_eq_true rfl) rfl rfl rfl ?_
  refine am_r_aload0 (pc' := 1) rfl rfl ?_
  refine am_r_getIv (f := 5) (pc' := 4) rfl rfl rfl (hd5) ?_
  refine am_r_aload0 (pc' := 5) rfl rfl ?_
  refine am_r_getIv (f := 4) (pc' := 8) rfl rfl rfl (hd4) ?_
  refine am_r_icmp_ne (pt := 14) (pf := 11) rfl rfl rfl (fun h8 => ?_) (fun h8 => ?_)
  · obtain ⟨hmm, ht0, ht1⟩ := sm_may hM (hn_of (hB.2 ε.1.1 (by omega)).1)
    refine am_r_aload0 (pc' := 15) rfl rfl ?_
    refine am_r_getR (t := 54) (pc' := 18) rfl rfl rfl ?_
    refine am_r_aload0 (pc' := 19) rfl rfl ?_
    refine am_r_getR (t := 55) (pc' := 22) rfl rfl rfl ?_
    refine am_r_aload0 (pc' := 23) rfl rfl ?_
    refine am_r_getIv (f := 5) (pc' := 26) rfl rfl rfl (hd5) ?_
    refine am_r_iaZv (n := 40) (pc' := 27) rfl rfl rfl (by decide) ((he ε.1.1 (by omega)).1) ?_
    refine am_r_aload0 (pc' := 28) rfl rfl ?_
    refine am_r_getR (t := 57) (pc' := 31) rfl rfl rfl ?_
    refine am_r_aload0 (pc' := 32) rfl rfl ?_
    refine am_r_getIv (f := 5) (pc' := 35) rfl rfl rfl (hd5) ?_
    refine am_r_iaZv (n := 40) (pc' := 36) rfl rfl rfl (by decide) ((he ε.1.1 (by omega)).2.2) ?_
    refine am_r_iast (n := 81) (pc' := 37) rfl rfl (rfl) (by decide) ?_
    refine am_r_aload0 (pc' := 38) rfl rfl ?_
    refine am_r_dup (pc' := 39) rfl rfl rfl ?_
    refine am_r_getIv (f := 5) (pc' := 42) rfl rfl rfl (show _ = z_I ε.1.1 by simpa [am_upI] using hd5) ?_
    refine am_r_iconst (pc' := 43) rfl rfl ?_
    refine am_r_iadd (pc' := 44) rfl rfl ?_
    refine am_r_putI (f := 5) (pc' := 47) rfl rfl rfl (by decide) ?_
    refine am_r_aload0 (pc' := 48) rfl rfl ?_
    refine am_r_getIv (f := 4) (pc' := 51) rfl rfl rfl (show _ = z_I ε.1.2 by simpa [am_upI] using hd4) ?_
    refine am_r_aload0 (pc' := 52) rfl rfl ?_
    refine am_r_getIv (f := 5) (pc' := 55) rfl rfl rfl (show _ = z_I (ε.1.1 + 1) by simp [am_upI]) ?_
    refine am_r_isub (pc' := 56) rfl rfl ?_
    refine am_r_iret rfl rfl ?_
    rw [show t_redo σ ε = t_new σ (ε.2 ε.1.1).1 (ε.2 ε.1.1).2.1 (ε.2 ε.1.1).2.2.2 from if_pos (by omega), show u_redo ε = ((ε.1.1 + 1, ε.1.2), ε.2) from if_pos (by omega), show r_redo ε = ε.1.2 - (ε.1.1 + 1) from if_pos (by omega)] at hq
    refine hq _ (am_fk2_up (am_fk2_up (am_fk2_rf M) (by omega)) (by omega)) (sm_o (sm_tell hM (hn_of (hB.2 ε.1.1 (by omega)).1) (hf_of (hB.2 ε.1.1 (by omega)).2.2)) (by omega)) (km_sg (σ := σ) ⟨⟨by simp only; omega, hB.2⟩, ?_, ?_, fun i hi => ?_⟩ (Int.le_of_eq (t_new_n _ _ _ _).symm) (fun x _ => congrFun (t_new_r _ _ _ _) x))
    · simp [am_upI]
    · simpa [am_upI] using hd4
    · have := he i hi
      simpa [am_upI] using this
  · refine am_r_iconst (pc' := 13) rfl rfl ?_
    refine am_r_iret rfl rfl ?_
    rw [show t_redo σ ε = σ from if_neg (by omega), show u_redo ε = ε from if_neg (by omega), show r_redo ε = -5 from if_neg (by omega)] at hq
    exact hq M (am_fk2_rf M) hM hK
def am_fa (M M' : Am_M) : Prop := (∀ k i, ¬ (k = 53 ∧ i = 6) → k ≠ 54 → k ≠ 58 → M'.1 k i = M.1 k i) ∧ M'.2 = M.2
theorem am_fa_rf (M : Am_M) : am_fa M M := ⟨fun _ _ _ _ _ => rfl, rfl⟩
theorem am_fa_tr {M M' M'' : Am_M} (h : am_fa M M') (h2 : am_fa M' M'') : am_fa M M'' := ⟨fun k i q r s => (h2.1 k i q r s).trans (h.1 k i q r s), h2.2.trans h.2⟩
theorem m_adds2 {sL : Nat} {xs : Nat → Int32} {d : Nat} {M : Am_M} {Q : Am_M → Prop} (hd : 1 ≤ d) {σ : Sg} (hM : SM M σ) {r p w : Int} (hr : 1 ≤ r ∧ r ≤ 60) (hp : 0 ≤ p ∧ p < r) (hw : 0 ≤ w ∧ w ≤ 9) (hn8 : s_n σ < 8) (hq : ∀ M', am_fa M M' → SM M' (s_add σ r p w) → M'.1 53 6 = z_I (s_n σ + 1) → Q M') : am_bv sL xs d 167 [.ref 53, .int (z_I r), .int (z_I p), .int (z_I w)] M Q := by
  obtain ⟨d, rfl⟩ : ∃ e, d = e + 1 := ⟨d - 1, by omega⟩
  have hn := sb_nb hM.1
  have hnr := sb_nrb hM.1
  have hA := sm_add hM hn8 hr hp hw
  refine am_bv_of (P := am_pX11_adds) (rt := 0) (nL := 4) (Nat.le_of_ble_eq_true rfl) rfl (Nat.le_of_ble_eq_true rfl) rfl rfl rfl ?_
  refine am_r_aload0 (pc' := 1) rfl rfl ?_
  refine am_r_getR (t := 58) (pc' := 4) rfl rfl rfl ?_
  refine am_r_aload0 (pc' := 5) rfl rfl ?_
  refine am_r_getIv (f := 6) (pc' := 8) rfl rfl rfl (show _ = z_I (s_n σ) by simpa [am_upI] using sm_n hM) ?_
  refine am_r_iload1 (pc' := 9) rfl rfl ?_
  refine am_r_iast (n := 8) (pc' := 10) rfl rfl (rfl) (by decide) ?_
  refine am_r_aload0 (pc' := 11) rfl rfl ?_
  refine am_r_getR (t := 54) (pc' := 14) rfl rfl rfl ?_
  refine am_r_aload0 (pc' := 15) rfl rfl ?_
  refine am_r_getIv (f := 6) (pc' := 18) rfl rfl rfl (show _ = z_I (s_n σ) by simpa [am_upI] using sm_n hM) ?_
  refine am_r_iload2 (pc' := 19) rfl rfl ?_
  refine am_r_iast (n := 81) (pc' := 20) rfl rfl (rfl) (by decide) ?_
  refine am_r_aload0 (pc' := 21) rfl rfl ?_
  refine am_r_getR (t := 54) (pc' := 24) rfl rfl rfl ?_
  refine am_r_iconst (pc' := 26) rfl rfl ?_
  refine am_r_aload0 (pc' := 27) rfl rfl ?_
  refine am_r_getIv (f := 6) (pc' := 30) rfl rfl rfl (show _ = z_I (s_n σ) by simpa [am_upI] using sm_n hM) ?_
  refine am_r_iadd (pc' := 31) rfl rfl ?_
  refine am_r_iload3 (pc' := 32) rfl rfl ?_
  refine am_r_iast (n := 81) (pc' := 33) rfl rfl (rfl) (by decide) ?_
  refine am_r_aload0 (pc' := 34) rfl rfl ?_
  refine am_r_dup (pc' := 35) rfl rfl rfl ?_
  refine am_r_getIv (f := 6) (pc' := 38) rfl rfl rfl (show _ = z_I (s_n σ) by simpa [am_upI] using sm_n hM) ?_
  refine am_r_iconst (pc' := 39) rfl rfl ?_
  refine am_r_iadd (pc' := 40) rfl rfl ?_
  refine am_r_putI (f := 6) (pc' := 43) rfl rfl rfl (by decide) ?_
  refine am_r_vret rfl rfl ?_
  refine hq _ ⟨fun k i q r s => ?_, rfl⟩ hA (by simp [am_upI])
  simp only [am_upI]
  rw [if_neg (by omega), if_neg (by omega), if_neg (by omega), if_neg (by omega)]
theorem m_orb {sL : Nat} {xs : Nat → Int32} {d : Nat} {M : Am_M} {Q : Int32 → Am_M → Prop} (hd : 3 ≤ d) {σ : Sg} (hM : SM M σ) {r : Int} (hr : -2147483648 ≤ r ∧ r < 2147483648) {p : Int} (hp : -2147483648 ≤ p ∧ p < 2147483648)  (hq : ∀ M', am_fa M M' → SM M' (t_orb σ r p) → Q (z_I (r_orb σ r p)) M') : am_bi sL xs d 168 [.ref 53, .int (z_I r), .int (z_I p)] M Q := by
  obtain ⟨d, rfl⟩ : ∃ e, d = e + 1 := ⟨d - 1, by omega⟩
  have hn := sb_nb hM.1
  have hnr := sb_nrb hM.1
  refine am_bi_of (P := am_pX11_orb) (rt := 1) (nL := 3) (Nat.le_of_ble_eq_true rfl) rfl (Nat.le_of_ble_eq_true rfl) rfl rfl rfl ?_
  refine am_r_iload1 (pc' := 1) rfl rfl ?_
  refine am_r_i2l (pc' := 2) rfl rfl ?_
  refine am_r_iload2 (pc' := 3) rfl rfl ?_
  refine am_r_i2l (pc' := 4) rfl rfl ?_
  refine am_r_lconst (z := 1) (pc' := 5) rfl rfl rfl ?_
  refine am_r_ivsI3 (pc' := 8) rfl rfl rfl (Nat.le_of_ble_eq_true rfl) (m_mayCome (by omega) (by omega) (by omega) (by omega) ?_)
  refine am_r_if_neB (pt := 13) (pf := 11) rfl rfl rfl (fun h8 => ?_) (fun h8 => ?_)
  · refine am_r_aload0 (pc' := 14) rfl rfl ?_
    refine am_r_getIv (f := 6) (pc' := 17) rfl rfl rfl (sm_n hM) ?_
    refine am_r_iconst (pc' := 19) rfl rfl ?_
    refine am_r_icmp_ne (pt := 25) (pf := 22) rfl rfl rfl (fun h19 => ?_) (fun h19 => ?_)
    · refine am_r_aload0 (pc' := 26) rfl rfl ?_
      refine am_r_iload1 (pc' := 27) rfl rfl ?_
      refine am_r_iload2 (pc' := 28) rfl rfl ?_
      refine am_r_iconst (pc' := 29) rfl rfl ?_
      refine am_r_invV3 (pc' := 32) rfl rfl rfl (Nat.le_of_ble_eq_true rfl) (m_adds2 (by omega) hM (by omega) (by omega) (by omega) (by omega) ?_)
      · intro M4 hf4 hM4 hs4
        refine am_r_aload0 (pc' := 33) rfl rfl ?_
        refine am_r_getIv (f := 6) (pc' := 36) rfl rfl rfl (hs4) ?_
        refine am_r_iconst (pc' := 37) rfl rfl ?_
        refine am_r_isub (pc' := 38) rfl rfl ?_
        refine am_r_iret rfl rfl ?_
        rw [show t_orb σ r p = s_add σ r p 1 from if_pos (by omega), show r_orb σ r p = s_n σ from (if_pos (by omega)).trans (if_pos (by omega))] at hq
        exact am_q (by omega) (hq M4 hf4 hM4)
    · refine am_r_iconst (pc' := 24) rfl rfl ?_
      refine am_r_iret rfl rfl ?_
      rw [show t_orb σ r p = σ from if_neg (by omega), show r_orb σ r p = -3 from (if_pos (by omega)).trans (if_neg (by omega))] at hq
      exact hq M (am_fa_rf M) hM
  · refine am_r_iconst (pc' := 12) rfl rfl ?_
    refine am_r_iret rfl rfl ?_
    rw [show t_orb σ r p = σ from if_neg (by omega), show r_orb σ r p = -1 from if_neg (by omega)] at hq
    exact hq M (am_fa_rf M) hM
set_option maxRecDepth 20000 in
theorem m_orbs {sL : Nat} {xs : Nat → Int32} {d : Nat} {M : Am_M} {Q : Int32 → Am_M → Prop} (hd : 3 ≤ d) {σ : Sg} (hM : SM M σ) {η : Hs} (hS : HM M η) {e : Int} (he : -2147483648 ≤ e ∧ e < 2147483648) {i : Int} (hi : -2147483648 ≤ i ∧ i < 2147483648) {n : Int} (hn : -2147483648 ≤ n ∧ n < 2147483648) (hq : ∀ M', am_fa M M' → SM M' (t_orbs σ η e i n) → Q (z_I (r_orbs σ η e i n)) M') : am_bi sL xs d 169 [.ref 53, .int (z_I e), .int (z_I i), .int (z_I n)] M Q := by
  obtain ⟨d, rfl⟩ : ∃ e, d = e + 1 := ⟨d - 1, by omega⟩
  have hn := sb_nb hM.1
  have hnr := sb_nrb hM.1
  have hkb : (0 ≤ e ∧ e < 6) → -1 ≤ h_k η e ∧ h_k η e ≤ 54 := fun q => hb_k hS.1 q
  have hnb : (0 ≤ e ∧ e < 6) → h_k η e = 50 → 0 ≤ h_n η e ∧ h_n η e ≤ 60 := fun q r => hb_n hS.1 q (by omega)
  have hend : ∀ (c g : Int) (N : Am_M) (w6 : Value) (σ2 : Sg), ((0 ≤ e ∧ e < 6) ∧ 1 ≤ n ∧ n ≤ 8) → h_k η e = 50 → am_fa M N → SM N σ2 → (g = 0 ∨ (g = 1 ∧ c = n)) → 0 ≤ c ∧ c ≤ n → c = (y_or (h_v η e) (h_n η e) n.toNat i σ).1 → σ2 = (y_or (h_v η e) (h_n η e) n.toNat i σ).2 → am_rw sL xs d am_pX11_orbs 1 69 [.ref 53, .int (z_I e), .int (z_I i), .int (z_I n), .int (z_I c), .int (z_I g), w6] [] N (am_pi Q) := by
    intro c g N w6 σ2 he hk hF hM2 hg hc h1 h2
    rw [show t_orbs σ η e i n = (y_or (h_v η e) (h_n η e) n.toNat i σ).2 from if_pos ⟨he, hk⟩, show r_orbs σ η e i n = (y_or (h_v η e) (h_n η e) n.toNat i σ).1 from (if_pos he).trans ((if_neg (by omega)).trans (if_pos hk)), ← h1, ← h2] at hq
    refine am_r_iload5 (pc' := 71) rfl rfl ?_
    refine am_r_if_eq (pt := 212) (pf := 74) rfl rfl rfl (fun h71 => ?_) (fun h71 => ?_)
    · refine am_r_iload4 (pc' := 214) rfl rfl ?_
      refine am_r_iret rfl rfl ?_
      exact hq N hF hM2
    · refine am_r_iload4 (pc' := 76) rfl rfl ?_
      refine am_r_iload3 (pc' := 77) rfl rfl ?_
      refine am_r_icmp_ge (pt := 212) (pf := 80) rfl rfl rfl (fun h77 => ?_) (fun h77 => ?_)
      · refine am_r_iload4 (pc' := 214) rfl rfl ?_
        refine am_r_iret rfl rfl ?_
        exact hq N hF hM2
      · exfalso; omega
  have hloop : ∀ (k : Nat) (c : Int) (σ2 : Sg) (N : Am_M) (w6 : Value), ((0 ≤ e ∧ e < 6) ∧ 1 ≤ n ∧ n ≤ 8) → h_k η e = 50 → 0 ≤ i → (c + k = n ∧ 0 ≤ c) → am_fa M N → SM N σ2 → c + (y_or (h_v η e) (h_n η e) k (i + 3 * c) σ2).1 = (y_or (h_v η e) (h_n η e) n.toNat i σ).1 → (y_or (h_v η e) (h_n η e) k (i + 3 * c) σ2).2 = (y_or (h_v η e) (h_n η e) n.toNat i σ).2 → am_rw sL xs d am_pX11_orbs 1 69 [.ref 53, .int (z_I e), .int (z_I i), .int (z_I n), .int (z_I c), .int (z_I 1), w6] [] N (am_pi Q) := by
    intro k
    induction k with
    | zero =>
      intro c σ2 N w6 he hk h0 hc hF hM2 h1 h2
      exact hend c 1 N w6 σ2 he hk hF hM2 (Or.inr ⟨rfl, by omega⟩) (by omega) (by rw [← h1]; exact (Int.add_zero c).symm) h2
    | succ k ih =>
      intro c σ2 N w6 he hk h0 hc hF hM h1 h2
      have hS : HM N η := hm_cg hS (fun i => hF.1 71 i (by omega) (by omega) (by omega)) (fun i => hF.1 72 i (by omega) (by omega) (by omega)) (by rw [hF.2])
      have hnb2 := hnb he.1 hk
      have hn8 := sb_nb hM.1
      have hvb : ∀ z, 0 ≤ z → z < 60 → -128 ≤ h_v η e z ∧ h_v η e z ≤ 127 := fun z a b => hb_b hS.1 he.1 hk ⟨a, b⟩
      have hvx : ∀ z q : Int, q = 60 * e + z → 0 ≤ z → z < 60 → N.2 73 q.toNat = z_L (h_v η e z) := fun z q hq a b => by rw [hq]; exact hm_v hS he.1 (by omega) ⟨a, b⟩
      refine am_r_iload5 (pc' := 71) rfl rfl ?_
      refine am_r_if_eq (pt := 212) (pf := 74) rfl rfl rfl (fun h71 => ?_) (fun h71 => ?_)
      · exfalso; omega
      · refine am_r_iload4 (pc' := 76) rfl rfl ?_
        refine am_r_iload3 (pc' := 77) rfl rfl ?_
        refine am_r_icmp_ge (pt := 212) (pf := 80) rfl rfl rfl (fun h77 => ?_) (fun h77 => ?_)
        · exfalso; omega
        · refine am_r_iload2 (pc' := 81) rfl rfl ?_
          refine am_r_aload0 (pc' := 82) rfl rfl ?_
          refine am_r_getR (t := 72) (pc' := 85) rfl rfl rfl ?_
          refine am_r_iload1 (pc' := 86) rfl rfl ?_
          refine am_r_iaZv (n := 6) (pc' := 87) rfl rfl rfl (by decide) (hm_n hS he.1 (by omega)) ?_
          refine am_r_iconst (pc' := 88) rfl rfl ?_
          refine am_r_isub (pc' := 89) rfl rfl ?_
          refine am_r_iconst (pc' := 90) rfl rfl ?_
          refine am_r_iload4 (pc' := 92) rfl rfl ?_
          refine am_r_imul (pc' := 93) rfl rfl ?_
          refine am_r_isub (pc' := 94) rfl rfl ?_
          refine am_r_icmp_gt (pt := 110) (pf := 97) rfl rfl rfl (fun h94 => ?_) (fun h94 => ?_)
          · refine am_r_iconst (pc' := 111) rfl rfl ?_
            refine am_r_istore5 (pc' := 113) rfl rfl rfl ?_
            refine am_r_iconst (pc' := 115) rfl rfl ?_
            refine am_r_iload1 (pc' := 116) rfl rfl ?_
            refine am_r_imul (pc' := 117) rfl rfl ?_
            refine am_r_iload2 (pc' := 118) rfl rfl ?_
            refine am_r_iadd (pc' := 119) rfl rfl ?_
            refine am_r_iconst (pc' := 120) rfl rfl ?_
            refine am_r_iload4 (pc' := 122) rfl rfl ?_
            refine am_r_imul (pc' := 123) rfl rfl ?_
            refine am_r_iadd (pc' := 124) rfl rfl ?_
            refine am_r_istore6 (pc' := 126) rfl rfl rfl ?_
            refine am_r_iload5 (pc' := 128) rfl rfl ?_
            refine am_r_if_eq (pt := 166) (pf := 131) rfl rfl rfl (fun h128 => ?_) (fun h128 => ?_)
            · refine am_r_iconst (pc' := 167) rfl rfl ?_
              refine am_r_istore5 (pc' := 169) rfl rfl rfl ?_
              refine am_r_iload5 (pc' := 171) rfl rfl ?_
              refine am_r_if_eq (pt := 209) (pf := 174) rfl rfl rfl (fun h171 => ?_) (fun h171 => ?_)
              · refine am_r_goto (pc' := 69) rfl rfl ?_
                rw [y_or_n (by omega)] at h1 h2
                exact hend c 0 N _ σ2 he hk hF hM (Or.inl rfl) (by omega) (by rw [← h1]; exact (Int.add_zero c).symm) h2
              · exfalso; omega
            · exfalso; omega
          · refine am_r_aload0 (pc' := 98) rfl rfl ?_
            refine am_r_getIv (f := 6) (pc' := 101) rfl rfl rfl (sm_n hM) ?_
            refine am_r_iconst (pc' := 103) rfl rfl ?_
            refine am_r_icmp_ge (pt := 110) (pf := 106) rfl rfl rfl (fun h103 => ?_) (fun h103 => ?_)
            · refine am_r_iconst (pc' := 111) rfl rfl ?_
              refine am_r_istore5 (pc' := 113) rfl rfl rfl ?_
              refine am_r_iconst (pc' := 115) rfl rfl ?_
              refine am_r_iload1 (pc' := 116) rfl rfl ?_
              refine am_r_imul (pc' := 117) rfl rfl ?_
              refine am_r_iload2 (pc' := 118) rfl rfl ?_
              refine am_r_iadd (pc' := 119) rfl rfl ?_
              refine am_r_iconst (pc' := 120) rfl rfl ?_
              refine am_r_iload4 (pc' := 122) rfl rfl ?_
              refine am_r_imul (pc' := 123) rfl rfl ?_
              refine am_r_iadd (pc' := 124) rfl rfl ?_
              refine am_r_istore6 (pc' := 126) rfl rfl rfl ?_
              refine am_r_iload5 (pc' := 128) rfl rfl ?_
              refine am_r_if_eq (pt := 166) (pf := 131) rfl rfl rfl (fun h128 => ?_) (fun h128 => ?_)
              · refine am_r_iconst (pc' := 167) rfl rfl ?_
                refine am_r_istore5 (pc' := 169) rfl rfl rfl ?_
                refine am_r_iload5 (pc' := 171) rfl rfl ?_
                refine am_r_if_eq (pt := 209) (pf := 174) rfl rfl rfl (fun h171 => ?_) (fun h171 => ?_)
                · refine am_r_goto (pc' := 69) rfl rfl ?_
                  rw [y_or_n (by omega)] at h1 h2
                  exact hend c 0 N _ σ2 he hk hF hM (Or.inl rfl) (by omega) (by rw [← h1]; exact (Int.add_zero c).symm) h2
                · exfalso; omega
              · exfalso; omega
            · refine am_r_iconst (pc' := 107) rfl rfl ?_
              refine am_r_goto (pc' := 111) rfl rfl ?_
              refine am_r_istore5 (pc' := 113) rfl rfl rfl ?_
              refine am_r_iconst (pc' := 115) rfl rfl ?_
              refine am_r_iload1 (pc' := 116) rfl rfl ?_
              refine am_r_imul (pc' := 117) rfl rfl ?_
              refine am_r_iload2 (pc' := 118) rfl rfl ?_
              refine am_r_iadd (pc' := 119) rfl rfl ?_
              refine am_r_iconst (pc' := 120) rfl rfl ?_
              refine am_r_iload4 (pc' := 122) rfl rfl ?_
              refine am_r_imul (pc' := 123) rfl rfl ?_
              refine am_r_iadd (pc' := 124) rfl rfl ?_
              refine am_r_istore6 (pc' := 126) rfl rfl rfl ?_
              refine am_r_iload5 (pc' := 128) rfl rfl ?_
              refine am_r_if_eq (pt := 166) (pf := 131) rfl rfl rfl (fun h128 => ?_) (fun h128 => ?_)
              · exfalso; omega
              · have hv0 := hvb (i + 3 * c) (by omega) (by omega)
                have hv1 := hvb (i + 3 * c + 1) (by omega) (by omega)
                have hv2 := hvb (i + 3 * c + 2) (by omega) (by omega)
                refine am_r_aload0 (pc' := 132) rfl rfl ?_
                refine am_r_getR (t := 73) (pc' := 135) rfl rfl rfl ?_
                refine am_r_iload6 (pc' := 137) rfl rfl ?_
                refine am_r_laZv (n := 360) (pc' := 138) rfl rfl rfl (by decide) (hvx (i + 3 * c) _ (by omega) (by omega) (by omega)) ?_
                refine am_r_aload0 (pc' := 139) rfl rfl ?_
                refine am_r_getR (t := 73) (pc' := 142) rfl rfl rfl ?_
                refine am_r_iload6 (pc' := 144) rfl rfl ?_
                refine am_r_iconst (pc' := 145) rfl rfl ?_
                refine am_r_iadd (pc' := 146) rfl rfl ?_
                refine am_r_laZv (n := 360) (pc' := 147) rfl rfl rfl (by decide) (hvx (i + 3 * c + 1) _ (by omega) (by omega) (by omega)) ?_
                refine am_r_aload0 (pc' := 148) rfl rfl ?_
                refine am_r_getR (t := 73) (pc' := 151) rfl rfl rfl ?_
                refine am_r_iload6 (pc' := 153) rfl rfl ?_
                refine am_r_iconst (pc' := 154) rfl rfl ?_
                refine am_r_iadd (pc' := 155) rfl rfl ?_
                refine am_r_laZv (n := 360) (pc' := 156) rfl rfl rfl (by decide) (hvx (i + 3 * c + 2) _ (by omega) (by omega) (by omega)) ?_
                refine am_r_ivsI3 (pc' := 159) rfl rfl rfl (Nat.le_of_ble_eq_true rfl) (m_mayCome (by omega) (by omega) (by omega) (by omega) ?_)
                refine am_r_if_eqB (pt := 166) (pf := 162) rfl rfl rfl (fun h159 => ?_) (fun h159 => ?_)
                · refine am_r_iconst (pc' := 167) rfl rfl ?_
                  refine am_r_istore5 (pc' := 169) rfl rfl rfl ?_
                  refine am_r_iload5 (pc' := 171) rfl rfl ?_
                  refine am_r_if_eq (pt := 209) (pf := 174) rfl rfl rfl (fun h171 => ?_) (fun h171 => ?_)
                  · refine am_r_goto (pc' := 69) rfl rfl ?_
                    rw [y_or_n (by omega)] at h1 h2
                    exact hend c 0 N _ σ2 he hk hF hM (Or.inl rfl) (by omega) (by rw [← h1]; exact (Int.add_zero c).symm) h2
                  · exfalso; omega
                · refine am_r_iconst (pc' := 163) rfl rfl ?_
                  refine am_r_goto (pc' := 167) rfl rfl ?_
                  refine am_r_istore5 (pc' := 169) rfl rfl rfl ?_
                  refine am_r_iload5 (pc' := 171) rfl rfl ?_
                  refine am_r_if_eq (pt := 209) (pf := 174) rfl rfl rfl (fun h171 => ?_) (fun h171 => ?_)
                  · exfalso; omega
                  · refine am_r_aload0 (pc' := 175) rfl rfl ?_
                    refine am_r_aload0 (pc' := 176) rfl rfl ?_
                    refine am_r_getR (t := 73) (pc' := 179) rfl rfl rfl ?_
                    refine am_r_iload6 (pc' := 181) rfl rfl ?_
                    refine am_r_laZv (n := 360) (pc' := 182) rfl rfl rfl (by decide) (hvx (i + 3 * c) _ (by omega) (by omega) (by omega)) ?_
                    refine am_r_l2i (pc' := 183) rfl rfl ?_
                    refine am_r_aload0 (pc' := 184) rfl rfl ?_
                    refine am_r_getR (t := 73) (pc' := 187) rfl rfl rfl ?_
                    refine am_r_iload6 (pc' := 189) rfl rfl ?_
                    refine am_r_iconst (pc' := 190) rfl rfl ?_
                    refine am_r_iadd (pc' := 191) rfl rfl ?_
                    refine am_r_laZv (n := 360) (pc' := 192) rfl rfl rfl (by decide) (hvx (i + 3 * c + 1) _ (by omega) (by omega) (by omega)) ?_
                    refine am_r_l2i (pc' := 193) rfl rfl ?_
                    refine am_r_aload0 (pc' := 194) rfl rfl ?_
                    refine am_r_getR (t := 73) (pc' := 197) rfl rfl rfl ?_
                    refine am_r_iload6 (pc' := 199) rfl rfl ?_
                    refine am_r_iconst (pc' := 200) rfl rfl ?_
                    refine am_r_iadd (pc' := 201) rfl rfl ?_
                    refine am_r_laZv (n := 360) (pc' := 202) rfl rfl rfl (by decide) (hvx (i + 3 * c + 2) _ (by omega) (by omega) (by omega)) ?_
                    refine am_r_l2i (pc' := 203) rfl rfl ?_
                    refine am_r_invV3 (pc' := 206) rfl rfl rfl (Nat.le_of_ble_eq_true rfl) (m_adds2 (by omega) hM (by omega) (by omega) (by omega) (by omega) ?_)
                    · intro M4 hf4 hM4 hs4
                      refine am_r_iinc4 (pc' := 209) rfl rfl rfl ?_
                      refine am_r_goto (pc' := 69) rfl rfl ?_
                      rw [y_or_y (by omega)] at h1 h2
                      rw [show i + 3 * c + 3 = i + 3 * (c + 1) by omega] at h1 h2
                      exact ih (c + 1) _ M4 _ he hk h0 (by omega) (am_fa_tr hF hf4) hM4 (by rw [← h1]; simp only; omega) h2
  refine am_bi_of (P := am_pX11_orbs) (rt := 1) (nL := 7) (Nat.le_of_ble_eq_true rfl) rfl (Nat.le_of_ble_eq_true rfl) rfl rfl rfl ?_
  refine am_r_iload1 (pc' := 1) rfl rfl ?_
  refine am_r_ivsI1 (pc' := 4) rfl rfl rfl (Nat.le_of_ble_eq_true rfl) (m_isShelf (by omega) (by omega) ?_)
  refine am_r_if_eqB (pt := 19) (pf := 7) rfl rfl rfl (fun h4 => ?_) (fun h4 => ?_)
  · refine am_r_iconst (pc' := 20) rfl rfl ?_
    refine am_r_iret rfl rfl ?_
    rw [show t_orbs σ η e i n = σ from if_neg (by omega), show r_orbs σ η e i n = -1 from if_neg (by omega)] at hq
    exact hq M (am_fa_rf M) hM
  · refine am_r_iload3 (pc' := 8) rfl rfl ?_
    refine am_r_i2l (pc' := 9) rfl rfl ?_
    refine am_r_lconst (z := 1) (pc' := 10) rfl rfl rfl ?_
    refine am_r_lconst (z := 8) (pc' := 13) rfl rfl rfl ?_
    refine am_r_ivsI3 (pc' := 16) rfl rfl rfl (Nat.le_of_ble_eq_true rfl) (m_within (by omega) (by omega) (by omega) (by omega) ?_)
    refine am_r_if_neB (pt := 21) (pf := 19) rfl rfl rfl (fun h16 => ?_) (fun h16 => ?_)
    · refine am_r_aload0 (pc' := 22) rfl rfl ?_
      refine am_r_getR (t := 71) (pc' := 25) rfl rfl rfl ?_
      refine am_r_iload1 (pc' := 26) rfl rfl ?_
      refine am_r_iaZv (n := 6) (pc' := 27) rfl rfl rfl (by decide) (hm_k hS (by omega)) ?_
      refine am_r_if_lt (pt := 44) (pf := 30) rfl rfl rfl (fun h27 => ?_) (fun h27 => ?_)
      · refine am_r_iconst (pc' := 45) rfl rfl ?_
        refine am_r_istore4 (pc' := 47) rfl rfl rfl ?_
        refine am_r_aload0 (pc' := 48) rfl rfl ?_
        refine am_r_getR (t := 71) (pc' := 51) rfl rfl rfl ?_
        refine am_r_iload1 (pc' := 52) rfl rfl ?_
        refine am_r_iaZv (n := 6) (pc' := 53) rfl rfl rfl (by decide) (hm_k hS (by omega)) ?_
        refine am_r_iconst (pc' := 55) rfl rfl ?_
        refine am_r_icmp_ne (pt := 66) (pf := 58) rfl rfl rfl (fun h55 => ?_) (fun h55 => ?_)
        · refine am_r_iconst (pc' := 67) rfl rfl ?_
          refine am_r_istore5 (pc' := 69) rfl rfl rfl ?_
          refine am_r_iload5 (pc' := 71) rfl rfl ?_
          refine am_r_if_eq (pt := 212) (pf := 74) rfl rfl rfl (fun h71 => ?_) (fun h71 => ?_)
          · refine am_r_iload4 (pc' := 214) rfl rfl ?_
            refine am_r_iret rfl rfl ?_
            rw [show t_orbs σ η e i n = σ from if_neg (by omega), show r_orbs σ η e i n = 0 from (if_pos (by omega)).trans (if_pos (by omega))] at hq
            exact hq M (am_fa_rf M) hM
          · exfalso; omega
        · refine am_r_iload2 (pc' := 59) rfl rfl ?_
          refine am_r_if_lt (pt := 66) (pf := 62) rfl rfl rfl (fun h59 => ?_) (fun h59 => ?_)
          · refine am_r_iconst (pc' := 67) rfl rfl ?_
            refine am_r_istore5 (pc' := 69) rfl rfl rfl ?_
            have hno : y_or (h_v η e) (h_n η e) n.toNat i σ = (0, σ) := by
              rw [show n.toNat = (n.toNat - 1) + 1 by omega]
              exact y_or_n (by omega)
            exact hend 0 0 M _ σ (by omega) (by omega) (am_fa_rf M) hM (Or.inl rfl) (by omega) (by rw [hno]) (by rw [hno])
          · refine am_r_iconst (pc' := 63) rfl rfl ?_
            refine am_r_goto (pc' := 67) rfl rfl ?_
            refine am_r_istore5 (pc' := 69) rfl rfl rfl ?_
            exact hloop n.toNat 0 σ M _ (by omega) (by omega) (by omega) (by omega) (am_fa_rf M) hM (by rw [Int.zero_add, show i + 3 * 0 = i by omega]) (by rw [show i + 3 * 0 = i by omega])
      · refine am_r_aload0 (pc' := 31) rfl rfl ?_
        refine am_r_getR (t := 71) (pc' := 34) rfl rfl rfl ?_
        refine am_r_iload1 (pc' := 35) rfl rfl ?_
        refine am_r_iaZv (n := 6) (pc' := 36) rfl rfl rfl (by decide) (hm_k hS (by omega)) ?_
        refine am_r_iconst (pc' := 38) rfl rfl ?_
        refine am_r_icmp_eq (pt := 44) (pf := 41) rfl rfl rfl (fun h38 => ?_) (fun h38 => ?_)
        · refine am_r_iconst (pc' := 45) rfl rfl ?_
          refine am_r_istore4 (pc' := 47) rfl rfl rfl ?_
          refine am_r_aload0 (pc' := 48) rfl rfl ?_
          refine am_r_getR (t := 71) (pc' := 51) rfl rfl rfl ?_
          refine am_r_iload1 (pc' := 52) rfl rfl ?_
          refine am_r_iaZv (n := 6) (pc' := 53) rfl rfl rfl (by decide) (hm_k hS (by omega)) ?_
          refine am_r_iconst (pc' := 55) rfl rfl ?_
          refine am_r_icmp_ne (pt := 66) (pf := 58) rfl rfl rfl (fun h55 => ?_) (fun h55 => ?_)
          · refine am_r_iconst (pc' := 67) rfl rfl ?_
            refine am_r_istore5 (pc' := 69) rfl rfl rfl ?_
            refine am_r_iload5 (pc' := 71) rfl rfl ?_
            refine am_r_if_eq (pt := 212) (pf := 74) rfl rfl rfl (fun h71 => ?_) (fun h71 => ?_)
            · refine am_r_iload4 (pc' := 214) rfl rfl ?_
              refine am_r_iret rfl rfl ?_
              rw [show t_orbs σ η e i n = σ from if_neg (by omega), show r_orbs σ η e i n = 0 from (if_pos (by omega)).trans (if_pos (by omega))] at hq
              exact hq M (am_fa_rf M) hM
            · exfalso; omega
          · refine am_r_iload2 (pc' := 59) rfl rfl ?_
            refine am_r_if_lt (pt := 66) (pf := 62) rfl rfl rfl (fun h59 => ?_) (fun h59 => ?_)
            · refine am_r_iconst (pc' := 67) rfl rfl ?_
              refine am_r_istore5 (pc' := 69) rfl rfl rfl ?_
              have hno : y_or (h_v η e) (h_n η e) n.toNat i σ = (0, σ) := by
                rw [show n.toNat = (n.toNat - 1) + 1 by omega]
                exact y_or_n (by omega)
              exact hend 0 0 M _ σ (by omega) (by omega) (am_fa_rf M) hM (Or.inl rfl) (by omega) (by rw [hno]) (by rw [hno])
            · refine am_r_iconst (pc' := 63) rfl rfl ?_
              refine am_r_goto (pc' := 67) rfl rfl ?_
              refine am_r_istore5 (pc' := 69) rfl rfl rfl ?_
              exact hloop n.toNat 0 σ M _ (by omega) (by omega) (by omega) (by omega) (am_fa_rf M) hM (by rw [Int.zero_add, show i + 3 * 0 = i by omega]) (by rw [show i + 3 * 0 = i by omega])
        · refine am_r_iconst (pc' := 43) rfl rfl ?_
          refine am_r_iret rfl rfl ?_
          rw [show t_orbs σ η e i n = σ from if_neg (by omega), show r_orbs σ η e i n = -12 from (if_pos (by omega)).trans ((if_neg (by omega)).trans (if_neg (by omega)))] at hq
          exact hq M (am_fa_rf M) hM
    · refine am_r_iconst (pc' := 20) rfl rfl ?_
      refine am_r_iret rfl rfl ?_
      rw [show t_orbs σ η e i n = σ from if_neg (by omega), show r_orbs σ η e i n = -1 from if_neg (by omega)] at hq
      exact hq M (am_fa_rf M) hM
theorem tm_0 {M : Am_M} (h : M.1 53 9 = z_I 0) : TM M (fun _ => -1) 0 := ⟨by omega, fun p h0 => ⟨fun q => by omega, fun _ => rfl⟩, h, fun i h0 h1 => by omega⟩
theorem tm_cg {M M' : Am_M} {c : Int → Int} {n : Int} (h : TM M c n) (h1 : M'.1 53 9 = M.1 53 9) (h2 : ∀ i, M'.1 59 i = M.1 59 i) : TM M' c n := ⟨h.1, h.2.1, h1.trans h.2.2.1, fun i a b => (h2 _).trans (h.2.2.2 i a b)⟩
def am_ff (M M' : Am_M) : Prop := (∀ k i, ¬ (k = 53 ∧ i = 9) → k ≠ 59 → M'.1 k i = M.1 k i) ∧ M'.2 = M.2
theorem am_ff_rf (M : Am_M) : am_ff M M := ⟨fun _ _ _ _ => rfl, rfl⟩
theorem m_feed {sL : Nat} {xs : Nat → Int32} {d : Nat} {M : Am_M} {Q : Int32 → Am_M → Prop} (hd : 2 ≤ d) {c : Int → Int} {n : Int} (hT : TM M c n) {x : Int} (hx : -2147483648 ≤ x ∧ x < 2147483648)  (hq : ∀ M', am_ff M M' → TM M' (t_feed c n x) (u_feed n x) → Q (z_I (r_feed n x)) M') : am_bi sL xs d 174 [.ref 53, .int (z_I x)] M Q := by
  obtain ⟨d, rfl⟩ : ∃ e, d = e + 1 := ⟨d - 1, by omega⟩
  obtain ⟨hnb, hc, hn, hv⟩ := id hT
  refine am_bi_of (P := am_pX11_feed) (rt := 1) (nL := 2) (Nat.le_of_ble_eq_true rfl) rfl (Nat.le_of_ble_eq_true rfl) rfl rfl rfl ?_
  refine am_r_iload1 (pc' := 1) rfl rfl ?_
  refine am_r_i2l (pc' := 2) rfl rfl ?_
  refine am_r_lconst (z := 0) (pc' := 3) rfl rfl rfl ?_
  refine am_r_lconst (z := 255) (pc' := 6) rfl rfl rfl ?_
  refine am_r_ivsI3 (pc' := 9) rfl rfl rfl (Nat.le_of_ble_eq_true rfl) (m_within (by omega) (by omega) (by omega) (by omega) ?_)
  refine am_r_if_neB (pt := 14) (pf := 12) rfl rfl rfl (fun h9 => ?_) (fun h9 => ?_)
  · refine am_r_aload0 (pc' := 15) rfl rfl ?_
    refine am_r_getIv (f := 9) (pc' := 18) rfl rfl rfl (hn) ?_
    refine am_r_iconst (pc' := 20) rfl rfl ?_
    refine am_r_icmp_ne (pt := 26) (pf := 23) rfl rfl rfl (fun h20 => ?_) (fun h20 => ?_)
    · refine am_r_aload0 (pc' := 27) rfl rfl ?_
      refine am_r_getR (t := 59) (pc' := 30) rfl rfl rfl ?_
      refine am_r_aload0 (pc' := 31) rfl rfl ?_
      refine am_r_getIv (f := 9) (pc' := 34) rfl rfl rfl (hn) ?_
      refine am_r_iload1 (pc' := 35) rfl rfl ?_
      refine am_r_iast (n := 120) (pc' := 36) rfl rfl (rfl) (by decide) ?_
      refine am_r_aload0 (pc' := 37) rfl rfl ?_
      refine am_r_dup (pc' := 38) rfl rfl rfl ?_
      refine am_r_getIv (f := 9) (pc' := 41) rfl rfl rfl (show _ = z_I n by simpa [am_upI] using hn) ?_
      refine am_r_iconst (pc' := 42) rfl rfl ?_
      refine am_r_iadd (pc' := 43) rfl rfl ?_
      refine am_r_putI (f := 9) (pc' := 46) rfl rfl rfl (by decide) ?_
      refine am_r_aload0 (pc' := 47) rfl rfl ?_
      refine am_r_getIv (f := 9) (pc' := 50) rfl rfl rfl (show _ = z_I (n + 1) by simp [am_upI]) ?_
      refine am_r_iret rfl rfl ?_
      have e0 : (0 ≤ x ∧ x ≤ 255) ∧ n < 120 := by omega
      rw [show t_feed c n x = (fun i => if i = n then x else c i) from if_pos e0, show u_feed n x = n + 1 from if_pos e0, show r_feed n x = n + 1 from (if_pos e0.1).trans (if_pos e0.2)] at hq
      refine hq _ ⟨fun k i q r => ?_, rfl⟩ ⟨by omega, q_C_feed hc hnb.1 e0.1, by simp [am_upI], fun i a b => ?_⟩
      · simp only [am_upI]
        rw [if_neg (by omega), if_neg (by omega)]
      · by_cases q : i = n
        · simp only [if_pos q]
          rw [q]
          simp [am_upI]
        · simp only [if_neg q]
          have q2 : ¬ i.toNat = n.toNat := by omega
          have := hv i a (by omega)
          simpa [am_upI, q2] using this
    · refine am_r_iconst (pc' := 25) rfl rfl ?_
      refine am_r_iret rfl rfl ?_
      have e0 : ¬ ((0 ≤ x ∧ x ≤ 255) ∧ n < 120) := by omega
      rw [show t_feed c n x = c from if_neg e0, show u_feed n x = n from if_neg e0, show r_feed n x = -3 from (if_pos (by omega)).trans (if_neg (by omega))] at hq
      exact hq M (am_ff_rf M) hT
  · refine am_r_iconst (pc' := 13) rfl rfl ?_
    refine am_r_iret rfl rfl ?_
    have e0 : ¬ ((0 ≤ x ∧ x ≤ 255) ∧ n < 120) := by omega
    rw [show t_feed c n x = c from if_neg e0, show u_feed n x = n from if_neg e0, show r_feed n x = -1 from if_neg (by omega)] at hq
    exact hq M (am_ff_rf M) hT
