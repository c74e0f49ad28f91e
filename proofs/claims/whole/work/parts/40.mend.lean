/-! the class: changes, bodies, the tape -/
def HN (σ : Sg) (a w : Int) : Prop := ((w = 0 ∧ 0 ≤ a ∧ a < s_n σ) ∨ (w = 1 ∧ 0 ≤ a ∧ a < s_n σ) ∨ (w = 2 ∧ 0 ≤ a ∧ a / 10 < s_n σ ∧ a % 10 < s_n σ ∧ a / 10 ≠ a % 10) ∨ (w = 3 ∧ a = 0))
def HF (σ : Sg) (a w v : Int) : Prop := ((w = 0 ∧ 0 ≤ v ∧ v < s_rd σ a) ∨ (w = 1 ∧ 0 ≤ v ∧ v ≤ 9) ∨ (w = 2 ∧ -9 ≤ v ∧ v ≤ 9) ∨ (w = 3 ∧ 0 ≤ v ∧ v ≤ 90))
theorem hn_of {σ : Sg} {a w : Int} (h : HN σ a w) : ((w = 0 ∧ 0 ≤ a ∧ a < s_n σ) ∨ (w = 1 ∧ 0 ≤ a ∧ a < s_n σ) ∨ (w = 2 ∧ 0 ≤ a ∧ a / 10 < s_n σ ∧ a % 10 < s_n σ ∧ a / 10 ≠ a % 10) ∨ (w = 3 ∧ a = 0)) := h
theorem hf_of {σ : Sg} {a w v : Int} (h : HF σ a w v) : ((w = 0 ∧ 0 ≤ v ∧ v < s_rd σ a) ∨ (w = 1 ∧ 0 ≤ v ∧ v ≤ 9) ∨ (w = 2 ∧ -9 ≤ v ∧ v ≤ 9) ∨ (w = 3 ∧ 0 ≤ v ∧ v ≤ 90)) := h
/-- changes: how many stand, how many are kept; number, what, old, new -/
abbrev Cs : Type := (Int × Int) × (Int → Int × Int × Int × Int)
def KB (ε : Cs) (σ : Sg) : Prop := (0 ≤ ε.1.1 ∧ ε.1.1 ≤ ε.1.2 ∧ ε.1.2 ≤ 40) ∧ ∀ i, 0 ≤ i ∧ i < ε.1.2 → HN σ (ε.2 i).1 (ε.2 i).2.1 ∧ HF σ (ε.2 i).1 (ε.2 i).2.1 (ε.2 i).2.2.1 ∧ HF σ (ε.2 i).1 (ε.2 i).2.1 (ε.2 i).2.2.2
def KX (M : Am_M) (ε : Cs) (σ : Sg) : Prop := KB ε σ ∧ M.1 33 4 = z_I ε.1.1 ∧ M.1 33 5 = z_I ε.1.2 ∧ ∀ i, 0 ≤ i ∧ i < ε.1.2 → M.1 34 i.toNat = z_I (ε.2 i).1 ∧ M.1 35 i.toNat = z_I (ε.2 i).2.1 ∧ M.1 36 i.toNat = z_I (ε.2 i).2.2.1 ∧ M.1 37 i.toNat = z_I (ε.2 i).2.2.2
theorem hn_mono {σ σ' : Sg} (hn : s_n σ ≤ s_n σ') {a w : Int} (h : HN σ a w) : HN σ' a w := by
  have := hn_of h
  show ((w = 0 ∧ 0 ≤ a ∧ a < s_n σ') ∨ (w = 1 ∧ 0 ≤ a ∧ a < s_n σ') ∨ (w = 2 ∧ 0 ≤ a ∧ a / 10 < s_n σ' ∧ a % 10 < s_n σ' ∧ a / 10 ≠ a % 10) ∨ (w = 3 ∧ a = 0))
  omega
theorem hf_mono {σ σ' : Sg} {a w v : Int} (hN : HN σ a w) (hr : ∀ a, 0 ≤ a ∧ a < s_n σ → s_rd σ' a = s_rd σ a) (h : HF σ a w v) : HF σ' a w v := by
  have h1 := hn_of hN
  have h2 := hf_of h
  show ((w = 0 ∧ 0 ≤ v ∧ v < s_rd σ' a) ∨ (w = 1 ∧ 0 ≤ v ∧ v ≤ 9) ∨ (w = 2 ∧ -9 ≤ v ∧ v ≤ 9) ∨ (w = 3 ∧ 0 ≤ v ∧ v ≤ 90))
  by_cases e : w = 0
  · have := hr a (by omega)
    rw [this]
    omega
  · omega
theorem kb_mono {ε : Cs} {σ σ' : Sg} (h : KB ε σ) (hn : s_n σ ≤ s_n σ') (hr : ∀ a, 0 ≤ a ∧ a < s_n σ → s_rd σ' a = s_rd σ a) : KB ε σ' := ⟨h.1, fun i hi => ⟨hn_mono hn (h.2 i hi).1, hf_mono (h.2 i hi).1 hr (h.2 i hi).2.1, hf_mono (h.2 i hi).1 hr (h.2 i hi).2.2⟩⟩
theorem kx_cg {M M' : Am_M} {ε : Cs} {σ : Sg} (h : KX M ε σ) (hf : ∀ k, 33 ≤ k → k ≤ 37 → M'.1 k = M.1 k) : KX M' ε σ := by
  unfold KX at h ⊢
  rw [hf 33 (by omega) (by omega), hf 34 (by omega) (by omega), hf 35 (by omega) (by omega), hf 36 (by omega) (by omega), hf 37 (by omega) (by omega)]
  exact h
theorem kx_sg {M : Am_M} {ε : Cs} {σ σ' : Sg} (h : KX M ε σ) (hn : s_n σ ≤ s_n σ') (hr : ∀ a, 0 ≤ a ∧ a < s_n σ → s_rd σ' a = s_rd σ a) : KX M ε σ' := ⟨kb_mono h.1 hn hr, h.2⟩
theorem dx_sg {M : Am_M} {δ : Ds} {σ σ' : Sg} (h : DX M δ σ) (hn : s_n σ ≤ s_n σ') (hr : ∀ a, 0 ≤ a ∧ a < s_n σ → s_rd σ' a = s_rd σ a) : DX M δ σ' := ⟨fun k => ⟨⟨(h.1 k).1.1, Int.le_trans (h.1 k).1.2 hn⟩, fun a ha => by
  have h1 := (h.1 k).1
  rw [hr a (by omega)]
  exact (h.1 k).2 a ha⟩, h.2⟩
theorem t_new_n (σ : Sg) (a w v : Int) : s_n (t_new σ a w v) = s_n σ := by
  unfold t_new
  repeat' split
  all_goals rfl
theorem t_new_r (σ : Sg) (a w v : Int) : s_rd (t_new σ a w v) = s_rd σ := by
  unfold t_new
  repeat' split
  all_goals rfl
theorem s_add_r (σ : Sg) (r p w a : Int) (h : a < s_n σ) : s_rd (s_add σ r p w) a = s_rd σ a := if_neg (by show ¬ a = s_n σ; omega)
def k_add (ε : Cs) (x : Int × Int × Int × Int) : Cs := if ε.1.1 < 40 then ((ε.1.1 + 1, ε.1.1 + 1), fun i => if i = ε.1.1 then x else ε.2 i) else ((40, 40), fun i => if i = 39 then x else ε.2 (i + 1))
theorem k_add_B {ε : Cs} {σ : Sg} (h : KB ε σ) {a w o v : Int} (h1 : HN σ a w) (h2 : HF σ a w o) (h3 : HF σ a w v) : KB (k_add ε (a, w, o, v)) σ := by
  have hb := h.1
  unfold k_add
  by_cases q : ε.1.1 < 40
  · rw [if_pos q]
    refine ⟨by simp only; omega, fun i hi => ?_⟩
    simp only at hi ⊢
    by_cases r : i = ε.1.1
    · rw [if_pos r]; exact ⟨h1, h2, h3⟩
    · rw [if_neg r]; exact h.2 i (by omega)
  · rw [if_neg q]
    refine ⟨by simp only; omega, fun i hi => ?_⟩
    simp only at hi ⊢
    by_cases r : i = 39
    · rw [if_pos r]; exact ⟨h1, h2, h3⟩
    · rw [if_neg r]; exact h.2 (i + 1) (by omega)
theorem c_forgetOldest {sL : Nat} {xs : Nat → Int32} {d : Nat} {M : Am_M} {Q : Am_M → Prop} (hd : 1 ≤ d) (hq : ∀ M', am_fr 33 37 M M' → M'.1 33 4 = z_I 39 → M'.1 33 5 = M.1 33 5 → (∀ (c : Nat) (i : Int), 34 ≤ c → c ≤ 37 → 0 ≤ i ∧ i < 39 → M'.1 c i.toNat = M.1 c (i + 1).toNat) → Q M') : am_bv sL xs d 1 [.ref 33] M Q := by
  obtain ⟨d, rfl⟩ : ∃ e, d = e + 1 := ⟨d - 1, by omega⟩
  have hloop : ∀ (k : Nat) (i : Int) (N : Am_M), 1 ≤ i ∧ i + k = 40 → am_fr 33 37 M N → N.1 33 = M.1 33 → (∀ (c : Nat) (j : Int), 34 ≤ c → c ≤ 37 → 0 ≤ j ∧ j < i - 1 → N.1 c j.toNat = M.1 c (j + 1).toNat) → (∀ (c : Nat) (j : Int), 34 ≤ c → c ≤ 37 → i - 1 ≤ j → N.1 c j.toNat = M.1 c j.toNat) → am_rw sL xs d am_pX0_forgetOldest 0 2 [.ref 33, .int (z_I i)] [] N (am_pv Q) := by
    intro k
    induction k with
    | zero =>
      intro i N hk hF h33 h1 h2
      refine am_r_iload1 (pc' := 3) rfl rfl ?_
      refine am_r_iconst (pc' := 5) rfl rfl ?_
      refine am_r_icmp_ge (pt := 70) (pf := 8) rfl rfl rfl (fun h5 => ?_) (fun h5 => ?_)
      · refine am_r_aload0 (pc' := 71) rfl rfl ?_
        refine am_r_iconst (pc' := 73) rfl rfl ?_
        refine am_r_putI (f := 4) (pc' := 76) rfl rfl rfl (by decide) ?_
        refine am_r_vret rfl rfl ?_
        exact hq _ (am_fr_upI hF (by omega)) (am_up_e _ _ _ _) ((am_up_n _ _ _ _ _ (by omega)).trans (congrFun h33 5)) (fun c j a b hj => (congrFun (am_up_o _ _ _ _ (by omega)) _).trans (h1 c j a b (by omega)))
      · exfalso; omega
    | succ k ih =>
      intro i N hk hF h33 h1 h2
      have g : ∀ c, 34 ≤ c → c ≤ 37 → N.1 c i.toNat = M.1 c i.toNat := fun c a b => h2 c i a b (by omega)
      have hi1 : ¬ i.toNat = (i - 1).toNat := by omega
      refine am_r_iload1 (pc' := 3) rfl rfl ?_
      refine am_r_iconst (pc' := 5) rfl rfl ?_
      refine am_r_icmp_ge (pt := 70) (pf := 8) rfl rfl rfl (fun h5 => ?_) (fun h5 => ?_)
      · exfalso; omega
      · refine am_r_aload0 (pc' := 9) rfl rfl ?_
        refine am_r_getR (t := 34) (pc' := 12) rfl rfl rfl ?_
        refine am_r_iload1 (pc' := 13) rfl rfl ?_
        refine am_r_iconst (pc' := 14) rfl rfl ?_
        refine am_r_isub (pc' := 15) rfl rfl ?_
        refine am_r_aload0 (pc' := 16) rfl rfl ?_
        refine am_r_getR (t := 34) (pc' := 19) rfl rfl rfl ?_
        refine am_r_iload1 (pc' := 20) rfl rfl ?_
        refine am_r_iaZv (n := 40) (pc' := 21) rfl rfl rfl (by decide) (g 34 (by omega) (by omega)) ?_
        refine am_r_iast (n := 40) (pc' := 22) rfl rfl (rfl) (by decide) ?_
        refine am_r_aload0 (pc' := 23) rfl rfl ?_
        refine am_r_getR (t := 35) (pc' := 26) rfl rfl rfl ?_
        refine am_r_iload1 (pc' := 27) rfl rfl ?_
        refine am_r_iconst (pc' := 28) rfl rfl ?_
        refine am_r_isub (pc' := 29) rfl rfl ?_
        refine am_r_aload0 (pc' := 30) rfl rfl ?_
        refine am_r_getR (t := 35) (pc' := 33) rfl rfl rfl ?_
        refine am_r_iload1 (pc' := 34) rfl rfl ?_
        refine am_r_iaZv (n := 40) (pc' := 35) rfl rfl rfl (by decide) (show _ = M.1 35 i.toNat by simpa [am_upI] using g 35 (by omega) (by omega)) ?_
        refine am_r_iast (n := 40) (pc' := 36) rfl rfl (rfl) (by decide) ?_
        refine am_r_aload0 (pc' := 37) rfl rfl ?_
        refine am_r_getR (t := 36) (pc' := 40) rfl rfl rfl ?_
        refine am_r_iload1 (pc' := 41) rfl rfl ?_
        refine am_r_iconst (pc' := 42) rfl rfl ?_
        refine am_r_isub (pc' := 43) rfl rfl ?_
        refine am_r_aload0 (pc' := 44) rfl rfl ?_
        refine am_r_getR (t := 36) (pc' := 47) rfl rfl rfl ?_
        refine am_r_iload1 (pc' := 48) rfl rfl ?_
        refine am_r_iaZv (n := 40) (pc' := 49) rfl rfl rfl (by decide) (show _ = M.1 36 i.toNat by simpa [am_upI] using g 36 (by omega) (by omega)) ?_
        refine am_r_iast (n := 40) (pc' := 50) rfl rfl (rfl) (by decide) ?_
        refine am_r_aload0 (pc' := 51) rfl rfl ?_
        refine am_r_getR (t := 37) (pc' := 54) rfl rfl rfl ?_
        refine am_r_iload1 (pc' := 55) rfl rfl ?_
        refine am_r_iconst (pc' := 56) rfl rfl ?_
        refine am_r_isub (pc' := 57) rfl rfl ?_
        refine am_r_aload0 (pc' := 58) rfl rfl ?_
        refine am_r_getR (t := 37) (pc' := 61) rfl rfl rfl ?_
        refine am_r_iload1 (pc' := 62) rfl rfl ?_
        refine am_r_iaZv (n := 40) (pc' := 63) rfl rfl rfl (by decide) (show _ = M.1 37 i.toNat by simpa [am_upI] using g 37 (by omega) (by omega)) ?_
        refine am_r_iast (n := 40) (pc' := 64) rfl rfl (rfl) (by decide) ?_
        refine am_r_iinc1 (pc' := 67) rfl rfl rfl ?_
        refine am_r_goto (pc' := 2) rfl rfl ?_
        refine ih _ _ (by omega) (am_fr_upI (am_fr_upI (am_fr_upI (am_fr_upI hF (by omega)) (by omega)) (by omega)) (by omega)) ?_ (fun c j a b hj => ?_) (fun c j a b hj => ?_)
        · rw [am_up_o _ _ _ _ (by omega), am_up_o _ _ _ _ (by omega), am_up_o _ _ _ _ (by omega), am_up_o _ _ _ _ (by omega)]
          exact h33
        · by_cases q : j = i - 1
          · rw [q, show i - 1 + 1 = i by omega]
            rcases (show c = 34 ∨ c = 35 ∨ c = 36 ∨ c = 37 by omega) with rfl | rfl | rfl | rfl <;> simp [am_upI]
          · have q2 : ¬ j.toNat = i.toNat - 1 := by omega
            have := h1 c j a b (by omega)
            simpa [am_upI, q2] using this
        · have q2 : ¬ j.toNat = i.toNat - 1 := by omega
          have := h2 c j a b (by omega)
          simpa [am_upI, q2] using this
  refine am_bv_of (P := am_pX0_forgetOldest) (rt := 0) (nL := 2) (Nat.le_of_ble_eq_true rfl) rfl (Nat.le_of_ble_eq_true rfl) rfl rfl rfl ?_
  refine am_r_iconst (pc' := 1) rfl rfl ?_
  refine am_r_istore1 (pc' := 2) rfl rfl rfl ?_
  exact hloop 39 1 M (by omega) (am_fr_rf _ _ _) rfl (fun c j a b hj => by omega) (fun c j a b hj => rfl)
theorem c_chAdd {sL : Nat} {xs : Nat → Int32} {d : Nat} {M : Am_M} {Q : Am_M → Prop} (hd : 2 ≤ d) {ε : Cs} {σ : Sg} (hK : KX M ε σ) {a w o v : Int} (h1 : HN σ a w) (h2 : HF σ a w o) (h3 : HF σ a w v) (hq : ∀ M', am_fr 33 37 M M' → KX M' (k_add ε (a, w, o, v)) σ → Q M') : am_bv sL xs d 0 [.ref 33, .int (z_I a), .int (z_I w), .int (z_I o), .int (z_I v)] M Q := by
  obtain ⟨d, rfl⟩ : ∃ e, d = e + 1 := ⟨d - 1, by omega⟩
  have hb := hK.1.1
  have hB := k_add_B hK.1 h1 h2 h3
  obtain ⟨-, hd4, hd5, he⟩ := hK
  have key : ∀ (N : Am_M) (t : Int) (g : Int → Int × Int × Int × Int), 0 ≤ t ∧ t < 40 → k_add ε (a, w, o, v) = ((t + 1, t + 1), fun i => if i = t then (a, w, o, v) else g i) → am_fr 33 37 M N → N.1 33 4 = z_I t → (∀ i, 0 ≤ i ∧ i < t → N.1 34 i.toNat = z_I (g i).1 ∧ N.1 35 i.toNat = z_I (g i).2.1 ∧ N.1 36 i.toNat = z_I (g i).2.2.1 ∧ N.1 37 i.toNat = z_I (g i).2.2.2) → am_rw sL xs d am_pX0_add 0 13 [.ref 33, .int (z_I a), .int (z_I w), .int (z_I o), .int (z_I v)] [] N (am_pv Q) := by
    intro N t g ht hk hF hn hg
    refine am_r_aload0 (pc' := 14) rfl rfl ?_
    refine am_r_getR (t := 34) (pc' := 17) rfl rfl rfl ?_
    refine am_r_aload0 (pc' := 18) rfl rfl ?_
    refine am_r_getIv (f := 4) (pc' := 21) rfl rfl rfl (hn) ?_
    refine am_r_iload1 (pc' := 22) rfl rfl ?_
    refine am_r_iast (n := 40) (pc' := 23) rfl rfl (rfl) (by decide) ?_
    refine am_r_aload0 (pc' := 24) rfl rfl ?_
    refine am_r_getR (t := 35) (pc' := 27) rfl rfl rfl ?_
    refine am_r_aload0 (pc' := 28) rfl rfl ?_
    refine am_r_getIv (f := 4) (pc' := 31) rfl rfl rfl (show _ = z_I t by simpa [am_upI] using hn) ?_
    refine am_r_iload2 (pc' := 32) rfl rfl ?_
    refine am_r_iast (n := 40) (pc' := 33) rfl rfl (rfl) (by decide) ?_
    refine am_r_aload0 (pc' := 34) rfl rfl ?_
    refine am_r_getR (t := 36) (pc' := 37) rfl rfl rfl ?_
    refine am_r_aload0 (pc' := 38) rfl rfl ?_
    refine am_r_getIv (f := 4) (pc' := 41) rfl rfl rfl (show _ = z_I t by simpa [am_upI] using hn) ?_
    refine am_r_iload3 (pc' := 42) rfl rfl ?_
    refine am_r_iast (n := 40) (pc' := 43) rfl rfl (rfl) (by decide) ?_
    refine am_r_aload0 (pc' := 44) rfl rfl ?_
    refine am_r_getR (t := 37) (pc' := 47) rfl rfl rfl ?_
    refine am_r_aload0 (pc' := 48) rfl rfl ?_
    refine am_r_getIv (f := 4) (pc' := 51) rfl rfl rfl (show _ = z_I t by simpa [am_upI] using hn) ?_
    refine am_r_iload4 (pc' := 53) rfl rfl ?_
    refine am_r_iast (n := 40) (pc' := 54) rfl rfl (rfl) (by decide) ?_
    refine am_r_aload0 (pc' := 55) rfl rfl ?_
    refine am_r_dup (pc' := 56) rfl rfl rfl ?_
    refine am_r_getIv (f := 4) (pc' := 59) rfl rfl rfl (show _ = z_I t by simpa [am_upI] using hn) ?_
    refine am_r_iconst (pc' := 60) rfl rfl ?_
    refine am_r_iadd (pc' := 61) rfl rfl ?_
    refine am_r_putI (f := 4) (pc' := 64) rfl rfl rfl (by decide) ?_
    refine am_r_aload0 (pc' := 65) rfl rfl ?_
    refine am_r_aload0 (pc' := 66) rfl rfl ?_
    refine am_r_getIv (f := 4) (pc' := 69) rfl rfl rfl (show _ = z_I (t + 1) by simp [am_upI]) ?_
    refine am_r_putI (f := 5) (pc' := 72) rfl rfl rfl (by decide) ?_
    refine am_r_vret rfl rfl ?_
    refine hq _ (am_fr_upI (am_fr_upI (am_fr_upI (am_fr_upI (am_fr_upI (am_fr_upI hF (by omega)) (by omega)) (by omega)) (by omega)) (by omega)) (by omega)) ⟨hB, ?_, ?_, fun i hi => ?_⟩
    · rw [hk]; simp [am_upI]
    · rw [hk]; simp [am_upI]
    · rw [hk] at hi ⊢
      simp only at hi ⊢
      by_cases q : i = t
      · rw [if_pos q, q]
        simp [am_upI]
      · rw [if_neg q]
        have q2 : ¬ i.toNat = t.toNat := by omega
        have := hg i (by omega)
        simpa [am_upI, q2] using this
  refine am_bv_of (P := am_pX0_add) (rt := 0) (nL := 5) (Nat.le_of_ble_eq_true rfl) rfl (Nat.le_of_ble_eq_true rfl) rfl rfl rfl ?_
  refine am_r_aload0 (pc' := 1) rfl rfl ?_
  refine am_r_getIv (f := 4) (pc' := 4) rfl rfl rfl (hd4) ?_
  refine am_r_iconst (pc' := 6) rfl rfl ?_
  refine am_r_icmp_lt (pt := 13) (pf := 9) rfl rfl rfl (fun h6 => ?_) (fun h6 => ?_)
  · exact key M ε.1.1 ε.2 (by omega) (if_pos (by omega)) (am_fr_rf _ _ _) hd4 (fun i hi => he i (by omega))
  · refine am_r_aload0 (pc' := 10) rfl rfl ?_
    refine am_r_invV0 (pc' := 13) rfl rfl rfl (Nat.le_of_ble_eq_true rfl) (c_forgetOldest (by omega) ?_)
    · intro M3 hf3 h34 h35 he3
      exact key M3 39 (fun i => ε.2 (i + 1)) (by omega) (if_neg (by omega)) hf3 h34 (fun i hi => by
        have := he (i + 1) (by omega)
        rw [he3 34 i (by omega) (by omega) (by omega), he3 35 i (by omega) (by omega) (by omega), he3 36 i (by omega) (by omega) (by omega), he3 37 i (by omega) (by omega) (by omega)]
        exact this)
def r_mend (σ : Sg) (a w v : Int) : Int := if ((w = 0 ∧ 0 ≤ a ∧ a < s_n σ) ∨ (w = 1 ∧ 0 ≤ a ∧ a < s_n σ) ∨ (w = 2 ∧ 0 ≤ a ∧ a / 10 < s_n σ ∧ a % 10 < s_n σ ∧ a / 10 ≠ a % 10) ∨ (w = 3 ∧ a = 0)) ∧ ((w = 0 ∧ 0 ≤ v ∧ v < s_rd σ a) ∨ (w = 1 ∧ 0 ≤ v ∧ v ≤ 9) ∨ (w = 2 ∧ -9 ≤ v ∧ v ≤ 9) ∨ (w = 3 ∧ 0 ≤ v ∧ v ≤ 90)) then t_old σ a w else -2000000000
def t_mend (σ : Sg) (a w v : Int) : Sg := if (((w = 0 ∧ 0 ≤ a ∧ a < s_n σ) ∨ (w = 1 ∧ 0 ≤ a ∧ a < s_n σ) ∨ (w = 2 ∧ 0 ≤ a ∧ a / 10 < s_n σ ∧ a % 10 < s_n σ ∧ a / 10 ≠ a % 10) ∨ (w = 3 ∧ a = 0)) ∧ ((w = 0 ∧ 0 ≤ v ∧ v < s_rd σ a) ∨ (w = 1 ∧ 0 ≤ v ∧ v ≤ 9) ∨ (w = 2 ∧ -9 ≤ v ∧ v ≤ 9) ∨ (w = 3 ∧ 0 ≤ v ∧ v ≤ 90))) ∧ ¬ t_old σ a w = v then t_new σ a w v else σ
def u_mend (ε : Cs) (σ : Sg) (a w v : Int) : Cs := if (((w = 0 ∧ 0 ≤ a ∧ a < s_n σ) ∨ (w = 1 ∧ 0 ≤ a ∧ a < s_n σ) ∨ (w = 2 ∧ 0 ≤ a ∧ a / 10 < s_n σ ∧ a % 10 < s_n σ ∧ a / 10 ≠ a % 10) ∨ (w = 3 ∧ a = 0)) ∧ ((w = 0 ∧ 0 ≤ v ∧ v < s_rd σ a) ∨ (w = 1 ∧ 0 ≤ v ∧ v ≤ 9) ∨ (w = 2 ∧ -9 ≤ v ∧ v ≤ 9) ∨ (w = 3 ∧ 0 ≤ v ∧ v ≤ 90))) ∧ ¬ t_old σ a w = v then k_add ε (a, w, t_old σ a w, v) else ε
theorem t_old_F {σ : Sg} (h : SB σ) {a w : Int} (hN : HN σ a w) : HF σ a w (t_old σ a w) := by
  have h1 := hn_of hN
  have hn := sb_nb h
  have hnr := sb_nrb h
  show ((w = 0 ∧ 0 ≤ t_old σ a w ∧ t_old σ a w < s_rd σ a) ∨ (w = 1 ∧ 0 ≤ t_old σ a w ∧ t_old σ a w ≤ 9) ∨ (w = 2 ∧ -9 ≤ t_old σ a w ∧ t_old σ a w ≤ 9) ∨ (w = 3 ∧ 0 ≤ t_old σ a w ∧ t_old σ a w ≤ 90))
  unfold t_old
  rcases (show w = 0 ∨ w = 1 ∨ w = 2 ∨ w = 3 by omega) with e | e | e | e
  · have := sg_b h (a := a) (by omega)
    rw [if_pos e]
    omega
  · have := sg_b h (a := a) (by omega)
    rw [if_neg (by omega), if_pos e]
    omega
  · have := sb_lk h (a := a / 10) (b := a % 10) (by omega) (by omega)
    rw [if_neg (by omega), if_neg (by omega), if_pos e]
    omega
  · rw [if_neg (by omega), if_neg (by omega), if_neg (by omega)]
    omega
theorem t_old_b {σ : Sg} (h : SB σ) {a w : Int} (hN : HN σ a w) : -100 ≤ t_old σ a w ∧ t_old σ a w ≤ 100 := by
  have h1 := hn_of hN
  have h2 := hf_of (t_old_F h hN)
  by_cases e : w = 0
  · have := sg_b h (a := a) (by omega)
    omega
  · omega
/-- the sky's cells and the changes' -/
def am_fc (M M' : Am_M) : Prop := ∀ k, ¬ (1 ≤ k ∧ k ≤ 13) → ¬ (33 ≤ k ∧ k ≤ 37) → M'.1 k = M.1 k ∧ M'.2 k = M.2 k
theorem am_fc_rf (M : Am_M) : am_fc M M := fun _ _ _ => ⟨rfl, rfl⟩
theorem am_fc_tr {M M' M'' : Am_M} (h : am_fc M M') (h2 : am_fc M' M'') : am_fc M M'' := fun k q r => ⟨(h2 k q r).1.trans (h k q r).1, (h2 k q r).2.trans (h k q r).2⟩
theorem am_fc_w {M M' : Am_M} {lo hi : Nat} (h : am_fr lo hi M M') (hh : (1 ≤ lo ∧ hi ≤ 13) ∨ (33 ≤ lo ∧ hi ≤ 37)) : am_fc M M' := fun k q r => h k (by omega)
theorem c_mend {sL : Nat} {xs : Nat → Int32} {d : Nat} {M : Am_M} {Q : Int32 → Am_M → Prop} (hd : 4 ≤ d) {σ : Sg} (hX : SX M σ) {ε : Cs} (hK : KX M ε σ) {a : Int} (ha : -2147483648 ≤ a ∧ a < 2147483648) {w : Int} (hw : -2147483648 ≤ w ∧ w < 2147483648) {v : Int} (hv : -2147483648 ≤ v ∧ v < 2147483648) (hq : ∀ M', am_fc M M' → SX M' (t_mend σ a w v) → KX M' (u_mend ε σ a w v) (t_mend σ a w v) → Q (z_I (r_mend σ a w v)) M') : am_bi sL xs d 109 [.ref 0, .int (z_I a), .int (z_I w), .int (z_I v)] M Q := by
  obtain ⟨d, rfl⟩ : ∃ e, d = e + 1 := ⟨d - 1, by omega⟩
  have hn := sb_nb hX.1
  have hnr := sb_nrb hX.1
  refine am_bi_of (P := am_pX10_mend) (rt := 1) (nL := 5) (Nat.le_of_ble_eq_true rfl) rfl (Nat.le_of_ble_eq_true rfl) rfl rfl rfl ?_
  refine am_r_aload0 (pc' := 1) rfl rfl ?_
  refine am_r_getR (t := 1) (pc' := 4) rfl rfl rfl ?_
  refine am_r_iload1 (pc' := 5) rfl rfl ?_
  refine am_r_iload2 (pc' := 6) rfl rfl ?_
  refine am_r_invI2 (pc' := 9) rfl rfl rfl (Nat.le_of_ble_eq_true rfl) (c_hasNumber (by omega) hX (by omega) (by omega) ?_)
  refine am_r_if_eqB (pt := 25) (pf := 12) rfl rfl rfl (fun h9 => ?_) (fun h9 => ?_)
  · refine am_r_iconst (pc' := 27) rfl rfl ?_
    refine am_r_iret rfl rfl ?_
    rw [show t_mend σ a w v = σ from if_neg (fun q => by omega), show u_mend ε σ a w v = ε from if_neg (fun q => by omega), show r_mend σ a w v = -2000000000 from if_neg (fun q => by omega)] at hq
    exact hq M (am_fc_rf M) hX hK
  · refine am_r_aload0 (pc' := 13) rfl rfl ?_
    refine am_r_getR (t := 1) (pc' := 16) rfl rfl rfl ?_
    refine am_r_iload1 (pc' := 17) rfl rfl ?_
    refine am_r_iload2 (pc' := 18) rfl rfl ?_
    refine am_r_iload3 (pc' := 19) rfl rfl ?_
    refine am_r_invI3 (pc' := 22) rfl rfl rfl (Nat.le_of_ble_eq_true rfl) (c_fitsNumber (by omega) hX (by assumption) (by omega) ?_)
    refine am_r_if_neB (pt := 28) (pf := 25) rfl rfl rfl (fun h22 => ?_) (fun h22 => ?_)
    · refine am_r_aload0 (pc' := 29) rfl rfl ?_
      refine am_r_getR (t := 1) (pc' := 32) rfl rfl rfl ?_
      refine am_r_iload1 (pc' := 33) rfl rfl ?_
      refine am_r_iload2 (pc' := 34) rfl rfl ?_
      refine am_r_invI2 (pc' := 37) rfl rfl rfl (Nat.le_of_ble_eq_true rfl) (c_told (by omega) hX (by assumption) ?_)
      refine am_r_istore4 (pc' := 39) rfl rfl rfl ?_
      have htb := t_old_b hX.1 h9
      refine am_r_iload4 (pc' := 41) rfl rfl ?_
      refine am_r_iload3 (pc' := 42) rfl rfl ?_
      refine am_r_icmp_eq (pt := 67) (pf := 45) rfl rfl rfl (fun h42 => ?_) (fun h42 => ?_)
      · refine am_r_iload4 (pc' := 69) rfl rfl ?_
        refine am_r_iret rfl rfl ?_
        rw [show t_mend σ a w v = σ from if_neg (fun q => q.2 h42), show u_mend ε σ a w v = ε from if_neg (fun q => q.2 h42), show r_mend σ a w v = t_old σ a w from if_pos ⟨h9, h22⟩] at hq
        exact hq M (am_fc_rf M) hX hK
      · refine am_r_aload0 (pc' := 46) rfl rfl ?_
        refine am_r_getR (t := 33) (pc' := 49) rfl rfl rfl ?_
        refine am_r_iload1 (pc' := 50) rfl rfl ?_
        refine am_r_iload2 (pc' := 51) rfl rfl ?_
        refine am_r_iload4 (pc' := 53) rfl rfl ?_
        refine am_r_iload3 (pc' := 54) rfl rfl ?_
        refine am_r_invV4 (pc' := 57) rfl rfl rfl (Nat.le_of_ble_eq_true rfl) (c_chAdd (by omega) hK h9 (t_old_F hX.1 h9) h22 ?_)
        · intro M3 hf3 hK3
          have hX3 := sx_fr hX hf3 (by omega)
          refine am_r_aload0 (pc' := 58) rfl rfl ?_
          refine am_r_getR (t := 1) (pc' := 61) rfl rfl rfl ?_
          refine am_r_iload1 (pc' := 62) rfl rfl ?_
          refine am_r_iload2 (pc' := 63) rfl rfl ?_
          refine am_r_iload3 (pc' := 64) rfl rfl ?_
          refine am_r_invV3 (pc' := 67) rfl rfl rfl (Nat.le_of_ble_eq_true rfl) (c_tell (by omega) hX3 h9 h22 ?_)
          · intro M4 hf4 hX4
            refine am_r_iload4 (pc' := 69) rfl rfl ?_
            refine am_r_iret rfl rfl ?_
            rw [show t_mend σ a w v = t_new σ a w v from if_pos ⟨⟨h9, h22⟩, h42⟩, show u_mend ε σ a w v = k_add ε (a, w, t_old σ a w, v) from if_pos ⟨⟨h9, h22⟩, h42⟩, show r_mend σ a w v = t_old σ a w from if_pos ⟨h9, h22⟩] at hq
            exact hq M4 (am_fc_tr (am_fc_w hf3 (by omega)) (am_fc_w hf4 (by omega))) hX4 (kx_sg (kx_cg hK3 (fun k a b => (hf4 k (by omega)).1)) (Int.le_of_eq (t_new_n _ _ _ _).symm) (fun x _ => congrFun (t_new_r _ _ _ _) x))
    · refine am_r_iconst (pc' := 27) rfl rfl ?_
      refine am_r_iret rfl rfl ?_
      rw [show t_mend σ a w v = σ from if_neg (fun q => by omega), show u_mend ε σ a w v = ε from if_neg (fun q => by omega), show r_mend σ a w v = -2000000000 from if_neg (fun q => by omega)] at hq
      exact hq M (am_fc_rf M) hX hK
def r_of (σ : Sg) (a w : Int) : Int := if w = 4 then (if 0 ≤ a ∧ a < s_n σ then s_rd σ a else -2000000000) else if ((w = 0 ∧ 0 ≤ a ∧ a < s_n σ) ∨ (w = 1 ∧ 0 ≤ a ∧ a < s_n σ) ∨ (w = 2 ∧ 0 ≤ a ∧ a / 10 < s_n σ ∧ a % 10 < s_n σ ∧ a / 10 ≠ a % 10) ∨ (w = 3 ∧ a = 0)) then t_old σ a w else -2000000000
theorem c_of {sL : Nat} {xs : Nat → Int32} {d : Nat} {M : Am_M} {Q : Int32 → Am_M → Prop} (hd : 4 ≤ d) {σ : Sg} (hX : SX M σ) {a : Int} (ha : -2147483648 ≤ a ∧ a < 2147483648) {w : Int} (hw : -2147483648 ≤ w ∧ w < 2147483648)  (hq : Q (z_I (r_of σ a w)) M) : am_bi sL xs d 110 [.ref 0, .int (z_I a), .int (z_I w)] M Q := by
  obtain ⟨d, rfl⟩ : ∃ e, d = e + 1 := ⟨d - 1, by omega⟩
  have hn := sb_nb hX.1
  have hnr := sb_nrb hX.1
  refine am_bi_of (P := am_pX10_of) (rt := 1) (nL := 3) (Nat.le_of_ble_eq_true rfl) rfl (Nat.le_of_ble_eq_true rfl) rfl rfl rfl ?_
  refine am_r_iload2 (pc' := 1) rfl rfl ?_
  refine am_r_iconst (pc' := 2) rfl rfl ?_
  refine am_r_icmp_ne (pt := 31) (pf := 5) rfl rfl rfl (fun h2 => ?_) (fun h2 => ?_)
  · refine am_r_aload0 (pc' := 32) rfl rfl ?_
    refine am_r_getR (t := 1) (pc' := 35) rfl rfl rfl ?_
    refine am_r_iload1 (pc' := 36) rfl rfl ?_
    refine am_r_iload2 (pc' := 37) rfl rfl ?_
    refine am_r_invI2 (pc' := 40) rfl rfl rfl (Nat.le_of_ble_eq_true rfl) (c_hasNumber (by omega) hX (by omega) (by omega) ?_)
    refine am_r_if_eqB (pt := 55) (pf := 43) rfl rfl rfl (fun h40 => ?_) (fun h40 => ?_)
    · refine am_r_iconst (pc' := 57) rfl rfl ?_
      refine am_r_iret rfl rfl ?_
      first
      | (rw [show r_of σ a w = t_old σ a w from (if_neg (by omega)).trans (if_pos (by assumption))] at hq; exact hq)
      | (rw [show r_of σ a w = -2000000000 from (if_neg (by omega)).trans (if_neg (by assumption))] at hq; exact hq)
    · refine am_r_aload0 (pc' := 44) rfl rfl ?_
      refine am_r_getR (t := 1) (pc' := 47) rfl rfl rfl ?_
      refine am_r_iload1 (pc' := 48) rfl rfl ?_
      refine am_r_iload2 (pc' := 49) rfl rfl ?_
      refine am_r_invI2 (pc' := 52) rfl rfl rfl (Nat.le_of_ble_eq_true rfl) (c_told (by omega) hX (by assumption) ?_)
      refine am_r_goto (pc' := 57) rfl rfl ?_
      refine am_r_iret rfl rfl ?_
      first
      | (rw [show r_of σ a w = t_old σ a w from (if_neg (by omega)).trans (if_pos (by assumption))] at hq; exact hq)
      | (rw [show r_of σ a w = -2000000000 from (if_neg (by omega)).trans (if_neg (by assumption))] at hq; exact hq)
  · refine am_r_aload0 (pc' := 6) rfl rfl ?_
    refine am_r_getR (t := 1) (pc' := 9) rfl rfl rfl ?_
    refine am_r_iload1 (pc' := 10) rfl rfl ?_
    refine am_r_invI1 (pc' := 13) rfl rfl rfl (Nat.le_of_ble_eq_true rfl) (c_has (by omega) hX (by omega) ?_)
    refine am_r_if_eqB (pt := 28) (pf := 16) rfl rfl rfl (fun h13 => ?_) (fun h13 => ?_)
    · refine am_r_iconst (pc' := 30) rfl rfl ?_
      refine am_r_iret rfl rfl ?_
      first
      | (rw [show r_of σ a w = s_rd σ a from (if_pos (by omega)).trans (if_pos (by omega))] at hq; exact hq)
      | (rw [show r_of σ a w = -2000000000 from (if_pos (by omega)).trans (if_neg (by omega))] at hq; exact hq)
    · refine am_r_aload0 (pc' := 17) rfl rfl ?_
      refine am_r_getR (t := 1) (pc' := 20) rfl rfl rfl ?_
      refine am_r_getR (t := 2) (pc' := 23) rfl rfl rfl ?_
      refine am_r_iload1 (pc' := 24) rfl rfl ?_
      refine am_r_iaZv (n := 8) (pc' := 25) rfl rfl rfl (by decide) (sx_rd hX (by omega)) ?_
      refine am_r_goto (pc' := 30) rfl rfl ?_
      refine am_r_iret rfl rfl ?_
      first
      | (rw [show r_of σ a w = s_rd σ a from (if_pos (by omega)).trans (if_pos (by omega))] at hq; exact hq)
      | (rw [show r_of σ a w = -2000000000 from (if_pos (by omega)).trans (if_neg (by omega))] at hq; exact hq)
def r_undo (ε : Cs) : Int := if 0 < ε.1.1 then ε.1.1 - 1 else -5
def t_undo (σ : Sg) (ε : Cs) : Sg := if 0 < ε.1.1 then t_new σ (ε.2 (ε.1.1 - 1)).1 (ε.2 (ε.1.1 - 1)).2.1 (ε.2 (ε.1.1 - 1)).2.2.1 else σ
def u_undo (ε : Cs) : Cs := if 0 < ε.1.1 then ((ε.1.1 - 1, ε.1.2), ε.2) else ε
def r_redo (ε : Cs) : Int := if ε.1.1 < ε.1.2 then ε.1.2 - (ε.1.1 + 1) else -5
def t_redo (σ : Sg) (ε : Cs) : Sg := if ε.1.1 < ε.1.2 then t_new σ (ε.2 ε.1.1).1 (ε.2 ε.1.1).2.1 (ε.2 ε.1.1).2.2.2 else σ
def u_redo (ε : Cs) : Cs := if ε.1.1 < ε.1.2 then ((ε.1.1 + 1, ε.1.2), ε.2) else ε
theorem c_undo {sL : Nat} {xs : Nat → Int32} {d : Nat} {M : Am_M} {Q : Int32 → Am_M → Prop} (hd : 2 ≤ d) {σ : Sg} (hX : SX M σ) {ε : Cs} (hK : KX M ε σ) (hq : ∀ M', am_fc M M' → SX M' (t_undo σ ε) → KX M' (u_undo ε) (t_undo σ ε) → Q (z_I (r_undo ε)) M') : am_bi sL xs d 141 [.ref 0] M Q := by
  obtain ⟨d, rfl⟩ : ∃ e, d = e + 1 := ⟨d - 1, by omega⟩
  have hn := sb_nb hX.1
  have hnr := sb_nrb hX.1
  have hb := hK.1.1
  obtain ⟨hB, hd4, hd5, he⟩ := id hK
  refine am_bi_of (P := am_pX10_undo) (rt := 1) (nL := 2) (Nat.le_of_ble_eq_true rfl) rfl (Nat.le_of_ble_eq_true rfl) rfl rfl rfl ?_
  refine am_r_aload0 (pc' := 1) rfl rfl ?_
  refine am_r_getR (t := 33) (pc' := 4) rfl rfl rfl ?_
  refine am_r_getIv (f := 4) (pc' := 7) rfl rfl rfl (hd4) ?_
  refine am_r_iconst (pc' := 8) rfl rfl ?_
  refine am_r_icmp_ge (pt := 14) (pf := 11) rfl rfl rfl (fun h8 => ?_) (fun h8 => ?_)
  · refine am_r_aload0 (pc' := 15) rfl rfl ?_
    refine am_r_getR (t := 33) (pc' := 18) rfl rfl rfl ?_
    refine am_r_dup (pc' := 19) rfl rfl rfl ?_
    refine am_r_getIv (f := 4) (pc' := 22) rfl rfl rfl (hd4) ?_
    refine am_r_iconst (pc' := 23) rfl rfl ?_
    refine am_r_isub (pc' := 24) rfl rfl ?_
    refine am_r_putI (f := 4) (pc' := 27) rfl rfl rfl (by decide) ?_
    have hX2 : SX (am_upI M 33 4 (z_I (ε.1.1 - 1))) σ := sx_o hX (by omega)
    have hK2 : KX (am_upI M 33 4 (z_I (ε.1.1 - 1))) ((ε.1.1 - 1, ε.1.2), ε.2) σ := ⟨⟨by simp only; omega, hB.2⟩, by simp [am_upI], by simpa [am_upI] using hd5, fun i hi => by have := he i hi; simpa [am_upI] using this⟩
    refine am_r_aload0 (pc' := 28) rfl rfl ?_
    refine am_r_getR (t := 33) (pc' := 31) rfl rfl rfl ?_
    refine am_r_getIv (f := 4) (pc' := 34) rfl rfl rfl (show _ = z_I (ε.1.1 - 1) by simp [am_upI]) ?_
    refine am_r_istore1 (pc' := 35) rfl rfl rfl ?_
    refine am_r_aload0 (pc' := 36) rfl rfl ?_
    refine am_r_getR (t := 1) (pc' := 39) rfl rfl rfl ?_
    refine am_r_aload0 (pc' := 40) rfl rfl ?_
    refine am_r_getR (t := 33) (pc' := 43) rfl rfl rfl ?_
    refine am_r_getR (t := 34) (pc' := 46) rfl rfl rfl ?_
    refine am_r_iload1 (pc' := 47) rfl rfl ?_
    refine am_r_iaZv (n := 40) (pc' := 48) rfl rfl rfl (by decide) (show _ = z_I (ε.2 (ε.1.1 - 1)).1 by simpa [am_upI] using (he (ε.1.1 - 1) (by omega)).1) ?_
    refine am_r_aload0 (pc' := 49) rfl rfl ?_
    refine am_r_getR (t := 33) (pc' := 52) rfl rfl rfl ?_
    refine am_r_getR (t := 35) (pc' := 55) rfl rfl rfl ?_
    refine am_r_iload1 (pc' := 56) rfl rfl ?_
    refine am_r_iaZv (n := 40) (pc' := 57) rfl rfl rfl (by decide) (show _ = z_I (ε.2 (ε.1.1 - 1)).2.1 by simpa [am_upI] using (he (ε.1.1 - 1) (by omega)).2.1) ?_
    refine am_r_aload0 (pc' := 58) rfl rfl ?_
    refine am_r_getR (t := 33) (pc' := 61) rfl rfl rfl ?_
    refine am_r_getR (t := 36) (pc' := 64) rfl rfl rfl ?_
    refine am_r_iload1 (pc' := 65) rfl rfl ?_
    refine am_r_iaZv (n := 40) (pc' := 66) rfl rfl rfl (by decide) (show _ = z_I (ε.2 (ε.1.1 - 1)).2.2.1 by simpa [am_upI] using (he (ε.1.1 - 1) (by omega)).2.2.1) ?_
    refine am_r_invV3 (pc' := 69) rfl rfl rfl (Nat.le_of_ble_eq_true rfl) (c_tell (by omega) hX2 (hB.2 (ε.1.1 - 1) (by omega)).1 (hB.2 (ε.1.1 - 1) (by omega)).2.1 ?_)
    · intro M3 hf3 hX3
      refine am_r_aload0 (pc' := 70) rfl rfl ?_
      refine am_r_getR (t := 33) (pc' := 73) rfl rfl rfl ?_
      refine am_r_getIv (f := 4) (pc' := 76) rfl rfl rfl (show _ = z_I (ε.1.1 - 1) by rw [(hf3 33 (by omega)).1]; simp [am_upI]) ?_
      refine am_r_iret rfl rfl ?_
      rw [show t_undo σ ε = t_new σ (ε.2 (ε.1.1 - 1)).1 (ε.2 (ε.1.1 - 1)).2.1 (ε.2 (ε.1.1 - 1)).2.2.1 from if_pos (by omega), show u_undo ε = ((ε.1.1 - 1, ε.1.2), ε.2) from if_pos (by omega), show r_undo ε = ε.1.1 - 1 from if_pos (by omega)] at hq
      exact hq M3 (am_fc_tr (am_fc_w (am_fr_upI (am_fr_rf 33 33 M) (by omega)) (by omega)) (am_fc_w hf3 (by omega))) hX3 (kx_sg (kx_cg hK2 (fun k a b => (hf3 k (by omega)).1)) (Int.le_of_eq (t_new_n _ _ _ _).symm) (fun x _ => congrFun (t_new_r _ _ _ _) x))
  · refine am_r_iconst (pc' := 13) rfl rfl ?_
    refine am_r_iret rfl rfl ?_
    rw [show t_undo σ ε = σ from if_neg (by omega), show u_undo ε = ε from if_neg (by omega), show r_undo ε = -5 from if_neg (by omega)] at hq
    exact hq M (am_fc_rf M) hX hK
theorem c_redo {sL : Nat} {xs : Nat → Int32} {d : Nat} {M : Am_M} {Q : Int32 → Am_M → Prop} (hd : 2 ≤ d) {σ : Sg} (hX : SX M σ) {ε : Cs} (hK : KX M ε σ) (hq : ∀ M', am_fc M M' → SX M' (t_redo σ ε) → KX M' (u_redo ε) (t_redo σ ε) → Q (z_I (r_redo ε)) M') : am_bi sL xs d 142 [.ref 0] M Q := by
  obtain ⟨d, rfl⟩ : ∃ e, d = e + 1 := ⟨d - 1, by omega⟩
  have hn := sb_nb hX.1
  have hnr := sb_nrb hX.1
  have hb := hK.1.1
  obtain ⟨hB, hd4, hd5, he⟩ := id hK
  refine am_bi_of (P := am_pX10_redo) (rt := 1) (nL := 2) (Nat.le_of_ble_eq_true rfl) rfl (Nat.le_of_ble_eq_true rfl) rfl rfl rfl ?_
  refine am_r_aload0 (pc' := 1) rfl rfl ?_
  refine am_r_getR (t := 33) (pc' := 4) rfl rfl rfl ?_
  refine am_r_getIv (f := 4) (pc' := 7) rfl rfl rfl (hd4) ?_
  refine am_r_aload0 (pc' := 8) rfl rfl ?_
  refine am_r_getR (t := 33) (pc' := 11) rfl rfl rfl ?_
  refine am_r_getIv (f := 5) (pc' := 14) rfl rfl rfl (hd5) ?_
  refine am_r_icmp_lt (pt := 20) (pf := 17) rfl rfl rfl (fun h14 => ?_) (fun h14 => ?_)
  · refine am_r_aload0 (pc' := 21) rfl rfl ?_
    refine am_r_getR (t := 33) (pc' := 24) rfl rfl rfl ?_
    refine am_r_getIv (f := 4) (pc' := 27) rfl rfl rfl (hd4) ?_
    refine am_r_istore1 (pc' := 28) rfl rfl rfl ?_
    refine am_r_aload0 (pc' := 29) rfl rfl ?_
    refine am_r_getR (t := 1) (pc' := 32) rfl rfl rfl ?_
    refine am_r_aload0 (pc' := 33) rfl rfl ?_
    refine am_r_getR (t := 33) (pc' := 36) rfl rfl rfl ?_
    refine am_r_getR (t := 34) (pc' := 39) rfl rfl rfl ?_
    refine am_r_iload1 (pc' := 40) rfl rfl ?_
    refine am_r_iaZv (n := 40) (pc' := 41) rfl rfl rfl (by decide) ((he ε.1.1 (by omega)).1) ?_
    refine am_r_aload0 (pc' := 42) rfl rfl ?_
    refine am_r_getR (t := 33) (pc' := 45) rfl rfl rfl ?_
    refine am_r_getR (t := 35) (pc' := 48) rfl rfl rfl ?_
    refine am_r_iload1 (pc' := 49) rfl rfl ?_
    refine am_r_iaZv (n := 40) (pc' := 50) rfl rfl rfl (by decide) ((he ε.1.1 (by omega)).2.1) ?_
    refine am_r_aload0 (pc' := 51) rfl rfl ?_
    refine am_r_getR (t := 33) (pc' := 54) rfl rfl rfl ?_
    refine am_r_getR (t := 37) (pc' := 57) rfl rfl rfl ?_
    refine am_r_iload1 (pc' := 58) rfl rfl ?_
    refine am_r_iaZv (n := 40) (pc' := 59) rfl rfl rfl (by decide) ((he ε.1.1 (by omega)).2.2.2) ?_
    refine am_r_invV3 (pc' := 62) rfl rfl rfl (Nat.le_of_ble_eq_true rfl) (c_tell (by omega) hX (hB.2 ε.1.1 (by omega)).1 (hB.2 ε.1.1 (by omega)).2.2 ?_)
    · intro M3 hf3 hX3
      refine am_r_aload0 (pc' := 63) rfl rfl ?_
      refine am_r_getR (t := 33) (pc' := 66) rfl rfl rfl ?_
      refine am_r_dup (pc' := 67) rfl rfl rfl ?_
      refine am_r_getIv (f := 4) (pc' := 70) rfl rfl rfl (show _ = z_I ε.1.1 by rw [(hf3 33 (by omega)).1]; exact hd4) ?_
      refine am_r_iconst (pc' := 71) rfl rfl ?_
      refine am_r_iadd (pc' := 72) rfl rfl ?_
      refine am_r_putI (f := 4) (pc' := 75) rfl rfl rfl (by decide) ?_
      refine am_r_aload0 (pc' := 76) rfl rfl ?_
      refine am_r_getR (t := 33) (pc' := 79) rfl rfl rfl ?_
      refine am_r_getIv (f := 5) (pc' := 82) rfl rfl rfl (show _ = z_I ε.1.2 by simpa [am_upI, (hf3 33 (by omega)).1] using hd5) ?_
      refine am_r_aload0 (pc' := 83) rfl rfl ?_
      refine am_r_getR (t := 33) (pc' := 86) rfl rfl rfl ?_
      refine am_r_getIv (f := 4) (pc' := 89) rfl rfl rfl (show _ = z_I (ε.1.1 + 1) by simp [am_upI]) ?_
      refine am_r_isub (pc' := 90) rfl rfl ?_
      refine am_r_iret rfl rfl ?_
      rw [show t_redo σ ε = t_new σ (ε.2 ε.1.1).1 (ε.2 ε.1.1).2.1 (ε.2 ε.1.1).2.2.2 from if_pos (by omega), show u_redo ε = ((ε.1.1 + 1, ε.1.2), ε.2) from if_pos (by omega), show r_redo ε = ε.1.2 - (ε.1.1 + 1) from if_pos (by omega)] at hq
      have hK3 : KX M3 ε (t_new σ (ε.2 ε.1.1).1 (ε.2 ε.1.1).2.1 (ε.2 ε.1.1).2.2.2) := kx_sg (kx_cg hK (fun k a b => (hf3 k (by omega)).1)) (Int.le_of_eq (t_new_n _ _ _ _).symm) (fun x _ => congrFun (t_new_r _ _ _ _) x)
      obtain ⟨kB, k4, k5, ke⟩ := hK3
      refine hq _ (am_fc_tr (am_fc_w hf3 (by omega)) (am_fc_w (am_fr_upI (am_fr_rf 33 33 M3) (by omega)) (by omega))) (sx_o hX3 (by omega)) ⟨⟨by simp only; omega, kB.2⟩, by simp [am_upI], by simpa [am_upI] using k5, fun i hi => by have := ke i hi; simpa [am_upI] using this⟩
  · refine am_r_iconst (pc' := 19) rfl rfl ?_
    refine am_r_iret rfl rfl ?_
    rw [show t_redo σ ε = σ from if_neg (by omega), show u_redo ε = ε from if_neg (by omega), show r_redo ε = -5 from if_neg (by omega)] at hq
    exact hq M (am_fc_rf M) hX hK
def r_orb (σ : Sg) (r p : Int) : Int := if (1 ≤ r ∧ r ≤ 60 ∧ 0 ≤ p ∧ p < r) then (if s_n σ < 8 then s_n σ else -3) else -1
def t_orb (σ : Sg) (r p : Int) : Sg := if (1 ≤ r ∧ r ≤ 60 ∧ 0 ≤ p ∧ p < r) ∧ s_n σ < 8 then s_add σ r p 1 else σ
theorem c_orb {sL : Nat} {xs : Nat → Int32} {d : Nat} {M : Am_M} {Q : Int32 → Am_M → Prop} (hd : 2 ≤ d) {σ : Sg} (hX : SX M σ) {r : Int} (hr : -2147483648 ≤ r ∧ r < 2147483648) {p : Int} (hp : -2147483648 ≤ p ∧ p < 2147483648)  (hq : ∀ M', am_fr 1 13 M M' → SX M' (t_orb σ r p) → Q (z_I (r_orb σ r p)) M') : am_bi sL xs d 107 [.ref 0, .int (z_I r), .int (z_I p)] M Q := by
  obtain ⟨d, rfl⟩ : ∃ e, d = e + 1 := ⟨d - 1, by omega⟩
  have hn := sb_nb hX.1
  have hnr := sb_nrb hX.1
  refine am_bi_of (P := am_pX10_orb) (rt := 1) (nL := 3) (Nat.le_of_ble_eq_true rfl) rfl (Nat.le_of_ble_eq_true rfl) rfl rfl rfl ?_
  refine am_r_iload1 (pc' := 1) rfl rfl ?_
  refine am_r_iload2 (pc' := 2) rfl rfl ?_
  refine am_r_iconst (pc' := 3) rfl rfl ?_
  refine am_r_ivsI3 (pc' := 6) rfl rfl rfl (Nat.le_of_ble_eq_true rfl) (c_fitsBody (by omega) (by omega) (by omega) (by omega) ?_)
  refine am_r_if_neB (pt := 11) (pf := 9) rfl rfl rfl (fun h6 => ?_) (fun h6 => ?_)
  · refine am_r_aload0 (pc' := 12) rfl rfl ?_
    refine am_r_getR (t := 1) (pc' := 15) rfl rfl rfl ?_
    refine am_r_iload1 (pc' := 16) rfl rfl ?_
    refine am_r_iload2 (pc' := 17) rfl rfl ?_
    refine am_r_iconst (pc' := 18) rfl rfl ?_
    refine am_r_invI3 (pc' := 21) rfl rfl rfl (Nat.le_of_ble_eq_true rfl) (c_added (by omega) hX (by omega) (by omega) (by omega) ?_ ?_)
    · intro h8
      refine am_r_iret rfl rfl ?_
      rw [show t_orb σ r p = σ from if_neg (by omega), show r_orb σ r p = -3 from (if_pos (by omega)).trans (if_neg (by omega))] at hq
      exact hq M (am_fr_rf _ _ _) hX
    · intro M4 h8 hf4 hX4
      refine am_r_iret rfl rfl ?_
      rw [show t_orb σ r p = s_add σ r p 1 from if_pos (by omega), show r_orb σ r p = s_n σ from (if_pos (by omega)).trans (if_pos (by omega))] at hq
      exact hq M4 hf4 hX4
  · refine am_r_iconst (pc' := 10) rfl rfl ?_
    refine am_r_iret rfl rfl ?_
    rw [show t_orb σ r p = σ from if_neg (by omega), show r_orb σ r p = -1 from if_neg (by omega)] at hq
    exact hq M (am_fr_rf _ _ _) hX
/-- bodies from a row: how many came, the sky then -/
def y_fit (v : Int → Int) (i : Int) : Prop := 1 ≤ v i ∧ v i ≤ 60 ∧ 0 ≤ v (i + 1) ∧ v (i + 1) < v i ∧ 0 ≤ v (i + 2) ∧ v (i + 2) ≤ 9
def y_or (v : Int → Int) (L : Int) : Nat → Int → Sg → Int × Sg
  | 0, _, σ => (0, σ)
  | k + 1, i, σ => if (0 ≤ i ∧ i ≤ L - 3) ∧ (1 ≤ v i ∧ v i ≤ 60 ∧ 0 ≤ v (i + 1) ∧ v (i + 1) < v i ∧ 0 ≤ v (i + 2) ∧ v (i + 2) ≤ 9) ∧ s_n σ < 8 then (1 + (y_or v L k (i + 3) (s_add σ (v i) (v (i + 1)) (v (i + 2)))).1, (y_or v L k (i + 3) (s_add σ (v i) (v (i + 1)) (v (i + 2)))).2) else (0, σ)
def r_orbs (σ : Sg) (η : Hs) (e i n : Int) : Int := if (0 ≤ e ∧ e < 6) ∧ 1 ≤ n ∧ n ≤ 8 then (if h_k η e < 0 then 0 else if h_k η e = 50 then (y_or (h_v η e) (h_n η e) n.toNat i σ).1 else -12) else -1
def t_orbs (σ : Sg) (η : Hs) (e i n : Int) : Sg := if ((0 ≤ e ∧ e < 6) ∧ 1 ≤ n ∧ n ≤ 8) ∧ h_k η e = 50 then (y_or (h_v η e) (h_n η e) n.toNat i σ).2 else σ
theorem y_or_y {v : Int → Int} {L i : Int} {k : Nat} {σ : Sg} (h : (0 ≤ i ∧ i ≤ L - 3) ∧ (1 ≤ v i ∧ v i ≤ 60 ∧ 0 ≤ v (i + 1) ∧ v (i + 1) < v i ∧ 0 ≤ v (i + 2) ∧ v (i + 2) ≤ 9) ∧ s_n σ < 8) : y_or v L (k + 1) i σ = (1 + (y_or v L k (i + 3) (s_add σ (v i) (v (i + 1)) (v (i + 2)))).1, (y_or v L k (i + 3) (s_add σ (v i) (v (i + 1)) (v (i + 2)))).2) := if_pos h
theorem y_or_n {v : Int → Int} {L i : Int} {k : Nat} {σ : Sg} (h : ¬ ((0 ≤ i ∧ i ≤ L - 3) ∧ (1 ≤ v i ∧ v i ≤ 60 ∧ 0 ≤ v (i + 1) ∧ v (i + 1) < v i ∧ 0 ≤ v (i + 2) ∧ v (i + 2) ≤ 9) ∧ s_n σ < 8)) : y_or v L (k + 1) i σ = (0, σ) := if_neg h
theorem y_or_m (v : Int → Int) (L : Int) : ∀ (k : Nat) (i : Int) (σ : Sg), s_n σ ≤ s_n (y_or v L k i σ).2 ∧ ∀ a, a < s_n σ → s_rd (y_or v L k i σ).2 a = s_rd σ a
  | 0, _, σ => ⟨Int.le_refl _, fun _ _ => rfl⟩
  | k + 1, i, σ => by
    by_cases h : (0 ≤ i ∧ i ≤ L - 3) ∧ (1 ≤ v i ∧ v i ≤ 60 ∧ 0 ≤ v (i + 1) ∧ v (i + 1) < v i ∧ 0 ≤ v (i + 2) ∧ v (i + 2) ≤ 9) ∧ s_n σ < 8
    · rw [y_or_y h]
      have ih := y_or_m v L k (i + 3) (s_add σ (v i) (v (i + 1)) (v (i + 2)))
      have en : s_n (s_add σ (v i) (v (i + 1)) (v (i + 2))) = s_n σ + 1 := rfl
      rw [en] at ih
      exact ⟨by simp only; omega, fun a ha => (ih.2 a (by omega)).trans (s_add_r _ _ _ _ _ ha)⟩
    · rw [y_or_n h]
      exact ⟨Int.le_refl _, fun _ _ => rfl⟩
theorem c_bodiesFrom {sL : Nat} {xs : Nat → Int32} {d : Nat} {M : Am_M} {Q : Int32 → Am_M → Prop} (hd : 2 ≤ d) {σ : Sg} (hX : SX M σ) {η : Hs} (hH : HX M η) {e i n : Int} (he : 0 ≤ e ∧ e < 6) (hk : h_k η e = 50) (hi : -2147483648 ≤ i ∧ i < 2147483648) (hn : 1 ≤ n ∧ n ≤ 8) (hq : ∀ M', am_fr 1 13 M M' → SX M' (y_or (h_v η e) (h_n η e) n.toNat i σ).2 → Q (z_I (y_or (h_v η e) (h_n η e) n.toNat i σ).1) M') : am_bi sL xs d 157 [.ref 0, .int (z_I e), .int (z_I i), .int (z_I n)] M Q := by
  obtain ⟨d, rfl⟩ : ∃ e, d = e + 1 := ⟨d - 1, by omega⟩
  have hnb := hb_n hH.1 he (by omega)
  have hloop : ∀ (k : Nat) (t u c : Int) (σ : Sg) (N : Am_M) (w9 w10 w11 : Value), 0 ≤ t ∧ t + k = n → (-2147483648 ≤ u ∧ u < 2147483640) → (0 ≤ c ∧ c ≤ t) → am_fr 1 13 M N → SX N σ → (∀ M', am_fr 1 13 M M' → SX M' (y_or (h_v η e) (h_n η e) k u σ).2 → Q (z_I (c + (y_or (h_v η e) (h_n η e) k u σ).1)) M') → am_rw sL xs d am_pX10_bodiesFrom 1 31 [.ref 0, .int (z_I e), .int (z_I i), .int (z_I n), .ref (44 + e.toNat), .int (z_I (h_n η e)), .int (z_I c), .int (z_I u), .int (z_I t), w9, w10, w11] [] N (am_pi Q) := by
    intro k
    induction k with
    | zero =>
      intro t u c σ N w9 w10 w11 ht hu hc hF hX hq
      refine am_r_iload8 (pc' := 33) rfl rfl ?_
      refine am_r_iload3 (pc' := 34) rfl rfl ?_
      refine am_r_icmp_ge (pt := 122) (pf := 37) rfl rfl rfl (fun h34 => ?_) (fun h34 => ?_)
      · refine am_r_iload6 (pc' := 124) rfl rfl ?_
        refine am_r_iret rfl rfl ?_
        exact am_q (Int.add_zero c).symm (hq N hF hX)
      · exfalso; omega
    | succ k ih =>
      intro t u c σ N w9 w10 w11 ht hu hc hF hX hq
      have hH := hx_fr hH hF (by omega)
      have hvb : ∀ z, 0 ≤ z → z < 60 → -128 ≤ h_v η e z ∧ h_v η e z ≤ 127 := fun z a b => hb_b hH.1 he hk ⟨a, b⟩
      have hvx : ∀ z : Int, 0 ≤ z → z < 60 → N.2 (44 + e.toNat) z.toNat = z_L (h_v η e z) := fun z a b => hx_v hH he (by omega) ⟨a, b⟩
      have hn8 := sb_nb hX.1
      refine am_r_iload8 (pc' := 33) rfl rfl ?_
      refine am_r_iload3 (pc' := 34) rfl rfl ?_
      refine am_r_icmp_ge (pt := 122) (pf := 37) rfl rfl rfl (fun h34 => ?_) (fun h34 => ?_)
      · refine am_r_iload6 (pc' := 124) rfl rfl ?_
        refine am_r_iret rfl rfl ?_
        rw [y_or_n (by omega)] at hq
        exact am_q (Int.add_zero c).symm (hq N hF hX)
      · refine am_r_iload7 (pc' := 39) rfl rfl ?_
        refine am_r_if_lt (pt := 122) (pf := 42) rfl rfl rfl (fun h39 => ?_) (fun h39 => ?_)
        · refine am_r_iload6 (pc' := 124) rfl rfl ?_
          refine am_r_iret rfl rfl ?_
          rw [y_or_n (by omega)] at hq
          exact am_q (Int.add_zero c).symm (hq N hF hX)
        · refine am_r_iload7 (pc' := 44) rfl rfl ?_
          refine am_r_iload5 (pc' := 46) rfl rfl ?_
          refine am_r_iconst (pc' := 47) rfl rfl ?_
          refine am_r_isub (pc' := 48) rfl rfl ?_
          refine am_r_icmp_gt (pt := 122) (pf := 51) rfl rfl rfl (fun h48 => ?_) (fun h48 => ?_)
          · refine am_r_iload6 (pc' := 124) rfl rfl ?_
            refine am_r_iret rfl rfl ?_
            rw [y_or_n (by omega)] at hq
            exact am_q (Int.add_zero c).symm (hq N hF hX)
          · have hv0 := hvb u (by omega) (by omega)
            have hv1 := hvb (u + 1) (by omega) (by omega)
            have hv2 := hvb (u + 2) (by omega) (by omega)
            refine am_r_aload4 (pc' := 53) rfl rfl ?_
            refine am_r_iload7 (pc' := 55) rfl rfl ?_
            refine am_r_laZv (n := 60) (pc' := 56) rfl rfl (am_row6z he) (by decide) (hvx u (by omega) (by omega)) ?_
            refine am_r_l2i (pc' := 57) rfl rfl ?_
            refine am_r_istore9 (pc' := 59) rfl rfl rfl ?_
            refine am_r_aload4 (pc' := 61) rfl rfl ?_
            refine am_r_iload7 (pc' := 63) rfl rfl ?_
            refine am_r_iconst (pc' := 64) rfl rfl ?_
            refine am_r_iadd (pc' := 65) rfl rfl ?_
            refine am_r_laZv (n := 60) (pc' := 66) rfl rfl (am_row6z he) (by decide) (hvx (u + 1) (by omega) (by omega)) ?_
            refine am_r_l2i (pc' := 67) rfl rfl ?_
            refine am_r_istore10 (pc' := 69) rfl rfl rfl ?_
            refine am_r_aload4 (pc' := 71) rfl rfl ?_
            refine am_r_iload7 (pc' := 73) rfl rfl ?_
            refine am_r_iconst (pc' := 74) rfl rfl ?_
            refine am_r_iadd (pc' := 75) rfl rfl ?_
            refine am_r_laZv (n := 60) (pc' := 76) rfl rfl (am_row6z he) (by decide) (hvx (u + 2) (by omega) (by omega)) ?_
            refine am_r_l2i (pc' := 77) rfl rfl ?_
            refine am_r_istore11 (pc' := 79) rfl rfl rfl ?_
            refine am_r_iload9 (pc' := 81) rfl rfl ?_
            refine am_r_iload10 (pc' := 83) rfl rfl ?_
            refine am_r_iload11 (pc' := 85) rfl rfl ?_
            refine am_r_ivsI3 (pc' := 88) rfl rfl rfl (Nat.le_of_ble_eq_true rfl) (c_fitsBody (by omega) (by omega) (by omega) (by omega) ?_)
            refine am_r_if_eqB (pt := 107) (pf := 91) rfl rfl rfl (fun h88 => ?_) (fun h88 => ?_)
            · refine am_r_iload6 (pc' := 109) rfl rfl ?_
              refine am_r_iret rfl rfl ?_
              rw [y_or_n (by omega)] at hq
              exact am_q (Int.add_zero c).symm (hq N hF hX)
            · refine am_r_aload0 (pc' := 92) rfl rfl ?_
              refine am_r_getR (t := 1) (pc' := 95) rfl rfl rfl ?_
              refine am_r_iload9 (pc' := 97) rfl rfl ?_
              refine am_r_iload10 (pc' := 99) rfl rfl ?_
              refine am_r_iload11 (pc' := 101) rfl rfl ?_
              refine am_r_invI3 (pc' := 104) rfl rfl rfl (Nat.le_of_ble_eq_true rfl) (c_added (by omega) hX (by omega) (by omega) (by omega) ?_ ?_)
              · intro h8
                refine am_r_if_ge (pt := 110) (pf := 107) rfl rfl rfl (fun h104 => by exfalso; omega) (fun h104 => ?_)
                refine am_r_iload6 (pc' := 109) rfl rfl ?_
                refine am_r_iret rfl rfl ?_
                rw [y_or_n (by omega)] at hq
                exact am_q (Int.add_zero c).symm (hq N hF hX)
              · intro M4 h8 hf4 hX4
                refine am_r_if_ge (pt := 110) (pf := 107) rfl rfl rfl (fun h104 => ?_) (fun h104 => by exfalso; omega)
                refine am_r_iinc6 (pc' := 113) rfl rfl rfl ?_
                refine am_r_iinc7 (pc' := 116) rfl rfl rfl ?_
                refine am_r_iinc8 (pc' := 119) rfl rfl rfl ?_
                refine am_r_goto (pc' := 31) rfl rfl ?_
                rw [y_or_y (by omega)] at hq
                refine ih _ _ _ _ M4 _ _ _ (by omega) (by omega) ?_ (am_fr_tr (lo := 1) (hi := 13) hF hf4 (by omega) (by omega)) hX4 (fun M5 a1 a2 => ?_)
                · omega
                · exact am_q (by simp only; omega) (hq M5 a1 a2)
  refine am_bi_of (P := am_pX10_bodiesFrom) (rt := 1) (nL := 12) (Nat.le_of_ble_eq_true rfl) rfl (Nat.le_of_ble_eq_true rfl) rfl rfl rfl ?_
  refine am_r_aload0 (pc' := 1) rfl rfl ?_
  refine am_r_getR (t := 38) (pc' := 4) rfl rfl rfl ?_
  refine am_r_getR (t := 43) (pc' := 7) rfl rfl rfl ?_
  refine am_r_iload1 (pc' := 8) rfl rfl ?_
  refine am_r_aaZ (n := 6) (t := 44) (pc' := 9) rfl rfl rfl rfl (by decide) ?_
  refine am_r_astore4 (pc' := 11) rfl rfl rfl ?_
  refine am_r_aload0 (pc' := 12) rfl rfl ?_
  refine am_r_getR (t := 38) (pc' := 15) rfl rfl rfl ?_
  refine am_r_getR (t := 42) (pc' := 18) rfl rfl rfl ?_
  refine am_r_iload1 (pc' := 19) rfl rfl ?_
  refine am_r_iaZv (n := 6) (pc' := 20) rfl rfl rfl (by decide) (hx_n hH (by omega) (by omega)) ?_
  refine am_r_istore5 (pc' := 22) rfl rfl rfl ?_
  refine am_r_iconst (pc' := 23) rfl rfl ?_
  refine am_r_istore6 (pc' := 25) rfl rfl rfl ?_
  refine am_r_iload2 (pc' := 26) rfl rfl ?_
  refine am_r_istore7 (pc' := 28) rfl rfl rfl ?_
  refine am_r_iconst (pc' := 29) rfl rfl ?_
  refine am_r_istore8 (pc' := 31) rfl rfl rfl ?_
  by_cases hbig : i < 2147483640
  · exact hloop n.toNat 0 i 0 σ M _ _ _ (by omega) (by omega) (by omega) (am_fr_rf _ _ _) hX (fun M5 a1 a2 => by rw [Int.zero_add]; exact hq M5 a1 a2)
  · have hno : y_or (h_v η e) (h_n η e) n.toNat i σ = (0, σ) := by
      rw [show n.toNat = (n.toNat - 1) + 1 by omega]
      exact y_or_n (by omega)
    rw [hno] at hq
    refine am_r_iload8 (pc' := 33) rfl rfl ?_
    refine am_r_iload3 (pc' := 34) rfl rfl ?_
    refine am_r_icmp_ge (pt := 122) (pf := 37) rfl rfl rfl (fun h34 => ?_) (fun h34 => ?_)
    · refine am_r_iload6 (pc' := 124) rfl rfl ?_
      refine am_r_iret rfl rfl ?_
      first
      | (exfalso; omega)
      | exact hq M (am_fr_rf _ _ _) hX
    · refine am_r_iload7 (pc' := 39) rfl rfl ?_
      refine am_r_if_lt (pt := 122) (pf := 42) rfl rfl rfl (fun h39 => ?_) (fun h39 => ?_)
      · refine am_r_iload6 (pc' := 124) rfl rfl ?_
        refine am_r_iret rfl rfl ?_
        first
        | (exfalso; omega)
        | exact hq M (am_fr_rf _ _ _) hX
      · refine am_r_iload7 (pc' := 44) rfl rfl ?_
        refine am_r_iload5 (pc' := 46) rfl rfl ?_
        refine am_r_iconst (pc' := 47) rfl rfl ?_
        refine am_r_isub (pc' := 48) rfl rfl ?_
        refine am_r_icmp_gt (pt := 122) (pf := 51) rfl rfl rfl (fun h48 => ?_) (fun h48 => ?_)
        · refine am_r_iload6 (pc' := 124) rfl rfl ?_
          refine am_r_iret rfl rfl ?_
          first
          | (exfalso; omega)
          | exact hq M (am_fr_rf _ _ _) hX
        · exfalso; omega
theorem c_orbs {sL : Nat} {xs : Nat → Int32} {d : Nat} {M : Am_M} {Q : Int32 → Am_M → Prop} (hd : 3 ≤ d) {σ : Sg} (hX : SX M σ) {η : Hs} (hH : HX M η) {e : Int} (he : -2147483648 ≤ e ∧ e < 2147483648) {i : Int} (hi : -2147483648 ≤ i ∧ i < 2147483648) {n : Int} (hn : -2147483648 ≤ n ∧ n < 2147483648)  (hq : ∀ M', am_fr 1 13 M M' → SX M' (t_orbs σ η e i n) → Q (z_I (r_orbs σ η e i n)) M') : am_bi sL xs d 108 [.ref 0, .int (z_I e), .int (z_I i), .int (z_I n)] M Q := by
  obtain ⟨d, rfl⟩ : ∃ e, d = e + 1 := ⟨d - 1, by omega⟩
  have hkb : (0 ≤ e ∧ e < 6) → -1 ≤ h_k η e ∧ h_k η e ≤ 54 := fun q => hb_k hH.1 q
  refine am_bi_of (P := am_pX10_orbs) (rt := 1) (nL := 4) (Nat.le_of_ble_eq_true rfl) rfl (Nat.le_of_ble_eq_true rfl) rfl rfl rfl ?_
  refine am_r_iload1 (pc' := 1) rfl rfl ?_
  refine am_r_ivsI1 (pc' := 4) rfl rfl rfl (Nat.le_of_ble_eq_true rfl) (c_isShelf (by omega) (by omega) ?_)
  refine am_r_if_eqB (pt := 18) (pf := 7) rfl rfl rfl (fun h4 => ?_) (fun h4 => ?_)
  · refine am_r_iconst (pc' := 19) rfl rfl ?_
    refine am_r_iret rfl rfl ?_
    rw [show t_orbs σ η e i n = σ from if_neg (by omega), show r_orbs σ η e i n = -1 from if_neg (by omega)] at hq
    exact hq M (am_fr_rf _ _ _) hX
  · refine am_r_iload3 (pc' := 8) rfl rfl ?_
    refine am_r_iconst (pc' := 9) rfl rfl ?_
    refine am_r_icmp_lt (pt := 18) (pf := 12) rfl rfl rfl (fun h9 => ?_) (fun h9 => ?_)
    · refine am_r_iconst (pc' := 19) rfl rfl ?_
      refine am_r_iret rfl rfl ?_
      rw [show t_orbs σ η e i n = σ from if_neg (by omega), show r_orbs σ η e i n = -1 from if_neg (by omega)] at hq
      exact hq M (am_fr_rf _ _ _) hX
    · refine am_r_iload3 (pc' := 13) rfl rfl ?_
      refine am_r_iconst (pc' := 15) rfl rfl ?_
      refine am_r_icmp_le (pt := 20) (pf := 18) rfl rfl rfl (fun h15 => ?_) (fun h15 => ?_)
      · refine am_r_aload0 (pc' := 21) rfl rfl ?_
        refine am_r_getR (t := 38) (pc' := 24) rfl rfl rfl ?_
        refine am_r_iload1 (pc' := 25) rfl rfl ?_
        refine am_r_invI1 (pc' := 28) rfl rfl rfl (Nat.le_of_ble_eq_true rfl) (c_isEmpty (by omega) hH (by omega) ?_)
        refine am_r_if_eqB (pt := 33) (pf := 31) rfl rfl rfl (fun h28 => ?_) (fun h28 => ?_)
        · refine am_r_aload0 (pc' := 34) rfl rfl ?_
          refine am_r_getR (t := 38) (pc' := 37) rfl rfl rfl ?_
          refine am_r_iload1 (pc' := 38) rfl rfl ?_
          refine am_r_invI1 (pc' := 41) rfl rfl rfl (Nat.le_of_ble_eq_true rfl) (c_isBook (by omega) hH (by omega) ?_)
          refine am_r_if_neB (pt := 47) (pf := 44) rfl rfl rfl (fun h41 => ?_) (fun h41 => ?_)
          · refine am_r_aload0 (pc' := 48) rfl rfl ?_
            refine am_r_iload1 (pc' := 49) rfl rfl ?_
            refine am_r_iload2 (pc' := 50) rfl rfl ?_
            refine am_r_iload3 (pc' := 51) rfl rfl ?_
            refine am_r_invI3 (pc' := 54) rfl rfl rfl (Nat.le_of_ble_eq_true rfl) (c_bodiesFrom (by omega) hX hH (by omega) (by omega) (by omega) (by omega) ?_)
            · intro M4 hf4 hX4
              refine am_r_iret rfl rfl ?_
              rw [show t_orbs σ η e i n = (y_or (h_v η e) (h_n η e) n.toNat i σ).2 from if_pos (by omega), show r_orbs σ η e i n = (y_or (h_v η e) (h_n η e) n.toNat i σ).1 from (if_pos (by omega)).trans ((if_neg (by omega)).trans (if_pos (by omega)))] at hq
              exact hq M4 hf4 hX4
          · refine am_r_iconst (pc' := 46) rfl rfl ?_
            refine am_r_iret rfl rfl ?_
            rw [show t_orbs σ η e i n = σ from if_neg (by omega), show r_orbs σ η e i n = -12 from (if_pos (by omega)).trans ((if_neg (by omega)).trans (if_neg (by omega)))] at hq
            exact hq M (am_fr_rf _ _ _) hX
        · refine am_r_iconst (pc' := 32) rfl rfl ?_
          refine am_r_iret rfl rfl ?_
          rw [show t_orbs σ η e i n = σ from if_neg (by omega), show r_orbs σ η e i n = 0 from (if_pos (by omega)).trans (if_pos (by omega))] at hq
          exact hq M (am_fr_rf _ _ _) hX
      · refine am_r_iconst (pc' := 19) rfl rfl ?_
        refine am_r_iret rfl rfl ?_
        rw [show t_orbs σ η e i n = σ from if_neg (by omega), show r_orbs σ η e i n = -1 from if_neg (by omega)] at hq
        exact hq M (am_fr_rf _ _ _) hX
def r_feed (n x : Int) : Int := if 0 ≤ x ∧ x ≤ 255 then (if n < 120 then n + 1 else -3) else -1
def t_feed (c : Int → Int) (n x : Int) : Int → Int := if (0 ≤ x ∧ x ≤ 255) ∧ n < 120 then (fun i => if i = n then x else c i) else c
def u_feed (n x : Int) : Int := if (0 ≤ x ∧ x ≤ 255) ∧ n < 120 then n + 1 else n
theorem q_C_feed {c : Int → Int} {n x : Int} (hc : q_C c n) (h0 : 0 ≤ n) (hx : 0 ≤ x ∧ x ≤ 255) : q_C (fun i => if i = n then x else c i) (n + 1) := fun p hp => by
  have := hc p hp
  by_cases q : p = n
  · simp only [if_pos q]
    exact ⟨fun _ => hx, fun _ => by omega⟩
  · simp only [if_neg q]
    exact ⟨fun z => this.1 (by omega), fun z => this.2 (by omega)⟩
theorem c_fed {sL : Nat} {xs : Nat → Int32} {d : Nat} {M : Am_M} {Q : Int32 → Am_M → Prop} (hd : 1 ≤ d) {c : Int → Int} {n : Int} (hT : TB M c n) {x : Int} (hx : 0 ≤ x ∧ x ≤ 255) (hq : ∀ M', am_fr 15 16 M M' → TB M' (t_feed c n x) (u_feed n x) → Q (z_I (r_feed n x)) M') : am_bi sL xs d 85 [.ref 15, .int (z_I x)] M Q := by
  obtain ⟨d, rfl⟩ : ∃ e, d = e + 1 := ⟨d - 1, by omega⟩
  obtain ⟨hnb, hc, hn, hv⟩ := id hT
  refine am_bi_of (P := am_pX8_fed) (rt := 1) (nL := 2) (Nat.le_of_ble_eq_true rfl) rfl (Nat.le_of_ble_eq_true rfl) rfl rfl rfl ?_
  refine am_r_aload0 (pc' := 1) rfl rfl ?_
  refine am_r_getIv (f := 1) (pc' := 4) rfl rfl rfl (hn) ?_
  refine am_r_iconst (pc' := 6) rfl rfl ?_
  refine am_r_icmp_lt (pt := 12) (pf := 9) rfl rfl rfl (fun h6 => ?_) (fun h6 => ?_)
  · refine am_r_aload0 (pc' := 13) rfl rfl ?_
    refine am_r_getR (t := 16) (pc' := 16) rfl rfl rfl ?_
    refine am_r_aload0 (pc' := 17) rfl rfl ?_
    refine am_r_getIv (f := 1) (pc' := 20) rfl rfl rfl (hn) ?_
    refine am_r_iload1 (pc' := 21) rfl rfl ?_
    refine am_r_iast (n := 120) (pc' := 22) rfl rfl (rfl) (by decide) ?_
    refine am_r_aload0 (pc' := 23) rfl rfl ?_
    refine am_r_dup (pc' := 24) rfl rfl rfl ?_
    refine am_r_getIv (f := 1) (pc' := 27) rfl rfl rfl (show _ = z_I n by simpa [am_upI] using hn) ?_
    refine am_r_iconst (pc' := 28) rfl rfl ?_
    refine am_r_iadd (pc' := 29) rfl rfl ?_
    refine am_r_putI (f := 1) (pc' := 32) rfl rfl rfl (by decide) ?_
    refine am_r_aload0 (pc' := 33) rfl rfl ?_
    refine am_r_getIv (f := 1) (pc' := 36) rfl rfl rfl (show _ = z_I (n + 1) by simp [am_upI]) ?_
    refine am_r_iret rfl rfl ?_
    have e0 : (0 ≤ x ∧ x ≤ 255) ∧ n < 120 := by omega
    rw [show t_feed c n x = (fun i => if i = n then x else c i) from if_pos e0, show u_feed n x = n + 1 from if_pos e0, show r_feed n x = n + 1 from (if_pos hx).trans (if_pos e0.2)] at hq
    refine hq _ (am_fr_upI (am_fr_upI (am_fr_rf _ _ _) (by omega)) (by omega)) ⟨by omega, q_C_feed hc hnb.1 hx, by simp [am_upI], fun i a b => ?_⟩
    by_cases q : i = n
    · simp only [if_pos q]
      rw [q]
      simp [am_upI]
    · simp only [if_neg q]
      have q2 : ¬ i.toNat = n.toNat := by omega
      have := hv i a (by omega)
      simpa [am_upI, q2] using this
  · refine am_r_iconst (pc' := 11) rfl rfl ?_
    refine am_r_iret rfl rfl ?_
    have e0 : ¬ ((0 ≤ x ∧ x ≤ 255) ∧ n < 120) := by omega
    rw [show t_feed c n x = c from if_neg e0, show u_feed n x = n from if_neg e0, show r_feed n x = -3 from (if_pos hx).trans (if_neg (by omega))] at hq
    exact hq M (am_fr_rf _ _ _) hT
theorem c_feed {sL : Nat} {xs : Nat → Int32} {d : Nat} {M : Am_M} {Q : Int32 → Am_M → Prop} (hd : 2 ≤ d) {c : Int → Int} {n : Int} (hT : TB M c n) {x : Int} (hx : -2147483648 ≤ x ∧ x < 2147483648)  (hq : ∀ M', am_fr 15 16 M M' → TB M' (t_feed c n x) (u_feed n x) → Q (z_I (r_feed n x)) M') : am_bi sL xs d 111 [.ref 0, .int (z_I x)] M Q := by
  obtain ⟨d, rfl⟩ : ∃ e, d = e + 1 := ⟨d - 1, by omega⟩
  refine am_bi_of (P := am_pX10_feed) (rt := 1) (nL := 2) (Nat.le_of_ble_eq_true rfl) rfl (Nat.le_of_ble_eq_true rfl) rfl rfl rfl ?_
  refine am_r_iload1 (pc' := 1) rfl rfl ?_
  refine am_r_if_lt (pt := 11) (pf := 4) rfl rfl rfl (fun h1 => ?_) (fun h1 => ?_)
  · refine am_r_iconst (pc' := 12) rfl rfl ?_
    refine am_r_iret rfl rfl ?_
    have e0 : ¬ ((0 ≤ x ∧ x ≤ 255) ∧ n < 120) := by omega
    rw [show t_feed c n x = c from if_neg e0, show u_feed n x = n from if_neg e0, show r_feed n x = -1 from if_neg (by omega)] at hq
    exact hq M (am_fr_rf _ _ _) hT
  · refine am_r_iload1 (pc' := 5) rfl rfl ?_
    refine am_r_iconst (pc' := 8) rfl rfl ?_
    refine am_r_icmp_le (pt := 13) (pf := 11) rfl rfl rfl (fun h8 => ?_) (fun h8 => ?_)
    · refine am_r_aload0 (pc' := 14) rfl rfl ?_
      refine am_r_getR (t := 15) (pc' := 17) rfl rfl rfl ?_
      refine am_r_iload1 (pc' := 18) rfl rfl ?_
      refine am_r_invI1 (pc' := 21) rfl rfl rfl (Nat.le_of_ble_eq_true rfl) (c_fed (by omega) hT (by omega) ?_)
      · intro M4 hf4 hT4
        refine am_r_iret rfl rfl ?_
        exact hq M4 hf4 hT4
    · refine am_r_iconst (pc' := 12) rfl rfl ?_
      refine am_r_iret rfl rfl ?_
      have e0 : ¬ ((0 ≤ x ∧ x ≤ 255) ∧ n < 120) := by omega
      rw [show t_feed c n x = c from if_neg e0, show u_feed n x = n from if_neg e0, show r_feed n x = -1 from if_neg (by omega)] at hq
      exact hq M (am_fr_rf _ _ _) hT
def r_count (σ : Sg) (t k m : Int) (l : List Int) (w : Int) : Int := if w = 0 then s_n σ else if w = 1 then t else if w = 2 then k else if w = 3 then m else if w = 4 then (l.length : Int) else -1
theorem c_count {sL : Nat} {xs : Nat → Int32} {d : Nat} {M : Am_M} {Q : Int32 → Am_M → Prop} (hd : 1 ≤ d) {σ : Sg} (hX : SX M σ) {c : Int → Int} {t : Int} (hT : TB M c t) {ε : Cs} (hK : KX M ε σ) {κ : Int → Int} {m : Int} {l : List Int} (hO : OK M κ m l) {w : Int} (hw : -2147483648 ≤ w ∧ w < 2147483648)  (hq : Q (z_I (r_count σ t ε.1.1 m l w)) M) : am_bi sL xs d 152 [.ref 0, .int (z_I w)] M Q := by
  obtain ⟨d, rfl⟩ : ∃ e, d = e + 1 := ⟨d - 1, by omega⟩
  refine am_bi_of (P := am_pX10_count) (rt := 1) (nL := 2) (Nat.le_of_ble_eq_true rfl) rfl (Nat.le_of_ble_eq_true rfl) rfl rfl rfl ?_
  refine am_r_iload1 (pc' := 1) rfl rfl ?_
  rcases (show w = 0 ∨ w = 1 ∨ w = 2 ∨ w = 3 ∨ w = 4 ∨ (¬ w = 0 ∧ ¬ w = 1 ∧ ¬ w = 2 ∧ ¬ w = 3 ∧ ¬ w = 4) by omega) with rfl | rfl | rfl | rfl | rfl | hsw1
  · refine am_r_tsw (t := 36) rfl rfl ?_
    refine am_r_aload0 (pc' := 37) rfl rfl ?_
    refine am_r_getR (t := 1) (pc' := 40) rfl rfl rfl ?_
    refine am_r_getIv (f := 5) (pc' := 43) rfl rfl rfl (sx_n hX) ?_
    refine am_r_iret rfl rfl ?_
    first | exact hq | (rw [show r_count σ t ε.1.1 m l w = -1 by unfold r_count; repeat (rw [if_neg (by omega)])] at hq; exact hq)
  · refine am_r_tsw (t := 44) rfl rfl ?_
    refine am_r_aload0 (pc' := 45) rfl rfl ?_
    refine am_r_getR (t := 15) (pc' := 48) rfl rfl rfl ?_
    refine am_r_getIv (f := 1) (pc' := 51) rfl rfl rfl (hT.2.2.1) ?_
    refine am_r_iret rfl rfl ?_
    first | exact hq | (rw [show r_count σ t ε.1.1 m l w = -1 by unfold r_count; repeat (rw [if_neg (by omega)])] at hq; exact hq)
  · refine am_r_tsw (t := 52) rfl rfl ?_
    refine am_r_aload0 (pc' := 53) rfl rfl ?_
    refine am_r_getR (t := 33) (pc' := 56) rfl rfl rfl ?_
    refine am_r_getIv (f := 4) (pc' := 59) rfl rfl rfl (hK.2.1) ?_
    refine am_r_iret rfl rfl ?_
    first | exact hq | (rw [show r_count σ t ε.1.1 m l w = -1 by unfold r_count; repeat (rw [if_neg (by omega)])] at hq; exact hq)
  · refine am_r_tsw (t := 60) rfl rfl ?_
    refine am_r_aload0 (pc' := 61) rfl rfl ?_
    refine am_r_getR (t := 50) (pc' := 64) rfl rfl rfl ?_
    refine am_r_getIv (f := 1) (pc' := 67) rfl rfl rfl (ok_n hO) ?_
    refine am_r_iret rfl rfl ?_
    first | exact hq | (rw [show r_count σ t ε.1.1 m l w = -1 by unfold r_count; repeat (rw [if_neg (by omega)])] at hq; exact hq)
  · refine am_r_tsw (t := 68) rfl rfl ?_
    refine am_r_aload0 (pc' := 69) rfl rfl ?_
    refine am_r_getR (t := 50) (pc' := 72) rfl rfl rfl ?_
    refine am_r_getIv (f := 3) (pc' := 75) rfl rfl rfl (ok_r hO) ?_
    refine am_r_iret rfl rfl ?_
    first | exact hq | (rw [show r_count σ t ε.1.1 m l w = -1 by unfold r_count; repeat (rw [if_neg (by omega)])] at hq; exact hq)
  · refine am_r_tsw (t := 76) rfl (by rw [if_pos (by omega)]; rfl) ?_
    refine am_r_iconst (pc' := 77) rfl rfl ?_
    refine am_r_iret rfl rfl ?_
    first | exact hq | (rw [show r_count σ t ε.1.1 m l w = -1 by unfold r_count; repeat (rw [if_neg (by omega)])] at hq; exact hq)
