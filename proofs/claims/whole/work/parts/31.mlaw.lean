/-! THE LAW'S TEXT, the reference: a whole text; law() of both -/
variable {M M' : Am_M} {c : Int → Int} {n p f : Int} {ν : Int → Int32} {e : Int → q_R} {L : Nat}
theorem m_e {sL : Nat} {xs : Nat → Int32} (hc : q_C c n) : q_md sL xs c n ν 50 178 0 (q_e c) := by
  obtain ⟨g1, g2, g3, g4, _⟩ := q_ei_gd hc (q_one_gd hc 6)
  exact m_either g4 (by omega) (m_both g3 (by omega) (m_compared g2 (by omega) (m_sums g1 (by omega) (m_product (q_one_gd hc 6) (by omega) (m_one hc 6 0 rfl (by omega))))))
def am_fw (M M' : Am_M) : Prop := (∀ k i, ¬ (k = 53 ∧ 12 ≤ i ∧ i ≤ 16) → M'.1 k i = M.1 k i) ∧ M'.2 = M.2
theorem am_fw_rf (M : Am_M) : am_fw M M := ⟨fun _ _ _ => rfl, rfl⟩
theorem am_fw_tr {M M' M'' : Am_M} (h : am_fw M M') (h2 : am_fw M' M'') : am_fw M M'' := ⟨fun k i q => (h2.1 k i q).trans (h.1 k i q), h2.2.trans h.2⟩
theorem am_fw_fq {M M' : Am_M} (h : am_fq M M') : am_fw M M' := ⟨fun k i q => h.1 k i (by omega), h.2⟩
theorem am_fw_up {M M' : Am_M} (h : am_fw M M') {i : Nat} {x : Int32} (hi : 12 ≤ i ∧ i ≤ 16) : am_fw M (am_upI M' 53 i x) := ⟨fun k j q => by
  show (if k = 53 ∧ j = i then x else M'.1 k j) = _
  rw [if_neg (by omega)]; exact h.1 k j q, h.2⟩
theorem q_ln_1 (h : (e p).1 = true) (h2 : ¬ c (e p).2.1 = 63) : q_ln e c L p = (true, (e p).2.1, (e p).2.2.1 ++ [(6, 0)], fun ν => some ((e p).2.2.2 ν)) := by unfold q_ln; rw [if_pos h, if_neg h2]
theorem q_ln_2 (h : (e p).1 = true) (h2 : c (e p).2.1 = 63) (h3 : (e ((e p).2.1 + 1)).1 = true) : q_ln e c L p = (true, (e ((e p).2.1 + 1)).2.1, (e p).2.2.1 ++ [(5, ((L + (e p).2.2.1.length + 1 + (e ((e p).2.1 + 1)).2.2.1.length + 1 : Nat) : Int))] ++ (e ((e p).2.1 + 1)).2.2.1 ++ [(6, 0)], fun ν => if (e p).2.2.2 ν = 0 then none else some ((e ((e p).2.1 + 1)).2.2.2 ν)) := by unfold q_ln; rw [if_pos h, if_pos h2, if_pos h3]
theorem q_ln_f1 (h : (e p).1 = false) : q_ln e c L p = q_nt (e p).2.1 := by unfold q_ln; rw [if_neg (by rw [h]; decide)]
theorem q_ln_f2 (h : (e p).1 = true) (h2 : c (e p).2.1 = 63) (h3 : (e ((e p).2.1 + 1)).1 = false) : q_ln e c L p = q_nt (e ((e p).2.1 + 1)).2.1 := by unfold q_ln; rw [if_pos h, if_pos h2, if_neg (by rw [h3]; decide)]
theorem q_tx_nt (p : Int) : ∀ k, q_tx e c k (q_nt p) = q_nt p
  | 0 => rfl
  | k + 1 => if_neg (fun q => absurd q.1 (by simp [q_nt]))
theorem q_good_nt (h : q_all c = q_nt p) : q_good c = false := by unfold q_good; rw [h]; rfl
theorem q_nt_p (h : q_nt p = q_all c) : (q_all c).2.1 = p := by rw [← h]; rfl
/-- what is given so far -/
def q_gv (o : Option Int32) (g : Int) (x : Int32) : Prop := (o = none ∧ g = 0 ∧ x = z_I 0) ∨ (o = some x ∧ g = 1)
theorem q_gv_b {o : Option Int32} {g : Int} {x : Int32} (h : q_gv o g x) : g = 0 ∨ g = 1 := h.elim (fun q => Or.inl q.2.1) (fun q => Or.inr q.2)
theorem q_gv_new {o : Option Int32} {g : Int} {x v : Int32} (h : q_gv o g x) (hg : g = 0) : q_gv (q_or o (some v)) 1 v := h.elim (fun q => Or.inr ⟨by rw [q.1]; rfl, rfl⟩) (fun q => by have := q.2; omega)
theorem q_gv_old {o w : Option Int32} {g : Int} {x : Int32} (h : q_gv o g x) (hg : ¬ g = 0) : q_gv (q_or o w) g x := h.elim (fun q => absurd q.2.1 hg) (fun q => Or.inr ⟨by rw [q.1]; rfl, q.2⟩)
theorem q_gv_no {o w : Option Int32} {g : Int} {x : Int32} (h : q_gv o g x) (hw : w = none) : q_gv (q_or o w) g x := h.elim (fun q => Or.inl ⟨by rw [q.1, hw]; rfl, q.2⟩) (fun q => Or.inr ⟨by rw [q.1]; rfl, q.2⟩)
theorem q_gv_x {o : Option Int32} {g : Int} {x : Int32} (h : q_gv o g x) : x = o.getD (z_I 0) := h.elim (fun q => by rw [q.1, q.2.2]; rfl) (fun q => by rw [q.1]; rfl)
theorem q_gv_0 : q_gv none 0 (z_I 0) := Or.inl ⟨rfl, rfl, rfl⟩
theorem m_workOut {sL : Nat} {xs : Nat → Int32} {d : Nat} {M : Am_M} {Q : Int32 → Am_M → Prop} (hd : 51 ≤ d) {c : Int → Int} {n b : Int} {ν : Int → Int32} (hnb : 0 ≤ n ∧ n ≤ 120) (hc : q_C c n) (hsrc : (b = -1 ∧ ∀ i, 0 ≤ i → i < n → M.1 59 i.toNat = z_I (c i)) ∨ (b = 0 ∧ ∀ i, 0 ≤ i → i < n → M.1 60 i.toNat = z_I (c i))) (hν : ∀ k, 0 ≤ k → k ≤ 5 → M.1 61 k.toNat = ν k) (hqT : ∀ M', am_fw M M' → q_good c = true → M'.1 53 15 = z_I (-1) → Q (((q_all c).2.2.2 ν).getD (z_I 0)) M') (hqF : ∀ M' x, am_fw M M' → q_good c = false → 0 ≤ (q_all c).2.1 → (q_all c).2.1 ≤ n → M'.1 53 15 = z_I (q_all c).2.1 → Q x M') : am_bi sL xs d 185 [.ref 53, .int (z_I b), .int (z_I n)] M Q := by
  obtain ⟨d, rfl⟩ : ∃ e, d = e + 1 := ⟨d - 1, by omega⟩
  have hbb : b = -1 ∨ b = 0 := hsrc.elim (fun q => Or.inl q.1) (fun q => Or.inr q.1)
  have hloop : ∀ (k : Nat) (a : q_T) (g : Int) (x : Int32) (N : Am_M) (w5 w6 w7 : Value), a.1 = true → q_gv (a.2.2.2 ν) g x → am_fw M N → MS N c n ν a.2.1 (-1) → N.1 53 16 = z_I 0 → n ≤ a.2.1 + k → q_tx (q_e c) c k a = q_all c → am_rw sL xs d am_pX11_workOut 1 96 [.ref 53, .int (z_I b), .int (z_I n), .int (z_I g), .int x, w5, w6, w7] [] N (am_pi Q) := by
    intro k
    induction k with
    | zero =>
      intro a g x N w5 w6 w7 ha hg hF hM hO hk he
      have hcb := ms_cb hM
      have hpb := ms_pb hM
      have he2 : a = q_all c := he
      have hgb := q_gv_b hg
      refine am_r_aload0 (pc' := 97) rfl rfl ?_
      refine am_r_iconst (pc' := 99) rfl rfl ?_
      refine am_r_invI1 (pc' := 102) rfl rfl rfl (Nat.le_of_ble_eq_true rfl) (m_takes (by omega) hM (by omega) hO ?_ ?_)
      · intro M2 hf2 e2 hM2 hO2
        exfalso; omega
      · intro e2
        refine am_r_istore5 (pc' := 104) rfl rfl rfl ?_
        refine am_r_goto (pc' := 33) rfl rfl ?_
        refine am_r_iload5 (pc' := 35) rfl rfl ?_
        refine am_r_if_eq (pt := 107) (pf := 38) rfl rfl rfl (fun h35 => ?_) (fun h35 => by exfalso; omega)
        refine am_r_aload0 (pc' := 108) rfl rfl ?_
        refine am_r_getIv (f := 15) (pc' := 111) rfl rfl rfl (ms_f hM) ?_
        refine am_r_if_ge (pt := 130) (pf := 114) rfl rfl rfl (fun h111 => ?_) (fun h111 => ?_)
        · refine am_r_iload4 (pc' := 132) rfl rfl ?_
          refine am_r_iret rfl rfl ?_
          first
          | (exfalso; omega)
          | (refine am_q2 ?_ (hqT _ hF (by unfold q_good; rw [← he2, ha, decide_eq_true (by omega)]; rfl) (ms_f hM)); rw [← he2]; exact q_gv_x hg)
        · refine am_r_aload0 (pc' := 115) rfl rfl ?_
          refine am_r_getIv (f := 13) (pc' := 118) rfl rfl rfl (ms_p hM) ?_
          refine am_r_aload0 (pc' := 119) rfl rfl ?_
          refine am_r_getIv (f := 14) (pc' := 122) rfl rfl rfl (ms_n hM) ?_
          refine am_r_icmp_ge (pt := 130) (pf := 125) rfl rfl rfl (fun h122 => ?_) (fun h122 => ?_)
          · refine am_r_iload4 (pc' := 132) rfl rfl ?_
            refine am_r_iret rfl rfl ?_
            first
            | (exfalso; omega)
            | (refine am_q2 ?_ (hqT _ hF (by unfold q_good; rw [← he2, ha, decide_eq_true (by omega)]; rfl) (ms_f hM)); rw [← he2]; exact q_gv_x hg)
          · refine am_r_aload0 (pc' := 126) rfl rfl ?_
            refine am_r_invI0 (pc' := 129) rfl rfl rfl (Nat.le_of_ble_eq_true rfl) (m_wrong0 (by omega) hM rfl ?_)
            · intro M8 hf8 hM8
              have hF := am_fw_tr hF (am_fw_fq hf8)
              refine am_r_iret rfl rfl ?_
              exact hqF _ _ hF (by unfold q_good; rw [← he2, decide_eq_false (by omega), Bool.and_false]) (by rw [← he2]; exact (ms_pb hM8).1) (by rw [← he2]; exact (ms_pb hM8).2) (by rw [← he2]; exact ms_f hM8)
    | succ k ih =>
      intro a g x N w5 w6 w7 ha hg hF hM hO hk he
      have hcb := ms_cb hM
      have hpb := ms_pb hM
      have hgb := q_gv_b hg
      refine am_r_aload0 (pc' := 97) rfl rfl ?_
      refine am_r_iconst (pc' := 99) rfl rfl ?_
      refine am_r_invI1 (pc' := 102) rfl rfl rfl (Nat.le_of_ble_eq_true rfl) (m_takes (by omega) hM (by omega) hO ?_ ?_)
      · intro M2 hf2 e2 hM2 hO2
        have hM := hM2
        have hO := hO2
        have hF := am_fw_tr hF (am_fw_fq hf2)
        have h59 := e2
        have hpb2 := ms_pb hM2
        refine am_r_istore5 (pc' := 104) rfl rfl rfl ?_
        refine am_r_goto (pc' := 33) rfl rfl ?_
        refine am_r_iload5 (pc' := 35) rfl rfl ?_
        refine am_r_if_eq (pt := 107) (pf := 38) rfl rfl rfl (fun h35 => by exfalso; omega) (fun h35 => ?_)
        refine am_r_aload0 (pc' := 39) rfl rfl ?_
        refine am_r_invI0 (pc' := 42) rfl rfl rfl (Nat.le_of_ble_eq_true rfl) (m_e hc (by omega) hM hO ?_ ?_)
        · intro M4 hf4 e4 hM4 hO4
          have hM := hM4
          have hO := hO4
          have hF := am_fw_tr hF (am_fw_fq hf4)
          have hpb4 := ms_pb hM4
          have hg4 := q_e_gd hc (a.2.1 + 1) (by omega) (by omega)
          have hg5 := hg4.2.2 e4
          refine am_r_istore6 (pc' := 44) rfl rfl rfl ?_
          refine am_r_iconst (pc' := 45) rfl rfl ?_
          refine am_r_istore7 (pc' := 47) rfl rfl rfl ?_
          refine am_r_aload0 (pc' := 48) rfl rfl ?_
          refine am_r_iconst (pc' := 50) rfl rfl ?_
          refine am_r_invI1 (pc' := 53) rfl rfl rfl (Nat.le_of_ble_eq_true rfl) (m_takes (by omega) hM (by omega) hO ?_ ?_)
          · intro M2 hf2 e63 hM2 hO2
            have hM := hM2
            have hO := hO2
            have hF := am_fw_tr hF (am_fw_fq hf2)
            have hpb2 := ms_pb hM2
            refine am_r_if_eq (pt := 74) (pf := 56) rfl rfl rfl (fun h53 => by exfalso; omega) (fun h53 => ?_)
            refine am_r_iload6 (pc' := 58) rfl rfl ?_
            refine am_r_if_eqR (pt := 65) (pf := 61) rfl rfl rfl (fun h58 => ?_) (fun h58 => ?_)
            · refine am_r_iconst (pc' := 66) rfl rfl ?_
              refine am_r_istore7 (pc' := 68) rfl rfl rfl ?_
              refine am_r_aload0 (pc' := 69) rfl rfl ?_
              refine am_r_invI0 (pc' := 72) rfl rfl rfl (Nat.le_of_ble_eq_true rfl) (m_e hc (by omega) hM hO ?_ ?_)
              · intro M6 hf6 e6 hM6 hO6
                have hM := hM6
                have hO := hO6
                have hF := am_fw_tr hF (am_fw_fq hf6)
                have hpb6 := ms_pb hM6
                have hg6 := q_e_gd hc ((q_e c (a.2.1 + 1)).2.1 + 1) (by omega) (by omega)
                have hg7 := hg6.2.2 e6
                have hln := q_ln_2 (L := a.2.2.1.length) (c := c) e4 e63 e6
                refine am_r_istore6 (pc' := 74) rfl rfl rfl ?_
                refine am_r_aload0 (pc' := 75) rfl rfl ?_
                refine am_r_getIv (f := 15) (pc' := 78) rfl rfl rfl (ms_f hM) ?_
                refine am_r_if_ge (pt := 96) (pf := 81) rfl rfl rfl (fun h78 => ?_) (fun h78 => ?_)
                · first
                  | (exfalso; omega)
                  | exact ih (true, (q_e c ((q_e c (a.2.1 + 1)).2.1 + 1)).2.1, (a.2.2.1 ++ ((q_e c (a.2.1 + 1)).2.2.1 ++ [(5, ((a.2.2.1.length + (q_e c (a.2.1 + 1)).2.2.1.length + 1 + (q_e c ((q_e c (a.2.1 + 1)).2.1 + 1)).2.2.1.length + 1 : Nat) : Int))] ++ (q_e c ((q_e c (a.2.1 + 1)).2.1 + 1)).2.2.1 ++ [(6, 0)])), fun ν => q_or (a.2.2.2 ν) ((if (q_e c (a.2.1 + 1)).2.2.2 ν = 0 then none else some ((q_e c ((q_e c (a.2.1 + 1)).2.1 + 1)).2.2.2 ν)))) _ _ _ _ _ _ rfl ((show q_gv (q_or (a.2.2.2 ν) (if (q_e c (a.2.1 + 1)).2.2.2 ν = 0 then none else some ((q_e c ((q_e c (a.2.1 + 1)).2.1 + 1)).2.2.2 ν))) _ _ by rw [if_neg (by assumption)]; exact q_gv_new hg (by omega))) hF hM hO (by simp only; omega) (by rw [← he, q_tx, if_pos ⟨ha, h59⟩, hln]; exact (if_pos rfl).symm)
                  | exact ih (true, (q_e c ((q_e c (a.2.1 + 1)).2.1 + 1)).2.1, (a.2.2.1 ++ ((q_e c (a.2.1 + 1)).2.2.1 ++ [(5, ((a.2.2.1.length + (q_e c (a.2.1 + 1)).2.2.1.length + 1 + (q_e c ((q_e c (a.2.1 + 1)).2.1 + 1)).2.2.1.length + 1 : Nat) : Int))] ++ (q_e c ((q_e c (a.2.1 + 1)).2.1 + 1)).2.2.1 ++ [(6, 0)])), fun ν => q_or (a.2.2.2 ν) ((if (q_e c (a.2.1 + 1)).2.2.2 ν = 0 then none else some ((q_e c ((q_e c (a.2.1 + 1)).2.1 + 1)).2.2.2 ν)))) _ _ _ _ _ _ rfl (q_gv_no hg (if_pos (by assumption))) hF hM hO (by simp only; omega) (by rw [← he, q_tx, if_pos ⟨ha, h59⟩, hln]; exact (if_pos rfl).symm)
                  | exact ih (true, (q_e c ((q_e c (a.2.1 + 1)).2.1 + 1)).2.1, (a.2.2.1 ++ ((q_e c (a.2.1 + 1)).2.2.1 ++ [(5, ((a.2.2.1.length + (q_e c (a.2.1 + 1)).2.2.1.length + 1 + (q_e c ((q_e c (a.2.1 + 1)).2.1 + 1)).2.2.1.length + 1 : Nat) : Int))] ++ (q_e c ((q_e c (a.2.1 + 1)).2.1 + 1)).2.2.1 ++ [(6, 0)])), fun ν => q_or (a.2.2.2 ν) ((if (q_e c (a.2.1 + 1)).2.2.2 ν = 0 then none else some ((q_e c ((q_e c (a.2.1 + 1)).2.1 + 1)).2.2.2 ν)))) _ _ _ _ _ _ rfl (q_gv_old hg (by omega)) hF hM hO (by simp only; omega) (by rw [← he, q_tx, if_pos ⟨ha, h59⟩, hln]; exact (if_pos rfl).symm)
                · refine am_r_iload7 (pc' := 83) rfl rfl ?_
                  refine am_r_if_eq (pt := 96) (pf := 86) rfl rfl rfl (fun h83 => ?_) (fun h83 => ?_)
                  · first
                    | (exfalso; omega)
                    | exact ih (true, (q_e c ((q_e c (a.2.1 + 1)).2.1 + 1)).2.1, (a.2.2.1 ++ ((q_e c (a.2.1 + 1)).2.2.1 ++ [(5, ((a.2.2.1.length + (q_e c (a.2.1 + 1)).2.2.1.length + 1 + (q_e c ((q_e c (a.2.1 + 1)).2.1 + 1)).2.2.1.length + 1 : Nat) : Int))] ++ (q_e c ((q_e c (a.2.1 + 1)).2.1 + 1)).2.2.1 ++ [(6, 0)])), fun ν => q_or (a.2.2.2 ν) ((if (q_e c (a.2.1 + 1)).2.2.2 ν = 0 then none else some ((q_e c ((q_e c (a.2.1 + 1)).2.1 + 1)).2.2.2 ν)))) _ _ _ _ _ _ rfl ((show q_gv (q_or (a.2.2.2 ν) (if (q_e c (a.2.1 + 1)).2.2.2 ν = 0 then none else some ((q_e c ((q_e c (a.2.1 + 1)).2.1 + 1)).2.2.2 ν))) _ _ by rw [if_neg (by assumption)]; exact q_gv_new hg (by omega))) hF hM hO (by simp only; omega) (by rw [← he, q_tx, if_pos ⟨ha, h59⟩, hln]; exact (if_pos rfl).symm)
                    | exact ih (true, (q_e c ((q_e c (a.2.1 + 1)).2.1 + 1)).2.1, (a.2.2.1 ++ ((q_e c (a.2.1 + 1)).2.2.1 ++ [(5, ((a.2.2.1.length + (q_e c (a.2.1 + 1)).2.2.1.length + 1 + (q_e c ((q_e c (a.2.1 + 1)).2.1 + 1)).2.2.1.length + 1 : Nat) : Int))] ++ (q_e c ((q_e c (a.2.1 + 1)).2.1 + 1)).2.2.1 ++ [(6, 0)])), fun ν => q_or (a.2.2.2 ν) ((if (q_e c (a.2.1 + 1)).2.2.2 ν = 0 then none else some ((q_e c ((q_e c (a.2.1 + 1)).2.1 + 1)).2.2.2 ν)))) _ _ _ _ _ _ rfl (q_gv_no hg (if_pos (by assumption))) hF hM hO (by simp only; omega) (by rw [← he, q_tx, if_pos ⟨ha, h59⟩, hln]; exact (if_pos rfl).symm)
                    | exact ih (true, (q_e c ((q_e c (a.2.1 + 1)).2.1 + 1)).2.1, (a.2.2.1 ++ ((q_e c (a.2.1 + 1)).2.2.1 ++ [(5, ((a.2.2.1.length + (q_e c (a.2.1 + 1)).2.2.1.length + 1 + (q_e c ((q_e c (a.2.1 + 1)).2.1 + 1)).2.2.1.length + 1 : Nat) : Int))] ++ (q_e c ((q_e c (a.2.1 + 1)).2.1 + 1)).2.2.1 ++ [(6, 0)])), fun ν => q_or (a.2.2.2 ν) ((if (q_e c (a.2.1 + 1)).2.2.2 ν = 0 then none else some ((q_e c ((q_e c (a.2.1 + 1)).2.1 + 1)).2.2.2 ν)))) _ _ _ _ _ _ rfl (q_gv_old hg (by omega)) hF hM hO (by simp only; omega) (by rw [← he, q_tx, if_pos ⟨ha, h59⟩, hln]; exact (if_pos rfl).symm)
                  · refine am_r_iload3 (pc' := 87) rfl rfl ?_
                    refine am_r_if_ne (pt := 96) (pf := 90) rfl rfl rfl (fun h87 => ?_) (fun h87 => ?_)
                    · first
                      | (exfalso; omega)
                      | exact ih (true, (q_e c ((q_e c (a.2.1 + 1)).2.1 + 1)).2.1, (a.2.2.1 ++ ((q_e c (a.2.1 + 1)).2.2.1 ++ [(5, ((a.2.2.1.length + (q_e c (a.2.1 + 1)).2.2.1.length + 1 + (q_e c ((q_e c (a.2.1 + 1)).2.1 + 1)).2.2.1.length + 1 : Nat) : Int))] ++ (q_e c ((q_e c (a.2.1 + 1)).2.1 + 1)).2.2.1 ++ [(6, 0)])), fun ν => q_or (a.2.2.2 ν) ((if (q_e c (a.2.1 + 1)).2.2.2 ν = 0 then none else some ((q_e c ((q_e c (a.2.1 + 1)).2.1 + 1)).2.2.2 ν)))) _ _ _ _ _ _ rfl ((show q_gv (q_or (a.2.2.2 ν) (if (q_e c (a.2.1 + 1)).2.2.2 ν = 0 then none else some ((q_e c ((q_e c (a.2.1 + 1)).2.1 + 1)).2.2.2 ν))) _ _ by rw [if_neg (by assumption)]; exact q_gv_new hg (by omega))) hF hM hO (by simp only; omega) (by rw [← he, q_tx, if_pos ⟨ha, h59⟩, hln]; exact (if_pos rfl).symm)
                      | exact ih (true, (q_e c ((q_e c (a.2.1 + 1)).2.1 + 1)).2.1, (a.2.2.1 ++ ((q_e c (a.2.1 + 1)).2.2.1 ++ [(5, ((a.2.2.1.length + (q_e c (a.2.1 + 1)).2.2.1.length + 1 + (q_e c ((q_e c (a.2.1 + 1)).2.1 + 1)).2.2.1.length + 1 : Nat) : Int))] ++ (q_e c ((q_e c (a.2.1 + 1)).2.1 + 1)).2.2.1 ++ [(6, 0)])), fun ν => q_or (a.2.2.2 ν) ((if (q_e c (a.2.1 + 1)).2.2.2 ν = 0 then none else some ((q_e c ((q_e c (a.2.1 + 1)).2.1 + 1)).2.2.2 ν)))) _ _ _ _ _ _ rfl (q_gv_no hg (if_pos (by assumption))) hF hM hO (by simp only; omega) (by rw [← he, q_tx, if_pos ⟨ha, h59⟩, hln]; exact (if_pos rfl).symm)
                      | exact ih (true, (q_e c ((q_e c (a.2.1 + 1)).2.1 + 1)).2.1, (a.2.2.1 ++ ((q_e c (a.2.1 + 1)).2.2.1 ++ [(5, ((a.2.2.1.length + (q_e c (a.2.1 + 1)).2.2.1.length + 1 + (q_e c ((q_e c (a.2.1 + 1)).2.1 + 1)).2.2.1.length + 1 : Nat) : Int))] ++ (q_e c ((q_e c (a.2.1 + 1)).2.1 + 1)).2.2.1 ++ [(6, 0)])), fun ν => q_or (a.2.2.2 ν) ((if (q_e c (a.2.1 + 1)).2.2.2 ν = 0 then none else some ((q_e c ((q_e c (a.2.1 + 1)).2.1 + 1)).2.2.2 ν)))) _ _ _ _ _ _ rfl (q_gv_old hg (by omega)) hF hM hO (by simp only; omega) (by rw [← he, q_tx, if_pos ⟨ha, h59⟩, hln]; exact (if_pos rfl).symm)
                    · refine am_r_iconst (pc' := 91) rfl rfl ?_
                      refine am_r_istore3 (pc' := 92) rfl rfl rfl ?_
                      refine am_r_iload6 (pc' := 94) rfl rfl ?_
                      refine am_r_istore4 (pc' := 96) rfl rfl rfl ?_
                      first
                      | (exfalso; omega)
                      | exact ih (true, (q_e c ((q_e c (a.2.1 + 1)).2.1 + 1)).2.1, (a.2.2.1 ++ ((q_e c (a.2.1 + 1)).2.2.1 ++ [(5, ((a.2.2.1.length + (q_e c (a.2.1 + 1)).2.2.1.length + 1 + (q_e c ((q_e c (a.2.1 + 1)).2.1 + 1)).2.2.1.length + 1 : Nat) : Int))] ++ (q_e c ((q_e c (a.2.1 + 1)).2.1 + 1)).2.2.1 ++ [(6, 0)])), fun ν => q_or (a.2.2.2 ν) ((if (q_e c (a.2.1 + 1)).2.2.2 ν = 0 then none else some ((q_e c ((q_e c (a.2.1 + 1)).2.1 + 1)).2.2.2 ν)))) _ _ _ _ _ _ rfl ((show q_gv (q_or (a.2.2.2 ν) (if (q_e c (a.2.1 + 1)).2.2.2 ν = 0 then none else some ((q_e c ((q_e c (a.2.1 + 1)).2.1 + 1)).2.2.2 ν))) _ _ by rw [if_neg (by assumption)]; exact q_gv_new hg (by omega))) hF hM hO (by simp only; omega) (by rw [← he, q_tx, if_pos ⟨ha, h59⟩, hln]; exact (if_pos rfl).symm)
                      | exact ih (true, (q_e c ((q_e c (a.2.1 + 1)).2.1 + 1)).2.1, (a.2.2.1 ++ ((q_e c (a.2.1 + 1)).2.2.1 ++ [(5, ((a.2.2.1.length + (q_e c (a.2.1 + 1)).2.2.1.length + 1 + (q_e c ((q_e c (a.2.1 + 1)).2.1 + 1)).2.2.1.length + 1 : Nat) : Int))] ++ (q_e c ((q_e c (a.2.1 + 1)).2.1 + 1)).2.2.1 ++ [(6, 0)])), fun ν => q_or (a.2.2.2 ν) ((if (q_e c (a.2.1 + 1)).2.2.2 ν = 0 then none else some ((q_e c ((q_e c (a.2.1 + 1)).2.1 + 1)).2.2.2 ν)))) _ _ _ _ _ _ rfl (q_gv_no hg (if_pos (by assumption))) hF hM hO (by simp only; omega) (by rw [← he, q_tx, if_pos ⟨ha, h59⟩, hln]; exact (if_pos rfl).symm)
                      | exact ih (true, (q_e c ((q_e c (a.2.1 + 1)).2.1 + 1)).2.1, (a.2.2.1 ++ ((q_e c (a.2.1 + 1)).2.2.1 ++ [(5, ((a.2.2.1.length + (q_e c (a.2.1 + 1)).2.2.1.length + 1 + (q_e c ((q_e c (a.2.1 + 1)).2.1 + 1)).2.2.1.length + 1 : Nat) : Int))] ++ (q_e c ((q_e c (a.2.1 + 1)).2.1 + 1)).2.2.1 ++ [(6, 0)])), fun ν => q_or (a.2.2.2 ν) ((if (q_e c (a.2.1 + 1)).2.2.2 ν = 0 then none else some ((q_e c ((q_e c (a.2.1 + 1)).2.1 + 1)).2.2.2 ν)))) _ _ _ _ _ _ rfl (q_gv_old hg (by omega)) hF hM hO (by simp only; omega) (by rw [← he, q_tx, if_pos ⟨ha, h59⟩, hln]; exact (if_pos rfl).symm)
              · intro M6 x6 hf6 e6 hM6
                have hM := hM6
                have hF := am_fw_tr hF (am_fw_fq hf6)
                have hpb6 := ms_pb hM6
                have hln := q_ln_f2 (L := a.2.2.1.length) (c := c) e4 e63 e6
                have hqa : q_nt (q_e c ((q_e c (a.2.1 + 1)).2.1 + 1)).2.1 = q_all c := (by rw [← he, q_tx, if_pos ⟨ha, h59⟩, hln]; exact (if_neg (by simp [q_nt])).symm)
                refine am_r_istore6 (pc' := 74) rfl rfl rfl ?_
                refine am_r_aload0 (pc' := 75) rfl rfl ?_
                refine am_r_getIv (f := 15) (pc' := 78) rfl rfl rfl (ms_f hM) ?_
                refine am_r_if_ge (pt := 96) (pf := 81) rfl rfl rfl (fun h78 => ?_) (fun h78 => ?_)
                · refine am_r_aload0 (pc' := 97) rfl rfl ?_
                  refine am_r_iconst (pc' := 99) rfl rfl ?_
                  refine am_r_invI1 (pc' := 102) rfl rfl rfl (Nat.le_of_ble_eq_true rfl) (m_takesF (by omega) hM ?_)
                  refine am_r_istore5 (pc' := 104) rfl rfl rfl ?_
                  refine am_r_goto (pc' := 33) rfl rfl ?_
                  refine am_r_iload5 (pc' := 35) rfl rfl ?_
                  refine am_r_if_eq (pt := 107) (pf := 38) rfl rfl rfl (fun h35 => ?_) (fun h35 => ?_)
                  · refine am_r_aload0 (pc' := 108) rfl rfl ?_
                    refine am_r_getIv (f := 15) (pc' := 111) rfl rfl rfl (ms_f hM) ?_
                    refine am_r_if_ge (pt := 130) (pf := 114) rfl rfl rfl (fun h111 => ?_) (fun h111 => ?_)
                    · refine am_r_iload4 (pc' := 132) rfl rfl ?_
                      refine am_r_iret rfl rfl ?_
                      exact hqF _ _ hF (q_good_nt hqa.symm) (by rw [q_nt_p hqa]; exact (ms_pb hM).1) (by rw [q_nt_p hqa]; exact (ms_pb hM).2) (by rw [q_nt_p hqa]; exact ms_f hM)
                    · exfalso; omega
                  · exfalso; omega
                · exfalso; omega
            · refine am_r_iconst (pc' := 62) rfl rfl ?_
              refine am_r_goto (pc' := 66) rfl rfl ?_
              refine am_r_istore7 (pc' := 68) rfl rfl rfl ?_
              refine am_r_aload0 (pc' := 69) rfl rfl ?_
              refine am_r_invI0 (pc' := 72) rfl rfl rfl (Nat.le_of_ble_eq_true rfl) (m_e hc (by omega) hM hO ?_ ?_)
              · intro M6 hf6 e6 hM6 hO6
                have hM := hM6
                have hO := hO6
                have hF := am_fw_tr hF (am_fw_fq hf6)
                have hpb6 := ms_pb hM6
                have hg6 := q_e_gd hc ((q_e c (a.2.1 + 1)).2.1 + 1) (by omega) (by omega)
                have hg7 := hg6.2.2 e6
                have hln := q_ln_2 (L := a.2.2.1.length) (c := c) e4 e63 e6
                refine am_r_istore6 (pc' := 74) rfl rfl rfl ?_
                refine am_r_aload0 (pc' := 75) rfl rfl ?_
                refine am_r_getIv (f := 15) (pc' := 78) rfl rfl rfl (ms_f hM) ?_
                refine am_r_if_ge (pt := 96) (pf := 81) rfl rfl rfl (fun h78 => ?_) (fun h78 => ?_)
                · first
                  | (exfalso; omega)
                  | exact ih (true, (q_e c ((q_e c (a.2.1 + 1)).2.1 + 1)).2.1, (a.2.2.1 ++ ((q_e c (a.2.1 + 1)).2.2.1 ++ [(5, ((a.2.2.1.length + (q_e c (a.2.1 + 1)).2.2.1.length + 1 + (q_e c ((q_e c (a.2.1 + 1)).2.1 + 1)).2.2.1.length + 1 : Nat) : Int))] ++ (q_e c ((q_e c (a.2.1 + 1)).2.1 + 1)).2.2.1 ++ [(6, 0)])), fun ν => q_or (a.2.2.2 ν) ((if (q_e c (a.2.1 + 1)).2.2.2 ν = 0 then none else some ((q_e c ((q_e c (a.2.1 + 1)).2.1 + 1)).2.2.2 ν)))) _ _ _ _ _ _ rfl ((show q_gv (q_or (a.2.2.2 ν) (if (q_e c (a.2.1 + 1)).2.2.2 ν = 0 then none else some ((q_e c ((q_e c (a.2.1 + 1)).2.1 + 1)).2.2.2 ν))) _ _ by rw [if_neg (by assumption)]; exact q_gv_new hg (by omega))) hF hM hO (by simp only; omega) (by rw [← he, q_tx, if_pos ⟨ha, h59⟩, hln]; exact (if_pos rfl).symm)
                  | exact ih (true, (q_e c ((q_e c (a.2.1 + 1)).2.1 + 1)).2.1, (a.2.2.1 ++ ((q_e c (a.2.1 + 1)).2.2.1 ++ [(5, ((a.2.2.1.length + (q_e c (a.2.1 + 1)).2.2.1.length + 1 + (q_e c ((q_e c (a.2.1 + 1)).2.1 + 1)).2.2.1.length + 1 : Nat) : Int))] ++ (q_e c ((q_e c (a.2.1 + 1)).2.1 + 1)).2.2.1 ++ [(6, 0)])), fun ν => q_or (a.2.2.2 ν) ((if (q_e c (a.2.1 + 1)).2.2.2 ν = 0 then none else some ((q_e c ((q_e c (a.2.1 + 1)).2.1 + 1)).2.2.2 ν)))) _ _ _ _ _ _ rfl (q_gv_no hg (if_pos (by assumption))) hF hM hO (by simp only; omega) (by rw [← he, q_tx, if_pos ⟨ha, h59⟩, hln]; exact (if_pos rfl).symm)
                  | exact ih (true, (q_e c ((q_e c (a.2.1 + 1)).2.1 + 1)).2.1, (a.2.2.1 ++ ((q_e c (a.2.1 + 1)).2.2.1 ++ [(5, ((a.2.2.1.length + (q_e c (a.2.1 + 1)).2.2.1.length + 1 + (q_e c ((q_e c (a.2.1 + 1)).2.1 + 1)).2.2.1.length + 1 : Nat) : Int))] ++ (q_e c ((q_e c (a.2.1 + 1)).2.1 + 1)).2.2.1 ++ [(6, 0)])), fun ν => q_or (a.2.2.2 ν) ((if (q_e c (a.2.1 + 1)).2.2.2 ν = 0 then none else some ((q_e c ((q_e c (a.2.1 + 1)).2.1 + 1)).2.2.2 ν)))) _ _ _ _ _ _ rfl (q_gv_old hg (by omega)) hF hM hO (by simp only; omega) (by rw [← he, q_tx, if_pos ⟨ha, h59⟩, hln]; exact (if_pos rfl).symm)
                · refine am_r_iload7 (pc' := 83) rfl rfl ?_
                  refine am_r_if_eq (pt := 96) (pf := 86) rfl rfl rfl (fun h83 => ?_) (fun h83 => ?_)
                  · first
                    | (exfalso; omega)
                    | exact ih (true, (q_e c ((q_e c (a.2.1 + 1)).2.1 + 1)).2.1, (a.2.2.1 ++ ((q_e c (a.2.1 + 1)).2.2.1 ++ [(5, ((a.2.2.1.length + (q_e c (a.2.1 + 1)).2.2.1.length + 1 + (q_e c ((q_e c (a.2.1 + 1)).2.1 + 1)).2.2.1.length + 1 : Nat) : Int))] ++ (q_e c ((q_e c (a.2.1 + 1)).2.1 + 1)).2.2.1 ++ [(6, 0)])), fun ν => q_or (a.2.2.2 ν) ((if (q_e c (a.2.1 + 1)).2.2.2 ν = 0 then none else some ((q_e c ((q_e c (a.2.1 + 1)).2.1 + 1)).2.2.2 ν)))) _ _ _ _ _ _ rfl ((show q_gv (q_or (a.2.2.2 ν) (if (q_e c (a.2.1 + 1)).2.2.2 ν = 0 then none else some ((q_e c ((q_e c (a.2.1 + 1)).2.1 + 1)).2.2.2 ν))) _ _ by rw [if_neg (by assumption)]; exact q_gv_new hg (by omega))) hF hM hO (by simp only; omega) (by rw [← he, q_tx, if_pos ⟨ha, h59⟩, hln]; exact (if_pos rfl).symm)
                    | exact ih (true, (q_e c ((q_e c (a.2.1 + 1)).2.1 + 1)).2.1, (a.2.2.1 ++ ((q_e c (a.2.1 + 1)).2.2.1 ++ [(5, ((a.2.2.1.length + (q_e c (a.2.1 + 1)).2.2.1.length + 1 + (q_e c ((q_e c (a.2.1 + 1)).2.1 + 1)).2.2.1.length + 1 : Nat) : Int))] ++ (q_e c ((q_e c (a.2.1 + 1)).2.1 + 1)).2.2.1 ++ [(6, 0)])), fun ν => q_or (a.2.2.2 ν) ((if (q_e c (a.2.1 + 1)).2.2.2 ν = 0 then none else some ((q_e c ((q_e c (a.2.1 + 1)).2.1 + 1)).2.2.2 ν)))) _ _ _ _ _ _ rfl (q_gv_no hg (if_pos (by assumption))) hF hM hO (by simp only; omega) (by rw [← he, q_tx, if_pos ⟨ha, h59⟩, hln]; exact (if_pos rfl).symm)
                    | exact ih (true, (q_e c ((q_e c (a.2.1 + 1)).2.1 + 1)).2.1, (a.2.2.1 ++ ((q_e c (a.2.1 + 1)).2.2.1 ++ [(5, ((a.2.2.1.length + (q_e c (a.2.1 + 1)).2.2.1.length + 1 + (q_e c ((q_e c (a.2.1 + 1)).2.1 + 1)).2.2.1.length + 1 : Nat) : Int))] ++ (q_e c ((q_e c (a.2.1 + 1)).2.1 + 1)).2.2.1 ++ [(6, 0)])), fun ν => q_or (a.2.2.2 ν) ((if (q_e c (a.2.1 + 1)).2.2.2 ν = 0 then none else some ((q_e c ((q_e c (a.2.1 + 1)).2.1 + 1)).2.2.2 ν)))) _ _ _ _ _ _ rfl (q_gv_old hg (by omega)) hF hM hO (by simp only; omega) (by rw [← he, q_tx, if_pos ⟨ha, h59⟩, hln]; exact (if_pos rfl).symm)
                  · refine am_r_iload3 (pc' := 87) rfl rfl ?_
                    refine am_r_if_ne (pt := 96) (pf := 90) rfl rfl rfl (fun h87 => ?_) (fun h87 => ?_)
                    · first
                      | (exfalso; omega)
                      | exact ih (true, (q_e c ((q_e c (a.2.1 + 1)).2.1 + 1)).2.1, (a.2.2.1 ++ ((q_e c (a.2.1 + 1)).2.2.1 ++ [(5, ((a.2.2.1.length + (q_e c (a.2.1 + 1)).2.2.1.length + 1 + (q_e c ((q_e c (a.2.1 + 1)).2.1 + 1)).2.2.1.length + 1 : Nat) : Int))] ++ (q_e c ((q_e c (a.2.1 + 1)).2.1 + 1)).2.2.1 ++ [(6, 0)])), fun ν => q_or (a.2.2.2 ν) ((if (q_e c (a.2.1 + 1)).2.2.2 ν = 0 then none else some ((q_e c ((q_e c (a.2.1 + 1)).2.1 + 1)).2.2.2 ν)))) _ _ _ _ _ _ rfl ((show q_gv (q_or (a.2.2.2 ν) (if (q_e c (a.2.1 + 1)).2.2.2 ν = 0 then none else some ((q_e c ((q_e c (a.2.1 + 1)).2.1 + 1)).2.2.2 ν))) _ _ by rw [if_neg (by assumption)]; exact q_gv_new hg (by omega))) hF hM hO (by simp only; omega) (by rw [← he, q_tx, if_pos ⟨ha, h59⟩, hln]; exact (if_pos rfl).symm)
                      | exact ih (true, (q_e c ((q_e c (a.2.1 + 1)).2.1 + 1)).2.1, (a.2.2.1 ++ ((q_e c (a.2.1 + 1)).2.2.1 ++ [(5, ((a.2.2.1.length + (q_e c (a.2.1 + 1)).2.2.1.length + 1 + (q_e c ((q_e c (a.2.1 + 1)).2.1 + 1)).2.2.1.length + 1 : Nat) : Int))] ++ (q_e c ((q_e c (a.2.1 + 1)).2.1 + 1)).2.2.1 ++ [(6, 0)])), fun ν => q_or (a.2.2.2 ν) ((if (q_e c (a.2.1 + 1)).2.2.2 ν = 0 then none else some ((q_e c ((q_e c (a.2.1 + 1)).2.1 + 1)).2.2.2 ν)))) _ _ _ _ _ _ rfl (q_gv_no hg (if_pos (by assumption))) hF hM hO (by simp only; omega) (by rw [← he, q_tx, if_pos ⟨ha, h59⟩, hln]; exact (if_pos rfl).symm)
                      | exact ih (true, (q_e c ((q_e c (a.2.1 + 1)).2.1 + 1)).2.1, (a.2.2.1 ++ ((q_e c (a.2.1 + 1)).2.2.1 ++ [(5, ((a.2.2.1.length + (q_e c (a.2.1 + 1)).2.2.1.length + 1 + (q_e c ((q_e c (a.2.1 + 1)).2.1 + 1)).2.2.1.length + 1 : Nat) : Int))] ++ (q_e c ((q_e c (a.2.1 + 1)).2.1 + 1)).2.2.1 ++ [(6, 0)])), fun ν => q_or (a.2.2.2 ν) ((if (q_e c (a.2.1 + 1)).2.2.2 ν = 0 then none else some ((q_e c ((q_e c (a.2.1 + 1)).2.1 + 1)).2.2.2 ν)))) _ _ _ _ _ _ rfl (q_gv_old hg (by omega)) hF hM hO (by simp only; omega) (by rw [← he, q_tx, if_pos ⟨ha, h59⟩, hln]; exact (if_pos rfl).symm)
                    · refine am_r_iconst (pc' := 91) rfl rfl ?_
                      refine am_r_istore3 (pc' := 92) rfl rfl rfl ?_
                      refine am_r_iload6 (pc' := 94) rfl rfl ?_
                      refine am_r_istore4 (pc' := 96) rfl rfl rfl ?_
                      first
                      | (exfalso; omega)
                      | exact ih (true, (q_e c ((q_e c (a.2.1 + 1)).2.1 + 1)).2.1, (a.2.2.1 ++ ((q_e c (a.2.1 + 1)).2.2.1 ++ [(5, ((a.2.2.1.length + (q_e c (a.2.1 + 1)).2.2.1.length + 1 + (q_e c ((q_e c (a.2.1 + 1)).2.1 + 1)).2.2.1.length + 1 : Nat) : Int))] ++ (q_e c ((q_e c (a.2.1 + 1)).2.1 + 1)).2.2.1 ++ [(6, 0)])), fun ν => q_or (a.2.2.2 ν) ((if (q_e c (a.2.1 + 1)).2.2.2 ν = 0 then none else some ((q_e c ((q_e c (a.2.1 + 1)).2.1 + 1)).2.2.2 ν)))) _ _ _ _ _ _ rfl ((show q_gv (q_or (a.2.2.2 ν) (if (q_e c (a.2.1 + 1)).2.2.2 ν = 0 then none else some ((q_e c ((q_e c (a.2.1 + 1)).2.1 + 1)).2.2.2 ν))) _ _ by rw [if_neg (by assumption)]; exact q_gv_new hg (by omega))) hF hM hO (by simp only; omega) (by rw [← he, q_tx, if_pos ⟨ha, h59⟩, hln]; exact (if_pos rfl).symm)
                      | exact ih (true, (q_e c ((q_e c (a.2.1 + 1)).2.1 + 1)).2.1, (a.2.2.1 ++ ((q_e c (a.2.1 + 1)).2.2.1 ++ [(5, ((a.2.2.1.length + (q_e c (a.2.1 + 1)).2.2.1.length + 1 + (q_e c ((q_e c (a.2.1 + 1)).2.1 + 1)).2.2.1.length + 1 : Nat) : Int))] ++ (q_e c ((q_e c (a.2.1 + 1)).2.1 + 1)).2.2.1 ++ [(6, 0)])), fun ν => q_or (a.2.2.2 ν) ((if (q_e c (a.2.1 + 1)).2.2.2 ν = 0 then none else some ((q_e c ((q_e c (a.2.1 + 1)).2.1 + 1)).2.2.2 ν)))) _ _ _ _ _ _ rfl (q_gv_no hg (if_pos (by assumption))) hF hM hO (by simp only; omega) (by rw [← he, q_tx, if_pos ⟨ha, h59⟩, hln]; exact (if_pos rfl).symm)
                      | exact ih (true, (q_e c ((q_e c (a.2.1 + 1)).2.1 + 1)).2.1, (a.2.2.1 ++ ((q_e c (a.2.1 + 1)).2.2.1 ++ [(5, ((a.2.2.1.length + (q_e c (a.2.1 + 1)).2.2.1.length + 1 + (q_e c ((q_e c (a.2.1 + 1)).2.1 + 1)).2.2.1.length + 1 : Nat) : Int))] ++ (q_e c ((q_e c (a.2.1 + 1)).2.1 + 1)).2.2.1 ++ [(6, 0)])), fun ν => q_or (a.2.2.2 ν) ((if (q_e c (a.2.1 + 1)).2.2.2 ν = 0 then none else some ((q_e c ((q_e c (a.2.1 + 1)).2.1 + 1)).2.2.2 ν)))) _ _ _ _ _ _ rfl (q_gv_old hg (by omega)) hF hM hO (by simp only; omega) (by rw [← he, q_tx, if_pos ⟨ha, h59⟩, hln]; exact (if_pos rfl).symm)
              · intro M6 x6 hf6 e6 hM6
                have hM := hM6
                have hF := am_fw_tr hF (am_fw_fq hf6)
                have hpb6 := ms_pb hM6
                have hln := q_ln_f2 (L := a.2.2.1.length) (c := c) e4 e63 e6
                have hqa : q_nt (q_e c ((q_e c (a.2.1 + 1)).2.1 + 1)).2.1 = q_all c := (by rw [← he, q_tx, if_pos ⟨ha, h59⟩, hln]; exact (if_neg (by simp [q_nt])).symm)
                refine am_r_istore6 (pc' := 74) rfl rfl rfl ?_
                refine am_r_aload0 (pc' := 75) rfl rfl ?_
                refine am_r_getIv (f := 15) (pc' := 78) rfl rfl rfl (ms_f hM) ?_
                refine am_r_if_ge (pt := 96) (pf := 81) rfl rfl rfl (fun h78 => ?_) (fun h78 => ?_)
                · refine am_r_aload0 (pc' := 97) rfl rfl ?_
                  refine am_r_iconst (pc' := 99) rfl rfl ?_
                  refine am_r_invI1 (pc' := 102) rfl rfl rfl (Nat.le_of_ble_eq_true rfl) (m_takesF (by omega) hM ?_)
                  refine am_r_istore5 (pc' := 104) rfl rfl rfl ?_
                  refine am_r_goto (pc' := 33) rfl rfl ?_
                  refine am_r_iload5 (pc' := 35) rfl rfl ?_
                  refine am_r_if_eq (pt := 107) (pf := 38) rfl rfl rfl (fun h35 => ?_) (fun h35 => ?_)
                  · refine am_r_aload0 (pc' := 108) rfl rfl ?_
                    refine am_r_getIv (f := 15) (pc' := 111) rfl rfl rfl (ms_f hM) ?_
                    refine am_r_if_ge (pt := 130) (pf := 114) rfl rfl rfl (fun h111 => ?_) (fun h111 => ?_)
                    · refine am_r_iload4 (pc' := 132) rfl rfl ?_
                      refine am_r_iret rfl rfl ?_
                      exact hqF _ _ hF (q_good_nt hqa.symm) (by rw [q_nt_p hqa]; exact (ms_pb hM).1) (by rw [q_nt_p hqa]; exact (ms_pb hM).2) (by rw [q_nt_p hqa]; exact ms_f hM)
                    · exfalso; omega
                  · exfalso; omega
                · exfalso; omega
          · intro e63
            have hln := q_ln_1 (L := a.2.2.1.length) (c := c) e4 e63
            refine am_r_if_eq (pt := 74) (pf := 56) rfl rfl rfl (fun h53 => ?_) (fun h53 => by exfalso; omega)
            refine am_r_aload0 (pc' := 75) rfl rfl ?_
            refine am_r_getIv (f := 15) (pc' := 78) rfl rfl rfl (ms_f hM) ?_
            refine am_r_if_ge (pt := 96) (pf := 81) rfl rfl rfl (fun h78 => ?_) (fun h78 => ?_)
            · first
              | (exfalso; omega)
              | exact ih (true, (q_e c (a.2.1 + 1)).2.1, (a.2.2.1 ++ ((q_e c (a.2.1 + 1)).2.2.1 ++ [(6, 0)])), fun ν => q_or (a.2.2.2 ν) (some ((q_e c (a.2.1 + 1)).2.2.2 ν))) _ _ _ _ _ _ rfl (q_gv_new hg (by omega)) hF hM hO (by simp only; omega) (by rw [← he, q_tx, if_pos ⟨ha, h59⟩, hln]; exact (if_pos rfl).symm)
              | exact ih (true, (q_e c (a.2.1 + 1)).2.1, (a.2.2.1 ++ ((q_e c (a.2.1 + 1)).2.2.1 ++ [(6, 0)])), fun ν => q_or (a.2.2.2 ν) (some ((q_e c (a.2.1 + 1)).2.2.2 ν))) _ _ _ _ _ _ rfl (q_gv_old hg (by omega)) hF hM hO (by simp only; omega) (by rw [← he, q_tx, if_pos ⟨ha, h59⟩, hln]; exact (if_pos rfl).symm)
            · refine am_r_iload7 (pc' := 83) rfl rfl ?_
              refine am_r_if_eq (pt := 96) (pf := 86) rfl rfl rfl (fun h83 => ?_) (fun h83 => ?_)
              · first
                | (exfalso; omega)
                | exact ih (true, (q_e c (a.2.1 + 1)).2.1, (a.2.2.1 ++ ((q_e c (a.2.1 + 1)).2.2.1 ++ [(6, 0)])), fun ν => q_or (a.2.2.2 ν) (some ((q_e c (a.2.1 + 1)).2.2.2 ν))) _ _ _ _ _ _ rfl (q_gv_new hg (by omega)) hF hM hO (by simp only; omega) (by rw [← he, q_tx, if_pos ⟨ha, h59⟩, hln]; exact (if_pos rfl).symm)
                | exact ih (true, (q_e c (a.2.1 + 1)).2.1, (a.2.2.1 ++ ((q_e c (a.2.1 + 1)).2.2.1 ++ [(6, 0)])), fun ν => q_or (a.2.2.2 ν) (some ((q_e c (a.2.1 + 1)).2.2.2 ν))) _ _ _ _ _ _ rfl (q_gv_old hg (by omega)) hF hM hO (by simp only; omega) (by rw [← he, q_tx, if_pos ⟨ha, h59⟩, hln]; exact (if_pos rfl).symm)
              · refine am_r_iload3 (pc' := 87) rfl rfl ?_
                refine am_r_if_ne (pt := 96) (pf := 90) rfl rfl rfl (fun h87 => ?_) (fun h87 => ?_)
                · first
                  | (exfalso; omega)
                  | exact ih (true, (q_e c (a.2.1 + 1)).2.1, (a.2.2.1 ++ ((q_e c (a.2.1 + 1)).2.2.1 ++ [(6, 0)])), fun ν => q_or (a.2.2.2 ν) (some ((q_e c (a.2.1 + 1)).2.2.2 ν))) _ _ _ _ _ _ rfl (q_gv_new hg (by omega)) hF hM hO (by simp only; omega) (by rw [← he, q_tx, if_pos ⟨ha, h59⟩, hln]; exact (if_pos rfl).symm)
                  | exact ih (true, (q_e c (a.2.1 + 1)).2.1, (a.2.2.1 ++ ((q_e c (a.2.1 + 1)).2.2.1 ++ [(6, 0)])), fun ν => q_or (a.2.2.2 ν) (some ((q_e c (a.2.1 + 1)).2.2.2 ν))) _ _ _ _ _ _ rfl (q_gv_old hg (by omega)) hF hM hO (by simp only; omega) (by rw [← he, q_tx, if_pos ⟨ha, h59⟩, hln]; exact (if_pos rfl).symm)
                · refine am_r_iconst (pc' := 91) rfl rfl ?_
                  refine am_r_istore3 (pc' := 92) rfl rfl rfl ?_
                  refine am_r_iload6 (pc' := 94) rfl rfl ?_
                  refine am_r_istore4 (pc' := 96) rfl rfl rfl ?_
                  first
                  | (exfalso; omega)
                  | exact ih (true, (q_e c (a.2.1 + 1)).2.1, (a.2.2.1 ++ ((q_e c (a.2.1 + 1)).2.2.1 ++ [(6, 0)])), fun ν => q_or (a.2.2.2 ν) (some ((q_e c (a.2.1 + 1)).2.2.2 ν))) _ _ _ _ _ _ rfl (q_gv_new hg (by omega)) hF hM hO (by simp only; omega) (by rw [← he, q_tx, if_pos ⟨ha, h59⟩, hln]; exact (if_pos rfl).symm)
                  | exact ih (true, (q_e c (a.2.1 + 1)).2.1, (a.2.2.1 ++ ((q_e c (a.2.1 + 1)).2.2.1 ++ [(6, 0)])), fun ν => q_or (a.2.2.2 ν) (some ((q_e c (a.2.1 + 1)).2.2.2 ν))) _ _ _ _ _ _ rfl (q_gv_old hg (by omega)) hF hM hO (by simp only; omega) (by rw [← he, q_tx, if_pos ⟨ha, h59⟩, hln]; exact (if_pos rfl).symm)
        · intro M4 x4 hf4 e4 hM4
          have hM := hM4
          have hF := am_fw_tr hF (am_fw_fq hf4)
          have hpb4 := ms_pb hM4
          have hln := q_ln_f1 (L := a.2.2.1.length) (c := c) e4
          have hqa : q_nt (q_e c (a.2.1 + 1)).2.1 = q_all c := (by rw [← he, q_tx, if_pos ⟨ha, h59⟩, hln]; exact (if_neg (by simp [q_nt])).symm)
          refine am_r_istore6 (pc' := 44) rfl rfl rfl ?_
          refine am_r_iconst (pc' := 45) rfl rfl ?_
          refine am_r_istore7 (pc' := 47) rfl rfl rfl ?_
          refine am_r_aload0 (pc' := 48) rfl rfl ?_
          refine am_r_iconst (pc' := 50) rfl rfl ?_
          refine am_r_invI1 (pc' := 53) rfl rfl rfl (Nat.le_of_ble_eq_true rfl) (m_takesF (by omega) hM ?_)
          refine am_r_if_eq (pt := 74) (pf := 56) rfl rfl rfl (fun h53 => ?_) (fun h53 => ?_)
          · refine am_r_aload0 (pc' := 75) rfl rfl ?_
            refine am_r_getIv (f := 15) (pc' := 78) rfl rfl rfl (ms_f hM) ?_
            refine am_r_if_ge (pt := 96) (pf := 81) rfl rfl rfl (fun h78 => ?_) (fun h78 => ?_)
            · refine am_r_aload0 (pc' := 97) rfl rfl ?_
              refine am_r_iconst (pc' := 99) rfl rfl ?_
              refine am_r_invI1 (pc' := 102) rfl rfl rfl (Nat.le_of_ble_eq_true rfl) (m_takesF (by omega) hM ?_)
              refine am_r_istore5 (pc' := 104) rfl rfl rfl ?_
              refine am_r_goto (pc' := 33) rfl rfl ?_
              refine am_r_iload5 (pc' := 35) rfl rfl ?_
              refine am_r_if_eq (pt := 107) (pf := 38) rfl rfl rfl (fun h35 => ?_) (fun h35 => ?_)
              · refine am_r_aload0 (pc' := 108) rfl rfl ?_
                refine am_r_getIv (f := 15) (pc' := 111) rfl rfl rfl (ms_f hM) ?_
                refine am_r_if_ge (pt := 130) (pf := 114) rfl rfl rfl (fun h111 => ?_) (fun h111 => ?_)
                · refine am_r_iload4 (pc' := 132) rfl rfl ?_
                  refine am_r_iret rfl rfl ?_
                  exact hqF _ _ hF (q_good_nt hqa.symm) (by rw [q_nt_p hqa]; exact (ms_pb hM).1) (by rw [q_nt_p hqa]; exact (ms_pb hM).2) (by rw [q_nt_p hqa]; exact ms_f hM)
                · exfalso; omega
              · exfalso; omega
            · exfalso; omega
          · exfalso; omega
      · intro e2
        have he2 : a = q_all c := (by rw [← he, q_tx, if_neg (by omega)])
        refine am_r_istore5 (pc' := 104) rfl rfl rfl ?_
        refine am_r_goto (pc' := 33) rfl rfl ?_
        refine am_r_iload5 (pc' := 35) rfl rfl ?_
        refine am_r_if_eq (pt := 107) (pf := 38) rfl rfl rfl (fun h35 => ?_) (fun h35 => by exfalso; omega)
        refine am_r_aload0 (pc' := 108) rfl rfl ?_
        refine am_r_getIv (f := 15) (pc' := 111) rfl rfl rfl (ms_f hM) ?_
        refine am_r_if_ge (pt := 130) (pf := 114) rfl rfl rfl (fun h111 => ?_) (fun h111 => ?_)
        · refine am_r_iload4 (pc' := 132) rfl rfl ?_
          refine am_r_iret rfl rfl ?_
          first
          | (exfalso; omega)
          | (refine am_q2 ?_ (hqT _ hF (by unfold q_good; rw [← he2, ha, decide_eq_true (by omega)]; rfl) (ms_f hM)); rw [← he2]; exact q_gv_x hg)
        · refine am_r_aload0 (pc' := 115) rfl rfl ?_
          refine am_r_getIv (f := 13) (pc' := 118) rfl rfl rfl (ms_p hM) ?_
          refine am_r_aload0 (pc' := 119) rfl rfl ?_
          refine am_r_getIv (f := 14) (pc' := 122) rfl rfl rfl (ms_n hM) ?_
          refine am_r_icmp_ge (pt := 130) (pf := 125) rfl rfl rfl (fun h122 => ?_) (fun h122 => ?_)
          · refine am_r_iload4 (pc' := 132) rfl rfl ?_
            refine am_r_iret rfl rfl ?_
            first
            | (exfalso; omega)
            | (refine am_q2 ?_ (hqT _ hF (by unfold q_good; rw [← he2, ha, decide_eq_true (by omega)]; rfl) (ms_f hM)); rw [← he2]; exact q_gv_x hg)
          · refine am_r_aload0 (pc' := 126) rfl rfl ?_
            refine am_r_invI0 (pc' := 129) rfl rfl rfl (Nat.le_of_ble_eq_true rfl) (m_wrong0 (by omega) hM rfl ?_)
            · intro M8 hf8 hM8
              have hF := am_fw_tr hF (am_fw_fq hf8)
              refine am_r_iret rfl rfl ?_
              exact hqF _ _ hF (by unfold q_good; rw [← he2, decide_eq_false (by omega), Bool.and_false]) (by rw [← he2]; exact (ms_pb hM8).1) (by rw [← he2]; exact (ms_pb hM8).2) (by rw [← he2]; exact ms_f hM8)
  have hF : am_fw M (am_upI (am_upI (am_upI (am_upI (am_upI M 53 12 (z_I b)) 53 13 (z_I 0)) 53 14 (z_I n)) 53 15 (z_I (-1))) 53 16 (z_I 0)) := am_fw_up (am_fw_up (am_fw_up (am_fw_up (am_fw_up (am_fw_rf M) (by omega)) (by omega)) (by omega)) (by omega)) (by omega)
  have hM : MS (am_upI (am_upI (am_upI (am_upI (am_upI M 53 12 (z_I b)) 53 13 (z_I 0)) 53 14 (z_I n)) 53 15 (z_I (-1))) 53 16 (z_I 0)) c n ν 0 (-1) := by
    refine ⟨hnb, hc, ?_, by simp [am_upI], fun k h1 h2 => by rw [hF.1 61 _ (by omega)]; exact hν k h1 h2, by omega, by simp [am_upI], Or.inl rfl, by simp [am_upI]⟩
    rcases hsrc with ⟨rfl, h2⟩ | ⟨rfl, h2⟩
    · exact Or.inl ⟨by simp [am_upI], fun i h0 h1 => by rw [hF.1 59 _ (by omega)]; exact h2 i h0 h1⟩
    · exact Or.inr ⟨by simp [am_upI], fun i h0 h1 => by rw [hF.1 60 _ (by omega)]; exact h2 i h0 h1⟩
  have hO : (am_upI (am_upI (am_upI (am_upI (am_upI M 53 12 (z_I b)) 53 13 (z_I 0)) 53 14 (z_I n)) 53 15 (z_I (-1))) 53 16 (z_I 0)).1 53 16 = z_I 0 := by simp [am_upI]
  have hg := q_gv_0
  refine am_bi_of (P := am_pX11_workOut) (rt := 1) (nL := 8) (Nat.le_of_ble_eq_true rfl) rfl (Nat.le_of_ble_eq_true rfl) rfl rfl rfl ?_
  refine am_r_aload0 (pc' := 1) rfl rfl ?_
  refine am_r_iload1 (pc' := 2) rfl rfl ?_
  refine am_r_putI (f := 12) (pc' := 5) rfl rfl rfl (by decide) ?_
  refine am_r_aload0 (pc' := 6) rfl rfl ?_
  refine am_r_iconst (pc' := 7) rfl rfl ?_
  refine am_r_putI (f := 13) (pc' := 10) rfl rfl rfl (by decide) ?_
  refine am_r_aload0 (pc' := 11) rfl rfl ?_
  refine am_r_iload2 (pc' := 12) rfl rfl ?_
  refine am_r_putI (f := 14) (pc' := 15) rfl rfl rfl (by decide) ?_
  refine am_r_aload0 (pc' := 16) rfl rfl ?_
  refine am_r_iconst (pc' := 17) rfl rfl ?_
  refine am_r_putI (f := 15) (pc' := 20) rfl rfl rfl (by decide) ?_
  refine am_r_aload0 (pc' := 21) rfl rfl ?_
  refine am_r_iconst (pc' := 22) rfl rfl ?_
  refine am_r_putI (f := 16) (pc' := 25) rfl rfl rfl (by decide) ?_
  refine am_r_iconst (pc' := 26) rfl rfl ?_
  refine am_r_istore3 (pc' := 27) rfl rfl rfl ?_
  refine am_r_iconst (pc' := 28) rfl rfl ?_
  refine am_r_istore4 (pc' := 30) rfl rfl rfl ?_
  refine am_r_iconst (pc' := 31) rfl rfl ?_
  refine am_r_istore5 (pc' := 33) rfl rfl rfl ?_
  refine am_r_iload5 (pc' := 35) rfl rfl ?_
  refine am_r_if_eq (pt := 107) (pf := 38) rfl rfl rfl (fun h35 => ?_) (fun h35 => ?_)
  · exfalso; omega
  · refine am_r_aload0 (pc' := 39) rfl rfl ?_
    refine am_r_invI0 (pc' := 42) rfl rfl rfl (Nat.le_of_ble_eq_true rfl) (m_e hc (by omega) hM hO ?_ ?_)
    · intro M4 hf4 e4 hM4 hO4
      have hM := hM4
      have hO := hO4
      have hF := am_fw_tr hF (am_fw_fq hf4)
      have hpb4 := ms_pb hM4
      have hg4 := q_e_gd hc 0 (by omega) (by omega)
      have hg5 := hg4.2.2 e4
      refine am_r_istore6 (pc' := 44) rfl rfl rfl ?_
      refine am_r_iconst (pc' := 45) rfl rfl ?_
      refine am_r_istore7 (pc' := 47) rfl rfl rfl ?_
      refine am_r_aload0 (pc' := 48) rfl rfl ?_
      refine am_r_iconst (pc' := 50) rfl rfl ?_
      refine am_r_invI1 (pc' := 53) rfl rfl rfl (Nat.le_of_ble_eq_true rfl) (m_takes (by omega) hM (by omega) hO ?_ ?_)
      · intro M2 hf2 e63 hM2 hO2
        have hM := hM2
        have hO := hO2
        have hF := am_fw_tr hF (am_fw_fq hf2)
        have hpb2 := ms_pb hM2
        refine am_r_if_eq (pt := 74) (pf := 56) rfl rfl rfl (fun h53 => by exfalso; omega) (fun h53 => ?_)
        refine am_r_iload6 (pc' := 58) rfl rfl ?_
        refine am_r_if_eqR (pt := 65) (pf := 61) rfl rfl rfl (fun h58 => ?_) (fun h58 => ?_)
        · refine am_r_iconst (pc' := 66) rfl rfl ?_
          refine am_r_istore7 (pc' := 68) rfl rfl rfl ?_
          refine am_r_aload0 (pc' := 69) rfl rfl ?_
          refine am_r_invI0 (pc' := 72) rfl rfl rfl (Nat.le_of_ble_eq_true rfl) (m_e hc (by omega) hM hO ?_ ?_)
          · intro M6 hf6 e6 hM6 hO6
            have hM := hM6
            have hO := hO6
            have hF := am_fw_tr hF (am_fw_fq hf6)
            have hpb6 := ms_pb hM6
            have hg6 := q_e_gd hc ((q_e c 0).2.1 + 1) (by omega) (by omega)
            have hg7 := hg6.2.2 e6
            have hln := q_ln_2 (L := 0) (c := c) e4 e63 e6
            refine am_r_istore6 (pc' := 74) rfl rfl rfl ?_
            refine am_r_aload0 (pc' := 75) rfl rfl ?_
            refine am_r_getIv (f := 15) (pc' := 78) rfl rfl rfl (ms_f hM) ?_
            refine am_r_if_ge (pt := 96) (pf := 81) rfl rfl rfl (fun h78 => ?_) (fun h78 => ?_)
            · first
              | (exfalso; omega)
              | exact hloop 120 (true, (q_e c ((q_e c 0).2.1 + 1)).2.1, (((q_e c 0).2.2.1 ++ [(5, ((0 + (q_e c 0).2.2.1.length + 1 + (q_e c ((q_e c 0).2.1 + 1)).2.2.1.length + 1 : Nat) : Int))] ++ (q_e c ((q_e c 0).2.1 + 1)).2.2.1 ++ [(6, 0)])), fun ν => (if (q_e c 0).2.2.2 ν = 0 then none else some ((q_e c ((q_e c 0).2.1 + 1)).2.2.2 ν))) _ _ _ _ _ _ rfl ((show q_gv (q_or none (if (q_e c 0).2.2.2 ν = 0 then none else some ((q_e c ((q_e c 0).2.1 + 1)).2.2.2 ν))) _ _ by rw [if_neg (by assumption)]; exact q_gv_new hg (by omega))) hF hM hO (by simp only; omega) (by unfold q_all; rw [hln])
              | exact hloop 120 (true, (q_e c ((q_e c 0).2.1 + 1)).2.1, (((q_e c 0).2.2.1 ++ [(5, ((0 + (q_e c 0).2.2.1.length + 1 + (q_e c ((q_e c 0).2.1 + 1)).2.2.1.length + 1 : Nat) : Int))] ++ (q_e c ((q_e c 0).2.1 + 1)).2.2.1 ++ [(6, 0)])), fun ν => (if (q_e c 0).2.2.2 ν = 0 then none else some ((q_e c ((q_e c 0).2.1 + 1)).2.2.2 ν))) _ _ _ _ _ _ rfl (q_gv_no hg (if_pos (by assumption))) hF hM hO (by simp only; omega) (by unfold q_all; rw [hln])
              | exact hloop 120 (true, (q_e c ((q_e c 0).2.1 + 1)).2.1, (((q_e c 0).2.2.1 ++ [(5, ((0 + (q_e c 0).2.2.1.length + 1 + (q_e c ((q_e c 0).2.1 + 1)).2.2.1.length + 1 : Nat) : Int))] ++ (q_e c ((q_e c 0).2.1 + 1)).2.2.1 ++ [(6, 0)])), fun ν => (if (q_e c 0).2.2.2 ν = 0 then none else some ((q_e c ((q_e c 0).2.1 + 1)).2.2.2 ν))) _ _ _ _ _ _ rfl (q_gv_old hg (by omega)) hF hM hO (by simp only; omega) (by unfold q_all; rw [hln])
            · refine am_r_iload7 (pc' := 83) rfl rfl ?_
              refine am_r_if_eq (pt := 96) (pf := 86) rfl rfl rfl (fun h83 => ?_) (fun h83 => ?_)
              · first
                | (exfalso; omega)
                | exact hloop 120 (true, (q_e c ((q_e c 0).2.1 + 1)).2.1, (((q_e c 0).2.2.1 ++ [(5, ((0 + (q_e c 0).2.2.1.length + 1 + (q_e c ((q_e c 0).2.1 + 1)).2.2.1.length + 1 : Nat) : Int))] ++ (q_e c ((q_e c 0).2.1 + 1)).2.2.1 ++ [(6, 0)])), fun ν => (if (q_e c 0).2.2.2 ν = 0 then none else some ((q_e c ((q_e c 0).2.1 + 1)).2.2.2 ν))) _ _ _ _ _ _ rfl ((show q_gv (q_or none (if (q_e c 0).2.2.2 ν = 0 then none else some ((q_e c ((q_e c 0).2.1 + 1)).2.2.2 ν))) _ _ by rw [if_neg (by assumption)]; exact q_gv_new hg (by omega))) hF hM hO (by simp only; omega) (by unfold q_all; rw [hln])
                | exact hloop 120 (true, (q_e c ((q_e c 0).2.1 + 1)).2.1, (((q_e c 0).2.2.1 ++ [(5, ((0 + (q_e c 0).2.2.1.length + 1 + (q_e c ((q_e c 0).2.1 + 1)).2.2.1.length + 1 : Nat) : Int))] ++ (q_e c ((q_e c 0).2.1 + 1)).2.2.1 ++ [(6, 0)])), fun ν => (if (q_e c 0).2.2.2 ν = 0 then none else some ((q_e c ((q_e c 0).2.1 + 1)).2.2.2 ν))) _ _ _ _ _ _ rfl (q_gv_no hg (if_pos (by assumption))) hF hM hO (by simp only; omega) (by unfold q_all; rw [hln])
                | exact hloop 120 (true, (q_e c ((q_e c 0).2.1 + 1)).2.1, (((q_e c 0).2.2.1 ++ [(5, ((0 + (q_e c 0).2.2.1.length + 1 + (q_e c ((q_e c 0).2.1 + 1)).2.2.1.length + 1 : Nat) : Int))] ++ (q_e c ((q_e c 0).2.1 + 1)).2.2.1 ++ [(6, 0)])), fun ν => (if (q_e c 0).2.2.2 ν = 0 then none else some ((q_e c ((q_e c 0).2.1 + 1)).2.2.2 ν))) _ _ _ _ _ _ rfl (q_gv_old hg (by omega)) hF hM hO (by simp only; omega) (by unfold q_all; rw [hln])
              · refine am_r_iload3 (pc' := 87) rfl rfl ?_
                refine am_r_if_ne (pt := 96) (pf := 90) rfl rfl rfl (fun h87 => ?_) (fun h87 => ?_)
                · first
                  | (exfalso; omega)
                  | exact hloop 120 (true, (q_e c ((q_e c 0).2.1 + 1)).2.1, (((q_e c 0).2.2.1 ++ [(5, ((0 + (q_e c 0).2.2.1.length + 1 + (q_e c ((q_e c 0).2.1 + 1)).2.2.1.length + 1 : Nat) : Int))] ++ (q_e c ((q_e c 0).2.1 + 1)).2.2.1 ++ [(6, 0)])), fun ν => (if (q_e c 0).2.2.2 ν = 0 then none else some ((q_e c ((q_e c 0).2.1 + 1)).2.2.2 ν))) _ _ _ _ _ _ rfl ((show q_gv (q_or none (if (q_e c 0).2.2.2 ν = 0 then none else some ((q_e c ((q_e c 0).2.1 + 1)).2.2.2 ν))) _ _ by rw [if_neg (by assumption)]; exact q_gv_new hg (by omega))) hF hM hO (by simp only; omega) (by unfold q_all; rw [hln])
                  | exact hloop 120 (true, (q_e c ((q_e c 0).2.1 + 1)).2.1, (((q_e c 0).2.2.1 ++ [(5, ((0 + (q_e c 0).2.2.1.length + 1 + (q_e c ((q_e c 0).2.1 + 1)).2.2.1.length + 1 : Nat) : Int))] ++ (q_e c ((q_e c 0).2.1 + 1)).2.2.1 ++ [(6, 0)])), fun ν => (if (q_e c 0).2.2.2 ν = 0 then none else some ((q_e c ((q_e c 0).2.1 + 1)).2.2.2 ν))) _ _ _ _ _ _ rfl (q_gv_no hg (if_pos (by assumption))) hF hM hO (by simp only; omega) (by unfold q_all; rw [hln])
                  | exact hloop 120 (true, (q_e c ((q_e c 0).2.1 + 1)).2.1, (((q_e c 0).2.2.1 ++ [(5, ((0 + (q_e c 0).2.2.1.length + 1 + (q_e c ((q_e c 0).2.1 + 1)).2.2.1.length + 1 : Nat) : Int))] ++ (q_e c ((q_e c 0).2.1 + 1)).2.2.1 ++ [(6, 0)])), fun ν => (if (q_e c 0).2.2.2 ν = 0 then none else some ((q_e c ((q_e c 0).2.1 + 1)).2.2.2 ν))) _ _ _ _ _ _ rfl (q_gv_old hg (by omega)) hF hM hO (by simp only; omega) (by unfold q_all; rw [hln])
                · refine am_r_iconst (pc' := 91) rfl rfl ?_
                  refine am_r_istore3 (pc' := 92) rfl rfl rfl ?_
                  refine am_r_iload6 (pc' := 94) rfl rfl ?_
                  refine am_r_istore4 (pc' := 96) rfl rfl rfl ?_
                  first
                  | (exfalso; omega)
                  | exact hloop 120 (true, (q_e c ((q_e c 0).2.1 + 1)).2.1, (((q_e c 0).2.2.1 ++ [(5, ((0 + (q_e c 0).2.2.1.length + 1 + (q_e c ((q_e c 0).2.1 + 1)).2.2.1.length + 1 : Nat) : Int))] ++ (q_e c ((q_e c 0).2.1 + 1)).2.2.1 ++ [(6, 0)])), fun ν => (if (q_e c 0).2.2.2 ν = 0 then none else some ((q_e c ((q_e c 0).2.1 + 1)).2.2.2 ν))) _ _ _ _ _ _ rfl ((show q_gv (q_or none (if (q_e c 0).2.2.2 ν = 0 then none else some ((q_e c ((q_e c 0).2.1 + 1)).2.2.2 ν))) _ _ by rw [if_neg (by assumption)]; exact q_gv_new hg (by omega))) hF hM hO (by simp only; omega) (by unfold q_all; rw [hln])
                  | exact hloop 120 (true, (q_e c ((q_e c 0).2.1 + 1)).2.1, (((q_e c 0).2.2.1 ++ [(5, ((0 + (q_e c 0).2.2.1.length + 1 + (q_e c ((q_e c 0).2.1 + 1)).2.2.1.length + 1 : Nat) : Int))] ++ (q_e c ((q_e c 0).2.1 + 1)).2.2.1 ++ [(6, 0)])), fun ν => (if (q_e c 0).2.2.2 ν = 0 then none else some ((q_e c ((q_e c 0).2.1 + 1)).2.2.2 ν))) _ _ _ _ _ _ rfl (q_gv_no hg (if_pos (by assumption))) hF hM hO (by simp only; omega) (by unfold q_all; rw [hln])
                  | exact hloop 120 (true, (q_e c ((q_e c 0).2.1 + 1)).2.1, (((q_e c 0).2.2.1 ++ [(5, ((0 + (q_e c 0).2.2.1.length + 1 + (q_e c ((q_e c 0).2.1 + 1)).2.2.1.length + 1 : Nat) : Int))] ++ (q_e c ((q_e c 0).2.1 + 1)).2.2.1 ++ [(6, 0)])), fun ν => (if (q_e c 0).2.2.2 ν = 0 then none else some ((q_e c ((q_e c 0).2.1 + 1)).2.2.2 ν))) _ _ _ _ _ _ rfl (q_gv_old hg (by omega)) hF hM hO (by simp only; omega) (by unfold q_all; rw [hln])
          · intro M6 x6 hf6 e6 hM6
            have hM := hM6
            have hF := am_fw_tr hF (am_fw_fq hf6)
            have hpb6 := ms_pb hM6
            have hln := q_ln_f2 (L := 0) (c := c) e4 e63 e6
            have hqa : q_nt (q_e c ((q_e c 0).2.1 + 1)).2.1 = q_all c := (by unfold q_all; rw [hln, q_tx_nt])
            refine am_r_istore6 (pc' := 74) rfl rfl rfl ?_
            refine am_r_aload0 (pc' := 75) rfl rfl ?_
            refine am_r_getIv (f := 15) (pc' := 78) rfl rfl rfl (ms_f hM) ?_
            refine am_r_if_ge (pt := 96) (pf := 81) rfl rfl rfl (fun h78 => ?_) (fun h78 => ?_)
            · refine am_r_aload0 (pc' := 97) rfl rfl ?_
              refine am_r_iconst (pc' := 99) rfl rfl ?_
              refine am_r_invI1 (pc' := 102) rfl rfl rfl (Nat.le_of_ble_eq_true rfl) (m_takesF (by omega) hM ?_)
              refine am_r_istore5 (pc' := 104) rfl rfl rfl ?_
              refine am_r_goto (pc' := 33) rfl rfl ?_
              refine am_r_iload5 (pc' := 35) rfl rfl ?_
              refine am_r_if_eq (pt := 107) (pf := 38) rfl rfl rfl (fun h35 => ?_) (fun h35 => ?_)
              · refine am_r_aload0 (pc' := 108) rfl rfl ?_
                refine am_r_getIv (f := 15) (pc' := 111) rfl rfl rfl (ms_f hM) ?_
                refine am_r_if_ge (pt := 130) (pf := 114) rfl rfl rfl (fun h111 => ?_) (fun h111 => ?_)
                · refine am_r_iload4 (pc' := 132) rfl rfl ?_
                  refine am_r_iret rfl rfl ?_
                  exact hqF _ _ hF (q_good_nt hqa.symm) (by rw [q_nt_p hqa]; exact (ms_pb hM).1) (by rw [q_nt_p hqa]; exact (ms_pb hM).2) (by rw [q_nt_p hqa]; exact ms_f hM)
                · exfalso; omega
              · exfalso; omega
            · exfalso; omega
        · refine am_r_iconst (pc' := 62) rfl rfl ?_
          refine am_r_goto (pc' := 66) rfl rfl ?_
          refine am_r_istore7 (pc' := 68) rfl rfl rfl ?_
          refine am_r_aload0 (pc' := 69) rfl rfl ?_
          refine am_r_invI0 (pc' := 72) rfl rfl rfl (Nat.le_of_ble_eq_true rfl) (m_e hc (by omega) hM hO ?_ ?_)
          · intro M6 hf6 e6 hM6 hO6
            have hM := hM6
            have hO := hO6
            have hF := am_fw_tr hF (am_fw_fq hf6)
            have hpb6 := ms_pb hM6
            have hg6 := q_e_gd hc ((q_e c 0).2.1 + 1) (by omega) (by omega)
            have hg7 := hg6.2.2 e6
            have hln := q_ln_2 (L := 0) (c := c) e4 e63 e6
            refine am_r_istore6 (pc' := 74) rfl rfl rfl ?_
            refine am_r_aload0 (pc' := 75) rfl rfl ?_
            refine am_r_getIv (f := 15) (pc' := 78) rfl rfl rfl (ms_f hM) ?_
            refine am_r_if_ge (pt := 96) (pf := 81) rfl rfl rfl (fun h78 => ?_) (fun h78 => ?_)
            · first
              | (exfalso; omega)
              | exact hloop 120 (true, (q_e c ((q_e c 0).2.1 + 1)).2.1, (((q_e c 0).2.2.1 ++ [(5, ((0 + (q_e c 0).2.2.1.length + 1 + (q_e c ((q_e c 0).2.1 + 1)).2.2.1.length + 1 : Nat) : Int))] ++ (q_e c ((q_e c 0).2.1 + 1)).2.2.1 ++ [(6, 0)])), fun ν => (if (q_e c 0).2.2.2 ν = 0 then none else some ((q_e c ((q_e c 0).2.1 + 1)).2.2.2 ν))) _ _ _ _ _ _ rfl ((show q_gv (q_or none (if (q_e c 0).2.2.2 ν = 0 then none else some ((q_e c ((q_e c 0).2.1 + 1)).2.2.2 ν))) _ _ by rw [if_neg (by assumption)]; exact q_gv_new hg (by omega))) hF hM hO (by simp only; omega) (by unfold q_all; rw [hln])
              | exact hloop 120 (true, (q_e c ((q_e c 0).2.1 + 1)).2.1, (((q_e c 0).2.2.1 ++ [(5, ((0 + (q_e c 0).2.2.1.length + 1 + (q_e c ((q_e c 0).2.1 + 1)).2.2.1.length + 1 : Nat) : Int))] ++ (q_e c ((q_e c 0).2.1 + 1)).2.2.1 ++ [(6, 0)])), fun ν => (if (q_e c 0).2.2.2 ν = 0 then none else some ((q_e c ((q_e c 0).2.1 + 1)).2.2.2 ν))) _ _ _ _ _ _ rfl (q_gv_no hg (if_pos (by assumption))) hF hM hO (by simp only; omega) (by unfold q_all; rw [hln])
              | exact hloop 120 (true, (q_e c ((q_e c 0).2.1 + 1)).2.1, (((q_e c 0).2.2.1 ++ [(5, ((0 + (q_e c 0).2.2.1.length + 1 + (q_e c ((q_e c 0).2.1 + 1)).2.2.1.length + 1 : Nat) : Int))] ++ (q_e c ((q_e c 0).2.1 + 1)).2.2.1 ++ [(6, 0)])), fun ν => (if (q_e c 0).2.2.2 ν = 0 then none else some ((q_e c ((q_e c 0).2.1 + 1)).2.2.2 ν))) _ _ _ _ _ _ rfl (q_gv_old hg (by omega)) hF hM hO (by simp only; omega) (by unfold q_all; rw [hln])
            · refine am_r_iload7 (pc' := 83) rfl rfl ?_
              refine am_r_if_eq (pt := 96) (pf := 86) rfl rfl rfl (fun h83 => ?_) (fun h83 => ?_)
              · first
                | (exfalso; omega)
                | exact hloop 120 (true, (q_e c ((q_e c 0).2.1 + 1)).2.1, (((q_e c 0).2.2.1 ++ [(5, ((0 + (q_e c 0).2.2.1.length + 1 + (q_e c ((q_e c 0).2.1 + 1)).2.2.1.length + 1 : Nat) : Int))] ++ (q_e c ((q_e c 0).2.1 + 1)).2.2.1 ++ [(6, 0)])), fun ν => (if (q_e c 0).2.2.2 ν = 0 then none else some ((q_e c ((q_e c 0).2.1 + 1)).2.2.2 ν))) _ _ _ _ _ _ rfl ((show q_gv (q_or none (if (q_e c 0).2.2.2 ν = 0 then none else some ((q_e c ((q_e c 0).2.1 + 1)).2.2.2 ν))) _ _ by rw [if_neg (by assumption)]; exact q_gv_new hg (by omega))) hF hM hO (by simp only; omega) (by unfold q_all; rw [hln])
                | exact hloop 120 (true, (q_e c ((q_e c 0).2.1 + 1)).2.1, (((q_e c 0).2.2.1 ++ [(5, ((0 + (q_e c 0).2.2.1.length + 1 + (q_e c ((q_e c 0).2.1 + 1)).2.2.1.length + 1 : Nat) : Int))] ++ (q_e c ((q_e c 0).2.1 + 1)).2.2.1 ++ [(6, 0)])), fun ν => (if (q_e c 0).2.2.2 ν = 0 then none else some ((q_e c ((q_e c 0).2.1 + 1)).2.2.2 ν))) _ _ _ _ _ _ rfl (q_gv_no hg (if_pos (by assumption))) hF hM hO (by simp only; omega) (by unfold q_all; rw [hln])
                | exact hloop 120 (true, (q_e c ((q_e c 0).2.1 + 1)).2.1, (((q_e c 0).2.2.1 ++ [(5, ((0 + (q_e c 0).2.2.1.length + 1 + (q_e c ((q_e c 0).2.1 + 1)).2.2.1.length + 1 : Nat) : Int))] ++ (q_e c ((q_e c 0).2.1 + 1)).2.2.1 ++ [(6, 0)])), fun ν => (if (q_e c 0).2.2.2 ν = 0 then none else some ((q_e c ((q_e c 0).2.1 + 1)).2.2.2 ν))) _ _ _ _ _ _ rfl (q_gv_old hg (by omega)) hF hM hO (by simp only; omega) (by unfold q_all; rw [hln])
              · refine am_r_iload3 (pc' := 87) rfl rfl ?_
                refine am_r_if_ne (pt := 96) (pf := 90) rfl rfl rfl (fun h87 => ?_) (fun h87 => ?_)
                · first
                  | (exfalso; omega)
                  | exact hloop 120 (true, (q_e c ((q_e c 0).2.1 + 1)).2.1, (((q_e c 0).2.2.1 ++ [(5, ((0 + (q_e c 0).2.2.1.length + 1 + (q_e c ((q_e c 0).2.1 + 1)).2.2.1.length + 1 : Nat) : Int))] ++ (q_e c ((q_e c 0).2.1 + 1)).2.2.1 ++ [(6, 0)])), fun ν => (if (q_e c 0).2.2.2 ν = 0 then none else some ((q_e c ((q_e c 0).2.1 + 1)).2.2.2 ν))) _ _ _ _ _ _ rfl ((show q_gv (q_or none (if (q_e c 0).2.2.2 ν = 0 then none else some ((q_e c ((q_e c 0).2.1 + 1)).2.2.2 ν))) _ _ by rw [if_neg (by assumption)]; exact q_gv_new hg (by omega))) hF hM hO (by simp only; omega) (by unfold q_all; rw [hln])
                  | exact hloop 120 (true, (q_e c ((q_e c 0).2.1 + 1)).2.1, (((q_e c 0).2.2.1 ++ [(5, ((0 + (q_e c 0).2.2.1.length + 1 + (q_e c ((q_e c 0).2.1 + 1)).2.2.1.length + 1 : Nat) : Int))] ++ (q_e c ((q_e c 0).2.1 + 1)).2.2.1 ++ [(6, 0)])), fun ν => (if (q_e c 0).2.2.2 ν = 0 then none else some ((q_e c ((q_e c 0).2.1 + 1)).2.2.2 ν))) _ _ _ _ _ _ rfl (q_gv_no hg (if_pos (by assumption))) hF hM hO (by simp only; omega) (by unfold q_all; rw [hln])
                  | exact hloop 120 (true, (q_e c ((q_e c 0).2.1 + 1)).2.1, (((q_e c 0).2.2.1 ++ [(5, ((0 + (q_e c 0).2.2.1.length + 1 + (q_e c ((q_e c 0).2.1 + 1)).2.2.1.length + 1 : Nat) : Int))] ++ (q_e c ((q_e c 0).2.1 + 1)).2.2.1 ++ [(6, 0)])), fun ν => (if (q_e c 0).2.2.2 ν = 0 then none else some ((q_e c ((q_e c 0).2.1 + 1)).2.2.2 ν))) _ _ _ _ _ _ rfl (q_gv_old hg (by omega)) hF hM hO (by simp only; omega) (by unfold q_all; rw [hln])
                · refine am_r_iconst (pc' := 91) rfl rfl ?_
                  refine am_r_istore3 (pc' := 92) rfl rfl rfl ?_
                  refine am_r_iload6 (pc' := 94) rfl rfl ?_
                  refine am_r_istore4 (pc' := 96) rfl rfl rfl ?_
                  first
                  | (exfalso; omega)
                  | exact hloop 120 (true, (q_e c ((q_e c 0).2.1 + 1)).2.1, (((q_e c 0).2.2.1 ++ [(5, ((0 + (q_e c 0).2.2.1.length + 1 + (q_e c ((q_e c 0).2.1 + 1)).2.2.1.length + 1 : Nat) : Int))] ++ (q_e c ((q_e c 0).2.1 + 1)).2.2.1 ++ [(6, 0)])), fun ν => (if (q_e c 0).2.2.2 ν = 0 then none else some ((q_e c ((q_e c 0).2.1 + 1)).2.2.2 ν))) _ _ _ _ _ _ rfl ((show q_gv (q_or none (if (q_e c 0).2.2.2 ν = 0 then none else some ((q_e c ((q_e c 0).2.1 + 1)).2.2.2 ν))) _ _ by rw [if_neg (by assumption)]; exact q_gv_new hg (by omega))) hF hM hO (by simp only; omega) (by unfold q_all; rw [hln])
                  | exact hloop 120 (true, (q_e c ((q_e c 0).2.1 + 1)).2.1, (((q_e c 0).2.2.1 ++ [(5, ((0 + (q_e c 0).2.2.1.length + 1 + (q_e c ((q_e c 0).2.1 + 1)).2.2.1.length + 1 : Nat) : Int))] ++ (q_e c ((q_e c 0).2.1 + 1)).2.2.1 ++ [(6, 0)])), fun ν => (if (q_e c 0).2.2.2 ν = 0 then none else some ((q_e c ((q_e c 0).2.1 + 1)).2.2.2 ν))) _ _ _ _ _ _ rfl (q_gv_no hg (if_pos (by assumption))) hF hM hO (by simp only; omega) (by unfold q_all; rw [hln])
                  | exact hloop 120 (true, (q_e c ((q_e c 0).2.1 + 1)).2.1, (((q_e c 0).2.2.1 ++ [(5, ((0 + (q_e c 0).2.2.1.length + 1 + (q_e c ((q_e c 0).2.1 + 1)).2.2.1.length + 1 : Nat) : Int))] ++ (q_e c ((q_e c 0).2.1 + 1)).2.2.1 ++ [(6, 0)])), fun ν => (if (q_e c 0).2.2.2 ν = 0 then none else some ((q_e c ((q_e c 0).2.1 + 1)).2.2.2 ν))) _ _ _ _ _ _ rfl (q_gv_old hg (by omega)) hF hM hO (by simp only; omega) (by unfold q_all; rw [hln])
          · intro M6 x6 hf6 e6 hM6
            have hM := hM6
            have hF := am_fw_tr hF (am_fw_fq hf6)
            have hpb6 := ms_pb hM6
            have hln := q_ln_f2 (L := 0) (c := c) e4 e63 e6
            have hqa : q_nt (q_e c ((q_e c 0).2.1 + 1)).2.1 = q_all c := (by unfold q_all; rw [hln, q_tx_nt])
            refine am_r_istore6 (pc' := 74) rfl rfl rfl ?_
            refine am_r_aload0 (pc' := 75) rfl rfl ?_
            refine am_r_getIv (f := 15) (pc' := 78) rfl rfl rfl (ms_f hM) ?_
            refine am_r_if_ge (pt := 96) (pf := 81) rfl rfl rfl (fun h78 => ?_) (fun h78 => ?_)
            · refine am_r_aload0 (pc' := 97) rfl rfl ?_
              refine am_r_iconst (pc' := 99) rfl rfl ?_
              refine am_r_invI1 (pc' := 102) rfl rfl rfl (Nat.le_of_ble_eq_true rfl) (m_takesF (by omega) hM ?_)
              refine am_r_istore5 (pc' := 104) rfl rfl rfl ?_
              refine am_r_goto (pc' := 33) rfl rfl ?_
              refine am_r_iload5 (pc' := 35) rfl rfl ?_
              refine am_r_if_eq (pt := 107) (pf := 38) rfl rfl rfl (fun h35 => ?_) (fun h35 => ?_)
              · refine am_r_aload0 (pc' := 108) rfl rfl ?_
                refine am_r_getIv (f := 15) (pc' := 111) rfl rfl rfl (ms_f hM) ?_
                refine am_r_if_ge (pt := 130) (pf := 114) rfl rfl rfl (fun h111 => ?_) (fun h111 => ?_)
                · refine am_r_iload4 (pc' := 132) rfl rfl ?_
                  refine am_r_iret rfl rfl ?_
                  exact hqF _ _ hF (q_good_nt hqa.symm) (by rw [q_nt_p hqa]; exact (ms_pb hM).1) (by rw [q_nt_p hqa]; exact (ms_pb hM).2) (by rw [q_nt_p hqa]; exact ms_f hM)
                · exfalso; omega
              · exfalso; omega
            · exfalso; omega
      · intro e63
        have hln := q_ln_1 (L := 0) (c := c) e4 e63
        refine am_r_if_eq (pt := 74) (pf := 56) rfl rfl rfl (fun h53 => ?_) (fun h53 => by exfalso; omega)
        refine am_r_aload0 (pc' := 75) rfl rfl ?_
        refine am_r_getIv (f := 15) (pc' := 78) rfl rfl rfl (ms_f hM) ?_
        refine am_r_if_ge (pt := 96) (pf := 81) rfl rfl rfl (fun h78 => ?_) (fun h78 => ?_)
        · first
          | (exfalso; omega)
          | exact hloop 120 (true, (q_e c 0).2.1, (((q_e c 0).2.2.1 ++ [(6, 0)])), fun ν => some ((q_e c 0).2.2.2 ν)) _ _ _ _ _ _ rfl (q_gv_new hg (by omega)) hF hM hO (by simp only; omega) (by unfold q_all; rw [hln])
          | exact hloop 120 (true, (q_e c 0).2.1, (((q_e c 0).2.2.1 ++ [(6, 0)])), fun ν => some ((q_e c 0).2.2.2 ν)) _ _ _ _ _ _ rfl (q_gv_old hg (by omega)) hF hM hO (by simp only; omega) (by unfold q_all; rw [hln])
        · refine am_r_iload7 (pc' := 83) rfl rfl ?_
          refine am_r_if_eq (pt := 96) (pf := 86) rfl rfl rfl (fun h83 => ?_) (fun h83 => ?_)
          · first
            | (exfalso; omega)
            | exact hloop 120 (true, (q_e c 0).2.1, (((q_e c 0).2.2.1 ++ [(6, 0)])), fun ν => some ((q_e c 0).2.2.2 ν)) _ _ _ _ _ _ rfl (q_gv_new hg (by omega)) hF hM hO (by simp only; omega) (by unfold q_all; rw [hln])
            | exact hloop 120 (true, (q_e c 0).2.1, (((q_e c 0).2.2.1 ++ [(6, 0)])), fun ν => some ((q_e c 0).2.2.2 ν)) _ _ _ _ _ _ rfl (q_gv_old hg (by omega)) hF hM hO (by simp only; omega) (by unfold q_all; rw [hln])
          · refine am_r_iload3 (pc' := 87) rfl rfl ?_
            refine am_r_if_ne (pt := 96) (pf := 90) rfl rfl rfl (fun h87 => ?_) (fun h87 => ?_)
            · first
              | (exfalso; omega)
              | exact hloop 120 (true, (q_e c 0).2.1, (((q_e c 0).2.2.1 ++ [(6, 0)])), fun ν => some ((q_e c 0).2.2.2 ν)) _ _ _ _ _ _ rfl (q_gv_new hg (by omega)) hF hM hO (by simp only; omega) (by unfold q_all; rw [hln])
              | exact hloop 120 (true, (q_e c 0).2.1, (((q_e c 0).2.2.1 ++ [(6, 0)])), fun ν => some ((q_e c 0).2.2.2 ν)) _ _ _ _ _ _ rfl (q_gv_old hg (by omega)) hF hM hO (by simp only; omega) (by unfold q_all; rw [hln])
            · refine am_r_iconst (pc' := 91) rfl rfl ?_
              refine am_r_istore3 (pc' := 92) rfl rfl rfl ?_
              refine am_r_iload6 (pc' := 94) rfl rfl ?_
              refine am_r_istore4 (pc' := 96) rfl rfl rfl ?_
              first
              | (exfalso; omega)
              | exact hloop 120 (true, (q_e c 0).2.1, (((q_e c 0).2.2.1 ++ [(6, 0)])), fun ν => some ((q_e c 0).2.2.2 ν)) _ _ _ _ _ _ rfl (q_gv_new hg (by omega)) hF hM hO (by simp only; omega) (by unfold q_all; rw [hln])
              | exact hloop 120 (true, (q_e c 0).2.1, (((q_e c 0).2.2.1 ++ [(6, 0)])), fun ν => some ((q_e c 0).2.2.2 ν)) _ _ _ _ _ _ rfl (q_gv_old hg (by omega)) hF hM hO (by simp only; omega) (by unfold q_all; rw [hln])
    · intro M4 x4 hf4 e4 hM4
      have hM := hM4
      have hF := am_fw_tr hF (am_fw_fq hf4)
      have hpb4 := ms_pb hM4
      have hln := q_ln_f1 (L := 0) (c := c) e4
      have hqa : q_nt (q_e c 0).2.1 = q_all c := (by unfold q_all; rw [hln, q_tx_nt])
      refine am_r_istore6 (pc' := 44) rfl rfl rfl ?_
      refine am_r_iconst (pc' := 45) rfl rfl ?_
      refine am_r_istore7 (pc' := 47) rfl rfl rfl ?_
      refine am_r_aload0 (pc' := 48) rfl rfl ?_
      refine am_r_iconst (pc' := 50) rfl rfl ?_
      refine am_r_invI1 (pc' := 53) rfl rfl rfl (Nat.le_of_ble_eq_true rfl) (m_takesF (by omega) hM ?_)
      refine am_r_if_eq (pt := 74) (pf := 56) rfl rfl rfl (fun h53 => ?_) (fun h53 => ?_)
      · refine am_r_aload0 (pc' := 75) rfl rfl ?_
        refine am_r_getIv (f := 15) (pc' := 78) rfl rfl rfl (ms_f hM) ?_
        refine am_r_if_ge (pt := 96) (pf := 81) rfl rfl rfl (fun h78 => ?_) (fun h78 => ?_)
        · refine am_r_aload0 (pc' := 97) rfl rfl ?_
          refine am_r_iconst (pc' := 99) rfl rfl ?_
          refine am_r_invI1 (pc' := 102) rfl rfl rfl (Nat.le_of_ble_eq_true rfl) (m_takesF (by omega) hM ?_)
          refine am_r_istore5 (pc' := 104) rfl rfl rfl ?_
          refine am_r_goto (pc' := 33) rfl rfl ?_
          refine am_r_iload5 (pc' := 35) rfl rfl ?_
          refine am_r_if_eq (pt := 107) (pf := 38) rfl rfl rfl (fun h35 => ?_) (fun h35 => ?_)
          · refine am_r_aload0 (pc' := 108) rfl rfl ?_
            refine am_r_getIv (f := 15) (pc' := 111) rfl rfl rfl (ms_f hM) ?_
            refine am_r_if_ge (pt := 130) (pf := 114) rfl rfl rfl (fun h111 => ?_) (fun h111 => ?_)
            · refine am_r_iload4 (pc' := 132) rfl rfl ?_
              refine am_r_iret rfl rfl ?_
              exact hqF _ _ hF (q_good_nt hqa.symm) (by rw [q_nt_p hqa]; exact (ms_pb hM).1) (by rw [q_nt_p hqa]; exact (ms_pb hM).2) (by rw [q_nt_p hqa]; exact ms_f hM)
            · exfalso; omega
          · exfalso; omega
        · exfalso; omega
      · exfalso; omega
def am_fl (M M' : Am_M) : Prop := (∀ k i, ¬ (k = 53 ∧ (i = 9 ∨ (11 ≤ i ∧ i ≤ 16))) → k ≠ 60 → M'.1 k i = M.1 k i) ∧ M'.2 = M.2
theorem am_fl_fw {M M' : Am_M} (h : am_fw M M') : am_fl M M' := ⟨fun k i q _ => h.1 k i (by omega), h.2⟩
theorem am_fl_up {M M' : Am_M} (h : am_fl M M') {k i : Nat} {x : Int32} (hi : (k = 53 ∧ (i = 9 ∨ (11 ≤ i ∧ i ≤ 16))) ∨ k = 60) : am_fl M (am_upI M' k i x) := ⟨fun k' j q q2 => by
  show (if k' = k ∧ j = i then x else M'.1 k' j) = _
  rw [if_neg (by omega)]; exact h.1 k' j q q2, h.2⟩
def TM (M : Am_M) (c : Int → Int) (n : Int) : Prop := (0 ≤ n ∧ n ≤ 120) ∧ q_C c n ∧ M.1 53 9 = z_I n ∧ ∀ i, 0 ≤ i → i < n → M.1 59 i.toNat = z_I (c i)
def LM (M : Am_M) : q_X → Prop
  | none => M.1 53 11 = z_I (-1)
  | some c => q_good c = true ∧ ∃ n, (0 ≤ n ∧ n ≤ 120) ∧ q_C c n ∧ M.1 53 11 = z_I n ∧ ∀ i, 0 ≤ i → i < n → M.1 60 i.toNat = z_I (c i)
theorem m_law {sL : Nat} {xs : Nat → Int32} {d : Nat} {M : Am_M} {Q : Int32 → Am_M → Prop} (hd : 52 ≤ d) {c : Int → Int} {n : Int} (hT : TM M c n) (hqT : ∀ M', am_fl M M' → q_good c = true → M'.1 53 9 = z_I 0 → LM M' (some c) → Q (z_I 1) M') (hqF : ∀ M', am_fl M M' → q_good c = false → M'.1 53 9 = z_I 0 → M'.1 53 11 = M.1 53 11 → M'.1 60 = M.1 60 → Q (z_I (-100 - (q_all c).2.1)) M') : am_bi sL xs d 186 [.ref 53] M Q := by
  obtain ⟨d, rfl⟩ : ∃ e, d = e + 1 := ⟨d - 1, by omega⟩
  obtain ⟨hnb, hc, hn, hb⟩ := hT
  have hloop : ∀ (k : Nat) (i : Int) (x : Int32) (N : Am_M), i + k = n → 0 ≤ i → am_fl M N → N.1 53 9 = z_I 0 → q_good c = true → (∀ j, 0 ≤ j → j < i → N.1 60 j.toNat = z_I (c j)) → am_rw sL xs d am_pX11_law 1 37 [.ref 53, .int x, .int (z_I n), .int (z_I i)] [] N (am_pi Q) := by
    intro k
    induction k with
    | zero =>
      intro i x N hk h0 hF h9 hgd hv
      refine am_r_iload3 (pc' := 38) rfl rfl ?_
      refine am_r_iload2 (pc' := 39) rfl rfl ?_
      refine am_r_icmp_ge (pt := 60) (pf := 42) rfl rfl rfl (fun h39 => ?_) (fun h39 => ?_)
      · refine am_r_aload0 (pc' := 61) rfl rfl ?_
        refine am_r_iload2 (pc' := 62) rfl rfl ?_
        refine am_r_putI (f := 11) (pc' := 65) rfl rfl rfl (by decide) ?_
        refine am_r_iconst (pc' := 66) rfl rfl ?_
        refine am_r_iret rfl rfl ?_
        exact hqT _ (am_fl_up hF (by omega)) hgd (by simpa [am_upI] using h9) ⟨hgd, n, hnb, hc, by simp [am_upI], fun j a b => by simpa [am_upI] using hv j a (by omega)⟩
      · exfalso; omega
    | succ k ih =>
      intro i x N hk h0 hF h9 hgd hv
      refine am_r_iload3 (pc' := 38) rfl rfl ?_
      refine am_r_iload2 (pc' := 39) rfl rfl ?_
      refine am_r_icmp_ge (pt := 60) (pf := 42) rfl rfl rfl (fun h39 => ?_) (fun h39 => ?_)
      · exfalso; omega
      · refine am_r_aload0 (pc' := 43) rfl rfl ?_
        refine am_r_getR (t := 60) (pc' := 46) rfl rfl rfl ?_
        refine am_r_iload3 (pc' := 47) rfl rfl ?_
        refine am_r_aload0 (pc' := 48) rfl rfl ?_
        refine am_r_getR (t := 59) (pc' := 51) rfl rfl rfl ?_
        refine am_r_iload3 (pc' := 52) rfl rfl ?_
        refine am_r_iaZv (n := 120) (pc' := 53) rfl rfl rfl (by decide) ((hF.1 59 _ (by omega) (by omega)).trans (hb i (by omega) (by omega))) ?_
        refine am_r_iast (n := 120) (pc' := 54) rfl rfl (rfl) (by decide) ?_
        refine am_r_iinc3 (pc' := 57) rfl rfl rfl ?_
        refine am_r_goto (pc' := 37) rfl rfl ?_
        refine ih _ _ _ (by omega) (by omega) (am_fl_up hF (by omega)) (by simpa [am_upI] using h9) hgd (fun j a b => ?_)
        by_cases q : j = i
        · subst q
          simp [am_upI]
        · have := hv j a (by omega)
          have q2 : ¬ j.toNat = i.toNat := by omega
          simpa [am_upI, q2] using this
  refine am_bi_of (P := am_pX11_law) (rt := 1) (nL := 4) (Nat.le_of_ble_eq_true rfl) rfl (Nat.le_of_ble_eq_true rfl) rfl rfl rfl ?_
  refine am_r_aload0 (pc' := 1) rfl rfl ?_
  refine am_r_iconst (pc' := 2) rfl rfl ?_
  refine am_r_aload0 (pc' := 3) rfl rfl ?_
  refine am_r_getIv (f := 9) (pc' := 6) rfl rfl rfl (hn) ?_
  refine am_r_invI2 (pc' := 9) rfl rfl rfl (Nat.le_of_ble_eq_true rfl) (m_workOut (b := -1) (ν := fun k => M.1 61 k.toNat) (by omega) hnb hc (Or.inl ⟨rfl, hb⟩) (fun k _ _ => rfl) ?_ ?_)
  · intro M2 hf2 eg ef
    have hF := am_fl_up (k := 53) (i := 9) (x := z_I 0) (am_fl_fw hf2) (by omega)
    have h9 : M2.1 53 9 = z_I n := (hf2.1 53 9 (by omega)).trans hn
    refine am_r_istore1 (pc' := 10) rfl rfl rfl ?_
    refine am_r_aload0 (pc' := 11) rfl rfl ?_
    refine am_r_getIv (f := 9) (pc' := 14) rfl rfl rfl (h9) ?_
    refine am_r_istore2 (pc' := 15) rfl rfl rfl ?_
    refine am_r_aload0 (pc' := 16) rfl rfl ?_
    refine am_r_iconst (pc' := 17) rfl rfl ?_
    refine am_r_putI (f := 9) (pc' := 20) rfl rfl rfl (by decide) ?_
    have hz9 : (am_upI M2 53 9 (z_I 0)).1 53 9 = z_I 0 := by simp [am_upI]
    have hz15 := (am_up_1 M2 9 (z_I 0) 53 15 (by omega)).trans ef
    refine am_r_aload0 (pc' := 21) rfl rfl ?_
    refine am_r_getIv (f := 15) (pc' := 24) rfl rfl rfl (hz15) ?_
    refine am_r_if_lt (pt := 35) (pf := 27) rfl rfl rfl (fun h24 => ?_) (fun h24 => ?_)
    · refine am_r_iconst (pc' := 36) rfl rfl ?_
      refine am_r_istore3 (pc' := 37) rfl rfl rfl ?_
      exact hloop n.toNat 0 _ _ (by omega) (by omega) hF hz9 eg (fun j a b => by omega)
    · exfalso; omega
  · intro M2 x2 hf2 eg e0 e1 ef
    have hF := am_fl_up (k := 53) (i := 9) (x := z_I 0) (am_fl_fw hf2) (by omega)
    have h9 : M2.1 53 9 = z_I n := (hf2.1 53 9 (by omega)).trans hn
    refine am_r_istore1 (pc' := 10) rfl rfl rfl ?_
    refine am_r_aload0 (pc' := 11) rfl rfl ?_
    refine am_r_getIv (f := 9) (pc' := 14) rfl rfl rfl (h9) ?_
    refine am_r_istore2 (pc' := 15) rfl rfl rfl ?_
    refine am_r_aload0 (pc' := 16) rfl rfl ?_
    refine am_r_iconst (pc' := 17) rfl rfl ?_
    refine am_r_putI (f := 9) (pc' := 20) rfl rfl rfl (by decide) ?_
    have hz9 : (am_upI M2 53 9 (z_I 0)).1 53 9 = z_I 0 := by simp [am_upI]
    have hz15 := (am_up_1 M2 9 (z_I 0) 53 15 (by omega)).trans ef
    refine am_r_aload0 (pc' := 21) rfl rfl ?_
    refine am_r_getIv (f := 15) (pc' := 24) rfl rfl rfl (hz15) ?_
    refine am_r_if_lt (pt := 35) (pf := 27) rfl rfl rfl (fun h24 => ?_) (fun h24 => ?_)
    · exfalso; omega
    · refine am_r_iconst (pc' := 29) rfl rfl ?_
      refine am_r_aload0 (pc' := 30) rfl rfl ?_
      refine am_r_getIv (f := 15) (pc' := 33) rfl rfl rfl (hz15) ?_
      refine am_r_isub (pc' := 34) rfl rfl ?_
      refine am_r_iret rfl rfl ?_
      exact hqF _ hF eg hz9 ((am_up_1 M2 9 (z_I 0) 53 11 (by omega)).trans (hf2.1 53 11 (by omega))) (by funext j; exact (am_up_1 M2 9 (z_I 0) 60 j (by omega)).trans (hf2.1 60 j (by omega)))
theorem tb_0 {M : Am_M} (h : M.1 15 1 = z_I 0) : TB M (fun _ => -1) 0 := ⟨by omega, fun p h0 => ⟨fun q => by omega, fun _ => rfl⟩, h, fun i h0 h1 => by omega⟩
theorem c_law {sL : Nat} {xs : Nat → Int32} {d : Nat} {M : Am_M} {Q : Int32 → Am_M → Prop} (hd : 53 ≤ d) {c : Int → Int} {n : Int} (hB : TB M c n) (hqT : ∀ M', am_fr 15 21 M M' → q_good c = true → M'.1 15 1 = z_I 0 → CL M' (some c) → Q (z_I 1) M') (hqF : ∀ M', am_fr 15 18 M M' → q_good c = false → M'.1 15 1 = z_I 0 → Q (z_I (-100 - (q_all c).2.1)) M') : am_bi sL xs d 112 [.ref 0] M Q := by
  obtain ⟨d, rfl⟩ : ∃ e, d = e + 1 := ⟨d - 1, by omega⟩
  have hnb := hB.1
  have hc := hB.2.1
  have hbd := q_all_bd hc hnb.1 hnb.2
  refine am_bi_of (P := am_pX10_law) (rt := 1) (nL := 3) (Nat.le_of_ble_eq_true rfl) rfl (Nat.le_of_ble_eq_true rfl) rfl rfl rfl ?_
  refine am_r_aload0 (pc' := 1) rfl rfl ?_
  refine am_r_getR (t := 15) (pc' := 4) rfl rfl rfl ?_
  refine am_r_invI0 (pc' := 7) rfl rfl rfl (Nat.le_of_ble_eq_true rfl) (c_isText (by omega) hB ?_ ?_)
  · intro M2 hf2 eg hT2
    have ep := ts_p hT2
    refine am_r_istore1 (pc' := 8) rfl rfl rfl ?_
    refine am_r_aload0 (pc' := 9) rfl rfl ?_
    refine am_r_getR (t := 15) (pc' := 12) rfl rfl rfl ?_
    refine am_r_getIv (f := 2) (pc' := 15) rfl rfl rfl (ep) ?_
    refine am_r_istore2 (pc' := 16) rfl rfl rfl ?_
    refine am_r_iload1 (pc' := 17) rfl rfl ?_
    refine am_r_if_eq (pt := 31) (pf := 20) rfl rfl rfl (fun h17 => by exfalso; omega) (fun h17 => ?_)
    refine am_r_aload0 (pc' := 21) rfl rfl ?_
    refine am_r_getR (t := 19) (pc' := 24) rfl rfl rfl ?_
    refine am_r_aload0 (pc' := 25) rfl rfl ?_
    refine am_r_getR (t := 15) (pc' := 28) rfl rfl rfl ?_
    refine am_r_invV1 (pc' := 31) rfl rfl rfl (Nat.le_of_ble_eq_true rfl) (c_become (by omega) hT2 hbd.1 ?_)
    · intro M3 hf3 hC3
      refine am_r_aload0 (pc' := 32) rfl rfl ?_
      refine am_r_getR (t := 15) (pc' := 35) rfl rfl rfl ?_
      refine am_r_iconst (pc' := 36) rfl rfl ?_
      refine am_r_putI (f := 1) (pc' := 39) rfl rfl rfl (by decide) ?_
      refine am_r_iload1 (pc' := 40) rfl rfl ?_
      refine am_r_if_eq (pt := 47) (pf := 43) rfl rfl rfl (fun h40 => ?_) (fun h40 => ?_)
      · exfalso; omega
      · refine am_r_iconst (pc' := 44) rfl rfl ?_
        refine am_r_goto (pc' := 51) rfl rfl ?_
        refine am_r_iret rfl rfl ?_
        refine hqT _ (am_fr_upI (am_fr_tr hf2.1 hf3 (by omega) (by omega)) (by omega)) eg (by simp [am_upI]) ⟨eg, ?_⟩
        exact cx_fr (lo := 15) (hi := 15) hC3 (am_fr_upI (am_fr_rf _ _ _) (by omega)) (by omega)
  · intro M2 hf2 eg ep
    refine am_r_istore1 (pc' := 8) rfl rfl rfl ?_
    refine am_r_aload0 (pc' := 9) rfl rfl ?_
    refine am_r_getR (t := 15) (pc' := 12) rfl rfl rfl ?_
    refine am_r_getIv (f := 2) (pc' := 15) rfl rfl rfl (ep) ?_
    refine am_r_istore2 (pc' := 16) rfl rfl rfl ?_
    refine am_r_iload1 (pc' := 17) rfl rfl ?_
    refine am_r_if_eq (pt := 31) (pf := 20) rfl rfl rfl (fun h17 => ?_) (fun h17 => by exfalso; omega)
    refine am_r_aload0 (pc' := 32) rfl rfl ?_
    refine am_r_getR (t := 15) (pc' := 35) rfl rfl rfl ?_
    refine am_r_iconst (pc' := 36) rfl rfl ?_
    refine am_r_putI (f := 1) (pc' := 39) rfl rfl rfl (by decide) ?_
    refine am_r_iload1 (pc' := 40) rfl rfl ?_
    refine am_r_if_eq (pt := 47) (pf := 43) rfl rfl rfl (fun h40 => ?_) (fun h40 => ?_)
    · refine am_r_iconst (pc' := 49) rfl rfl ?_
      refine am_r_iload2 (pc' := 50) rfl rfl ?_
      refine am_r_isub (pc' := 51) rfl rfl ?_
      refine am_r_iret rfl rfl ?_
      exact hqF _ (am_fr_upI hf2.1 (by omega)) eg (by simp [am_upI])
    · exfalso; omega
