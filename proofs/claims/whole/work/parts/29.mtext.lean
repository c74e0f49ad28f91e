/-! THE LAW'S TEXT, the reference: reading is working out -/
def MS (M : Am_M) (c : Int → Int) (n : Int) (ν : Int → Int32) (p f : Int) : Prop := (0 ≤ n ∧ n ≤ 120) ∧ q_C c n ∧ ((M.1 53 12 = z_I (-1) ∧ ∀ i, 0 ≤ i → i < n → M.1 59 i.toNat = z_I (c i)) ∨ (M.1 53 12 = z_I 0 ∧ ∀ i, 0 ≤ i → i < n → M.1 60 i.toNat = z_I (c i))) ∧ M.1 53 14 = z_I n ∧ (∀ k, 0 ≤ k → k ≤ 5 → M.1 61 k.toNat = ν k) ∧ (0 ≤ p ∧ p ≤ n) ∧ M.1 53 13 = z_I p ∧ (f = -1 ∨ f = p) ∧ M.1 53 15 = z_I f
def q_by (c : Int → Int) (n p : Int) : Int := if p < n then c p else 0
variable {M M' : Am_M} {c : Int → Int} {n p f : Int} {ν : Int → Int32}
theorem ms_nb (h : MS M c n ν p f) : 0 ≤ n ∧ n ≤ 120 := h.1
theorem ms_c (h : MS M c n ν p f) : q_C c n := h.2.1
theorem ms_src (h : MS M c n ν p f) : (M.1 53 12 = z_I (-1) ∧ ∀ i, 0 ≤ i → i < n → M.1 59 i.toNat = z_I (c i)) ∨ (M.1 53 12 = z_I 0 ∧ ∀ i, 0 ≤ i → i < n → M.1 60 i.toNat = z_I (c i)) := h.2.2.1
theorem ms_n (h : MS M c n ν p f) : M.1 53 14 = z_I n := h.2.2.2.1
theorem ms_v (h : MS M c n ν p f) {k : Int} (h0 : 0 ≤ k) (h1 : k ≤ 5) : M.1 61 k.toNat = ν k := h.2.2.2.2.1 k h0 h1
theorem ms_pb (h : MS M c n ν p f) : 0 ≤ p ∧ p ≤ n := h.2.2.2.2.2.1
theorem ms_p (h : MS M c n ν p f) : M.1 53 13 = z_I p := h.2.2.2.2.2.2.1
theorem ms_fb (h : MS M c n ν p f) : f = -1 ∨ f = p := h.2.2.2.2.2.2.2.1
theorem ms_f (h : MS M c n ν p f) : M.1 53 15 = z_I f := h.2.2.2.2.2.2.2.2
theorem ms_cb (h : MS M c n ν p f) : (p < n → q_by c n p = c p ∧ 0 ≤ c p ∧ c p ≤ 255) ∧ (n ≤ p → q_by c n p = 0 ∧ c p = -1) := by
  have hb := ms_pb h
  have hc := ms_c h p hb.1
  unfold q_by
  refine ⟨fun q => ?_, fun q => ?_⟩
  · rw [if_pos q]; have := hc.1 q; omega
  · rw [if_neg (by omega)]; have := hc.2 q; omega
theorem ms_up (h : MS M c n ν p f) {p' f' : Int} (hp : 0 ≤ p' ∧ p' ≤ n) (hf : f' = -1 ∨ f' = p') (h1 : M'.1 53 13 = z_I p') (h2 : M'.1 53 15 = z_I f') (hr : ∀ k i, ¬ (k = 53 ∧ (i = 13 ∨ i = 15 ∨ i = 16)) → M'.1 k i = M.1 k i) : MS M' c n ν p' f' := by
  obtain ⟨a1, a2, a3, a4, a5, a6, a7, a8, a9⟩ := h
  refine ⟨a1, a2, ?_, by rw [hr 53 14 (by omega)]; exact a4, fun k x y => by rw [hr 61 _ (by omega)]; exact a5 k x y, hp, h1, hf, h2⟩
  rcases a3 with ⟨b1, b2⟩ | ⟨b1, b2⟩
  · exact Or.inl ⟨by rw [hr 53 12 (by omega)]; exact b1, fun i x y => by rw [hr 59 _ (by omega)]; exact b2 i x y⟩
  · exact Or.inr ⟨by rw [hr 53 12 (by omega)]; exact b1, fun i x y => by rw [hr 60 _ (by omega)]; exact b2 i x y⟩
/-- only the reading has changed -/
def am_fq (M M' : Am_M) : Prop := (∀ k i, ¬ (k = 53 ∧ (i = 13 ∨ i = 15 ∨ i = 16)) → M'.1 k i = M.1 k i) ∧ M'.2 = M.2
theorem am_fq_rf (M : Am_M) : am_fq M M := ⟨fun _ _ _ => rfl, rfl⟩
theorem am_fq_tr {M M' M'' : Am_M} (h : am_fq M M') (h2 : am_fq M' M'') : am_fq M M'' := ⟨fun k i q => (h2.1 k i q).trans (h.1 k i q), h2.2.trans h.2⟩
theorem am_fq_up {M M' : Am_M} (h : am_fq M M') {i : Nat} {x : Int32} (hi : i = 13 ∨ i = 15 ∨ i = 16) : am_fq M (am_upI M' 53 i x) := ⟨fun k j q => by
  show (if k = 53 ∧ j = i then x else M'.1 k j) = _
  rw [if_neg (by omega)]; exact h.1 k j q, h.2⟩
theorem am_up_1 (M : Am_M) (i : Nat) (x : Int32) : ∀ k j, ¬ (k = 53 ∧ j = i) → (am_upI M 53 i x).1 k j = M.1 k j := fun k j q => if_neg q
theorem ms_inc (h : MS M c n ν p (-1)) (hp : p < n) : MS (am_upI M 53 13 (z_I (p + 1))) c n ν (p + 1) (-1) := by
  have hb := ms_pb h
  exact ms_up h (by omega) (Or.inl rfl) (by simp [am_upI]) (by rw [am_up_1 _ _ _ _ _ (by omega)]; exact ms_f h) (fun k i q => am_up_1 _ _ _ _ _ (by omega))
theorem ms_op (h : MS M c n ν p f) (x : Int32) : MS (am_upI M 53 16 x) c n ν p f :=
  ms_up h (ms_pb h) (ms_fb h) (by rw [am_up_1 _ _ _ _ _ (by omega)]; exact ms_p h) (by rw [am_up_1 _ _ _ _ _ (by omega)]; exact ms_f h) (fun k i q => am_up_1 _ _ _ _ _ (by omega))
theorem ms_wr (h : MS M c n ν p (-1)) : MS (am_upI M 53 15 (z_I p)) c n ν p p :=
  ms_up h (ms_pb h) (Or.inr rfl) (by rw [am_up_1 _ _ _ _ _ (by omega)]; exact ms_p h) (by simp [am_upI]) (fun k i q => am_up_1 _ _ _ _ _ (by omega))
theorem ms_wr2 (h : MS M c n ν p p) : MS (am_upI M 53 15 (z_I p)) c n ν p p :=
  ms_up h (ms_pb h) (Or.inr rfl) (by rw [am_up_1 _ _ _ _ _ (by omega)]; exact ms_p h) (by simp [am_upI]) (fun k i q => am_up_1 _ _ _ _ _ (by omega))
theorem am_op_e {M : Am_M} {o : Int} (h : M.1 53 16 = z_I o) {i : Nat} {x : Int32} (hi : i ≠ 16) : (am_upI M 53 i x).1 53 16 = z_I o := by rw [am_up_1 _ _ _ _ _ (by omega)]; exact h
theorem q_j47n {x y : Int32} (h : ¬ y = 0) : x / y = q_join 47 x y := (show q_join 47 x y = if y = 0 then z_I 0 else x / y from rfl).symm ▸ (if_neg h).symm
theorem q_j37n {x y : Int32} (h : ¬ y = 0) : x - x / y * y = q_join 37 x y := (show q_join 37 x y = if y = 0 then z_I 0 else x - x / y * y from rfl).symm ▸ (if_neg h).symm
theorem q_j47z {x y : Int32} (h : y = 0) : z_I 0 = q_join 47 x y := (show q_join 47 x y = if y = 0 then z_I 0 else x / y from rfl).symm ▸ (if_pos h).symm
theorem q_j37z {x y : Int32} (h : y = 0) : z_I 0 = q_join 37 x y := (show q_join 37 x y = if y = 0 then z_I 0 else x - x / y * y from rfl).symm ▸ (if_pos h).symm
/-- reading by f -/
def q_md (sL : Nat) (xs : Nat → Int32) (c : Int → Int) (n : Int) (ν : Int → Int32) (D j : Nat) (o : Int) (f : Int → q_R) : Prop := ∀ {d : Nat} {M : Am_M} {Q : Int32 → Am_M → Prop} {p : Int}, D ≤ d → MS M c n ν p (-1) → M.1 53 16 = z_I o → (∀ M', am_fq M M' → (f p).1 = true → MS M' c n ν (f p).2.1 (-1) → M'.1 53 16 = z_I o → Q ((f p).2.2.2 ν) M') → (∀ M' x, am_fq M M' → (f p).1 = false → MS M' c n ν (f p).2.1 (f p).2.1 → Q x M') → am_bi sL xs d j [.ref 53] M Q
theorem m_byteAt {sL : Nat} {xs : Nat → Int32} {d : Nat} {M : Am_M} {Q : Int32 → Am_M → Prop} (hd : 1 ≤ d) {c : Int → Int} {n p f : Int} {ν : Int → Int32} (hM : MS M c n ν p f)  (hq : Q (z_I (q_by c n p)) M) : am_bi sL xs d 175 [.ref 53] M Q := by
  obtain ⟨d, rfl⟩ : ∃ e, d = e + 1 := ⟨d - 1, by omega⟩
  have hnb := ms_nb hM
  have hpb := ms_pb hM
  have hcb := ms_cb hM
  rcases ms_src hM with ⟨hb1, hb2⟩ | ⟨hb1, hb2⟩
  · refine am_bi_of (P := am_pX11_byteAt) (rt := 1) (nL := 1) (Nat.le_of_ble_eq_true rfl) rfl (Nat.le_of_ble_eq_true rfl) rfl rfl rfl ?_
    refine am_r_aload0 (pc' := 1) rfl rfl ?_
    refine am_r_getIv (f := 13) (pc' := 4) rfl rfl rfl (ms_p hM) ?_
    refine am_r_aload0 (pc' := 5) rfl rfl ?_
    refine am_r_getIv (f := 14) (pc' := 8) rfl rfl rfl (ms_n hM) ?_
    refine am_r_icmp_ge (pt := 47) (pf := 11) rfl rfl rfl (fun h8 => ?_) (fun h8 => ?_)
    · refine am_r_iconst (pc' := 48) rfl rfl ?_
      refine am_r_iret rfl rfl ?_
      first | (rw [(hcb.1 (by omega)).1] at hq; exact hq) | (rw [(hcb.2 (by omega)).1] at hq; exact hq)
    · refine am_r_aload0 (pc' := 12) rfl rfl ?_
      refine am_r_getIv (f := 12) (pc' := 15) rfl rfl rfl (hb1) ?_
      refine am_r_if_ge (pt := 30) (pf := 18) rfl rfl rfl (fun h15 => ?_) (fun h15 => ?_)
      · exfalso; omega
      · refine am_r_aload0 (pc' := 19) rfl rfl ?_
        refine am_r_getR (t := 59) (pc' := 22) rfl rfl rfl ?_
        refine am_r_aload0 (pc' := 23) rfl rfl ?_
        refine am_r_getIv (f := 13) (pc' := 26) rfl rfl rfl (ms_p hM) ?_
        refine am_r_iaZv (n := 120) (pc' := 27) rfl rfl rfl (by decide) (hb2 _ (by omega) (by omega)) ?_
        refine am_r_goto (pc' := 48) rfl rfl ?_
        refine am_r_iret rfl rfl ?_
        first | (rw [(hcb.1 (by omega)).1] at hq; exact hq) | (rw [(hcb.2 (by omega)).1] at hq; exact hq)
  · refine am_bi_of (P := am_pX11_byteAt) (rt := 1) (nL := 1) (Nat.le_of_ble_eq_true rfl) rfl (Nat.le_of_ble_eq_true rfl) rfl rfl rfl ?_
    refine am_r_aload0 (pc' := 1) rfl rfl ?_
    refine am_r_getIv (f := 13) (pc' := 4) rfl rfl rfl (ms_p hM) ?_
    refine am_r_aload0 (pc' := 5) rfl rfl ?_
    refine am_r_getIv (f := 14) (pc' := 8) rfl rfl rfl (ms_n hM) ?_
    refine am_r_icmp_ge (pt := 47) (pf := 11) rfl rfl rfl (fun h8 => ?_) (fun h8 => ?_)
    · refine am_r_iconst (pc' := 48) rfl rfl ?_
      refine am_r_iret rfl rfl ?_
      first | (rw [(hcb.1 (by omega)).1] at hq; exact hq) | (rw [(hcb.2 (by omega)).1] at hq; exact hq)
    · refine am_r_aload0 (pc' := 12) rfl rfl ?_
      refine am_r_getIv (f := 12) (pc' := 15) rfl rfl rfl (hb1) ?_
      refine am_r_if_ge (pt := 30) (pf := 18) rfl rfl rfl (fun h15 => ?_) (fun h15 => ?_)
      · refine am_r_aload0 (pc' := 31) rfl rfl ?_
        refine am_r_getR (t := 60) (pc' := 34) rfl rfl rfl ?_
        refine am_r_aload0 (pc' := 35) rfl rfl ?_
        refine am_r_getIv (f := 12) (pc' := 38) rfl rfl rfl (hb1) ?_
        refine am_r_aload0 (pc' := 39) rfl rfl ?_
        refine am_r_getIv (f := 13) (pc' := 42) rfl rfl rfl (ms_p hM) ?_
        refine am_r_iadd (pc' := 43) rfl rfl ?_
        refine am_r_iaZv (n := 120) (pc' := 44) rfl rfl rfl (by decide) ((show _ = z_I (c p) by rw [Int.zero_add]; exact hb2 _ (by omega) (by omega))) ?_
        refine am_r_goto (pc' := 48) rfl rfl ?_
        refine am_r_iret rfl rfl ?_
        first | (rw [(hcb.1 (by omega)).1] at hq; exact hq) | (rw [(hcb.2 (by omega)).1] at hq; exact hq)
      · exfalso; omega
theorem m_wrong0 {sL : Nat} {xs : Nat → Int32} {d : Nat} {M : Am_M} {Q : Int32 → Am_M → Prop} (hd : 1 ≤ d) {c : Int → Int} {n p f : Int} {ν : Int → Int32} (hM : MS M c n ν p f)  (hf : f = -1) (hq : ∀ M', am_fq M M' → MS M' c n ν p p → Q (z_I 0) M') : am_bi sL xs d 176 [.ref 53] M Q := by
  obtain ⟨d, rfl⟩ : ∃ e, d = e + 1 := ⟨d - 1, by omega⟩
  have hnb := ms_nb hM
  have hpb := ms_pb hM
  have hcb := ms_cb hM
  refine am_bi_of (P := am_pX11_wrong) (rt := 1) (nL := 1) (Nat.le_of_ble_eq_true rfl) rfl (Nat.le_of_ble_eq_true rfl) rfl rfl rfl ?_
  refine am_r_aload0 (pc' := 1) rfl rfl ?_
  refine am_r_aload0 (pc' := 2) rfl rfl ?_
  refine am_r_getIv (f := 15) (pc' := 5) rfl rfl rfl (ms_f hM) ?_
  refine am_r_if_ge (pt := 15) (pf := 8) rfl rfl rfl (fun h5 => ?_) (fun h5 => ?_)
  · exfalso; omega
  · refine am_r_aload0 (pc' := 9) rfl rfl ?_
    refine am_r_getIv (f := 13) (pc' := 12) rfl rfl rfl (ms_p hM) ?_
    refine am_r_goto (pc' := 19) rfl rfl ?_
    refine am_r_putI (f := 15) (pc' := 22) rfl rfl rfl (by decide) ?_
    refine am_r_iconst (pc' := 23) rfl rfl ?_
    refine am_r_iret rfl rfl ?_
    exact hq _ (am_fq_up (am_fq_rf _) (by omega)) (ms_wr (by rw [hf] at hM; exact hM))
theorem m_wrong1 {sL : Nat} {xs : Nat → Int32} {d : Nat} {M : Am_M} {Q : Int32 → Am_M → Prop} (hd : 1 ≤ d) {c : Int → Int} {n p : Int} {ν : Int → Int32} (hM : MS M c n ν p p)  (hq : ∀ M', am_fq M M' → MS M' c n ν p p → Q (z_I 0) M') : am_bi sL xs d 176 [.ref 53] M Q := by
  obtain ⟨d, rfl⟩ : ∃ e, d = e + 1 := ⟨d - 1, by omega⟩
  have hnb := ms_nb hM
  have hpb := ms_pb hM
  have hcb := ms_cb hM
  refine am_bi_of (P := am_pX11_wrong) (rt := 1) (nL := 1) (Nat.le_of_ble_eq_true rfl) rfl (Nat.le_of_ble_eq_true rfl) rfl rfl rfl ?_
  refine am_r_aload0 (pc' := 1) rfl rfl ?_
  refine am_r_aload0 (pc' := 2) rfl rfl ?_
  refine am_r_getIv (f := 15) (pc' := 5) rfl rfl rfl (ms_f hM) ?_
  refine am_r_if_ge (pt := 15) (pf := 8) rfl rfl rfl (fun h5 => ?_) (fun h5 => ?_)
  · refine am_r_aload0 (pc' := 16) rfl rfl ?_
    refine am_r_getIv (f := 15) (pc' := 19) rfl rfl rfl (ms_f hM) ?_
    refine am_r_putI (f := 15) (pc' := 22) rfl rfl rfl (by decide) ?_
    refine am_r_iconst (pc' := 23) rfl rfl ?_
    refine am_r_iret rfl rfl ?_
    exact hq _ (am_fq_up (am_fq_rf _) (by omega)) (ms_wr2 hM)
  · exfalso; omega
theorem m_takes {sL : Nat} {xs : Nat → Int32} {d : Nat} {M : Am_M} {Q : Int32 → Am_M → Prop} (hd : 2 ≤ d) {c : Int → Int} {n p : Int} {ν : Int → Int32} (hM : MS M c n ν p (-1)) {k o : Int} (hk : 1 ≤ k ∧ k ≤ 255) (hO : M.1 53 16 = z_I o) (hqT : ∀ M', am_fq M M' → c p = k → MS M' c n ν (p + 1) (-1) → M'.1 53 16 = z_I o → Q (z_I 1) M') (hqF : ¬ c p = k → Q (z_I 0) M) : am_bi sL xs d 177 [.ref 53, .int (z_I k)] M Q := by
  obtain ⟨d, rfl⟩ : ∃ e, d = e + 1 := ⟨d - 1, by omega⟩
  have hnb := ms_nb hM
  have hpb := ms_pb hM
  have hcb := ms_cb hM
  refine am_bi_of (P := am_pX11_takes) (rt := 2) (nL := 2) (Nat.le_of_ble_eq_true rfl) rfl (Nat.le_of_ble_eq_true rfl) rfl rfl rfl ?_
  refine am_r_aload0 (pc' := 1) rfl rfl ?_
  refine am_r_getIv (f := 15) (pc' := 4) rfl rfl rfl (ms_f hM) ?_
  refine am_r_if_ge (pt := 15) (pf := 7) rfl rfl rfl (fun h4 => ?_) (fun h4 => ?_)
  · refine am_r_iconst (pc' := 16) rfl rfl ?_
    refine am_r_zret rfl rfl (by first | exact Or.inr rfl | exact Or.inl rfl | exact z_b_01 _ | assumption) ?_
    first | (exfalso; omega) | exact hqF (by omega)
  · refine am_r_aload0 (pc' := 8) rfl rfl ?_
    refine am_r_invI0 (pc' := 11) rfl rfl rfl (Nat.le_of_ble_eq_true rfl) (m_byteAt (by omega) hM ?_)
    refine am_r_iload1 (pc' := 12) rfl rfl ?_
    refine am_r_icmp_eq (pt := 17) (pf := 15) rfl rfl rfl (fun h12 => ?_) (fun h12 => ?_)
    · refine am_r_aload0 (pc' := 18) rfl rfl ?_
      refine am_r_dup (pc' := 19) rfl rfl rfl ?_
      refine am_r_getIv (f := 13) (pc' := 22) rfl rfl rfl (ms_p hM) ?_
      refine am_r_iconst (pc' := 23) rfl rfl ?_
      refine am_r_iadd (pc' := 24) rfl rfl ?_
      refine am_r_putI (f := 13) (pc' := 27) rfl rfl rfl (by decide) ?_
      refine am_r_iconst (pc' := 28) rfl rfl ?_
      refine am_r_zret rfl rfl (by first | exact Or.inr rfl | exact Or.inl rfl | exact z_b_01 _ | assumption) ?_
      exact hqT _ (am_fq_up (am_fq_rf _) (by omega)) (by omega) (ms_inc hM (by omega)) (am_op_e hO (by omega))
    · refine am_r_iconst (pc' := 16) rfl rfl ?_
      refine am_r_zret rfl rfl (by first | exact Or.inr rfl | exact Or.inl rfl | exact z_b_01 _ | assumption) ?_
      first | (exfalso; omega) | exact hqF (by omega)
theorem m_takesF {sL : Nat} {xs : Nat → Int32} {d : Nat} {M : Am_M} {Q : Int32 → Am_M → Prop} (hd : 2 ≤ d) {c : Int → Int} {n p : Int} {ν : Int → Int32} (hM : MS M c n ν p p) {k : Int} (hq : Q (z_I 0) M) : am_bi sL xs d 177 [.ref 53, .int (z_I k)] M Q := by
  obtain ⟨d, rfl⟩ : ∃ e, d = e + 1 := ⟨d - 1, by omega⟩
  have hnb := ms_nb hM
  have hpb := ms_pb hM
  have hcb := ms_cb hM
  refine am_bi_of (P := am_pX11_takes) (rt := 2) (nL := 2) (Nat.le_of_ble_eq_true rfl) rfl (Nat.le_of_ble_eq_true rfl) rfl rfl rfl ?_
  refine am_r_aload0 (pc' := 1) rfl rfl ?_
  refine am_r_getIv (f := 15) (pc' := 4) rfl rfl rfl (ms_f hM) ?_
  refine am_r_if_ge (pt := 15) (pf := 7) rfl rfl rfl (fun h4 => ?_) (fun h4 => ?_)
  · refine am_r_iconst (pc' := 16) rfl rfl ?_
    refine am_r_zret rfl rfl (by first | exact Or.inr rfl | exact Or.inl rfl | exact z_b_01 _ | assumption) ?_
    exact hq
  · exfalso; omega
theorem m_nameOf {sL : Nat} {xs : Nat → Int32} {d : Nat} {M : Am_M} {Q : Int32 → Am_M → Prop} (hd : 1 ≤ d) {x : Int} (hx : -1 ≤ x ∧ x ≤ 255) (hq : Q (z_I (q_nm x)) M) : am_bi sL xs d 183 [.int (z_I x)] M Q := by
  obtain ⟨d, rfl⟩ : ∃ e, d = e + 1 := ⟨d - 1, by omega⟩
  refine am_bi_of (P := am_pX11_nameOf) (rt := 1) (nL := 1) (Nat.le_of_ble_eq_true rfl) rfl (Nat.le_of_ble_eq_true rfl) rfl rfl rfl ?_
  refine am_r_iload0 (pc' := 1) rfl rfl ?_
  rcases (show x = 97 ∨ x = 100 ∨ x = 108 ∨ x = 112 ∨ x = 114 ∨ x = 119 ∨ (¬ x = 97 ∧ ¬ x = 100 ∧ ¬ x = 108 ∧ ¬ x = 112 ∧ ¬ x = 114 ∧ ¬ x = 119) by omega) with rfl | rfl | rfl | rfl | rfl | rfl | hsw1
  · refine am_r_lsw (t := 66) rfl rfl ?_
    refine am_r_iconst (pc' := 67) rfl rfl ?_
    refine am_r_iret rfl rfl ?_
    first | exact hq | (rw [show q_nm x = -1 by unfold q_nm; repeat (rw [if_neg (by omega)])] at hq; exact hq)
  · refine am_r_lsw (t := 68) rfl rfl ?_
    refine am_r_iconst (pc' := 69) rfl rfl ?_
    refine am_r_iret rfl rfl ?_
    first | exact hq | (rw [show q_nm x = -1 by unfold q_nm; repeat (rw [if_neg (by omega)])] at hq; exact hq)
  · refine am_r_lsw (t := 60) rfl rfl ?_
    refine am_r_iconst (pc' := 61) rfl rfl ?_
    refine am_r_iret rfl rfl ?_
    first | exact hq | (rw [show q_nm x = -1 by unfold q_nm; repeat (rw [if_neg (by omega)])] at hq; exact hq)
  · refine am_r_lsw (t := 70) rfl rfl ?_
    refine am_r_iconst (pc' := 71) rfl rfl ?_
    refine am_r_iret rfl rfl ?_
    first | exact hq | (rw [show q_nm x = -1 by unfold q_nm; repeat (rw [if_neg (by omega)])] at hq; exact hq)
  · refine am_r_lsw (t := 64) rfl rfl ?_
    refine am_r_iconst (pc' := 65) rfl rfl ?_
    refine am_r_iret rfl rfl ?_
    first | exact hq | (rw [show q_nm x = -1 by unfold q_nm; repeat (rw [if_neg (by omega)])] at hq; exact hq)
  · refine am_r_lsw (t := 62) rfl rfl ?_
    refine am_r_iconst (pc' := 63) rfl rfl ?_
    refine am_r_iret rfl rfl ?_
    first | exact hq | (rw [show q_nm x = -1 by unfold q_nm; repeat (rw [if_neg (by omega)])] at hq; exact hq)
  · refine am_r_lsw (t := 72) rfl (by simp only [am_sw]; rw [if_neg (by omega), if_neg (by omega), if_neg (by omega), if_neg (by omega), if_neg (by omega), if_neg (by omega)]; rfl) ?_
    refine am_r_iconst (pc' := 73) rfl rfl ?_
    refine am_r_iret rfl rfl ?_
    first | exact hq | (rw [show q_nm x = -1 by unfold q_nm; repeat (rw [if_neg (by omega)])] at hq; exact hq)
theorem m_either {sL : Nat} {xs : Nat → Int32} {o : Int} {D : Nat} {one : Int → q_R} (hg : q_gd n one) (hD : 2 ≤ D) (hs : q_md sL xs c n ν D 179 o one) : q_md sL xs c n ν (D + 1) 178 o (q_lev one q_i4 c) := by
  intro d M Q p hd hM hO hqT hqF
  obtain ⟨d, rfl⟩ : ∃ e, d = e + 1 := ⟨d - 1, by omega⟩
  have hnb := ms_nb hM
  have hpb := ms_pb hM
  have hcb := ms_cb hM
  have hc := ms_c hM
  have hloop : ∀ (k : Nat) (a : q_R) (v : Int32) (N : Am_M) (w2 : Value), v = a.2.2.2 ν → a.1 = true → am_fq M N → MS N c n ν a.2.1 (-1) → N.1 53 16 = z_I o → n ≤ a.2.1 + k → (∀ M', am_fq M M' → (q_chain one q_i4 c k a).1 = true → MS M' c n ν (q_chain one q_i4 c k a).2.1 (-1) → M'.1 53 16 = z_I o → Q ((q_chain one q_i4 c k a).2.2.2 ν) M') → (∀ M' x, am_fq M M' → (q_chain one q_i4 c k a).1 = false → MS M' c n ν (q_chain one q_i4 c k a).2.1 (q_chain one q_i4 c k a).2.1 → Q x M') → am_rw sL xs d am_pX11_either 1 5 [.ref 53, .int v, w2] [] N (am_pi Q) := by
    intro k
    induction k with
    | zero =>
      intro a v N w2 hv ha hF hM hO hk hqT hqF
      have hcb := ms_cb hM
      have hpb := ms_pb hM
      refine am_r_aload0 (pc' := 6) rfl rfl ?_
      refine am_r_iconst (pc' := 8) rfl rfl ?_
      refine am_r_invI1 (pc' := 11) rfl rfl rfl (Nat.le_of_ble_eq_true rfl) (m_takes (by omega) hM (by omega) hO ?_ ?_)
      · intro M2 hf2 e2 hM2 hO2
        have hM := hM2
        have hO := hO2
        have hF := am_fq_tr hF hf2
        refine am_r_if_eq (pt := 36) (pf := 14) rfl rfl rfl (fun h11 => by exfalso; omega) (fun h11 => ?_)
        exfalso; omega
      · intro e2
        refine am_r_if_eq (pt := 36) (pf := 14) rfl rfl rfl (fun h11 => ?_) (fun h11 => by exfalso; omega)
        refine am_r_iload1 (pc' := 37) rfl rfl ?_
        refine am_r_iret rfl rfl ?_
        subst hv
        exact hqT _ hF ha hM hO
    | succ k ih =>
      intro a v N w2 hv ha hF hM hO hk hqT hqF
      have hcb := ms_cb hM
      have hpb := ms_pb hM
      refine am_r_aload0 (pc' := 6) rfl rfl ?_
      refine am_r_iconst (pc' := 8) rfl rfl ?_
      refine am_r_invI1 (pc' := 11) rfl rfl rfl (Nat.le_of_ble_eq_true rfl) (m_takes (by omega) hM (by omega) hO ?_ ?_)
      · intro M2 hf2 e2 hM2 hO2
        have hM := hM2
        have hO := hO2
        have hF := am_fq_tr hF hf2
        refine am_r_if_eq (pt := 36) (pf := 14) rfl rfl rfl (fun h11 => by exfalso; omega) (fun h11 => ?_)
        refine am_r_aload0 (pc' := 15) rfl rfl ?_
        refine am_r_invI0 (pc' := 18) rfl rfl rfl (Nat.le_of_ble_eq_true rfl) (hs (by omega) hM hO ?_ ?_)
        · intro M4 hf4 e4 hM4 hO4
          have hM := hM4
          have hO := hO4
          have hF := am_fq_tr hF hf4
          have hi : q_i4 (c a.2.1) = true := (by simp only [q_i4, decide_eq_true_eq]; omega)
          have hg2 := hg (a.2.1 + 1) (by omega) (by omega)
          have hg3 := hg2.2.2 e4
          refine am_r_istore2 (pc' := 19) rfl rfl rfl ?_
          refine am_r_iload1 (pc' := 20) rfl rfl ?_
          refine am_r_if_neR (pt := 27) (pf := 23) rfl rfl rfl (fun h20 => ?_) (fun h20 => ?_)
          · refine am_r_iconst (pc' := 28) rfl rfl ?_
            refine am_r_goto (pc' := 32) rfl rfl ?_
            refine am_r_istore1 (pc' := 33) rfl rfl rfl ?_
            refine am_r_goto (pc' := 5) rfl rfl ?_
            have e : q_chain one q_i4 c (k + 1) a = q_chain one q_i4 c k (true, (one (a.2.1 + 1)).2.1, a.2.2.1 ++ (one (a.2.1 + 1)).2.2.1 ++ [(c a.2.1, 0)], fun ν => q_join (c a.2.1) (a.2.2.2 ν) ((one (a.2.1 + 1)).2.2.2 ν)) := (by rw [q_chain, if_pos ⟨ha, hi⟩, if_pos e4])
            rw [e] at hqT hqF
            refine ih (true, (one (a.2.1 + 1)).2.1, a.2.2.1 ++ (one (a.2.1 + 1)).2.2.1 ++ [(c a.2.1, 0)], fun ν => q_join (c a.2.1) (a.2.2.2 ν) ((one (a.2.1 + 1)).2.2.2 ν)) _ _ _ ?_ rfl hF hM hO ?_ hqT hqF
            · subst hv
              show _ = q_join (c a.2.1) (a.2.2.2 ν) ((one (a.2.1 + 1)).2.2.2 ν)
              first
              | (rw [show c a.2.1 = 124 by omega]; first | rfl | (simp_all [q_join]; done))
            · simp only; omega
          · refine am_r_iload2 (pc' := 24) rfl rfl ?_
            refine am_r_if_eqR (pt := 31) (pf := 27) rfl rfl rfl (fun h24 => ?_) (fun h24 => ?_)
            · refine am_r_iconst (pc' := 32) rfl rfl ?_
              refine am_r_istore1 (pc' := 33) rfl rfl rfl ?_
              refine am_r_goto (pc' := 5) rfl rfl ?_
              have e : q_chain one q_i4 c (k + 1) a = q_chain one q_i4 c k (true, (one (a.2.1 + 1)).2.1, a.2.2.1 ++ (one (a.2.1 + 1)).2.2.1 ++ [(c a.2.1, 0)], fun ν => q_join (c a.2.1) (a.2.2.2 ν) ((one (a.2.1 + 1)).2.2.2 ν)) := (by rw [q_chain, if_pos ⟨ha, hi⟩, if_pos e4])
              rw [e] at hqT hqF
              refine ih (true, (one (a.2.1 + 1)).2.1, a.2.2.1 ++ (one (a.2.1 + 1)).2.2.1 ++ [(c a.2.1, 0)], fun ν => q_join (c a.2.1) (a.2.2.2 ν) ((one (a.2.1 + 1)).2.2.2 ν)) _ _ _ ?_ rfl hF hM hO ?_ hqT hqF
              · subst hv
                show _ = q_join (c a.2.1) (a.2.2.2 ν) ((one (a.2.1 + 1)).2.2.2 ν)
                first
                | (rw [show c a.2.1 = 124 by omega]; first | rfl | (simp_all [q_join]; done))
              · simp only; omega
            · refine am_r_iconst (pc' := 28) rfl rfl ?_
              refine am_r_goto (pc' := 32) rfl rfl ?_
              refine am_r_istore1 (pc' := 33) rfl rfl rfl ?_
              refine am_r_goto (pc' := 5) rfl rfl ?_
              have e : q_chain one q_i4 c (k + 1) a = q_chain one q_i4 c k (true, (one (a.2.1 + 1)).2.1, a.2.2.1 ++ (one (a.2.1 + 1)).2.2.1 ++ [(c a.2.1, 0)], fun ν => q_join (c a.2.1) (a.2.2.2 ν) ((one (a.2.1 + 1)).2.2.2 ν)) := (by rw [q_chain, if_pos ⟨ha, hi⟩, if_pos e4])
              rw [e] at hqT hqF
              refine ih (true, (one (a.2.1 + 1)).2.1, a.2.2.1 ++ (one (a.2.1 + 1)).2.2.1 ++ [(c a.2.1, 0)], fun ν => q_join (c a.2.1) (a.2.2.2 ν) ((one (a.2.1 + 1)).2.2.2 ν)) _ _ _ ?_ rfl hF hM hO ?_ hqT hqF
              · subst hv
                show _ = q_join (c a.2.1) (a.2.2.2 ν) ((one (a.2.1 + 1)).2.2.2 ν)
                first
                | (rw [show c a.2.1 = 124 by omega]; first | rfl | (simp_all [q_join]; done))
              · simp only; omega
        · intro M4 x4 hf4 e4 hM4
          have hM := hM4
          have hpb4 := ms_pb hM4
          have hF := am_fq_tr hF hf4
          have hi : q_i4 (c a.2.1) = true := (by simp only [q_i4, decide_eq_true_eq]; omega)
          have e : q_chain one q_i4 c (k + 1) a = q_no (one (a.2.1 + 1)).2.1 := (by rw [q_chain, if_pos ⟨ha, hi⟩, if_neg (by rw [e4]; decide)])
          rw [e] at hqF
          refine am_r_istore2 (pc' := 19) rfl rfl rfl ?_
          refine am_r_iload1 (pc' := 20) rfl rfl ?_
          refine am_r_if_neR (pt := 27) (pf := 23) rfl rfl rfl (fun h20 => ?_) (fun h20 => ?_)
          · refine am_r_iconst (pc' := 28) rfl rfl ?_
            refine am_r_goto (pc' := 32) rfl rfl ?_
            refine am_r_istore1 (pc' := 33) rfl rfl rfl ?_
            refine am_r_goto (pc' := 5) rfl rfl ?_
            refine am_r_aload0 (pc' := 6) rfl rfl ?_
            refine am_r_iconst (pc' := 8) rfl rfl ?_
            refine am_r_invI1 (pc' := 11) rfl rfl rfl (Nat.le_of_ble_eq_true rfl) (m_takesF (by omega) hM ?_)
            refine am_r_if_eq (pt := 36) (pf := 14) rfl rfl rfl (fun h11 => ?_) (fun h11 => ?_)
            · refine am_r_iload1 (pc' := 37) rfl rfl ?_
              refine am_r_iret rfl rfl ?_
              exact hqF _ _ hF rfl hM
            · exfalso; omega
          · refine am_r_iload2 (pc' := 24) rfl rfl ?_
            refine am_r_if_eqR (pt := 31) (pf := 27) rfl rfl rfl (fun h24 => ?_) (fun h24 => ?_)
            · refine am_r_iconst (pc' := 32) rfl rfl ?_
              refine am_r_istore1 (pc' := 33) rfl rfl rfl ?_
              refine am_r_goto (pc' := 5) rfl rfl ?_
              refine am_r_aload0 (pc' := 6) rfl rfl ?_
              refine am_r_iconst (pc' := 8) rfl rfl ?_
              refine am_r_invI1 (pc' := 11) rfl rfl rfl (Nat.le_of_ble_eq_true rfl) (m_takesF (by omega) hM ?_)
              refine am_r_if_eq (pt := 36) (pf := 14) rfl rfl rfl (fun h11 => ?_) (fun h11 => ?_)
              · refine am_r_iload1 (pc' := 37) rfl rfl ?_
                refine am_r_iret rfl rfl ?_
                exact hqF _ _ hF rfl hM
              · exfalso; omega
            · refine am_r_iconst (pc' := 28) rfl rfl ?_
              refine am_r_goto (pc' := 32) rfl rfl ?_
              refine am_r_istore1 (pc' := 33) rfl rfl rfl ?_
              refine am_r_goto (pc' := 5) rfl rfl ?_
              refine am_r_aload0 (pc' := 6) rfl rfl ?_
              refine am_r_iconst (pc' := 8) rfl rfl ?_
              refine am_r_invI1 (pc' := 11) rfl rfl rfl (Nat.le_of_ble_eq_true rfl) (m_takesF (by omega) hM ?_)
              refine am_r_if_eq (pt := 36) (pf := 14) rfl rfl rfl (fun h11 => ?_) (fun h11 => ?_)
              · refine am_r_iload1 (pc' := 37) rfl rfl ?_
                refine am_r_iret rfl rfl ?_
                exact hqF _ _ hF rfl hM
              · exfalso; omega
      · intro e2
        refine am_r_if_eq (pt := 36) (pf := 14) rfl rfl rfl (fun h11 => ?_) (fun h11 => by exfalso; omega)
        have e : q_chain one q_i4 c (k + 1) a = a := (by rw [q_chain, if_neg]; rintro ⟨_, q⟩; simp only [q_i4, decide_eq_true_eq] at q; omega)
        rw [e] at hqT
        subst hv
        refine am_r_iload1 (pc' := 37) rfl rfl ?_
        refine am_r_iret rfl rfl ?_
        exact hqT _ hF ha hM hO
  refine am_bi_of (P := am_pX11_either) (rt := 1) (nL := 3) (Nat.le_of_ble_eq_true rfl) rfl (Nat.le_of_ble_eq_true rfl) rfl rfl rfl ?_
  refine am_r_aload0 (pc' := 1) rfl rfl ?_
  refine am_r_invI0 (pc' := 4) rfl rfl rfl (Nat.le_of_ble_eq_true rfl) (hs (by omega) hM hO ?_ ?_)
  · intro M4 hf4 e4 hM4 hO4
    have hg2 := hg p (by omega) (by omega)
    refine am_r_istore1 (pc' := 5) rfl rfl rfl ?_
    exact hloop 120 (one p) _ _ _ rfl e4 hf4 hM4 hO4 (by omega) hqT hqF
  · intro M4 x4 hf4 e4 hM4
    have hM := hM4
    have hpb4 := ms_pb hM4
    have hF := hf4
    have e : q_lev one q_i4 c p = one p := (by unfold q_lev; rw [q_chain, if_neg]; rw [e4]; rintro ⟨q, _⟩; exact absurd q (by decide))
    rw [e] at hqF
    refine am_r_istore1 (pc' := 5) rfl rfl rfl ?_
    refine am_r_aload0 (pc' := 6) rfl rfl ?_
    refine am_r_iconst (pc' := 8) rfl rfl ?_
    refine am_r_invI1 (pc' := 11) rfl rfl rfl (Nat.le_of_ble_eq_true rfl) (m_takesF (by omega) hM ?_)
    refine am_r_if_eq (pt := 36) (pf := 14) rfl rfl rfl (fun h11 => ?_) (fun h11 => ?_)
    · refine am_r_iload1 (pc' := 37) rfl rfl ?_
      refine am_r_iret rfl rfl ?_
      exact hqF _ _ hF e4 hM
    · exfalso; omega
theorem m_both {sL : Nat} {xs : Nat → Int32} {o : Int} {D : Nat} {one : Int → q_R} (hg : q_gd n one) (hD : 2 ≤ D) (hs : q_md sL xs c n ν D 180 o one) : q_md sL xs c n ν (D + 1) 179 o (q_lev one q_i3 c) := by
  intro d M Q p hd hM hO hqT hqF
  obtain ⟨d, rfl⟩ : ∃ e, d = e + 1 := ⟨d - 1, by omega⟩
  have hnb := ms_nb hM
  have hpb := ms_pb hM
  have hcb := ms_cb hM
  have hc := ms_c hM
  have hloop : ∀ (k : Nat) (a : q_R) (v : Int32) (N : Am_M) (w2 : Value), v = a.2.2.2 ν → a.1 = true → am_fq M N → MS N c n ν a.2.1 (-1) → N.1 53 16 = z_I o → n ≤ a.2.1 + k → (∀ M', am_fq M M' → (q_chain one q_i3 c k a).1 = true → MS M' c n ν (q_chain one q_i3 c k a).2.1 (-1) → M'.1 53 16 = z_I o → Q ((q_chain one q_i3 c k a).2.2.2 ν) M') → (∀ M' x, am_fq M M' → (q_chain one q_i3 c k a).1 = false → MS M' c n ν (q_chain one q_i3 c k a).2.1 (q_chain one q_i3 c k a).2.1 → Q x M') → am_rw sL xs d am_pX11_both 1 5 [.ref 53, .int v, w2] [] N (am_pi Q) := by
    intro k
    induction k with
    | zero =>
      intro a v N w2 hv ha hF hM hO hk hqT hqF
      have hcb := ms_cb hM
      have hpb := ms_pb hM
      refine am_r_aload0 (pc' := 6) rfl rfl ?_
      refine am_r_iconst (pc' := 8) rfl rfl ?_
      refine am_r_invI1 (pc' := 11) rfl rfl rfl (Nat.le_of_ble_eq_true rfl) (m_takes (by omega) hM (by omega) hO ?_ ?_)
      · intro M2 hf2 e2 hM2 hO2
        have hM := hM2
        have hO := hO2
        have hF := am_fq_tr hF hf2
        refine am_r_if_eq (pt := 36) (pf := 14) rfl rfl rfl (fun h11 => by exfalso; omega) (fun h11 => ?_)
        exfalso; omega
      · intro e2
        refine am_r_if_eq (pt := 36) (pf := 14) rfl rfl rfl (fun h11 => ?_) (fun h11 => by exfalso; omega)
        refine am_r_iload1 (pc' := 37) rfl rfl ?_
        refine am_r_iret rfl rfl ?_
        subst hv
        exact hqT _ hF ha hM hO
    | succ k ih =>
      intro a v N w2 hv ha hF hM hO hk hqT hqF
      have hcb := ms_cb hM
      have hpb := ms_pb hM
      refine am_r_aload0 (pc' := 6) rfl rfl ?_
      refine am_r_iconst (pc' := 8) rfl rfl ?_
      refine am_r_invI1 (pc' := 11) rfl rfl rfl (Nat.le_of_ble_eq_true rfl) (m_takes (by omega) hM (by omega) hO ?_ ?_)
      · intro M2 hf2 e2 hM2 hO2
        have hM := hM2
        have hO := hO2
        have hF := am_fq_tr hF hf2
        refine am_r_if_eq (pt := 36) (pf := 14) rfl rfl rfl (fun h11 => by exfalso; omega) (fun h11 => ?_)
        refine am_r_aload0 (pc' := 15) rfl rfl ?_
        refine am_r_invI0 (pc' := 18) rfl rfl rfl (Nat.le_of_ble_eq_true rfl) (hs (by omega) hM hO ?_ ?_)
        · intro M4 hf4 e4 hM4 hO4
          have hM := hM4
          have hO := hO4
          have hF := am_fq_tr hF hf4
          have hi : q_i3 (c a.2.1) = true := (by simp only [q_i3, decide_eq_true_eq]; omega)
          have hg2 := hg (a.2.1 + 1) (by omega) (by omega)
          have hg3 := hg2.2.2 e4
          refine am_r_istore2 (pc' := 19) rfl rfl rfl ?_
          refine am_r_iload1 (pc' := 20) rfl rfl ?_
          refine am_r_if_eqR (pt := 31) (pf := 23) rfl rfl rfl (fun h20 => ?_) (fun h20 => ?_)
          · refine am_r_iconst (pc' := 32) rfl rfl ?_
            refine am_r_istore1 (pc' := 33) rfl rfl rfl ?_
            refine am_r_goto (pc' := 5) rfl rfl ?_
            have e : q_chain one q_i3 c (k + 1) a = q_chain one q_i3 c k (true, (one (a.2.1 + 1)).2.1, a.2.2.1 ++ (one (a.2.1 + 1)).2.2.1 ++ [(c a.2.1, 0)], fun ν => q_join (c a.2.1) (a.2.2.2 ν) ((one (a.2.1 + 1)).2.2.2 ν)) := (by rw [q_chain, if_pos ⟨ha, hi⟩, if_pos e4])
            rw [e] at hqT hqF
            refine ih (true, (one (a.2.1 + 1)).2.1, a.2.2.1 ++ (one (a.2.1 + 1)).2.2.1 ++ [(c a.2.1, 0)], fun ν => q_join (c a.2.1) (a.2.2.2 ν) ((one (a.2.1 + 1)).2.2.2 ν)) _ _ _ ?_ rfl hF hM hO ?_ hqT hqF
            · subst hv
              show _ = q_join (c a.2.1) (a.2.2.2 ν) ((one (a.2.1 + 1)).2.2.2 ν)
              first
              | (rw [show c a.2.1 = 38 by omega]; first | rfl | (simp_all [q_join]; done))
            · simp only; omega
          · refine am_r_iload2 (pc' := 24) rfl rfl ?_
            refine am_r_if_eqR (pt := 31) (pf := 27) rfl rfl rfl (fun h24 => ?_) (fun h24 => ?_)
            · refine am_r_iconst (pc' := 32) rfl rfl ?_
              refine am_r_istore1 (pc' := 33) rfl rfl rfl ?_
              refine am_r_goto (pc' := 5) rfl rfl ?_
              have e : q_chain one q_i3 c (k + 1) a = q_chain one q_i3 c k (true, (one (a.2.1 + 1)).2.1, a.2.2.1 ++ (one (a.2.1 + 1)).2.2.1 ++ [(c a.2.1, 0)], fun ν => q_join (c a.2.1) (a.2.2.2 ν) ((one (a.2.1 + 1)).2.2.2 ν)) := (by rw [q_chain, if_pos ⟨ha, hi⟩, if_pos e4])
              rw [e] at hqT hqF
              refine ih (true, (one (a.2.1 + 1)).2.1, a.2.2.1 ++ (one (a.2.1 + 1)).2.2.1 ++ [(c a.2.1, 0)], fun ν => q_join (c a.2.1) (a.2.2.2 ν) ((one (a.2.1 + 1)).2.2.2 ν)) _ _ _ ?_ rfl hF hM hO ?_ hqT hqF
              · subst hv
                show _ = q_join (c a.2.1) (a.2.2.2 ν) ((one (a.2.1 + 1)).2.2.2 ν)
                first
                | (rw [show c a.2.1 = 38 by omega]; first | rfl | (simp_all [q_join]; done))
              · simp only; omega
            · refine am_r_iconst (pc' := 28) rfl rfl ?_
              refine am_r_goto (pc' := 32) rfl rfl ?_
              refine am_r_istore1 (pc' := 33) rfl rfl rfl ?_
              refine am_r_goto (pc' := 5) rfl rfl ?_
              have e : q_chain one q_i3 c (k + 1) a = q_chain one q_i3 c k (true, (one (a.2.1 + 1)).2.1, a.2.2.1 ++ (one (a.2.1 + 1)).2.2.1 ++ [(c a.2.1, 0)], fun ν => q_join (c a.2.1) (a.2.2.2 ν) ((one (a.2.1 + 1)).2.2.2 ν)) := (by rw [q_chain, if_pos ⟨ha, hi⟩, if_pos e4])
              rw [e] at hqT hqF
              refine ih (true, (one (a.2.1 + 1)).2.1, a.2.2.1 ++ (one (a.2.1 + 1)).2.2.1 ++ [(c a.2.1, 0)], fun ν => q_join (c a.2.1) (a.2.2.2 ν) ((one (a.2.1 + 1)).2.2.2 ν)) _ _ _ ?_ rfl hF hM hO ?_ hqT hqF
              · subst hv
                show _ = q_join (c a.2.1) (a.2.2.2 ν) ((one (a.2.1 + 1)).2.2.2 ν)
                first
                | (rw [show c a.2.1 = 38 by omega]; first | rfl | (simp_all [q_join]; done))
              · simp only; omega
        · intro M4 x4 hf4 e4 hM4
          have hM := hM4
          have hpb4 := ms_pb hM4
          have hF := am_fq_tr hF hf4
          have hi : q_i3 (c a.2.1) = true := (by simp only [q_i3, decide_eq_true_eq]; omega)
          have e : q_chain one q_i3 c (k + 1) a = q_no (one (a.2.1 + 1)).2.1 := (by rw [q_chain, if_pos ⟨ha, hi⟩, if_neg (by rw [e4]; decide)])
          rw [e] at hqF
          refine am_r_istore2 (pc' := 19) rfl rfl rfl ?_
          refine am_r_iload1 (pc' := 20) rfl rfl ?_
          refine am_r_if_eqR (pt := 31) (pf := 23) rfl rfl rfl (fun h20 => ?_) (fun h20 => ?_)
          · refine am_r_iconst (pc' := 32) rfl rfl ?_
            refine am_r_istore1 (pc' := 33) rfl rfl rfl ?_
            refine am_r_goto (pc' := 5) rfl rfl ?_
            refine am_r_aload0 (pc' := 6) rfl rfl ?_
            refine am_r_iconst (pc' := 8) rfl rfl ?_
            refine am_r_invI1 (pc' := 11) rfl rfl rfl (Nat.le_of_ble_eq_true rfl) (m_takesF (by omega) hM ?_)
            refine am_r_if_eq (pt := 36) (pf := 14) rfl rfl rfl (fun h11 => ?_) (fun h11 => ?_)
            · refine am_r_iload1 (pc' := 37) rfl rfl ?_
              refine am_r_iret rfl rfl ?_
              exact hqF _ _ hF rfl hM
            · exfalso; omega
          · refine am_r_iload2 (pc' := 24) rfl rfl ?_
            refine am_r_if_eqR (pt := 31) (pf := 27) rfl rfl rfl (fun h24 => ?_) (fun h24 => ?_)
            · refine am_r_iconst (pc' := 32) rfl rfl ?_
              refine am_r_istore1 (pc' := 33) rfl rfl rfl ?_
              refine am_r_goto (pc' := 5) rfl rfl ?_
              refine am_r_aload0 (pc' := 6) rfl rfl ?_
              refine am_r_iconst (pc' := 8) rfl rfl ?_
              refine am_r_invI1 (pc' := 11) rfl rfl rfl (Nat.le_of_ble_eq_true rfl) (m_takesF (by omega) hM ?_)
              refine am_r_if_eq (pt := 36) (pf := 14) rfl rfl rfl (fun h11 => ?_) (fun h11 => ?_)
              · refine am_r_iload1 (pc' := 37) rfl rfl ?_
                refine am_r_iret rfl rfl ?_
                exact hqF _ _ hF rfl hM
              · exfalso; omega
            · refine am_r_iconst (pc' := 28) rfl rfl ?_
              refine am_r_goto (pc' := 32) rfl rfl ?_
              refine am_r_istore1 (pc' := 33) rfl rfl rfl ?_
              refine am_r_goto (pc' := 5) rfl rfl ?_
              refine am_r_aload0 (pc' := 6) rfl rfl ?_
              refine am_r_iconst (pc' := 8) rfl rfl ?_
              refine am_r_invI1 (pc' := 11) rfl rfl rfl (Nat.le_of_ble_eq_true rfl) (m_takesF (by omega) hM ?_)
              refine am_r_if_eq (pt := 36) (pf := 14) rfl rfl rfl (fun h11 => ?_) (fun h11 => ?_)
              · refine am_r_iload1 (pc' := 37) rfl rfl ?_
                refine am_r_iret rfl rfl ?_
                exact hqF _ _ hF rfl hM
              · exfalso; omega
      · intro e2
        refine am_r_if_eq (pt := 36) (pf := 14) rfl rfl rfl (fun h11 => ?_) (fun h11 => by exfalso; omega)
        have e : q_chain one q_i3 c (k + 1) a = a := (by rw [q_chain, if_neg]; rintro ⟨_, q⟩; simp only [q_i3, decide_eq_true_eq] at q; omega)
        rw [e] at hqT
        subst hv
        refine am_r_iload1 (pc' := 37) rfl rfl ?_
        refine am_r_iret rfl rfl ?_
        exact hqT _ hF ha hM hO
  refine am_bi_of (P := am_pX11_both) (rt := 1) (nL := 3) (Nat.le_of_ble_eq_true rfl) rfl (Nat.le_of_ble_eq_true rfl) rfl rfl rfl ?_
  refine am_r_aload0 (pc' := 1) rfl rfl ?_
  refine am_r_invI0 (pc' := 4) rfl rfl rfl (Nat.le_of_ble_eq_true rfl) (hs (by omega) hM hO ?_ ?_)
  · intro M4 hf4 e4 hM4 hO4
    have hg2 := hg p (by omega) (by omega)
    refine am_r_istore1 (pc' := 5) rfl rfl rfl ?_
    exact hloop 120 (one p) _ _ _ rfl e4 hf4 hM4 hO4 (by omega) hqT hqF
  · intro M4 x4 hf4 e4 hM4
    have hM := hM4
    have hpb4 := ms_pb hM4
    have hF := hf4
    have e : q_lev one q_i3 c p = one p := (by unfold q_lev; rw [q_chain, if_neg]; rw [e4]; rintro ⟨q, _⟩; exact absurd q (by decide))
    rw [e] at hqF
    refine am_r_istore1 (pc' := 5) rfl rfl rfl ?_
    refine am_r_aload0 (pc' := 6) rfl rfl ?_
    refine am_r_iconst (pc' := 8) rfl rfl ?_
    refine am_r_invI1 (pc' := 11) rfl rfl rfl (Nat.le_of_ble_eq_true rfl) (m_takesF (by omega) hM ?_)
    refine am_r_if_eq (pt := 36) (pf := 14) rfl rfl rfl (fun h11 => ?_) (fun h11 => ?_)
    · refine am_r_iload1 (pc' := 37) rfl rfl ?_
      refine am_r_iret rfl rfl ?_
      exact hqF _ _ hF e4 hM
    · exfalso; omega
theorem m_sums {sL : Nat} {xs : Nat → Int32} {o : Int} {D : Nat} {one : Int → q_R} (hg : q_gd n one) (hD : 2 ≤ D) (hs : q_md sL xs c n ν D 182 o one) : q_md sL xs c n ν (D + 1) 181 o (q_lev one q_i2 c) := by
  intro d M Q p hd hM hO hqT hqF
  obtain ⟨d, rfl⟩ : ∃ e, d = e + 1 := ⟨d - 1, by omega⟩
  have hnb := ms_nb hM
  have hpb := ms_pb hM
  have hcb := ms_cb hM
  have hc := ms_c hM
  have hloop : ∀ (k : Nat) (a : q_R) (v : Int32) (N : Am_M) (w2 w3 : Value), v = a.2.2.2 ν → a.1 = true → am_fq M N → MS N c n ν a.2.1 (-1) → N.1 53 16 = z_I o → n ≤ a.2.1 + k → (∀ M', am_fq M M' → (q_chain one q_i2 c k a).1 = true → MS M' c n ν (q_chain one q_i2 c k a).2.1 (-1) → M'.1 53 16 = z_I o → Q ((q_chain one q_i2 c k a).2.2.2 ν) M') → (∀ M' x, am_fq M M' → (q_chain one q_i2 c k a).1 = false → MS M' c n ν (q_chain one q_i2 c k a).2.1 (q_chain one q_i2 c k a).2.1 → Q x M') → am_rw sL xs d am_pX11_sums 1 5 [.ref 53, .int v, w2, w3] [] N (am_pi Q) := by
    intro k
    induction k with
    | zero =>
      intro a v N w2 w3 hv ha hF hM hO hk hqT hqF
      have hcb := ms_cb hM
      have hpb := ms_pb hM
      refine am_r_aload0 (pc' := 6) rfl rfl ?_
      refine am_r_getIv (f := 15) (pc' := 9) rfl rfl rfl (ms_f hM) ?_
      refine am_r_if_ge (pt := 77) (pf := 12) rfl rfl rfl (fun h9 => ?_) (fun h9 => ?_)
      · refine am_r_iload1 (pc' := 78) rfl rfl ?_
        refine am_r_iret rfl rfl ?_
        subst hv
        exact hqT _ hF ha hM hO
      · refine am_r_aload0 (pc' := 13) rfl rfl ?_
        refine am_r_invI0 (pc' := 16) rfl rfl rfl (Nat.le_of_ble_eq_true rfl) (m_byteAt (by omega) hM ?_)
        refine am_r_iconst (pc' := 18) rfl rfl ?_
        refine am_r_icmp_eq (pt := 30) (pf := 21) rfl rfl rfl (fun h18 => ?_) (fun h18 => ?_)
        · exfalso; omega
        · refine am_r_aload0 (pc' := 22) rfl rfl ?_
          refine am_r_invI0 (pc' := 25) rfl rfl rfl (Nat.le_of_ble_eq_true rfl) (m_byteAt (by omega) hM ?_)
          refine am_r_iconst (pc' := 27) rfl rfl ?_
          refine am_r_icmp_ne (pt := 77) (pf := 30) rfl rfl rfl (fun h27 => ?_) (fun h27 => ?_)
          · refine am_r_iload1 (pc' := 78) rfl rfl ?_
            refine am_r_iret rfl rfl ?_
            subst hv
            exact hqT _ hF ha hM hO
          · exfalso; omega
    | succ k ih =>
      intro a v N w2 w3 hv ha hF hM hO hk hqT hqF
      have hcb := ms_cb hM
      have hpb := ms_pb hM
      refine am_r_aload0 (pc' := 6) rfl rfl ?_
      refine am_r_getIv (f := 15) (pc' := 9) rfl rfl rfl (ms_f hM) ?_
      refine am_r_if_ge (pt := 77) (pf := 12) rfl rfl rfl (fun h9 => ?_) (fun h9 => ?_)
      · have e : q_chain one q_i2 c (k + 1) a = a := (by rw [q_chain, if_neg]; rintro ⟨_, q⟩; simp only [q_i2, decide_eq_true_eq] at q; omega)
        rw [e] at hqT
        subst hv
        refine am_r_iload1 (pc' := 78) rfl rfl ?_
        refine am_r_iret rfl rfl ?_
        exact hqT _ hF ha hM hO
      · refine am_r_aload0 (pc' := 13) rfl rfl ?_
        refine am_r_invI0 (pc' := 16) rfl rfl rfl (Nat.le_of_ble_eq_true rfl) (m_byteAt (by omega) hM ?_)
        refine am_r_iconst (pc' := 18) rfl rfl ?_
        refine am_r_icmp_eq (pt := 30) (pf := 21) rfl rfl rfl (fun h18 => ?_) (fun h18 => ?_)
        · refine am_r_aload0 (pc' := 31) rfl rfl ?_
          refine am_r_invI0 (pc' := 34) rfl rfl rfl (Nat.le_of_ble_eq_true rfl) (m_byteAt (by omega) hM ?_)
          refine am_r_iconst (pc' := 36) rfl rfl ?_
          refine am_r_icmp_ne (pt := 43) (pf := 39) rfl rfl rfl (fun h36 => ?_) (fun h36 => ?_)
          · refine am_r_iconst (pc' := 44) rfl rfl ?_
            refine am_r_istore2 (pc' := 45) rfl rfl rfl ?_
            refine am_r_aload0 (pc' := 46) rfl rfl ?_
            refine am_r_dup (pc' := 47) rfl rfl rfl ?_
            refine am_r_getIv (f := 13) (pc' := 50) rfl rfl rfl (ms_p hM) ?_
            refine am_r_iconst (pc' := 51) rfl rfl ?_
            refine am_r_iadd (pc' := 52) rfl rfl ?_
            refine am_r_putI (f := 13) (pc' := 55) rfl rfl rfl (by decide) ?_
            have hF := am_fq_up (i := 13) (x := z_I (a.2.1 + 1)) hF (by omega)
            have hO := am_op_e (i := 13) (x := z_I (a.2.1 + 1)) hO (by omega)
            have hM := ms_inc hM (by omega)
            refine am_r_aload0 (pc' := 56) rfl rfl ?_
            refine am_r_invI0 (pc' := 59) rfl rfl rfl (Nat.le_of_ble_eq_true rfl) (hs (by omega) hM hO ?_ ?_)
            · intro M4 hf4 e4 hM4 hO4
              have hM := hM4
              have hO := hO4
              have hF := am_fq_tr hF hf4
              have hi : q_i2 (c a.2.1) = true := (by simp only [q_i2, decide_eq_true_eq]; omega)
              have hg2 := hg (a.2.1 + 1) (by omega) (by omega)
              have hg3 := hg2.2.2 e4
              refine am_r_istore3 (pc' := 60) rfl rfl rfl ?_
              refine am_r_iload2 (pc' := 61) rfl rfl ?_
              refine am_r_if_eq (pt := 70) (pf := 64) rfl rfl rfl (fun h61 => ?_) (fun h61 => ?_)
              · refine am_r_iload1 (pc' := 71) rfl rfl ?_
                refine am_r_iload3 (pc' := 72) rfl rfl ?_
                refine am_r_isubR (pc' := 73) rfl rfl ?_
                refine am_r_istore1 (pc' := 74) rfl rfl rfl ?_
                refine am_r_goto (pc' := 5) rfl rfl ?_
                have e : q_chain one q_i2 c (k + 1) a = q_chain one q_i2 c k (true, (one (a.2.1 + 1)).2.1, a.2.2.1 ++ (one (a.2.1 + 1)).2.2.1 ++ [(c a.2.1, 0)], fun ν => q_join (c a.2.1) (a.2.2.2 ν) ((one (a.2.1 + 1)).2.2.2 ν)) := (by rw [q_chain, if_pos ⟨ha, hi⟩, if_pos e4])
                rw [e] at hqT hqF
                refine ih (true, (one (a.2.1 + 1)).2.1, a.2.2.1 ++ (one (a.2.1 + 1)).2.2.1 ++ [(c a.2.1, 0)], fun ν => q_join (c a.2.1) (a.2.2.2 ν) ((one (a.2.1 + 1)).2.2.2 ν)) _ _ _ _ ?_ rfl hF hM hO ?_ hqT hqF
                · subst hv
                  show _ = q_join (c a.2.1) (a.2.2.2 ν) ((one (a.2.1 + 1)).2.2.2 ν)
                  first
                  | (rw [show c a.2.1 = 43 by omega]; rfl)
                  | (rw [show c a.2.1 = 45 by omega]; rfl)
                · simp only; omega
              · refine am_r_iload1 (pc' := 65) rfl rfl ?_
                refine am_r_iload3 (pc' := 66) rfl rfl ?_
                refine am_r_iaddR (pc' := 67) rfl rfl ?_
                refine am_r_goto (pc' := 73) rfl rfl ?_
                refine am_r_istore1 (pc' := 74) rfl rfl rfl ?_
                refine am_r_goto (pc' := 5) rfl rfl ?_
                have e : q_chain one q_i2 c (k + 1) a = q_chain one q_i2 c k (true, (one (a.2.1 + 1)).2.1, a.2.2.1 ++ (one (a.2.1 + 1)).2.2.1 ++ [(c a.2.1, 0)], fun ν => q_join (c a.2.1) (a.2.2.2 ν) ((one (a.2.1 + 1)).2.2.2 ν)) := (by rw [q_chain, if_pos ⟨ha, hi⟩, if_pos e4])
                rw [e] at hqT hqF
                refine ih (true, (one (a.2.1 + 1)).2.1, a.2.2.1 ++ (one (a.2.1 + 1)).2.2.1 ++ [(c a.2.1, 0)], fun ν => q_join (c a.2.1) (a.2.2.2 ν) ((one (a.2.1 + 1)).2.2.2 ν)) _ _ _ _ ?_ rfl hF hM hO ?_ hqT hqF
                · subst hv
                  show _ = q_join (c a.2.1) (a.2.2.2 ν) ((one (a.2.1 + 1)).2.2.2 ν)
                  first
                  | (rw [show c a.2.1 = 43 by omega]; rfl)
                  | (rw [show c a.2.1 = 45 by omega]; rfl)
                · simp only; omega
            · intro M4 x4 hf4 e4 hM4
              have hM := hM4
              have hpb4 := ms_pb hM4
              have hF := am_fq_tr hF hf4
              have hi : q_i2 (c a.2.1) = true := (by simp only [q_i2, decide_eq_true_eq]; omega)
              have e : q_chain one q_i2 c (k + 1) a = q_no (one (a.2.1 + 1)).2.1 := (by rw [q_chain, if_pos ⟨ha, hi⟩, if_neg (by rw [e4]; decide)])
              rw [e] at hqF
              refine am_r_istore3 (pc' := 60) rfl rfl rfl ?_
              refine am_r_iload2 (pc' := 61) rfl rfl ?_
              refine am_r_if_eq (pt := 70) (pf := 64) rfl rfl rfl (fun h61 => ?_) (fun h61 => ?_)
              · refine am_r_iload1 (pc' := 71) rfl rfl ?_
                refine am_r_iload3 (pc' := 72) rfl rfl ?_
                refine am_r_isubR (pc' := 73) rfl rfl ?_
                refine am_r_istore1 (pc' := 74) rfl rfl rfl ?_
                refine am_r_goto (pc' := 5) rfl rfl ?_
                refine am_r_aload0 (pc' := 6) rfl rfl ?_
                refine am_r_getIv (f := 15) (pc' := 9) rfl rfl rfl (ms_f hM) ?_
                refine am_r_if_ge (pt := 77) (pf := 12) rfl rfl rfl (fun h9 => ?_) (fun h9 => ?_)
                · refine am_r_iload1 (pc' := 78) rfl rfl ?_
                  refine am_r_iret rfl rfl ?_
                  exact hqF _ _ hF rfl hM
                · exfalso; omega
              · refine am_r_iload1 (pc' := 65) rfl rfl ?_
                refine am_r_iload3 (pc' := 66) rfl rfl ?_
                refine am_r_iaddR (pc' := 67) rfl rfl ?_
                refine am_r_goto (pc' := 73) rfl rfl ?_
                refine am_r_istore1 (pc' := 74) rfl rfl rfl ?_
                refine am_r_goto (pc' := 5) rfl rfl ?_
                refine am_r_aload0 (pc' := 6) rfl rfl ?_
                refine am_r_getIv (f := 15) (pc' := 9) rfl rfl rfl (ms_f hM) ?_
                refine am_r_if_ge (pt := 77) (pf := 12) rfl rfl rfl (fun h9 => ?_) (fun h9 => ?_)
                · refine am_r_iload1 (pc' := 78) rfl rfl ?_
                  refine am_r_iret rfl rfl ?_
                  exact hqF _ _ hF rfl hM
                · exfalso; omega
          · refine am_r_iconst (pc' := 40) rfl rfl ?_
            refine am_r_goto (pc' := 44) rfl rfl ?_
            refine am_r_istore2 (pc' := 45) rfl rfl rfl ?_
            refine am_r_aload0 (pc' := 46) rfl rfl ?_
            refine am_r_dup (pc' := 47) rfl rfl rfl ?_
            refine am_r_getIv (f := 13) (pc' := 50) rfl rfl rfl (ms_p hM) ?_
            refine am_r_iconst (pc' := 51) rfl rfl ?_
            refine am_r_iadd (pc' := 52) rfl rfl ?_
            refine am_r_putI (f := 13) (pc' := 55) rfl rfl rfl (by decide) ?_
            have hF := am_fq_up (i := 13) (x := z_I (a.2.1 + 1)) hF (by omega)
            have hO := am_op_e (i := 13) (x := z_I (a.2.1 + 1)) hO (by omega)
            have hM := ms_inc hM (by omega)
            refine am_r_aload0 (pc' := 56) rfl rfl ?_
            refine am_r_invI0 (pc' := 59) rfl rfl rfl (Nat.le_of_ble_eq_true rfl) (hs (by omega) hM hO ?_ ?_)
            · intro M4 hf4 e4 hM4 hO4
              have hM := hM4
              have hO := hO4
              have hF := am_fq_tr hF hf4
              have hi : q_i2 (c a.2.1) = true := (by simp only [q_i2, decide_eq_true_eq]; omega)
              have hg2 := hg (a.2.1 + 1) (by omega) (by omega)
              have hg3 := hg2.2.2 e4
              refine am_r_istore3 (pc' := 60) rfl rfl rfl ?_
              refine am_r_iload2 (pc' := 61) rfl rfl ?_
              refine am_r_if_eq (pt := 70) (pf := 64) rfl rfl rfl (fun h61 => ?_) (fun h61 => ?_)
              · refine am_r_iload1 (pc' := 71) rfl rfl ?_
                refine am_r_iload3 (pc' := 72) rfl rfl ?_
                refine am_r_isubR (pc' := 73) rfl rfl ?_
                refine am_r_istore1 (pc' := 74) rfl rfl rfl ?_
                refine am_r_goto (pc' := 5) rfl rfl ?_
                have e : q_chain one q_i2 c (k + 1) a = q_chain one q_i2 c k (true, (one (a.2.1 + 1)).2.1, a.2.2.1 ++ (one (a.2.1 + 1)).2.2.1 ++ [(c a.2.1, 0)], fun ν => q_join (c a.2.1) (a.2.2.2 ν) ((one (a.2.1 + 1)).2.2.2 ν)) := (by rw [q_chain, if_pos ⟨ha, hi⟩, if_pos e4])
                rw [e] at hqT hqF
                refine ih (true, (one (a.2.1 + 1)).2.1, a.2.2.1 ++ (one (a.2.1 + 1)).2.2.1 ++ [(c a.2.1, 0)], fun ν => q_join (c a.2.1) (a.2.2.2 ν) ((one (a.2.1 + 1)).2.2.2 ν)) _ _ _ _ ?_ rfl hF hM hO ?_ hqT hqF
                · subst hv
                  show _ = q_join (c a.2.1) (a.2.2.2 ν) ((one (a.2.1 + 1)).2.2.2 ν)
                  first
                  | (rw [show c a.2.1 = 43 by omega]; rfl)
                  | (rw [show c a.2.1 = 45 by omega]; rfl)
                · simp only; omega
              · refine am_r_iload1 (pc' := 65) rfl rfl ?_
                refine am_r_iload3 (pc' := 66) rfl rfl ?_
                refine am_r_iaddR (pc' := 67) rfl rfl ?_
                refine am_r_goto (pc' := 73) rfl rfl ?_
                refine am_r_istore1 (pc' := 74) rfl rfl rfl ?_
                refine am_r_goto (pc' := 5) rfl rfl ?_
                have e : q_chain one q_i2 c (k + 1) a = q_chain one q_i2 c k (true, (one (a.2.1 + 1)).2.1, a.2.2.1 ++ (one (a.2.1 + 1)).2.2.1 ++ [(c a.2.1, 0)], fun ν => q_join (c a.2.1) (a.2.2.2 ν) ((one (a.2.1 + 1)).2.2.2 ν)) := (by rw [q_chain, if_pos ⟨ha, hi⟩, if_pos e4])
                rw [e] at hqT hqF
                refine ih (true, (one (a.2.1 + 1)).2.1, a.2.2.1 ++ (one (a.2.1 + 1)).2.2.1 ++ [(c a.2.1, 0)], fun ν => q_join (c a.2.1) (a.2.2.2 ν) ((one (a.2.1 + 1)).2.2.2 ν)) _ _ _ _ ?_ rfl hF hM hO ?_ hqT hqF
                · subst hv
                  show _ = q_join (c a.2.1) (a.2.2.2 ν) ((one (a.2.1 + 1)).2.2.2 ν)
                  first
                  | (rw [show c a.2.1 = 43 by omega]; rfl)
                  | (rw [show c a.2.1 = 45 by omega]; rfl)
                · simp only; omega
            · intro M4 x4 hf4 e4 hM4
              have hM := hM4
              have hpb4 := ms_pb hM4
              have hF := am_fq_tr hF hf4
              have hi : q_i2 (c a.2.1) = true := (by simp only [q_i2, decide_eq_true_eq]; omega)
              have e : q_chain one q_i2 c (k + 1) a = q_no (one (a.2.1 + 1)).2.1 := (by rw [q_chain, if_pos ⟨ha, hi⟩, if_neg (by rw [e4]; decide)])
              rw [e] at hqF
              refine am_r_istore3 (pc' := 60) rfl rfl rfl ?_
              refine am_r_iload2 (pc' := 61) rfl rfl ?_
              refine am_r_if_eq (pt := 70) (pf := 64) rfl rfl rfl (fun h61 => ?_) (fun h61 => ?_)
              · refine am_r_iload1 (pc' := 71) rfl rfl ?_
                refine am_r_iload3 (pc' := 72) rfl rfl ?_
                refine am_r_isubR (pc' := 73) rfl rfl ?_
                refine am_r_istore1 (pc' := 74) rfl rfl rfl ?_
                refine am_r_goto (pc' := 5) rfl rfl ?_
                refine am_r_aload0 (pc' := 6) rfl rfl ?_
                refine am_r_getIv (f := 15) (pc' := 9) rfl rfl rfl (ms_f hM) ?_
                refine am_r_if_ge (pt := 77) (pf := 12) rfl rfl rfl (fun h9 => ?_) (fun h9 => ?_)
                · refine am_r_iload1 (pc' := 78) rfl rfl ?_
                  refine am_r_iret rfl rfl ?_
                  exact hqF _ _ hF rfl hM
                · exfalso; omega
              · refine am_r_iload1 (pc' := 65) rfl rfl ?_
                refine am_r_iload3 (pc' := 66) rfl rfl ?_
                refine am_r_iaddR (pc' := 67) rfl rfl ?_
                refine am_r_goto (pc' := 73) rfl rfl ?_
                refine am_r_istore1 (pc' := 74) rfl rfl rfl ?_
                refine am_r_goto (pc' := 5) rfl rfl ?_
                refine am_r_aload0 (pc' := 6) rfl rfl ?_
                refine am_r_getIv (f := 15) (pc' := 9) rfl rfl rfl (ms_f hM) ?_
                refine am_r_if_ge (pt := 77) (pf := 12) rfl rfl rfl (fun h9 => ?_) (fun h9 => ?_)
                · refine am_r_iload1 (pc' := 78) rfl rfl ?_
                  refine am_r_iret rfl rfl ?_
                  exact hqF _ _ hF rfl hM
                · exfalso; omega
        · refine am_r_aload0 (pc' := 22) rfl rfl ?_
          refine am_r_invI0 (pc' := 25) rfl rfl rfl (Nat.le_of_ble_eq_true rfl) (m_byteAt (by omega) hM ?_)
          refine am_r_iconst (pc' := 27) rfl rfl ?_
          refine am_r_icmp_ne (pt := 77) (pf := 30) rfl rfl rfl (fun h27 => ?_) (fun h27 => ?_)
          · have e : q_chain one q_i2 c (k + 1) a = a := (by rw [q_chain, if_neg]; rintro ⟨_, q⟩; simp only [q_i2, decide_eq_true_eq] at q; omega)
            rw [e] at hqT
            subst hv
            refine am_r_iload1 (pc' := 78) rfl rfl ?_
            refine am_r_iret rfl rfl ?_
            exact hqT _ hF ha hM hO
          · refine am_r_aload0 (pc' := 31) rfl rfl ?_
            refine am_r_invI0 (pc' := 34) rfl rfl rfl (Nat.le_of_ble_eq_true rfl) (m_byteAt (by omega) hM ?_)
            refine am_r_iconst (pc' := 36) rfl rfl ?_
            refine am_r_icmp_ne (pt := 43) (pf := 39) rfl rfl rfl (fun h36 => ?_) (fun h36 => ?_)
            · refine am_r_iconst (pc' := 44) rfl rfl ?_
              refine am_r_istore2 (pc' := 45) rfl rfl rfl ?_
              refine am_r_aload0 (pc' := 46) rfl rfl ?_
              refine am_r_dup (pc' := 47) rfl rfl rfl ?_
              refine am_r_getIv (f := 13) (pc' := 50) rfl rfl rfl (ms_p hM) ?_
              refine am_r_iconst (pc' := 51) rfl rfl ?_
              refine am_r_iadd (pc' := 52) rfl rfl ?_
              refine am_r_putI (f := 13) (pc' := 55) rfl rfl rfl (by decide) ?_
              have hF := am_fq_up (i := 13) (x := z_I (a.2.1 + 1)) hF (by omega)
              have hO := am_op_e (i := 13) (x := z_I (a.2.1 + 1)) hO (by omega)
              have hM := ms_inc hM (by omega)
              refine am_r_aload0 (pc' := 56) rfl rfl ?_
              refine am_r_invI0 (pc' := 59) rfl rfl rfl (Nat.le_of_ble_eq_true rfl) (hs (by omega) hM hO ?_ ?_)
              · intro M4 hf4 e4 hM4 hO4
                have hM := hM4
                have hO := hO4
                have hF := am_fq_tr hF hf4
                have hi : q_i2 (c a.2.1) = true := (by simp only [q_i2, decide_eq_true_eq]; omega)
                have hg2 := hg (a.2.1 + 1) (by omega) (by omega)
                have hg3 := hg2.2.2 e4
                refine am_r_istore3 (pc' := 60) rfl rfl rfl ?_
                refine am_r_iload2 (pc' := 61) rfl rfl ?_
                refine am_r_if_eq (pt := 70) (pf := 64) rfl rfl rfl (fun h61 => ?_) (fun h61 => ?_)
                · refine am_r_iload1 (pc' := 71) rfl rfl ?_
                  refine am_r_iload3 (pc' := 72) rfl rfl ?_
                  refine am_r_isubR (pc' := 73) rfl rfl ?_
                  refine am_r_istore1 (pc' := 74) rfl rfl rfl ?_
                  refine am_r_goto (pc' := 5) rfl rfl ?_
                  have e : q_chain one q_i2 c (k + 1) a = q_chain one q_i2 c k (true, (one (a.2.1 + 1)).2.1, a.2.2.1 ++ (one (a.2.1 + 1)).2.2.1 ++ [(c a.2.1, 0)], fun ν => q_join (c a.2.1) (a.2.2.2 ν) ((one (a.2.1 + 1)).2.2.2 ν)) := (by rw [q_chain, if_pos ⟨ha, hi⟩, if_pos e4])
                  rw [e] at hqT hqF
                  refine ih (true, (one (a.2.1 + 1)).2.1, a.2.2.1 ++ (one (a.2.1 + 1)).2.2.1 ++ [(c a.2.1, 0)], fun ν => q_join (c a.2.1) (a.2.2.2 ν) ((one (a.2.1 + 1)).2.2.2 ν)) _ _ _ _ ?_ rfl hF hM hO ?_ hqT hqF
                  · subst hv
                    show _ = q_join (c a.2.1) (a.2.2.2 ν) ((one (a.2.1 + 1)).2.2.2 ν)
                    first
                    | (rw [show c a.2.1 = 43 by omega]; rfl)
                    | (rw [show c a.2.1 = 45 by omega]; rfl)
                  · simp only; omega
                · refine am_r_iload1 (pc' := 65) rfl rfl ?_
                  refine am_r_iload3 (pc' := 66) rfl rfl ?_
                  refine am_r_iaddR (pc' := 67) rfl rfl ?_
                  refine am_r_goto (pc' := 73) rfl rfl ?_
                  refine am_r_istore1 (pc' := 74) rfl rfl rfl ?_
                  refine am_r_goto (pc' := 5) rfl rfl ?_
                  have e : q_chain one q_i2 c (k + 1) a = q_chain one q_i2 c k (true, (one (a.2.1 + 1)).2.1, a.2.2.1 ++ (one (a.2.1 + 1)).2.2.1 ++ [(c a.2.1, 0)], fun ν => q_join (c a.2.1) (a.2.2.2 ν) ((one (a.2.1 + 1)).2.2.2 ν)) := (by rw [q_chain, if_pos ⟨ha, hi⟩, if_pos e4])
                  rw [e] at hqT hqF
                  refine ih (true, (one (a.2.1 + 1)).2.1, a.2.2.1 ++ (one (a.2.1 + 1)).2.2.1 ++ [(c a.2.1, 0)], fun ν => q_join (c a.2.1) (a.2.2.2 ν) ((one (a.2.1 + 1)).2.2.2 ν)) _ _ _ _ ?_ rfl hF hM hO ?_ hqT hqF
                  · subst hv
                    show _ = q_join (c a.2.1) (a.2.2.2 ν) ((one (a.2.1 + 1)).2.2.2 ν)
                    first
                    | (rw [show c a.2.1 = 43 by omega]; rfl)
                    | (rw [show c a.2.1 = 45 by omega]; rfl)
                  · simp only; omega
              · intro M4 x4 hf4 e4 hM4
                have hM := hM4
                have hpb4 := ms_pb hM4
                have hF := am_fq_tr hF hf4
                have hi : q_i2 (c a.2.1) = true := (by simp only [q_i2, decide_eq_true_eq]; omega)
                have e : q_chain one q_i2 c (k + 1) a = q_no (one (a.2.1 + 1)).2.1 := (by rw [q_chain, if_pos ⟨ha, hi⟩, if_neg (by rw [e4]; decide)])
                rw [e] at hqF
                refine am_r_istore3 (pc' := 60) rfl rfl rfl ?_
                refine am_r_iload2 (pc' := 61) rfl rfl ?_
                refine am_r_if_eq (pt := 70) (pf := 64) rfl rfl rfl (fun h61 => ?_) (fun h61 => ?_)
                · refine am_r_iload1 (pc' := 71) rfl rfl ?_
                  refine am_r_iload3 (pc' := 72) rfl rfl ?_
                  refine am_r_isubR (pc' := 73) rfl rfl ?_
                  refine am_r_istore1 (pc' := 74) rfl rfl rfl ?_
                  refine am_r_goto (pc' := 5) rfl rfl ?_
                  refine am_r_aload0 (pc' := 6) rfl rfl ?_
                  refine am_r_getIv (f := 15) (pc' := 9) rfl rfl rfl (ms_f hM) ?_
                  refine am_r_if_ge (pt := 77) (pf := 12) rfl rfl rfl (fun h9 => ?_) (fun h9 => ?_)
                  · refine am_r_iload1 (pc' := 78) rfl rfl ?_
                    refine am_r_iret rfl rfl ?_
                    exact hqF _ _ hF rfl hM
                  · exfalso; omega
                · refine am_r_iload1 (pc' := 65) rfl rfl ?_
                  refine am_r_iload3 (pc' := 66) rfl rfl ?_
                  refine am_r_iaddR (pc' := 67) rfl rfl ?_
                  refine am_r_goto (pc' := 73) rfl rfl ?_
                  refine am_r_istore1 (pc' := 74) rfl rfl rfl ?_
                  refine am_r_goto (pc' := 5) rfl rfl ?_
                  refine am_r_aload0 (pc' := 6) rfl rfl ?_
                  refine am_r_getIv (f := 15) (pc' := 9) rfl rfl rfl (ms_f hM) ?_
                  refine am_r_if_ge (pt := 77) (pf := 12) rfl rfl rfl (fun h9 => ?_) (fun h9 => ?_)
                  · refine am_r_iload1 (pc' := 78) rfl rfl ?_
                    refine am_r_iret rfl rfl ?_
                    exact hqF _ _ hF rfl hM
                  · exfalso; omega
            · refine am_r_iconst (pc' := 40) rfl rfl ?_
              refine am_r_goto (pc' := 44) rfl rfl ?_
              refine am_r_istore2 (pc' := 45) rfl rfl rfl ?_
              refine am_r_aload0 (pc' := 46) rfl rfl ?_
              refine am_r_dup (pc' := 47) rfl rfl rfl ?_
              refine am_r_getIv (f := 13) (pc' := 50) rfl rfl rfl (ms_p hM) ?_
              refine am_r_iconst (pc' := 51) rfl rfl ?_
              refine am_r_iadd (pc' := 52) rfl rfl ?_
              refine am_r_putI (f := 13) (pc' := 55) rfl rfl rfl (by decide) ?_
              have hF := am_fq_up (i := 13) (x := z_I (a.2.1 + 1)) hF (by omega)
              have hO := am_op_e (i := 13) (x := z_I (a.2.1 + 1)) hO (by omega)
              have hM := ms_inc hM (by omega)
              refine am_r_aload0 (pc' := 56) rfl rfl ?_
              refine am_r_invI0 (pc' := 59) rfl rfl rfl (Nat.le_of_ble_eq_true rfl) (hs (by omega) hM hO ?_ ?_)
              · intro M4 hf4 e4 hM4 hO4
                have hM := hM4
                have hO := hO4
                have hF := am_fq_tr hF hf4
                have hi : q_i2 (c a.2.1) = true := (by simp only [q_i2, decide_eq_true_eq]; omega)
                have hg2 := hg (a.2.1 + 1) (by omega) (by omega)
                have hg3 := hg2.2.2 e4
                refine am_r_istore3 (pc' := 60) rfl rfl rfl ?_
                refine am_r_iload2 (pc' := 61) rfl rfl ?_
                refine am_r_if_eq (pt := 70) (pf := 64) rfl rfl rfl (fun h61 => ?_) (fun h61 => ?_)
                · refine am_r_iload1 (pc' := 71) rfl rfl ?_
                  refine am_r_iload3 (pc' := 72) rfl rfl ?_
                  refine am_r_isubR (pc' := 73) rfl rfl ?_
                  refine am_r_istore1 (pc' := 74) rfl rfl rfl ?_
                  refine am_r_goto (pc' := 5) rfl rfl ?_
                  have e : q_chain one q_i2 c (k + 1) a = q_chain one q_i2 c k (true, (one (a.2.1 + 1)).2.1, a.2.2.1 ++ (one (a.2.1 + 1)).2.2.1 ++ [(c a.2.1, 0)], fun ν => q_join (c a.2.1) (a.2.2.2 ν) ((one (a.2.1 + 1)).2.2.2 ν)) := (by rw [q_chain, if_pos ⟨ha, hi⟩, if_pos e4])
                  rw [e] at hqT hqF
                  refine ih (true, (one (a.2.1 + 1)).2.1, a.2.2.1 ++ (one (a.2.1 + 1)).2.2.1 ++ [(c a.2.1, 0)], fun ν => q_join (c a.2.1) (a.2.2.2 ν) ((one (a.2.1 + 1)).2.2.2 ν)) _ _ _ _ ?_ rfl hF hM hO ?_ hqT hqF
                  · subst hv
                    show _ = q_join (c a.2.1) (a.2.2.2 ν) ((one (a.2.1 + 1)).2.2.2 ν)
                    first
                    | (rw [show c a.2.1 = 43 by omega]; rfl)
                    | (rw [show c a.2.1 = 45 by omega]; rfl)
                  · simp only; omega
                · refine am_r_iload1 (pc' := 65) rfl rfl ?_
                  refine am_r_iload3 (pc' := 66) rfl rfl ?_
                  refine am_r_iaddR (pc' := 67) rfl rfl ?_
                  refine am_r_goto (pc' := 73) rfl rfl ?_
                  refine am_r_istore1 (pc' := 74) rfl rfl rfl ?_
                  refine am_r_goto (pc' := 5) rfl rfl ?_
                  have e : q_chain one q_i2 c (k + 1) a = q_chain one q_i2 c k (true, (one (a.2.1 + 1)).2.1, a.2.2.1 ++ (one (a.2.1 + 1)).2.2.1 ++ [(c a.2.1, 0)], fun ν => q_join (c a.2.1) (a.2.2.2 ν) ((one (a.2.1 + 1)).2.2.2 ν)) := (by rw [q_chain, if_pos ⟨ha, hi⟩, if_pos e4])
                  rw [e] at hqT hqF
                  refine ih (true, (one (a.2.1 + 1)).2.1, a.2.2.1 ++ (one (a.2.1 + 1)).2.2.1 ++ [(c a.2.1, 0)], fun ν => q_join (c a.2.1) (a.2.2.2 ν) ((one (a.2.1 + 1)).2.2.2 ν)) _ _ _ _ ?_ rfl hF hM hO ?_ hqT hqF
                  · subst hv
                    show _ = q_join (c a.2.1) (a.2.2.2 ν) ((one (a.2.1 + 1)).2.2.2 ν)
                    first
                    | (rw [show c a.2.1 = 43 by omega]; rfl)
                    | (rw [show c a.2.1 = 45 by omega]; rfl)
                  · simp only; omega
              · intro M4 x4 hf4 e4 hM4
                have hM := hM4
                have hpb4 := ms_pb hM4
                have hF := am_fq_tr hF hf4
                have hi : q_i2 (c a.2.1) = true := (by simp only [q_i2, decide_eq_true_eq]; omega)
                have e : q_chain one q_i2 c (k + 1) a = q_no (one (a.2.1 + 1)).2.1 := (by rw [q_chain, if_pos ⟨ha, hi⟩, if_neg (by rw [e4]; decide)])
                rw [e] at hqF
                refine am_r_istore3 (pc' := 60) rfl rfl rfl ?_
                refine am_r_iload2 (pc' := 61) rfl rfl ?_
                refine am_r_if_eq (pt := 70) (pf := 64) rfl rfl rfl (fun h61 => ?_) (fun h61 => ?_)
                · refine am_r_iload1 (pc' := 71) rfl rfl ?_
                  refine am_r_iload3 (pc' := 72) rfl rfl ?_
                  refine am_r_isubR (pc' := 73) rfl rfl ?_
                  refine am_r_istore1 (pc' := 74) rfl rfl rfl ?_
                  refine am_r_goto (pc' := 5) rfl rfl ?_
                  refine am_r_aload0 (pc' := 6) rfl rfl ?_
                  refine am_r_getIv (f := 15) (pc' := 9) rfl rfl rfl (ms_f hM) ?_
                  refine am_r_if_ge (pt := 77) (pf := 12) rfl rfl rfl (fun h9 => ?_) (fun h9 => ?_)
                  · refine am_r_iload1 (pc' := 78) rfl rfl ?_
                    refine am_r_iret rfl rfl ?_
                    exact hqF _ _ hF rfl hM
                  · exfalso; omega
                · refine am_r_iload1 (pc' := 65) rfl rfl ?_
                  refine am_r_iload3 (pc' := 66) rfl rfl ?_
                  refine am_r_iaddR (pc' := 67) rfl rfl ?_
                  refine am_r_goto (pc' := 73) rfl rfl ?_
                  refine am_r_istore1 (pc' := 74) rfl rfl rfl ?_
                  refine am_r_goto (pc' := 5) rfl rfl ?_
                  refine am_r_aload0 (pc' := 6) rfl rfl ?_
                  refine am_r_getIv (f := 15) (pc' := 9) rfl rfl rfl (ms_f hM) ?_
                  refine am_r_if_ge (pt := 77) (pf := 12) rfl rfl rfl (fun h9 => ?_) (fun h9 => ?_)
                  · refine am_r_iload1 (pc' := 78) rfl rfl ?_
                    refine am_r_iret rfl rfl ?_
                    exact hqF _ _ hF rfl hM
                  · exfalso; omega
  refine am_bi_of (P := am_pX11_sums) (rt := 1) (nL := 4) (Nat.le_of_ble_eq_true rfl) rfl (Nat.le_of_ble_eq_true rfl) rfl rfl rfl ?_
  refine am_r_aload0 (pc' := 1) rfl rfl ?_
  refine am_r_invI0 (pc' := 4) rfl rfl rfl (Nat.le_of_ble_eq_true rfl) (hs (by omega) hM hO ?_ ?_)
  · intro M4 hf4 e4 hM4 hO4
    have hg2 := hg p (by omega) (by omega)
    have hM := hM4
    refine am_r_istore1 (pc' := 5) rfl rfl rfl ?_
    exact hloop 120 (one p) _ _ _ _ rfl e4 hf4 hM4 hO4 (by omega) hqT hqF
  · intro M4 x4 hf4 e4 hM4
    have hM := hM4
    have hpb4 := ms_pb hM4
    have hF := hf4
    have e : q_lev one q_i2 c p = one p := (by unfold q_lev; rw [q_chain, if_neg]; rw [e4]; rintro ⟨q, _⟩; exact absurd q (by decide))
    rw [e] at hqF
    refine am_r_istore1 (pc' := 5) rfl rfl rfl ?_
    refine am_r_aload0 (pc' := 6) rfl rfl ?_
    refine am_r_getIv (f := 15) (pc' := 9) rfl rfl rfl (ms_f hM) ?_
    refine am_r_if_ge (pt := 77) (pf := 12) rfl rfl rfl (fun h9 => ?_) (fun h9 => ?_)
    · refine am_r_iload1 (pc' := 78) rfl rfl ?_
      refine am_r_iret rfl rfl ?_
      exact hqF _ _ hF e4 hM
    · exfalso; omega
theorem m_product {sL : Nat} {xs : Nat → Int32} {o : Int} {D : Nat} {one : Int → q_R} (hg : q_gd n one) (hD : 2 ≤ D) (hs : q_md sL xs c n ν D 184 o one) : q_md sL xs c n ν (D + 1) 182 o (q_lev one q_i1 c) := by
  intro d M Q p hd hM hO hqT hqF
  obtain ⟨d, rfl⟩ : ∃ e, d = e + 1 := ⟨d - 1, by omega⟩
  have hnb := ms_nb hM
  have hpb := ms_pb hM
  have hcb := ms_cb hM
  have hc := ms_c hM
  have hloop : ∀ (k : Nat) (a : q_R) (v : Int32) (N : Am_M) (w3 : Value), v = a.2.2.2 ν → a.1 = true → am_fq M N → MS N c n ν a.2.1 (-1) → N.1 53 16 = z_I o → n ≤ a.2.1 + k → (∀ M', am_fq M M' → (q_chain one q_i1 c k a).1 = true → MS M' c n ν (q_chain one q_i1 c k a).2.1 (-1) → M'.1 53 16 = z_I o → Q ((q_chain one q_i1 c k a).2.2.2 ν) M') → (∀ M' x, am_fq M M' → (q_chain one q_i1 c k a).1 = false → MS M' c n ν (q_chain one q_i1 c k a).2.1 (q_chain one q_i1 c k a).2.1 → Q x M') → am_rw sL xs d am_pX11_product 1 10 [.ref 53, .int v, .int (z_I (q_by c n a.2.1)), w3] [] N (am_pi Q) := by
    intro k
    induction k with
    | zero =>
      intro a v N w3 hv ha hF hM hO hk hqT hqF
      have hcb := ms_cb hM
      have hpb := ms_pb hM
      refine am_r_aload0 (pc' := 11) rfl rfl ?_
      refine am_r_getIv (f := 15) (pc' := 14) rfl rfl rfl (ms_f hM) ?_
      refine am_r_if_ge (pt := 94) (pf := 17) rfl rfl rfl (fun h14 => ?_) (fun h14 => ?_)
      · refine am_r_iload1 (pc' := 95) rfl rfl ?_
        refine am_r_iret rfl rfl ?_
        subst hv
        exact hqT _ hF ha hM hO
      · refine am_r_iload2 (pc' := 18) rfl rfl ?_
        refine am_r_iconst (pc' := 20) rfl rfl ?_
        refine am_r_icmp_eq (pt := 35) (pf := 23) rfl rfl rfl (fun h20 => ?_) (fun h20 => ?_)
        · exfalso; omega
        · refine am_r_iload2 (pc' := 24) rfl rfl ?_
          refine am_r_iconst (pc' := 26) rfl rfl ?_
          refine am_r_icmp_eq (pt := 35) (pf := 29) rfl rfl rfl (fun h26 => ?_) (fun h26 => ?_)
          · exfalso; omega
          · refine am_r_iload2 (pc' := 30) rfl rfl ?_
            refine am_r_iconst (pc' := 32) rfl rfl ?_
            refine am_r_icmp_ne (pt := 94) (pf := 35) rfl rfl rfl (fun h32 => ?_) (fun h32 => ?_)
            · refine am_r_iload1 (pc' := 95) rfl rfl ?_
              refine am_r_iret rfl rfl ?_
              subst hv
              exact hqT _ hF ha hM hO
            · exfalso; omega
    | succ k ih =>
      intro a v N w3 hv ha hF hM hO hk hqT hqF
      have hcb := ms_cb hM
      have hpb := ms_pb hM
      refine am_r_aload0 (pc' := 11) rfl rfl ?_
      refine am_r_getIv (f := 15) (pc' := 14) rfl rfl rfl (ms_f hM) ?_
      refine am_r_if_ge (pt := 94) (pf := 17) rfl rfl rfl (fun h14 => ?_) (fun h14 => ?_)
      · have e : q_chain one q_i1 c (k + 1) a = a := (by rw [q_chain, if_neg]; rintro ⟨_, q⟩; simp only [q_i1, decide_eq_true_eq] at q; omega)
        rw [e] at hqT
        subst hv
        refine am_r_iload1 (pc' := 95) rfl rfl ?_
        refine am_r_iret rfl rfl ?_
        exact hqT _ hF ha hM hO
      · refine am_r_iload2 (pc' := 18) rfl rfl ?_
        refine am_r_iconst (pc' := 20) rfl rfl ?_
        refine am_r_icmp_eq (pt := 35) (pf := 23) rfl rfl rfl (fun h20 => ?_) (fun h20 => ?_)
        · refine am_r_aload0 (pc' := 36) rfl rfl ?_
          refine am_r_dup (pc' := 37) rfl rfl rfl ?_
          refine am_r_getIv (f := 13) (pc' := 40) rfl rfl rfl (ms_p hM) ?_
          refine am_r_iconst (pc' := 41) rfl rfl ?_
          refine am_r_iadd (pc' := 42) rfl rfl ?_
          refine am_r_putI (f := 13) (pc' := 45) rfl rfl rfl (by decide) ?_
          have hF := am_fq_up (i := 13) (x := z_I (a.2.1 + 1)) hF (by omega)
          have hO := am_op_e (i := 13) (x := z_I (a.2.1 + 1)) hO (by omega)
          have hM := ms_inc hM (by omega)
          refine am_r_aload0 (pc' := 46) rfl rfl ?_
          refine am_r_invI0 (pc' := 49) rfl rfl rfl (Nat.le_of_ble_eq_true rfl) (hs (by omega) hM hO ?_ ?_)
          · intro M4 hf4 e4 hM4 hO4
            have hM := hM4
            have hO := hO4
            have hF := am_fq_tr hF hf4
            have hi : q_i1 (c a.2.1) = true := (by simp only [q_i1, decide_eq_true_eq]; omega)
            have hg2 := hg (a.2.1 + 1) (by omega) (by omega)
            have hg3 := hg2.2.2 e4
            refine am_r_istore3 (pc' := 50) rfl rfl rfl ?_
            refine am_r_iload2 (pc' := 51) rfl rfl ?_
            refine am_r_iconst (pc' := 53) rfl rfl ?_
            refine am_r_icmp_ne (pt := 62) (pf := 56) rfl rfl rfl (fun h53 => ?_) (fun h53 => ?_)
            · refine am_r_iload3 (pc' := 63) rfl rfl ?_
              refine am_r_if_neR (pt := 70) (pf := 66) rfl rfl rfl (fun h63 => ?_) (fun h63 => ?_)
              · refine am_r_iload2 (pc' := 71) rfl rfl ?_
                refine am_r_iconst (pc' := 73) rfl rfl ?_
                refine am_r_icmp_ne (pt := 82) (pf := 76) rfl rfl rfl (fun h73 => ?_) (fun h73 => ?_)
                · refine am_r_iload1 (pc' := 83) rfl rfl ?_
                  refine am_r_iload3 (pc' := 84) rfl rfl ?_
                  refine am_r_iremR (pc' := 85) rfl rfl (by assumption) ?_
                  refine am_r_istore1 (pc' := 86) rfl rfl rfl ?_
                  refine am_r_aload0 (pc' := 87) rfl rfl ?_
                  refine am_r_invI0 (pc' := 90) rfl rfl rfl (Nat.le_of_ble_eq_true rfl) (m_byteAt (by omega) hM ?_)
                  refine am_r_istore2 (pc' := 91) rfl rfl rfl ?_
                  refine am_r_goto (pc' := 10) rfl rfl ?_
                  have e : q_chain one q_i1 c (k + 1) a = q_chain one q_i1 c k (true, (one (a.2.1 + 1)).2.1, a.2.2.1 ++ (one (a.2.1 + 1)).2.2.1 ++ [(c a.2.1, 0)], fun ν => q_join (c a.2.1) (a.2.2.2 ν) ((one (a.2.1 + 1)).2.2.2 ν)) := (by rw [q_chain, if_pos ⟨ha, hi⟩, if_pos e4])
                  rw [e] at hqT hqF
                  refine ih (true, (one (a.2.1 + 1)).2.1, a.2.2.1 ++ (one (a.2.1 + 1)).2.2.1 ++ [(c a.2.1, 0)], fun ν => q_join (c a.2.1) (a.2.2.2 ν) ((one (a.2.1 + 1)).2.2.2 ν)) _ _ _ ?_ rfl hF hM hO ?_ hqT hqF
                  · subst hv
                    show _ = q_join (c a.2.1) (a.2.2.2 ν) ((one (a.2.1 + 1)).2.2.2 ν)
                    first
                    | (rw [show c a.2.1 = 42 by omega]; rfl)
                    | (rw [show c a.2.1 = 47 by omega]; exact q_j47n h63)
                    | (rw [show c a.2.1 = 37 by omega]; exact q_j37n h63)
                    | (rw [show c a.2.1 = 47 by omega]; exact q_j47z (Classical.not_not.mp h63))
                    | (rw [show c a.2.1 = 37 by omega]; exact q_j37z (Classical.not_not.mp h63))
                  · simp only; omega
                · refine am_r_iload1 (pc' := 77) rfl rfl ?_
                  refine am_r_iload3 (pc' := 78) rfl rfl ?_
                  refine am_r_idivR (pc' := 79) rfl rfl (by assumption) ?_
                  refine am_r_goto (pc' := 85) rfl rfl ?_
                  refine am_r_istore1 (pc' := 86) rfl rfl rfl ?_
                  refine am_r_aload0 (pc' := 87) rfl rfl ?_
                  refine am_r_invI0 (pc' := 90) rfl rfl rfl (Nat.le_of_ble_eq_true rfl) (m_byteAt (by omega) hM ?_)
                  refine am_r_istore2 (pc' := 91) rfl rfl rfl ?_
                  refine am_r_goto (pc' := 10) rfl rfl ?_
                  have e : q_chain one q_i1 c (k + 1) a = q_chain one q_i1 c k (true, (one (a.2.1 + 1)).2.1, a.2.2.1 ++ (one (a.2.1 + 1)).2.2.1 ++ [(c a.2.1, 0)], fun ν => q_join (c a.2.1) (a.2.2.2 ν) ((one (a.2.1 + 1)).2.2.2 ν)) := (by rw [q_chain, if_pos ⟨ha, hi⟩, if_pos e4])
                  rw [e] at hqT hqF
                  refine ih (true, (one (a.2.1 + 1)).2.1, a.2.2.1 ++ (one (a.2.1 + 1)).2.2.1 ++ [(c a.2.1, 0)], fun ν => q_join (c a.2.1) (a.2.2.2 ν) ((one (a.2.1 + 1)).2.2.2 ν)) _ _ _ ?_ rfl hF hM hO ?_ hqT hqF
                  · subst hv
                    show _ = q_join (c a.2.1) (a.2.2.2 ν) ((one (a.2.1 + 1)).2.2.2 ν)
                    first
                    | (rw [show c a.2.1 = 42 by omega]; rfl)
                    | (rw [show c a.2.1 = 47 by omega]; exact q_j47n h63)
                    | (rw [show c a.2.1 = 37 by omega]; exact q_j37n h63)
                    | (rw [show c a.2.1 = 47 by omega]; exact q_j47z (Classical.not_not.mp h63))
                    | (rw [show c a.2.1 = 37 by omega]; exact q_j37z (Classical.not_not.mp h63))
                  · simp only; omega
              · refine am_r_iconst (pc' := 67) rfl rfl ?_
                refine am_r_goto (pc' := 85) rfl rfl ?_
                refine am_r_istore1 (pc' := 86) rfl rfl rfl ?_
                refine am_r_aload0 (pc' := 87) rfl rfl ?_
                refine am_r_invI0 (pc' := 90) rfl rfl rfl (Nat.le_of_ble_eq_true rfl) (m_byteAt (by omega) hM ?_)
                refine am_r_istore2 (pc' := 91) rfl rfl rfl ?_
                refine am_r_goto (pc' := 10) rfl rfl ?_
                have e : q_chain one q_i1 c (k + 1) a = q_chain one q_i1 c k (true, (one (a.2.1 + 1)).2.1, a.2.2.1 ++ (one (a.2.1 + 1)).2.2.1 ++ [(c a.2.1, 0)], fun ν => q_join (c a.2.1) (a.2.2.2 ν) ((one (a.2.1 + 1)).2.2.2 ν)) := (by rw [q_chain, if_pos ⟨ha, hi⟩, if_pos e4])
                rw [e] at hqT hqF
                refine ih (true, (one (a.2.1 + 1)).2.1, a.2.2.1 ++ (one (a.2.1 + 1)).2.2.1 ++ [(c a.2.1, 0)], fun ν => q_join (c a.2.1) (a.2.2.2 ν) ((one (a.2.1 + 1)).2.2.2 ν)) _ _ _ ?_ rfl hF hM hO ?_ hqT hqF
                · subst hv
                  show _ = q_join (c a.2.1) (a.2.2.2 ν) ((one (a.2.1 + 1)).2.2.2 ν)
                  first
                  | (rw [show c a.2.1 = 42 by omega]; rfl)
                  | (rw [show c a.2.1 = 47 by omega]; exact q_j47n h63)
                  | (rw [show c a.2.1 = 37 by omega]; exact q_j37n h63)
                  | (rw [show c a.2.1 = 47 by omega]; exact q_j47z (Classical.not_not.mp h63))
                  | (rw [show c a.2.1 = 37 by omega]; exact q_j37z (Classical.not_not.mp h63))
                · simp only; omega
            · refine am_r_iload1 (pc' := 57) rfl rfl ?_
              refine am_r_iload3 (pc' := 58) rfl rfl ?_
              refine am_r_imulR (pc' := 59) rfl rfl ?_
              refine am_r_goto (pc' := 85) rfl rfl ?_
              refine am_r_istore1 (pc' := 86) rfl rfl rfl ?_
              refine am_r_aload0 (pc' := 87) rfl rfl ?_
              refine am_r_invI0 (pc' := 90) rfl rfl rfl (Nat.le_of_ble_eq_true rfl) (m_byteAt (by omega) hM ?_)
              refine am_r_istore2 (pc' := 91) rfl rfl rfl ?_
              refine am_r_goto (pc' := 10) rfl rfl ?_
              have e : q_chain one q_i1 c (k + 1) a = q_chain one q_i1 c k (true, (one (a.2.1 + 1)).2.1, a.2.2.1 ++ (one (a.2.1 + 1)).2.2.1 ++ [(c a.2.1, 0)], fun ν => q_join (c a.2.1) (a.2.2.2 ν) ((one (a.2.1 + 1)).2.2.2 ν)) := (by rw [q_chain, if_pos ⟨ha, hi⟩, if_pos e4])
              rw [e] at hqT hqF
              refine ih (true, (one (a.2.1 + 1)).2.1, a.2.2.1 ++ (one (a.2.1 + 1)).2.2.1 ++ [(c a.2.1, 0)], fun ν => q_join (c a.2.1) (a.2.2.2 ν) ((one (a.2.1 + 1)).2.2.2 ν)) _ _ _ ?_ rfl hF hM hO ?_ hqT hqF
              · subst hv
                show _ = q_join (c a.2.1) (a.2.2.2 ν) ((one (a.2.1 + 1)).2.2.2 ν)
                first
                | (rw [show c a.2.1 = 42 by omega]; rfl)
                | (rw [show c a.2.1 = 47 by omega]; exact q_j47n h63)
                | (rw [show c a.2.1 = 37 by omega]; exact q_j37n h63)
                | (rw [show c a.2.1 = 47 by omega]; exact q_j47z (Classical.not_not.mp h63))
                | (rw [show c a.2.1 = 37 by omega]; exact q_j37z (Classical.not_not.mp h63))
              · simp only; omega
          · intro M4 x4 hf4 e4 hM4
            have hM := hM4
            have hpb4 := ms_pb hM4
            have hF := am_fq_tr hF hf4
            have hi : q_i1 (c a.2.1) = true := (by simp only [q_i1, decide_eq_true_eq]; omega)
            have e : q_chain one q_i1 c (k + 1) a = q_no (one (a.2.1 + 1)).2.1 := (by rw [q_chain, if_pos ⟨ha, hi⟩, if_neg (by rw [e4]; decide)])
            rw [e] at hqF
            refine am_r_istore3 (pc' := 50) rfl rfl rfl ?_
            refine am_r_iload2 (pc' := 51) rfl rfl ?_
            refine am_r_iconst (pc' := 53) rfl rfl ?_
            refine am_r_icmp_ne (pt := 62) (pf := 56) rfl rfl rfl (fun h53 => ?_) (fun h53 => ?_)
            · refine am_r_iload3 (pc' := 63) rfl rfl ?_
              refine am_r_if_neR (pt := 70) (pf := 66) rfl rfl rfl (fun h63 => ?_) (fun h63 => ?_)
              · refine am_r_iload2 (pc' := 71) rfl rfl ?_
                refine am_r_iconst (pc' := 73) rfl rfl ?_
                refine am_r_icmp_ne (pt := 82) (pf := 76) rfl rfl rfl (fun h73 => ?_) (fun h73 => ?_)
                · refine am_r_iload1 (pc' := 83) rfl rfl ?_
                  refine am_r_iload3 (pc' := 84) rfl rfl ?_
                  refine am_r_iremR (pc' := 85) rfl rfl (by assumption) ?_
                  refine am_r_istore1 (pc' := 86) rfl rfl rfl ?_
                  refine am_r_aload0 (pc' := 87) rfl rfl ?_
                  refine am_r_invI0 (pc' := 90) rfl rfl rfl (Nat.le_of_ble_eq_true rfl) (m_byteAt (by omega) hM ?_)
                  refine am_r_istore2 (pc' := 91) rfl rfl rfl ?_
                  refine am_r_goto (pc' := 10) rfl rfl ?_
                  refine am_r_aload0 (pc' := 11) rfl rfl ?_
                  refine am_r_getIv (f := 15) (pc' := 14) rfl rfl rfl (ms_f hM) ?_
                  refine am_r_if_ge (pt := 94) (pf := 17) rfl rfl rfl (fun h14 => ?_) (fun h14 => ?_)
                  · refine am_r_iload1 (pc' := 95) rfl rfl ?_
                    refine am_r_iret rfl rfl ?_
                    exact hqF _ _ hF rfl hM
                  · exfalso; omega
                · refine am_r_iload1 (pc' := 77) rfl rfl ?_
                  refine am_r_iload3 (pc' := 78) rfl rfl ?_
                  refine am_r_idivR (pc' := 79) rfl rfl (by assumption) ?_
                  refine am_r_goto (pc' := 85) rfl rfl ?_
                  refine am_r_istore1 (pc' := 86) rfl rfl rfl ?_
                  refine am_r_aload0 (pc' := 87) rfl rfl ?_
                  refine am_r_invI0 (pc' := 90) rfl rfl rfl (Nat.le_of_ble_eq_true rfl) (m_byteAt (by omega) hM ?_)
                  refine am_r_istore2 (pc' := 91) rfl rfl rfl ?_
                  refine am_r_goto (pc' := 10) rfl rfl ?_
                  refine am_r_aload0 (pc' := 11) rfl rfl ?_
                  refine am_r_getIv (f := 15) (pc' := 14) rfl rfl rfl (ms_f hM) ?_
                  refine am_r_if_ge (pt := 94) (pf := 17) rfl rfl rfl (fun h14 => ?_) (fun h14 => ?_)
                  · refine am_r_iload1 (pc' := 95) rfl rfl ?_
                    refine am_r_iret rfl rfl ?_
                    exact hqF _ _ hF rfl hM
                  · exfalso; omega
              · refine am_r_iconst (pc' := 67) rfl rfl ?_
                refine am_r_goto (pc' := 85) rfl rfl ?_
                refine am_r_istore1 (pc' := 86) rfl rfl rfl ?_
                refine am_r_aload0 (pc' := 87) rfl rfl ?_
                refine am_r_invI0 (pc' := 90) rfl rfl rfl (Nat.le_of_ble_eq_true rfl) (m_byteAt (by omega) hM ?_)
                refine am_r_istore2 (pc' := 91) rfl rfl rfl ?_
                refine am_r_goto (pc' := 10) rfl rfl ?_
                refine am_r_aload0 (pc' := 11) rfl rfl ?_
                refine am_r_getIv (f := 15) (pc' := 14) rfl rfl rfl (ms_f hM) ?_
                refine am_r_if_ge (pt := 94) (pf := 17) rfl rfl rfl (fun h14 => ?_) (fun h14 => ?_)
                · refine am_r_iload1 (pc' := 95) rfl rfl ?_
                  refine am_r_iret rfl rfl ?_
                  exact hqF _ _ hF rfl hM
                · exfalso; omega
            · refine am_r_iload1 (pc' := 57) rfl rfl ?_
              refine am_r_iload3 (pc' := 58) rfl rfl ?_
              refine am_r_imulR (pc' := 59) rfl rfl ?_
              refine am_r_goto (pc' := 85) rfl rfl ?_
              refine am_r_istore1 (pc' := 86) rfl rfl rfl ?_
              refine am_r_aload0 (pc' := 87) rfl rfl ?_
              refine am_r_invI0 (pc' := 90) rfl rfl rfl (Nat.le_of_ble_eq_true rfl) (m_byteAt (by omega) hM ?_)
              refine am_r_istore2 (pc' := 91) rfl rfl rfl ?_
              refine am_r_goto (pc' := 10) rfl rfl ?_
              refine am_r_aload0 (pc' := 11) rfl rfl ?_
              refine am_r_getIv (f := 15) (pc' := 14) rfl rfl rfl (ms_f hM) ?_
              refine am_r_if_ge (pt := 94) (pf := 17) rfl rfl rfl (fun h14 => ?_) (fun h14 => ?_)
              · refine am_r_iload1 (pc' := 95) rfl rfl ?_
                refine am_r_iret rfl rfl ?_
                exact hqF _ _ hF rfl hM
              · exfalso; omega
        · refine am_r_iload2 (pc' := 24) rfl rfl ?_
          refine am_r_iconst (pc' := 26) rfl rfl ?_
          refine am_r_icmp_eq (pt := 35) (pf := 29) rfl rfl rfl (fun h26 => ?_) (fun h26 => ?_)
          · refine am_r_aload0 (pc' := 36) rfl rfl ?_
            refine am_r_dup (pc' := 37) rfl rfl rfl ?_
            refine am_r_getIv (f := 13) (pc' := 40) rfl rfl rfl (ms_p hM) ?_
            refine am_r_iconst (pc' := 41) rfl rfl ?_
            refine am_r_iadd (pc' := 42) rfl rfl ?_
            refine am_r_putI (f := 13) (pc' := 45) rfl rfl rfl (by decide) ?_
            have hF := am_fq_up (i := 13) (x := z_I (a.2.1 + 1)) hF (by omega)
            have hO := am_op_e (i := 13) (x := z_I (a.2.1 + 1)) hO (by omega)
            have hM := ms_inc hM (by omega)
            refine am_r_aload0 (pc' := 46) rfl rfl ?_
            refine am_r_invI0 (pc' := 49) rfl rfl rfl (Nat.le_of_ble_eq_true rfl) (hs (by omega) hM hO ?_ ?_)
            · intro M4 hf4 e4 hM4 hO4
              have hM := hM4
              have hO := hO4
              have hF := am_fq_tr hF hf4
              have hi : q_i1 (c a.2.1) = true := (by simp only [q_i1, decide_eq_true_eq]; omega)
              have hg2 := hg (a.2.1 + 1) (by omega) (by omega)
              have hg3 := hg2.2.2 e4
              refine am_r_istore3 (pc' := 50) rfl rfl rfl ?_
              refine am_r_iload2 (pc' := 51) rfl rfl ?_
              refine am_r_iconst (pc' := 53) rfl rfl ?_
              refine am_r_icmp_ne (pt := 62) (pf := 56) rfl rfl rfl (fun h53 => ?_) (fun h53 => ?_)
              · refine am_r_iload3 (pc' := 63) rfl rfl ?_
                refine am_r_if_neR (pt := 70) (pf := 66) rfl rfl rfl (fun h63 => ?_) (fun h63 => ?_)
                · refine am_r_iload2 (pc' := 71) rfl rfl ?_
                  refine am_r_iconst (pc' := 73) rfl rfl ?_
                  refine am_r_icmp_ne (pt := 82) (pf := 76) rfl rfl rfl (fun h73 => ?_) (fun h73 => ?_)
                  · refine am_r_iload1 (pc' := 83) rfl rfl ?_
                    refine am_r_iload3 (pc' := 84) rfl rfl ?_
                    refine am_r_iremR (pc' := 85) rfl rfl (by assumption) ?_
                    refine am_r_istore1 (pc' := 86) rfl rfl rfl ?_
                    refine am_r_aload0 (pc' := 87) rfl rfl ?_
                    refine am_r_invI0 (pc' := 90) rfl rfl rfl (Nat.le_of_ble_eq_true rfl) (m_byteAt (by omega) hM ?_)
                    refine am_r_istore2 (pc' := 91) rfl rfl rfl ?_
                    refine am_r_goto (pc' := 10) rfl rfl ?_
                    have e : q_chain one q_i1 c (k + 1) a = q_chain one q_i1 c k (true, (one (a.2.1 + 1)).2.1, a.2.2.1 ++ (one (a.2.1 + 1)).2.2.1 ++ [(c a.2.1, 0)], fun ν => q_join (c a.2.1) (a.2.2.2 ν) ((one (a.2.1 + 1)).2.2.2 ν)) := (by rw [q_chain, if_pos ⟨ha, hi⟩, if_pos e4])
                    rw [e] at hqT hqF
                    refine ih (true, (one (a.2.1 + 1)).2.1, a.2.2.1 ++ (one (a.2.1 + 1)).2.2.1 ++ [(c a.2.1, 0)], fun ν => q_join (c a.2.1) (a.2.2.2 ν) ((one (a.2.1 + 1)).2.2.2 ν)) _ _ _ ?_ rfl hF hM hO ?_ hqT hqF
                    · subst hv
                      show _ = q_join (c a.2.1) (a.2.2.2 ν) ((one (a.2.1 + 1)).2.2.2 ν)
                      first
                      | (rw [show c a.2.1 = 42 by omega]; rfl)
                      | (rw [show c a.2.1 = 47 by omega]; exact q_j47n h63)
                      | (rw [show c a.2.1 = 37 by omega]; exact q_j37n h63)
                      | (rw [show c a.2.1 = 47 by omega]; exact q_j47z (Classical.not_not.mp h63))
                      | (rw [show c a.2.1 = 37 by omega]; exact q_j37z (Classical.not_not.mp h63))
                    · simp only; omega
                  · refine am_r_iload1 (pc' := 77) rfl rfl ?_
                    refine am_r_iload3 (pc' := 78) rfl rfl ?_
                    refine am_r_idivR (pc' := 79) rfl rfl (by assumption) ?_
                    refine am_r_goto (pc' := 85) rfl rfl ?_
                    refine am_r_istore1 (pc' := 86) rfl rfl rfl ?_
                    refine am_r_aload0 (pc' := 87) rfl rfl ?_
                    refine am_r_invI0 (pc' := 90) rfl rfl rfl (Nat.le_of_ble_eq_true rfl) (m_byteAt (by omega) hM ?_)
                    refine am_r_istore2 (pc' := 91) rfl rfl rfl ?_
                    refine am_r_goto (pc' := 10) rfl rfl ?_
                    have e : q_chain one q_i1 c (k + 1) a = q_chain one q_i1 c k (true, (one (a.2.1 + 1)).2.1, a.2.2.1 ++ (one (a.2.1 + 1)).2.2.1 ++ [(c a.2.1, 0)], fun ν => q_join (c a.2.1) (a.2.2.2 ν) ((one (a.2.1 + 1)).2.2.2 ν)) := (by rw [q_chain, if_pos ⟨ha, hi⟩, if_pos e4])
                    rw [e] at hqT hqF
                    refine ih (true, (one (a.2.1 + 1)).2.1, a.2.2.1 ++ (one (a.2.1 + 1)).2.2.1 ++ [(c a.2.1, 0)], fun ν => q_join (c a.2.1) (a.2.2.2 ν) ((one (a.2.1 + 1)).2.2.2 ν)) _ _ _ ?_ rfl hF hM hO ?_ hqT hqF
                    · subst hv
                      show _ = q_join (c a.2.1) (a.2.2.2 ν) ((one (a.2.1 + 1)).2.2.2 ν)
                      first
                      | (rw [show c a.2.1 = 42 by omega]; rfl)
                      | (rw [show c a.2.1 = 47 by omega]; exact q_j47n h63)
                      | (rw [show c a.2.1 = 37 by omega]; exact q_j37n h63)
                      | (rw [show c a.2.1 = 47 by omega]; exact q_j47z (Classical.not_not.mp h63))
                      | (rw [show c a.2.1 = 37 by omega]; exact q_j37z (Classical.not_not.mp h63))
                    · simp only; omega
                · refine am_r_iconst (pc' := 67) rfl rfl ?_
                  refine am_r_goto (pc' := 85) rfl rfl ?_
                  refine am_r_istore1 (pc' := 86) rfl rfl rfl ?_
                  refine am_r_aload0 (pc' := 87) rfl rfl ?_
                  refine am_r_invI0 (pc' := 90) rfl rfl rfl (Nat.le_of_ble_eq_true rfl) (m_byteAt (by omega) hM ?_)
                  refine am_r_istore2 (pc' := 91) rfl rfl rfl ?_
                  refine am_r_goto (pc' := 10) rfl rfl ?_
                  have e : q_chain one q_i1 c (k + 1) a = q_chain one q_i1 c k (true, (one (a.2.1 + 1)).2.1, a.2.2.1 ++ (one (a.2.1 + 1)).2.2.1 ++ [(c a.2.1, 0)], fun ν => q_join (c a.2.1) (a.2.2.2 ν) ((one (a.2.1 + 1)).2.2.2 ν)) := (by rw [q_chain, if_pos ⟨ha, hi⟩, if_pos e4])
                  rw [e] at hqT hqF
                  refine ih (true, (one (a.2.1 + 1)).2.1, a.2.2.1 ++ (one (a.2.1 + 1)).2.2.1 ++ [(c a.2.1, 0)], fun ν => q_join (c a.2.1) (a.2.2.2 ν) ((one (a.2.1 + 1)).2.2.2 ν)) _ _ _ ?_ rfl hF hM hO ?_ hqT hqF
                  · subst hv
                    show _ = q_join (c a.2.1) (a.2.2.2 ν) ((one (a.2.1 + 1)).2.2.2 ν)
                    first
                    | (rw [show c a.2.1 = 42 by omega]; rfl)
                    | (rw [show c a.2.1 = 47 by omega]; exact q_j47n h63)
                    | (rw [show c a.2.1 = 37 by omega]; exact q_j37n h63)
                    | (rw [show c a.2.1 = 47 by omega]; exact q_j47z (Classical.not_not.mp h63))
                    | (rw [show c a.2.1 = 37 by omega]; exact q_j37z (Classical.not_not.mp h63))
                  · simp only; omega
              · refine am_r_iload1 (pc' := 57) rfl rfl ?_
                refine am_r_iload3 (pc' := 58) rfl rfl ?_
                refine am_r_imulR (pc' := 59) rfl rfl ?_
                refine am_r_goto (pc' := 85) rfl rfl ?_
                refine am_r_istore1 (pc' := 86) rfl rfl rfl ?_
                refine am_r_aload0 (pc' := 87) rfl rfl ?_
                refine am_r_invI0 (pc' := 90) rfl rfl rfl (Nat.le_of_ble_eq_true rfl) (m_byteAt (by omega) hM ?_)
                refine am_r_istore2 (pc' := 91) rfl rfl rfl ?_
                refine am_r_goto (pc' := 10) rfl rfl ?_
                have e : q_chain one q_i1 c (k + 1) a = q_chain one q_i1 c k (true, (one (a.2.1 + 1)).2.1, a.2.2.1 ++ (one (a.2.1 + 1)).2.2.1 ++ [(c a.2.1, 0)], fun ν => q_join (c a.2.1) (a.2.2.2 ν) ((one (a.2.1 + 1)).2.2.2 ν)) := (by rw [q_chain, if_pos ⟨ha, hi⟩, if_pos e4])
                rw [e] at hqT hqF
                refine ih (true, (one (a.2.1 + 1)).2.1, a.2.2.1 ++ (one (a.2.1 + 1)).2.2.1 ++ [(c a.2.1, 0)], fun ν => q_join (c a.2.1) (a.2.2.2 ν) ((one (a.2.1 + 1)).2.2.2 ν)) _ _ _ ?_ rfl hF hM hO ?_ hqT hqF
                · subst hv
                  show _ = q_join (c a.2.1) (a.2.2.2 ν) ((one (a.2.1 + 1)).2.2.2 ν)
                  first
                  | (rw [show c a.2.1 = 42 by omega]; rfl)
                  | (rw [show c a.2.1 = 47 by omega]; exact q_j47n h63)
                  | (rw [show c a.2.1 = 37 by omega]; exact q_j37n h63)
                  | (rw [show c a.2.1 = 47 by omega]; exact q_j47z (Classical.not_not.mp h63))
                  | (rw [show c a.2.1 = 37 by omega]; exact q_j37z (Classical.not_not.mp h63))
                · simp only; omega
            · intro M4 x4 hf4 e4 hM4
              have hM := hM4
              have hpb4 := ms_pb hM4
              have hF := am_fq_tr hF hf4
              have hi : q_i1 (c a.2.1) = true := (by simp only [q_i1, decide_eq_true_eq]; omega)
              have e : q_chain one q_i1 c (k + 1) a = q_no (one (a.2.1 + 1)).2.1 := (by rw [q_chain, if_pos ⟨ha, hi⟩, if_neg (by rw [e4]; decide)])
              rw [e] at hqF
              refine am_r_istore3 (pc' := 50) rfl rfl rfl ?_
              refine am_r_iload2 (pc' := 51) rfl rfl ?_
              refine am_r_iconst (pc' := 53) rfl rfl ?_
              refine am_r_icmp_ne (pt := 62) (pf := 56) rfl rfl rfl (fun h53 => ?_) (fun h53 => ?_)
              · refine am_r_iload3 (pc' := 63) rfl rfl ?_
                refine am_r_if_neR (pt := 70) (pf := 66) rfl rfl rfl (fun h63 => ?_) (fun h63 => ?_)
                · refine am_r_iload2 (pc' := 71) rfl rfl ?_
                  refine am_r_iconst (pc' := 73) rfl rfl ?_
                  refine am_r_icmp_ne (pt := 82) (pf := 76) rfl rfl rfl (fun h73 => ?_) (fun h73 => ?_)
                  · refine am_r_iload1 (pc' := 83) rfl rfl ?_
                    refine am_r_iload3 (pc' := 84) rfl rfl ?_
                    refine am_r_iremR (pc' := 85) rfl rfl (by assumption) ?_
                    refine am_r_istore1 (pc' := 86) rfl rfl rfl ?_
                    refine am_r_aload0 (pc' := 87) rfl rfl ?_
                    refine am_r_invI0 (pc' := 90) rfl rfl rfl (Nat.le_of_ble_eq_true rfl) (m_byteAt (by omega) hM ?_)
                    refine am_r_istore2 (pc' := 91) rfl rfl rfl ?_
                    refine am_r_goto (pc' := 10) rfl rfl ?_
                    refine am_r_aload0 (pc' := 11) rfl rfl ?_
                    refine am_r_getIv (f := 15) (pc' := 14) rfl rfl rfl (ms_f hM) ?_
                    refine am_r_if_ge (pt := 94) (pf := 17) rfl rfl rfl (fun h14 => ?_) (fun h14 => ?_)
                    · refine am_r_iload1 (pc' := 95) rfl rfl ?_
                      refine am_r_iret rfl rfl ?_
                      exact hqF _ _ hF rfl hM
                    · exfalso; omega
                  · refine am_r_iload1 (pc' := 77) rfl rfl ?_
                    refine am_r_iload3 (pc' := 78) rfl rfl ?_
                    refine am_r_idivR (pc' := 79) rfl rfl (by assumption) ?_
                    refine am_r_goto (pc' := 85) rfl rfl ?_
                    refine am_r_istore1 (pc' := 86) rfl rfl rfl ?_
                    refine am_r_aload0 (pc' := 87) rfl rfl ?_
                    refine am_r_invI0 (pc' := 90) rfl rfl rfl (Nat.le_of_ble_eq_true rfl) (m_byteAt (by omega) hM ?_)
                    refine am_r_istore2 (pc' := 91) rfl rfl rfl ?_
                    refine am_r_goto (pc' := 10) rfl rfl ?_
                    refine am_r_aload0 (pc' := 11) rfl rfl ?_
                    refine am_r_getIv (f := 15) (pc' := 14) rfl rfl rfl (ms_f hM) ?_
                    refine am_r_if_ge (pt := 94) (pf := 17) rfl rfl rfl (fun h14 => ?_) (fun h14 => ?_)
                    · refine am_r_iload1 (pc' := 95) rfl rfl ?_
                      refine am_r_iret rfl rfl ?_
                      exact hqF _ _ hF rfl hM
                    · exfalso; omega
                · refine am_r_iconst (pc' := 67) rfl rfl ?_
                  refine am_r_goto (pc' := 85) rfl rfl ?_
                  refine am_r_istore1 (pc' := 86) rfl rfl rfl ?_
                  refine am_r_aload0 (pc' := 87) rfl rfl ?_
                  refine am_r_invI0 (pc' := 90) rfl rfl rfl (Nat.le_of_ble_eq_true rfl) (m_byteAt (by omega) hM ?_)
                  refine am_r_istore2 (pc' := 91) rfl rfl rfl ?_
                  refine am_r_goto (pc' := 10) rfl rfl ?_
                  refine am_r_aload0 (pc' := 11) rfl rfl ?_
                  refine am_r_getIv (f := 15) (pc' := 14) rfl rfl rfl (ms_f hM) ?_
                  refine am_r_if_ge (pt := 94) (pf := 17) rfl rfl rfl (fun h14 => ?_) (fun h14 => ?_)
                  · refine am_r_iload1 (pc' := 95) rfl rfl ?_
                    refine am_r_iret rfl rfl ?_
                    exact hqF _ _ hF rfl hM
                  · exfalso; omega
              · refine am_r_iload1 (pc' := 57) rfl rfl ?_
                refine am_r_iload3 (pc' := 58) rfl rfl ?_
                refine am_r_imulR (pc' := 59) rfl rfl ?_
                refine am_r_goto (pc' := 85) rfl rfl ?_
                refine am_r_istore1 (pc' := 86) rfl rfl rfl ?_
                refine am_r_aload0 (pc' := 87) rfl rfl ?_
                refine am_r_invI0 (pc' := 90) rfl rfl rfl (Nat.le_of_ble_eq_true rfl) (m_byteAt (by omega) hM ?_)
                refine am_r_istore2 (pc' := 91) rfl rfl rfl ?_
                refine am_r_goto (pc' := 10) rfl rfl ?_
                refine am_r_aload0 (pc' := 11) rfl rfl ?_
                refine am_r_getIv (f := 15) (pc' := 14) rfl rfl rfl (ms_f hM) ?_
                refine am_r_if_ge (pt := 94) (pf := 17) rfl rfl rfl (fun h14 => ?_) (fun h14 => ?_)
                · refine am_r_iload1 (pc' := 95) rfl rfl ?_
                  refine am_r_iret rfl rfl ?_
                  exact hqF _ _ hF rfl hM
                · exfalso; omega
          · refine am_r_iload2 (pc' := 30) rfl rfl ?_
            refine am_r_iconst (pc' := 32) rfl rfl ?_
            refine am_r_icmp_ne (pt := 94) (pf := 35) rfl rfl rfl (fun h32 => ?_) (fun h32 => ?_)
            · have e : q_chain one q_i1 c (k + 1) a = a := (by rw [q_chain, if_neg]; rintro ⟨_, q⟩; simp only [q_i1, decide_eq_true_eq] at q; omega)
              rw [e] at hqT
              subst hv
              refine am_r_iload1 (pc' := 95) rfl rfl ?_
              refine am_r_iret rfl rfl ?_
              exact hqT _ hF ha hM hO
            · refine am_r_aload0 (pc' := 36) rfl rfl ?_
              refine am_r_dup (pc' := 37) rfl rfl rfl ?_
              refine am_r_getIv (f := 13) (pc' := 40) rfl rfl rfl (ms_p hM) ?_
              refine am_r_iconst (pc' := 41) rfl rfl ?_
              refine am_r_iadd (pc' := 42) rfl rfl ?_
              refine am_r_putI (f := 13) (pc' := 45) rfl rfl rfl (by decide) ?_
              have hF := am_fq_up (i := 13) (x := z_I (a.2.1 + 1)) hF (by omega)
              have hO := am_op_e (i := 13) (x := z_I (a.2.1 + 1)) hO (by omega)
              have hM := ms_inc hM (by omega)
              refine am_r_aload0 (pc' := 46) rfl rfl ?_
              refine am_r_invI0 (pc' := 49) rfl rfl rfl (Nat.le_of_ble_eq_true rfl) (hs (by omega) hM hO ?_ ?_)
              · intro M4 hf4 e4 hM4 hO4
                have hM := hM4
                have hO := hO4
                have hF := am_fq_tr hF hf4
                have hi : q_i1 (c a.2.1) = true := (by simp only [q_i1, decide_eq_true_eq]; omega)
                have hg2 := hg (a.2.1 + 1) (by omega) (by omega)
                have hg3 := hg2.2.2 e4
                refine am_r_istore3 (pc' := 50) rfl rfl rfl ?_
                refine am_r_iload2 (pc' := 51) rfl rfl ?_
                refine am_r_iconst (pc' := 53) rfl rfl ?_
                refine am_r_icmp_ne (pt := 62) (pf := 56) rfl rfl rfl (fun h53 => ?_) (fun h53 => ?_)
                · refine am_r_iload3 (pc' := 63) rfl rfl ?_
                  refine am_r_if_neR (pt := 70) (pf := 66) rfl rfl rfl (fun h63 => ?_) (fun h63 => ?_)
                  · refine am_r_iload2 (pc' := 71) rfl rfl ?_
                    refine am_r_iconst (pc' := 73) rfl rfl ?_
                    refine am_r_icmp_ne (pt := 82) (pf := 76) rfl rfl rfl (fun h73 => ?_) (fun h73 => ?_)
                    · refine am_r_iload1 (pc' := 83) rfl rfl ?_
                      refine am_r_iload3 (pc' := 84) rfl rfl ?_
                      refine am_r_iremR (pc' := 85) rfl rfl (by assumption) ?_
                      refine am_r_istore1 (pc' := 86) rfl rfl rfl ?_
                      refine am_r_aload0 (pc' := 87) rfl rfl ?_
                      refine am_r_invI0 (pc' := 90) rfl rfl rfl (Nat.le_of_ble_eq_true rfl) (m_byteAt (by omega) hM ?_)
                      refine am_r_istore2 (pc' := 91) rfl rfl rfl ?_
                      refine am_r_goto (pc' := 10) rfl rfl ?_
                      have e : q_chain one q_i1 c (k + 1) a = q_chain one q_i1 c k (true, (one (a.2.1 + 1)).2.1, a.2.2.1 ++ (one (a.2.1 + 1)).2.2.1 ++ [(c a.2.1, 0)], fun ν => q_join (c a.2.1) (a.2.2.2 ν) ((one (a.2.1 + 1)).2.2.2 ν)) := (by rw [q_chain, if_pos ⟨ha, hi⟩, if_pos e4])
                      rw [e] at hqT hqF
                      refine ih (true, (one (a.2.1 + 1)).2.1, a.2.2.1 ++ (one (a.2.1 + 1)).2.2.1 ++ [(c a.2.1, 0)], fun ν => q_join (c a.2.1) (a.2.2.2 ν) ((one (a.2.1 + 1)).2.2.2 ν)) _ _ _ ?_ rfl hF hM hO ?_ hqT hqF
                      · subst hv
                        show _ = q_join (c a.2.1) (a.2.2.2 ν) ((one (a.2.1 + 1)).2.2.2 ν)
                        first
                        | (rw [show c a.2.1 = 42 by omega]; rfl)
                        | (rw [show c a.2.1 = 47 by omega]; exact q_j47n h63)
                        | (rw [show c a.2.1 = 37 by omega]; exact q_j37n h63)
                        | (rw [show c a.2.1 = 47 by omega]; exact q_j47z (Classical.not_not.mp h63))
                        | (rw [show c a.2.1 = 37 by omega]; exact q_j37z (Classical.not_not.mp h63))
                      · simp only; omega
                    · refine am_r_iload1 (pc' := 77) rfl rfl ?_
                      refine am_r_iload3 (pc' := 78) rfl rfl ?_
                      refine am_r_idivR (pc' := 79) rfl rfl (by assumption) ?_
                      refine am_r_goto (pc' := 85) rfl rfl ?_
                      refine am_r_istore1 (pc' := 86) rfl rfl rfl ?_
                      refine am_r_aload0 (pc' := 87) rfl rfl ?_
                      refine am_r_invI0 (pc' := 90) rfl rfl rfl (Nat.le_of_ble_eq_true rfl) (m_byteAt (by omega) hM ?_)
                      refine am_r_istore2 (pc' := 91) rfl rfl rfl ?_
                      refine am_r_goto (pc' := 10) rfl rfl ?_
                      have e : q_chain one q_i1 c (k + 1) a = q_chain one q_i1 c k (true, (one (a.2.1 + 1)).2.1, a.2.2.1 ++ (one (a.2.1 + 1)).2.2.1 ++ [(c a.2.1, 0)], fun ν => q_join (c a.2.1) (a.2.2.2 ν) ((one (a.2.1 + 1)).2.2.2 ν)) := (by rw [q_chain, if_pos ⟨ha, hi⟩, if_pos e4])
                      rw [e] at hqT hqF
                      refine ih (true, (one (a.2.1 + 1)).2.1, a.2.2.1 ++ (one (a.2.1 + 1)).2.2.1 ++ [(c a.2.1, 0)], fun ν => q_join (c a.2.1) (a.2.2.2 ν) ((one (a.2.1 + 1)).2.2.2 ν)) _ _ _ ?_ rfl hF hM hO ?_ hqT hqF
                      · subst hv
                        show _ = q_join (c a.2.1) (a.2.2.2 ν) ((one (a.2.1 + 1)).2.2.2 ν)
                        first
                        | (rw [show c a.2.1 = 42 by omega]; rfl)
                        | (rw [show c a.2.1 = 47 by omega]; exact q_j47n h63)
                        | (rw [show c a.2.1 = 37 by omega]; exact q_j37n h63)
                        | (rw [show c a.2.1 = 47 by omega]; exact q_j47z (Classical.not_not.mp h63))
                        | (rw [show c a.2.1 = 37 by omega]; exact q_j37z (Classical.not_not.mp h63))
                      · simp only; omega
                  · refine am_r_iconst (pc' := 67) rfl rfl ?_
                    refine am_r_goto (pc' := 85) rfl rfl ?_
                    refine am_r_istore1 (pc' := 86) rfl rfl rfl ?_
                    refine am_r_aload0 (pc' := 87) rfl rfl ?_
                    refine am_r_invI0 (pc' := 90) rfl rfl rfl (Nat.le_of_ble_eq_true rfl) (m_byteAt (by omega) hM ?_)
                    refine am_r_istore2 (pc' := 91) rfl rfl rfl ?_
                    refine am_r_goto (pc' := 10) rfl rfl ?_
                    have e : q_chain one q_i1 c (k + 1) a = q_chain one q_i1 c k (true, (one (a.2.1 + 1)).2.1, a.2.2.1 ++ (one (a.2.1 + 1)).2.2.1 ++ [(c a.2.1, 0)], fun ν => q_join (c a.2.1) (a.2.2.2 ν) ((one (a.2.1 + 1)).2.2.2 ν)) := (by rw [q_chain, if_pos ⟨ha, hi⟩, if_pos e4])
                    rw [e] at hqT hqF
                    refine ih (true, (one (a.2.1 + 1)).2.1, a.2.2.1 ++ (one (a.2.1 + 1)).2.2.1 ++ [(c a.2.1, 0)], fun ν => q_join (c a.2.1) (a.2.2.2 ν) ((one (a.2.1 + 1)).2.2.2 ν)) _ _ _ ?_ rfl hF hM hO ?_ hqT hqF
                    · subst hv
                      show _ = q_join (c a.2.1) (a.2.2.2 ν) ((one (a.2.1 + 1)).2.2.2 ν)
                      first
                      | (rw [show c a.2.1 = 42 by omega]; rfl)
                      | (rw [show c a.2.1 = 47 by omega]; exact q_j47n h63)
                      | (rw [show c a.2.1 = 37 by omega]; exact q_j37n h63)
                      | (rw [show c a.2.1 = 47 by omega]; exact q_j47z (Classical.not_not.mp h63))
                      | (rw [show c a.2.1 = 37 by omega]; exact q_j37z (Classical.not_not.mp h63))
                    · simp only; omega
                · refine am_r_iload1 (pc' := 57) rfl rfl ?_
                  refine am_r_iload3 (pc' := 58) rfl rfl ?_
                  refine am_r_imulR (pc' := 59) rfl rfl ?_
                  refine am_r_goto (pc' := 85) rfl rfl ?_
                  refine am_r_istore1 (pc' := 86) rfl rfl rfl ?_
                  refine am_r_aload0 (pc' := 87) rfl rfl ?_
                  refine am_r_invI0 (pc' := 90) rfl rfl rfl (Nat.le_of_ble_eq_true rfl) (m_byteAt (by omega) hM ?_)
                  refine am_r_istore2 (pc' := 91) rfl rfl rfl ?_
                  refine am_r_goto (pc' := 10) rfl rfl ?_
                  have e : q_chain one q_i1 c (k + 1) a = q_chain one q_i1 c k (true, (one (a.2.1 + 1)).2.1, a.2.2.1 ++ (one (a.2.1 + 1)).2.2.1 ++ [(c a.2.1, 0)], fun ν => q_join (c a.2.1) (a.2.2.2 ν) ((one (a.2.1 + 1)).2.2.2 ν)) := (by rw [q_chain, if_pos ⟨ha, hi⟩, if_pos e4])
                  rw [e] at hqT hqF
                  refine ih (true, (one (a.2.1 + 1)).2.1, a.2.2.1 ++ (one (a.2.1 + 1)).2.2.1 ++ [(c a.2.1, 0)], fun ν => q_join (c a.2.1) (a.2.2.2 ν) ((one (a.2.1 + 1)).2.2.2 ν)) _ _ _ ?_ rfl hF hM hO ?_ hqT hqF
                  · subst hv
                    show _ = q_join (c a.2.1) (a.2.2.2 ν) ((one (a.2.1 + 1)).2.2.2 ν)
                    first
                    | (rw [show c a.2.1 = 42 by omega]; rfl)
                    | (rw [show c a.2.1 = 47 by omega]; exact q_j47n h63)
                    | (rw [show c a.2.1 = 37 by omega]; exact q_j37n h63)
                    | (rw [show c a.2.1 = 47 by omega]; exact q_j47z (Classical.not_not.mp h63))
                    | (rw [show c a.2.1 = 37 by omega]; exact q_j37z (Classical.not_not.mp h63))
                  · simp only; omega
              · intro M4 x4 hf4 e4 hM4
                have hM := hM4
                have hpb4 := ms_pb hM4
                have hF := am_fq_tr hF hf4
                have hi : q_i1 (c a.2.1) = true := (by simp only [q_i1, decide_eq_true_eq]; omega)
                have e : q_chain one q_i1 c (k + 1) a = q_no (one (a.2.1 + 1)).2.1 := (by rw [q_chain, if_pos ⟨ha, hi⟩, if_neg (by rw [e4]; decide)])
                rw [e] at hqF
                refine am_r_istore3 (pc' := 50) rfl rfl rfl ?_
                refine am_r_iload2 (pc' := 51) rfl rfl ?_
                refine am_r_iconst (pc' := 53) rfl rfl ?_
                refine am_r_icmp_ne (pt := 62) (pf := 56) rfl rfl rfl (fun h53 => ?_) (fun h53 => ?_)
                · refine am_r_iload3 (pc' := 63) rfl rfl ?_
                  refine am_r_if_neR (pt := 70) (pf := 66) rfl rfl rfl (fun h63 => ?_) (fun h63 => ?_)
                  · refine am_r_iload2 (pc' := 71) rfl rfl ?_
                    refine am_r_iconst (pc' := 73) rfl rfl ?_
                    refine am_r_icmp_ne (pt := 82) (pf := 76) rfl rfl rfl (fun h73 => ?_) (fun h73 => ?_)
                    · refine am_r_iload1 (pc' := 83) rfl rfl ?_
                      refine am_r_iload3 (pc' := 84) rfl rfl ?_
                      refine am_r_iremR (pc' := 85) rfl rfl (by assumption) ?_
                      refine am_r_istore1 (pc' := 86) rfl rfl rfl ?_
                      refine am_r_aload0 (pc' := 87) rfl rfl ?_
                      refine am_r_invI0 (pc' := 90) rfl rfl rfl (Nat.le_of_ble_eq_true rfl) (m_byteAt (by omega) hM ?_)
                      refine am_r_istore2 (pc' := 91) rfl rfl rfl ?_
                      refine am_r_goto (pc' := 10) rfl rfl ?_
                      refine am_r_aload0 (pc' := 11) rfl rfl ?_
                      refine am_r_getIv (f := 15) (pc' := 14) rfl rfl rfl (ms_f hM) ?_
                      refine am_r_if_ge (pt := 94) (pf := 17) rfl rfl rfl (fun h14 => ?_) (fun h14 => ?_)
                      · refine am_r_iload1 (pc' := 95) rfl rfl ?_
                        refine am_r_iret rfl rfl ?_
                        exact hqF _ _ hF rfl hM
                      · exfalso; omega
                    · refine am_r_iload1 (pc' := 77) rfl rfl ?_
                      refine am_r_iload3 (pc' := 78) rfl rfl ?_
                      refine am_r_idivR (pc' := 79) rfl rfl (by assumption) ?_
                      refine am_r_goto (pc' := 85) rfl rfl ?_
                      refine am_r_istore1 (pc' := 86) rfl rfl rfl ?_
                      refine am_r_aload0 (pc' := 87) rfl rfl ?_
                      refine am_r_invI0 (pc' := 90) rfl rfl rfl (Nat.le_of_ble_eq_true rfl) (m_byteAt (by omega) hM ?_)
                      refine am_r_istore2 (pc' := 91) rfl rfl rfl ?_
                      refine am_r_goto (pc' := 10) rfl rfl ?_
                      refine am_r_aload0 (pc' := 11) rfl rfl ?_
                      refine am_r_getIv (f := 15) (pc' := 14) rfl rfl rfl (ms_f hM) ?_
                      refine am_r_if_ge (pt := 94) (pf := 17) rfl rfl rfl (fun h14 => ?_) (fun h14 => ?_)
                      · refine am_r_iload1 (pc' := 95) rfl rfl ?_
                        refine am_r_iret rfl rfl ?_
                        exact hqF _ _ hF rfl hM
                      · exfalso; omega
                  · refine am_r_iconst (pc' := 67) rfl rfl ?_
                    refine am_r_goto (pc' := 85) rfl rfl ?_
                    refine am_r_istore1 (pc' := 86) rfl rfl rfl ?_
                    refine am_r_aload0 (pc' := 87) rfl rfl ?_
                    refine am_r_invI0 (pc' := 90) rfl rfl rfl (Nat.le_of_ble_eq_true rfl) (m_byteAt (by omega) hM ?_)
                    refine am_r_istore2 (pc' := 91) rfl rfl rfl ?_
                    refine am_r_goto (pc' := 10) rfl rfl ?_
                    refine am_r_aload0 (pc' := 11) rfl rfl ?_
                    refine am_r_getIv (f := 15) (pc' := 14) rfl rfl rfl (ms_f hM) ?_
                    refine am_r_if_ge (pt := 94) (pf := 17) rfl rfl rfl (fun h14 => ?_) (fun h14 => ?_)
                    · refine am_r_iload1 (pc' := 95) rfl rfl ?_
                      refine am_r_iret rfl rfl ?_
                      exact hqF _ _ hF rfl hM
                    · exfalso; omega
                · refine am_r_iload1 (pc' := 57) rfl rfl ?_
                  refine am_r_iload3 (pc' := 58) rfl rfl ?_
                  refine am_r_imulR (pc' := 59) rfl rfl ?_
                  refine am_r_goto (pc' := 85) rfl rfl ?_
                  refine am_r_istore1 (pc' := 86) rfl rfl rfl ?_
                  refine am_r_aload0 (pc' := 87) rfl rfl ?_
                  refine am_r_invI0 (pc' := 90) rfl rfl rfl (Nat.le_of_ble_eq_true rfl) (m_byteAt (by omega) hM ?_)
                  refine am_r_istore2 (pc' := 91) rfl rfl rfl ?_
                  refine am_r_goto (pc' := 10) rfl rfl ?_
                  refine am_r_aload0 (pc' := 11) rfl rfl ?_
                  refine am_r_getIv (f := 15) (pc' := 14) rfl rfl rfl (ms_f hM) ?_
                  refine am_r_if_ge (pt := 94) (pf := 17) rfl rfl rfl (fun h14 => ?_) (fun h14 => ?_)
                  · refine am_r_iload1 (pc' := 95) rfl rfl ?_
                    refine am_r_iret rfl rfl ?_
                    exact hqF _ _ hF rfl hM
                  · exfalso; omega
  refine am_bi_of (P := am_pX11_product) (rt := 1) (nL := 4) (Nat.le_of_ble_eq_true rfl) rfl (Nat.le_of_ble_eq_true rfl) rfl rfl rfl ?_
  refine am_r_aload0 (pc' := 1) rfl rfl ?_
  refine am_r_invI0 (pc' := 4) rfl rfl rfl (Nat.le_of_ble_eq_true rfl) (hs (by omega) hM hO ?_ ?_)
  · intro M4 hf4 e4 hM4 hO4
    have hg2 := hg p (by omega) (by omega)
    have hM := hM4
    refine am_r_istore1 (pc' := 5) rfl rfl rfl ?_
    refine am_r_aload0 (pc' := 6) rfl rfl ?_
    refine am_r_invI0 (pc' := 9) rfl rfl rfl (Nat.le_of_ble_eq_true rfl) (m_byteAt (by omega) hM ?_)
    refine am_r_istore2 (pc' := 10) rfl rfl rfl ?_
    exact hloop 120 (one p) _ _ _ rfl e4 hf4 hM4 hO4 (by omega) hqT hqF
  · intro M4 x4 hf4 e4 hM4
    have hM := hM4
    have hpb4 := ms_pb hM4
    have hF := hf4
    have e : q_lev one q_i1 c p = one p := (by unfold q_lev; rw [q_chain, if_neg]; rw [e4]; rintro ⟨q, _⟩; exact absurd q (by decide))
    rw [e] at hqF
    refine am_r_istore1 (pc' := 5) rfl rfl rfl ?_
    refine am_r_aload0 (pc' := 6) rfl rfl ?_
    refine am_r_invI0 (pc' := 9) rfl rfl rfl (Nat.le_of_ble_eq_true rfl) (m_byteAt (by omega) hM ?_)
    refine am_r_istore2 (pc' := 10) rfl rfl rfl ?_
    refine am_r_aload0 (pc' := 11) rfl rfl ?_
    refine am_r_getIv (f := 15) (pc' := 14) rfl rfl rfl (ms_f hM) ?_
    refine am_r_if_ge (pt := 94) (pf := 17) rfl rfl rfl (fun h14 => ?_) (fun h14 => ?_)
    · refine am_r_iload1 (pc' := 95) rfl rfl ?_
      refine am_r_iret rfl rfl ?_
      exact hqF _ _ hF e4 hM
    · exfalso; omega
