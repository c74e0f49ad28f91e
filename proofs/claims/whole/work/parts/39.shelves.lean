/-! SHELVES, the class -/
def h_set (η : Hs) (e : Int) (v : Int × Int × (Int → Int)) : Hs := fun x => if x = e then v else η x
theorem h_set_e (η : Hs) (e : Int) (v : Int × Int × (Int → Int)) : h_set η e v e = v := if_pos rfl
theorem h_set_n (η : Hs) (e : Int) (v : Int × Int × (Int → Int)) {x : Int} (h : x ≠ e) : h_set η e v x = η x := if_neg h
theorem hb_set {η : Hs} (h : HB η) {e : Int} {v : Int × Int × (Int → Int)} (hv : (-1 ≤ v.1 ∧ v.1 ≤ 54) ∧ (50 ≤ v.1 → (0 ≤ v.2.1 ∧ v.2.1 ≤ 60) ∧ ∀ i, 0 ≤ i ∧ i < 60 → (-9223372036854775808 ≤ v.2.2 i ∧ v.2.2 i < 9223372036854775808) ∧ (v.1 = 50 → -128 ≤ v.2.2 i ∧ v.2.2 i ≤ 127))) : HB (h_set η e v) := fun x hx => by
  unfold h_k h_n h_v
  by_cases q : x = e
  · rw [q, h_set_e]; exact hv
  · rw [h_set_n _ _ _ q]; exact h x hx
/-- one shelf, as its cells have it -/
def HX1 (M : Am_M) (v : Int × Int × (Int → Int)) (x : Int) : Prop := M.1 39 x.toNat = z_I (h_hd v.1) ∧ (0 ≤ v.1 ∧ v.1 < 50 → M.1 40 x.toNat = z_I v.1) ∧ (50 ≤ v.1 → M.1 41 x.toNat = z_I (v.1 - 50) ∧ M.1 42 x.toNat = z_I v.2.1 ∧ ∀ i, 0 ≤ i ∧ i < 60 → M.2 (44 + x.toNat) i.toNat = z_L (v.2.2 i))
theorem hx_set {M M' : Am_M} {η : Hs} (h : HX M η) {e : Int} {v : Int × Int × (Int → Int)} (hb : HB (h_set η e v)) (hn : ∀ x, 0 ≤ x ∧ x < 6 → x ≠ e → (M'.1 39 x.toNat = M.1 39 x.toNat ∧ M'.1 40 x.toNat = M.1 40 x.toNat ∧ M'.1 41 x.toNat = M.1 41 x.toNat ∧ M'.1 42 x.toNat = M.1 42 x.toNat) ∧ M'.2 (44 + x.toNat) = M.2 (44 + x.toNat)) (he : HX1 M' v e) : HX M' (h_set η e v) := by
  refine ⟨hb, fun x hx => ?_⟩
  unfold h_k h_n h_v
  by_cases q : x = e
  · rw [q, h_set_e]; exact he
  · rw [h_set_n _ _ _ q]
    obtain ⟨⟨a1, a2, a3, a4⟩, a5⟩ := hn x hx q
    rw [a1, a2, a3, a4, a5]
    exact h.2 x hx
def h_bb (s v : Int) : Int := if s = 0 then Int.bmod v 256 else if s = 1 then Int.bmod v 65536 else if s = 2 then Int.bmod v 4294967296 else if s = 4 then (if v = 0 then 0 else 1) else v
theorem z_bm (v : Int) : (-128 ≤ Int.bmod v 256 ∧ Int.bmod v 256 < 128) ∧ (-32768 ≤ Int.bmod v 65536 ∧ Int.bmod v 65536 < 32768) ∧ (-2147483648 ≤ Int.bmod v 4294967296 ∧ Int.bmod v 4294967296 < 2147483648) := by
  have a1 := Int.le_bmod (x := v) (m := 256) (by decide)
  have a2 := Int.bmod_lt (x := v) (m := 256) (by decide)
  have a3 := Int.le_bmod (x := v) (m := 65536) (by decide)
  have a4 := Int.bmod_lt (x := v) (m := 65536) (by decide)
  have a5 := Int.le_bmod (x := v) (m := 4294967296) (by decide)
  have a6 := Int.bmod_lt (x := v) (m := 4294967296) (by decide)
  omega
theorem h_bb_b {s v : Int} (hv : -9223372036854775808 ≤ v ∧ v < 9223372036854775808) : (-9223372036854775808 ≤ h_bb s v ∧ h_bb s v < 9223372036854775808) ∧ (s = 0 → -128 ≤ h_bb s v ∧ h_bb s v ≤ 127) := by
  have hm := z_bm v
  unfold h_bb
  repeat' split
  all_goals omega
theorem z_l2 {v : Int} : (z_L v).toInt32 = z_I v := z_li v
theorem z_itI (v : Int) : (z_I v).toInt = Int.bmod v 4294967296 := Int32.toInt_ofInt
theorem z_b8 (v : Int) : (z_I v).toInt8.toInt32.toInt64 = z_L (Int.bmod v 256) := by
  have hm := z_bm v
  apply Int64.toInt_inj.mp
  rw [Int32.toInt_toInt64, Int8.toInt_toInt32, Int32.toInt_toInt8, z_toIntL (by omega), z_itI]
  exact Int.bmod_bmod_of_dvd (by decide)
theorem z_b16 (v : Int) : (z_I v).toInt16.toInt32.toInt64 = z_L (Int.bmod v 65536) := by
  have hm := z_bm v
  apply Int64.toInt_inj.mp
  rw [Int32.toInt_toInt64, Int16.toInt_toInt32, Int32.toInt_toInt16, z_toIntL (by omega), z_itI]
  exact Int.bmod_bmod_of_dvd (by decide)
theorem z_b32 (v : Int) : (z_I v).toInt64 = z_L (Int.bmod v 4294967296) := by
  have hm := z_bm v
  apply Int64.toInt_inj.mp
  rw [Int32.toInt_toInt64, z_toIntL (by omega), z_itI]
theorem c_lowest {sL : Nat} {xs : Nat → Int32} {d : Nat} {M : Am_M} {Q : Int64 → Am_M → Prop} (hd : 1 ≤ d) {s v : Int} (hs : 0 ≤ s ∧ s ≤ 4) (hv : -9223372036854775808 ≤ v ∧ v < 9223372036854775808) (hq : Q (z_L (h_bb s v)) M) : am_bl sL xs d 68 [.int (z_I s), .long (z_L v)] M Q := by
  obtain ⟨d, rfl⟩ : ∃ e, d = e + 1 := ⟨d - 1, by omega⟩
  refine am_bl_of (P := am_pX6_lowest) (rt := 3) (nL := 3) (Nat.le_of_ble_eq_true rfl) rfl (Nat.le_of_ble_eq_true rfl) rfl rfl rfl ?_
  refine am_r_iload0 (pc' := 1) rfl rfl ?_
  rcases (show s = 0 ∨ s = 1 ∨ s = 2 ∨ s = 3 ∨ s = 4 ∨ (¬ s = 0 ∧ ¬ s = 1 ∧ ¬ s = 2 ∧ ¬ s = 3 ∧ ¬ s = 4) by omega) with rfl | rfl | rfl | rfl | rfl | hsw1
  · refine am_r_tsw (t := 36) rfl rfl ?_
    refine am_r_lload1 (pc' := 37) rfl rfl ?_
    refine am_r_l2i (pc' := 38) rfl rfl ?_
    refine am_r_i2b (pc' := 39) rfl rfl ?_
    refine am_r_i2lR (pc' := 40) rfl rfl ?_
    refine am_r_lret rfl rfl ?_
    rw [z_b8]
    exact hq
  · refine am_r_tsw (t := 41) rfl rfl ?_
    refine am_r_lload1 (pc' := 42) rfl rfl ?_
    refine am_r_l2i (pc' := 43) rfl rfl ?_
    refine am_r_i2s (pc' := 44) rfl rfl ?_
    refine am_r_i2lR (pc' := 45) rfl rfl ?_
    refine am_r_lret rfl rfl ?_
    rw [z_b16]
    exact hq
  · refine am_r_tsw (t := 46) rfl rfl ?_
    refine am_r_lload1 (pc' := 47) rfl rfl ?_
    refine am_r_l2i (pc' := 48) rfl rfl ?_
    refine am_r_i2lR (pc' := 49) rfl rfl ?_
    refine am_r_lret rfl rfl ?_
    rw [z_b32]
    exact hq
  · refine am_r_tsw (t := 62) rfl rfl ?_
    refine am_r_lload1 (pc' := 63) rfl rfl ?_
    refine am_r_lret rfl rfl ?_
    first
    | exact hq
    | (exfalso; omega)
  · refine am_r_tsw (t := 50) rfl rfl ?_
    refine am_r_lload1 (pc' := 51) rfl rfl ?_
    refine am_r_lconst (z := 0) (pc' := 52) rfl rfl rfl ?_
    refine am_r_lcmp (pc' := 53) rfl rfl ?_
    refine am_r_lif_eq (pt := 60) (pf := 56) rfl rfl rfl (fun h53 => ?_) (fun h53 => ?_)
    · refine am_r_lconst (z := 0) (pc' := 61) rfl rfl rfl ?_
      refine am_r_lret rfl rfl ?_
      first
      | (rw [show h_bb 4 v = 0 from if_pos h53] at hq; exact hq)
      | (rw [show h_bb 4 v = 1 from if_neg h53] at hq; exact hq)
    · refine am_r_lconst (z := 1) (pc' := 57) rfl rfl rfl ?_
      refine am_r_goto (pc' := 61) rfl rfl ?_
      refine am_r_lret rfl rfl ?_
      first
      | (rw [show h_bb 4 v = 0 from if_pos h53] at hq; exact hq)
      | (rw [show h_bb 4 v = 1 from if_neg h53] at hq; exact hq)
  · refine am_r_tsw (t := 62) rfl (by rw [if_pos (by omega)]; rfl) ?_
    refine am_r_lload1 (pc' := 63) rfl rfl ?_
    refine am_r_lret rfl rfl ?_
    first
    | exact hq
    | (exfalso; omega)
theorem c_fill0 {sL : Nat} {xs : Nat → Int32} {d : Nat} {M : Am_M} {Q : Am_M → Prop} (hd : 1 ≤ d) {e : Int} (he : 0 ≤ e ∧ e < 6) (hq : ∀ M' : Am_M, M'.1 = M.1 → (∀ k, k ≠ 44 + e.toNat → M'.2 k = M.2 k) → (∀ i : Int, 0 ≤ i ∧ i < 60 → M'.2 (44 + e.toNat) i.toNat = z_L 0) → Q M') : am_bv sL xs d 262 [.ref (44 + e.toNat), .long (z_L 0)] M Q := by
  obtain ⟨d, rfl⟩ : ∃ e, d = e + 1 := ⟨d - 1, by omega⟩
  have hloop : ∀ (k : Nat) (i : Int) (N : Am_M), 0 ≤ i ∧ i + k = 60 → N.1 = M.1 → (∀ k, k ≠ 44 + e.toNat → N.2 k = M.2 k) → (∀ j : Int, 0 ≤ j ∧ j < i → N.2 (44 + e.toNat) j.toNat = z_L 0) → am_rw sL xs d am_pJ7_fill_d0a16 0 6 [.ref (44 + e.toNat), .long (z_L 0), .null, .int (z_I i), .int (z_I 60)] [] N (am_pv Q) := by
    intro k
    induction k with
    | zero =>
      intro i N hk h1 h2 h3
      refine am_r_iload3 (pc' := 7) rfl rfl ?_
      refine am_r_iload4 (pc' := 9) rfl rfl ?_
      refine am_r_icmp_ge (pt := 22) (pf := 12) rfl rfl rfl (fun h9 => ?_) (fun h9 => ?_)
      · refine am_r_vret rfl rfl ?_
        exact hq N h1 h2 (fun j hj => h3 j (by omega))
      · exfalso; omega
    | succ k ih =>
      intro i N hk h1 h2 h3
      refine am_r_iload3 (pc' := 7) rfl rfl ?_
      refine am_r_iload4 (pc' := 9) rfl rfl ?_
      refine am_r_icmp_ge (pt := 22) (pf := 12) rfl rfl rfl (fun h9 => ?_) (fun h9 => ?_)
      · exfalso; omega
      · refine am_r_aload0 (pc' := 13) rfl rfl ?_
        refine am_r_iload3 (pc' := 14) rfl rfl ?_
        refine am_r_lload1 (pc' := 15) rfl rfl ?_
        refine am_r_last (n := 60) (pc' := 16) rfl rfl (am_row6z he) (by decide) ?_
        refine am_r_iinc3 (pc' := 19) rfl rfl rfl ?_
        refine am_r_goto (pc' := 6) rfl rfl ?_
        refine ih _ _ (by omega) h1 (fun q hq2 => ?_) (fun j hj => ?_)
        · funext z
          simp [am_upL, hq2]
          exact congrFun (h2 q hq2) z
        · by_cases q : j = i
          · rw [q]; simp [am_upL]
          · have q2 : ¬ j.toNat = i.toNat := by omega
            have := h3 j (by omega)
            simpa [am_upL, q2] using this
  refine am_bv_of (P := am_pJ7_fill_d0a16) (rt := 0) (nL := 5) (Nat.le_of_ble_eq_true rfl) rfl (Nat.le_of_ble_eq_true rfl) rfl rfl rfl ?_
  refine am_r_iconst (pc' := 1) rfl rfl ?_
  refine am_r_istore3 (pc' := 2) rfl rfl rfl ?_
  refine am_r_aload0 (pc' := 3) rfl rfl ?_
  refine am_r_alenL (n := 60) (z := 60) (pc' := 4) rfl rfl (am_row6z he) rfl ?_
  refine am_r_istore4 (pc' := 6) rfl rfl rfl ?_
  exact hloop 60 0 M (by omega) rfl (fun _ _ => rfl) (fun j hj => by omega)
def t_keep (η : Hs) (n e w : Int) : Hs := if (0 ≤ e ∧ e < 6) ∧ (w = -1 ∨ (0 ≤ w ∧ w < n)) then h_set η e (w, 0, fun _ => 0) else η
def r_keep (n e w : Int) : Int := if (0 ≤ e ∧ e < 6) ∧ (w = -1 ∨ (0 ≤ w ∧ w < n)) then 1 else -1
theorem am_bv_mono {sL : Nat} {xs : Nat → Int32} {d j : Nat} {as : List Value} {M : Am_M} {Q Q' : Am_M → Prop} (h : am_bv sL xs d j as M Q) (k : ∀ M', Q M' → Q' M') : am_bv sL xs d j as M Q' := by
  obtain ⟨M', h1, h2⟩ := h
  exact ⟨M', h1, k M' h2⟩
theorem c_clear {sL : Nat} {xs : Nat → Int32} {d : Nat} {M : Am_M} (hd : 1 ≤ d) {e : Int} (he : 0 ≤ e ∧ e < 6) : am_bv sL xs d 60 [.ref 38, .int (z_I e)] M (fun M' => M' = am_upI M 39 e.toNat (z_I 0)) := by
  obtain ⟨d, rfl⟩ : ∃ e, d = e + 1 := ⟨d - 1, by omega⟩
  refine am_bv_of (P := am_pX6_clear) (rt := 0) (nL := 2) (Nat.le_of_ble_eq_true rfl) rfl (Nat.le_of_ble_eq_true rfl) rfl rfl rfl ?_
  refine am_r_aload0 (pc' := 1) rfl rfl ?_
  refine am_r_getR (t := 39) (pc' := 4) rfl rfl rfl ?_
  refine am_r_iload1 (pc' := 5) rfl rfl ?_
  refine am_r_iconst (pc' := 6) rfl rfl ?_
  refine am_r_iast (n := 6) (pc' := 7) rfl rfl (rfl) (by decide) ?_
  refine am_r_vret rfl rfl ?_
  rfl
theorem c_holdMood {sL : Nat} {xs : Nat → Int32} {d : Nat} {M : Am_M} (hd : 1 ≤ d) {e w : Int} (he : 0 ≤ e ∧ e < 6) : am_bv sL xs d 61 [.ref 38, .int (z_I e), .int (z_I w)] M (fun M' => M' = am_upI (am_upI M 39 e.toNat (z_I 1)) 40 e.toNat (z_I w)) := by
  obtain ⟨d, rfl⟩ : ∃ e, d = e + 1 := ⟨d - 1, by omega⟩
  refine am_bv_of (P := am_pX6_holdMood) (rt := 0) (nL := 3) (Nat.le_of_ble_eq_true rfl) rfl (Nat.le_of_ble_eq_true rfl) rfl rfl rfl ?_
  refine am_r_aload0 (pc' := 1) rfl rfl ?_
  refine am_r_getR (t := 39) (pc' := 4) rfl rfl rfl ?_
  refine am_r_iload1 (pc' := 5) rfl rfl ?_
  refine am_r_iconst (pc' := 6) rfl rfl ?_
  refine am_r_iast (n := 6) (pc' := 7) rfl rfl (rfl) (by decide) ?_
  refine am_r_aload0 (pc' := 8) rfl rfl ?_
  refine am_r_getR (t := 40) (pc' := 11) rfl rfl rfl ?_
  refine am_r_iload1 (pc' := 12) rfl rfl ?_
  refine am_r_iload2 (pc' := 13) rfl rfl ?_
  refine am_r_iast (n := 6) (pc' := 14) rfl rfl (rfl) (by decide) ?_
  refine am_r_vret rfl rfl ?_
  rfl
theorem c_keep {sL : Nat} {xs : Nat → Int32} {d : Nat} {M : Am_M} {Q : Int32 → Am_M → Prop} (hd : 2 ≤ d) {η : Hs} (hH : HX M η) {κ : Int → Int} {n : Int} {l : List Int} (hO : OK M κ n l) {e : Int} (he : -2147483648 ≤ e ∧ e < 2147483648) {w : Int} (hw : -2147483648 ≤ w ∧ w < 2147483648)  (hq : ∀ M', am_fr 38 49 M M' → HX M' (t_keep η n e w) → Q (z_I (r_keep n e w)) M') : am_bi sL xs d 146 [.ref 0, .int (z_I e), .int (z_I w)] M Q := by
  obtain ⟨d, rfl⟩ : ∃ e, d = e + 1 := ⟨d - 1, by omega⟩
  have hnb := ok_nb hO
  refine am_bi_of (P := am_pX10_keep) (rt := 1) (nL := 3) (Nat.le_of_ble_eq_true rfl) rfl (Nat.le_of_ble_eq_true rfl) rfl rfl rfl ?_
  refine am_r_iload1 (pc' := 1) rfl rfl ?_
  refine am_r_ivsI1 (pc' := 4) rfl rfl rfl (Nat.le_of_ble_eq_true rfl) (c_isShelf (by omega) (by omega) ?_)
  refine am_r_if_eqB (pt := 23) (pf := 7) rfl rfl rfl (fun h4 => ?_) (fun h4 => ?_)
  · refine am_r_iconst (pc' := 24) rfl rfl ?_
    refine am_r_iret rfl rfl ?_
    have e0 : ¬ ((0 ≤ e ∧ e < 6) ∧ (w = -1 ∨ (0 ≤ w ∧ w < n))) := by omega
    rw [show t_keep η n e w = η from if_neg e0, show r_keep n e w = -1 from if_neg e0] at hq
    exact hq M (am_fr_rf _ _ _) hH
  · refine am_r_iload2 (pc' := 8) rfl rfl ?_
    refine am_r_iconst (pc' := 9) rfl rfl ?_
    refine am_r_icmp_eq (pt := 25) (pf := 12) rfl rfl rfl (fun h9 => ?_) (fun h9 => ?_)
    · refine am_r_iload2 (pc' := 26) rfl rfl ?_
      refine am_r_iconst (pc' := 27) rfl rfl ?_
      refine am_r_icmp_ne (pt := 41) (pf := 30) rfl rfl rfl (fun h27 => ?_) (fun h27 => ?_)
      · refine am_r_aload0 (pc' := 42) rfl rfl ?_
        refine am_r_getR (t := 38) (pc' := 45) rfl rfl rfl ?_
        refine am_r_iload1 (pc' := 46) rfl rfl ?_
        refine am_r_iload2 (pc' := 47) rfl rfl ?_
        refine am_r_invV2 (pc' := 50) rfl rfl rfl (Nat.le_of_ble_eq_true rfl) (am_bv_mono (c_holdMood (by omega) (e := e) (w := w) (by omega)) ?_)
        · intro M3 h3
          subst h3
          refine am_r_iconst (pc' := 51) rfl rfl ?_
          refine am_r_iret rfl rfl ?_
          have e0 : (0 ≤ e ∧ e < 6) ∧ (w = -1 ∨ (0 ≤ w ∧ w < n)) := by omega
          rw [show t_keep η n e w = h_set η e (w, 0, fun _ => 0) from if_pos e0, show r_keep n e w = 1 from if_pos e0] at hq
          have hb : HB (h_set η e (w, 0, fun _ => 0)) := hb_set hH.1 ⟨by simp only; omega, fun q => by simp only at q; omega⟩
          refine hq _ (am_fr_upI (am_fr_upI (am_fr_rf _ _ _) (by omega)) (by omega)) (hx_set hH hb (fun x hx q => ?_) ⟨?_, fun q => ?_, fun q => ?_⟩)
          · have q2 : x.toNat ≠ e.toNat := by omega
            refine ⟨⟨?_, ?_, ?_, ?_⟩, ?_⟩ <;> simp [am_upI, q2]
          · have hh := h_hd_b w
            simp only
            rw [show h_hd w = 1 by omega]
            simp [am_upI]
          · simp only at q
            first
            | (exfalso; omega)
            | simp [am_upI]
          · simp only at q
            exfalso; omega
      · refine am_r_aload0 (pc' := 31) rfl rfl ?_
        refine am_r_getR (t := 38) (pc' := 34) rfl rfl rfl ?_
        refine am_r_iload1 (pc' := 35) rfl rfl ?_
        refine am_r_invV1 (pc' := 38) rfl rfl rfl (Nat.le_of_ble_eq_true rfl) (am_bv_mono (c_clear (by omega) (e := e) (by omega)) ?_)
        · intro M3 h3
          subst h3
          refine am_r_goto (pc' := 50) rfl rfl ?_
          refine am_r_iconst (pc' := 51) rfl rfl ?_
          refine am_r_iret rfl rfl ?_
          have e0 : (0 ≤ e ∧ e < 6) ∧ (w = -1 ∨ (0 ≤ w ∧ w < n)) := by omega
          rw [show t_keep η n e w = h_set η e (w, 0, fun _ => 0) from if_pos e0, show r_keep n e w = 1 from if_pos e0] at hq
          have hb : HB (h_set η e (w, 0, fun _ => 0)) := hb_set hH.1 ⟨by simp only; omega, fun q => by simp only at q; omega⟩
          refine hq _ (am_fr_upI (am_fr_rf _ _ _) (by omega)) (hx_set hH hb (fun x hx q => ?_) ⟨?_, fun q => ?_, fun q => ?_⟩)
          · have q2 : x.toNat ≠ e.toNat := by omega
            refine ⟨⟨?_, ?_, ?_, ?_⟩, ?_⟩ <;> simp [am_upI, q2]
          · have hh := h_hd_b w
            simp only
            rw [show h_hd w = 0 by omega]
            simp [am_upI]
          · simp only at q
            first
            | (exfalso; omega)
            | simp [am_upI]
          · simp only at q
            exfalso; omega
    · refine am_r_aload0 (pc' := 13) rfl rfl ?_
      refine am_r_getR (t := 50) (pc' := 16) rfl rfl rfl ?_
      refine am_r_iload2 (pc' := 17) rfl rfl ?_
      refine am_r_invI1 (pc' := 20) rfl rfl rfl (Nat.le_of_ble_eq_true rfl) (c_hasMood (by omega) hO (by omega) ?_)
      refine am_r_if_neB (pt := 25) (pf := 23) rfl rfl rfl (fun h20 => ?_) (fun h20 => ?_)
      · refine am_r_iload2 (pc' := 26) rfl rfl ?_
        refine am_r_iconst (pc' := 27) rfl rfl ?_
        refine am_r_icmp_ne (pt := 41) (pf := 30) rfl rfl rfl (fun h27 => ?_) (fun h27 => ?_)
        · refine am_r_aload0 (pc' := 42) rfl rfl ?_
          refine am_r_getR (t := 38) (pc' := 45) rfl rfl rfl ?_
          refine am_r_iload1 (pc' := 46) rfl rfl ?_
          refine am_r_iload2 (pc' := 47) rfl rfl ?_
          refine am_r_invV2 (pc' := 50) rfl rfl rfl (Nat.le_of_ble_eq_true rfl) (am_bv_mono (c_holdMood (by omega) (e := e) (w := w) (by omega)) ?_)
          · intro M3 h3
            subst h3
            refine am_r_iconst (pc' := 51) rfl rfl ?_
            refine am_r_iret rfl rfl ?_
            have e0 : (0 ≤ e ∧ e < 6) ∧ (w = -1 ∨ (0 ≤ w ∧ w < n)) := by omega
            rw [show t_keep η n e w = h_set η e (w, 0, fun _ => 0) from if_pos e0, show r_keep n e w = 1 from if_pos e0] at hq
            have hb : HB (h_set η e (w, 0, fun _ => 0)) := hb_set hH.1 ⟨by simp only; omega, fun q => by simp only at q; omega⟩
            refine hq _ (am_fr_upI (am_fr_upI (am_fr_rf _ _ _) (by omega)) (by omega)) (hx_set hH hb (fun x hx q => ?_) ⟨?_, fun q => ?_, fun q => ?_⟩)
            · have q2 : x.toNat ≠ e.toNat := by omega
              refine ⟨⟨?_, ?_, ?_, ?_⟩, ?_⟩ <;> simp [am_upI, q2]
            · have hh := h_hd_b w
              simp only
              rw [show h_hd w = 1 by omega]
              simp [am_upI]
            · simp only at q
              first
              | (exfalso; omega)
              | simp [am_upI]
            · simp only at q
              exfalso; omega
        · refine am_r_aload0 (pc' := 31) rfl rfl ?_
          refine am_r_getR (t := 38) (pc' := 34) rfl rfl rfl ?_
          refine am_r_iload1 (pc' := 35) rfl rfl ?_
          refine am_r_invV1 (pc' := 38) rfl rfl rfl (Nat.le_of_ble_eq_true rfl) (am_bv_mono (c_clear (by omega) (e := e) (by omega)) ?_)
          · intro M3 h3
            subst h3
            refine am_r_goto (pc' := 50) rfl rfl ?_
            refine am_r_iconst (pc' := 51) rfl rfl ?_
            refine am_r_iret rfl rfl ?_
            have e0 : (0 ≤ e ∧ e < 6) ∧ (w = -1 ∨ (0 ≤ w ∧ w < n)) := by omega
            rw [show t_keep η n e w = h_set η e (w, 0, fun _ => 0) from if_pos e0, show r_keep n e w = 1 from if_pos e0] at hq
            have hb : HB (h_set η e (w, 0, fun _ => 0)) := hb_set hH.1 ⟨by simp only; omega, fun q => by simp only at q; omega⟩
            refine hq _ (am_fr_upI (am_fr_rf _ _ _) (by omega)) (hx_set hH hb (fun x hx q => ?_) ⟨?_, fun q => ?_, fun q => ?_⟩)
            · have q2 : x.toNat ≠ e.toNat := by omega
              refine ⟨⟨?_, ?_, ?_, ?_⟩, ?_⟩ <;> simp [am_upI, q2]
            · have hh := h_hd_b w
              simp only
              rw [show h_hd w = 0 by omega]
              simp [am_upI]
            · simp only at q
              first
              | (exfalso; omega)
              | simp [am_upI]
            · simp only at q
              exfalso; omega
      · refine am_r_iconst (pc' := 24) rfl rfl ?_
        refine am_r_iret rfl rfl ?_
        have e0 : ¬ ((0 ≤ e ∧ e < 6) ∧ (w = -1 ∨ (0 ≤ w ∧ w < n))) := by omega
        rw [show t_keep η n e w = η from if_neg e0, show r_keep n e w = -1 from if_neg e0] at hq
        exact hq M (am_fr_rf _ _ _) hH
def r_rowc (e s n : Int) : Int := if (0 ≤ e ∧ e < 6) ∧ (0 ≤ s ∧ s ≤ 4) ∧ n ≤ 60 then (if n < 0 then -14 else 1) else -1
def t_row (η : Hs) (e s n : Int) : Hs := if (0 ≤ e ∧ e < 6) ∧ (0 ≤ s ∧ s ≤ 4) ∧ n ≤ 60 ∧ 0 ≤ n then h_set η e (50 + s, n, fun _ => 0) else η
theorem c_holdRow {sL : Nat} {xs : Nat → Int32} {d : Nat} {M : Am_M} {Q : Am_M → Prop} (hd : 2 ≤ d) {η : Hs} (hH : HX M η) {e s n : Int} (he : 0 ≤ e ∧ e < 6) (hs : 0 ≤ s ∧ s ≤ 4) (hn : 0 ≤ n ∧ n ≤ 60) (hq : ∀ M', am_fr 38 49 M M' → HX M' (h_set η e (50 + s, n, fun _ => 0)) → Q M') : am_bv sL xs d 62 [.ref 38, .int (z_I e), .int (z_I s), .int (z_I n)] M Q := by
  obtain ⟨d, rfl⟩ : ∃ e, d = e + 1 := ⟨d - 1, by omega⟩
  refine am_bv_of (P := am_pX6_holdRow) (rt := 0) (nL := 4) (Nat.le_of_ble_eq_true rfl) rfl (Nat.le_of_ble_eq_true rfl) rfl rfl rfl ?_
  refine am_r_aload0 (pc' := 1) rfl rfl ?_
  refine am_r_getR (t := 39) (pc' := 4) rfl rfl rfl ?_
  refine am_r_iload1 (pc' := 5) rfl rfl ?_
  refine am_r_iconst (pc' := 6) rfl rfl ?_
  refine am_r_iast (n := 6) (pc' := 7) rfl rfl (rfl) (by decide) ?_
  refine am_r_aload0 (pc' := 8) rfl rfl ?_
  refine am_r_getR (t := 41) (pc' := 11) rfl rfl rfl ?_
  refine am_r_iload1 (pc' := 12) rfl rfl ?_
  refine am_r_iload2 (pc' := 13) rfl rfl ?_
  refine am_r_iast (n := 6) (pc' := 14) rfl rfl (rfl) (by decide) ?_
  refine am_r_aload0 (pc' := 15) rfl rfl ?_
  refine am_r_getR (t := 42) (pc' := 18) rfl rfl rfl ?_
  refine am_r_iload1 (pc' := 19) rfl rfl ?_
  refine am_r_iload3 (pc' := 20) rfl rfl ?_
  refine am_r_iast (n := 6) (pc' := 21) rfl rfl (rfl) (by decide) ?_
  refine am_r_aload0 (pc' := 22) rfl rfl ?_
  refine am_r_getR (t := 43) (pc' := 25) rfl rfl rfl ?_
  refine am_r_iload1 (pc' := 26) rfl rfl ?_
  refine am_r_aaZ (n := 6) (t := 44) (pc' := 27) rfl rfl rfl rfl (by decide) ?_
  refine am_r_lconst (z := 0) (pc' := 28) rfl rfl rfl ?_
  refine am_r_ivsV2 (pc' := 31) rfl rfl rfl (Nat.le_of_ble_eq_true rfl) (c_fill0 (by omega) he ?_)
  · intro M4 g1 g2 g3
    refine am_r_vret rfl rfl ?_
    have hb : HB (h_set η e (50 + s, n, fun _ => 0)) := hb_set hH.1 ⟨by simp only; omega, fun q => ⟨hn, fun i hi => ⟨by simp only; omega, fun _ => by simp only; omega⟩⟩⟩
    refine hq M4 (fun k hk => ⟨?_, g2 k (by omega)⟩) (hx_set hH hb (fun x hx q => ?_) ⟨?_, fun q => ?_, fun q => ⟨?_, ?_, fun i hi => ?_⟩⟩)
    · rw [g1]
      funext j
      simp only [am_upI]
      rw [if_neg (by omega), if_neg (by omega), if_neg (by omega)]
    · have q2 : x.toNat ≠ e.toNat := by omega
      refine ⟨⟨?_, ?_, ?_, ?_⟩, g2 _ (by omega)⟩ <;> rw [g1] <;> simp [am_upI, q2]
    · have hh := h_hd_b (50 + s)
      simp only
      rw [show h_hd (50 + s) = 2 by omega, g1]
      simp [am_upI]
    · simp only at q
      exfalso; omega
    · simp only
      rw [g1, show 50 + s - 50 = s by omega]
      simp [am_upI]
    · simp only
      rw [g1]
      simp [am_upI]
    · exact g3 i hi
theorem c_row {sL : Nat} {xs : Nat → Int32} {d : Nat} {M : Am_M} {Q : Int32 → Am_M → Prop} (hd : 3 ≤ d) {η : Hs} (hH : HX M η) {e : Int} (he : -2147483648 ≤ e ∧ e < 2147483648) {s : Int} (hs : -2147483648 ≤ s ∧ s < 2147483648) {n : Int} (hn : -2147483648 ≤ n ∧ n < 2147483648)  (hq : ∀ M', am_fr 38 49 M M' → HX M' (t_row η e s n) → Q (z_I (r_rowc e s n)) M') : am_bi sL xs d 147 [.ref 0, .int (z_I e), .int (z_I s), .int (z_I n)] M Q := by
  obtain ⟨d, rfl⟩ : ∃ e, d = e + 1 := ⟨d - 1, by omega⟩
  refine am_bi_of (P := am_pX10_row) (rt := 1) (nL := 4) (Nat.le_of_ble_eq_true rfl) rfl (Nat.le_of_ble_eq_true rfl) rfl rfl rfl ?_
  refine am_r_iload1 (pc' := 1) rfl rfl ?_
  refine am_r_ivsI1 (pc' := 4) rfl rfl rfl (Nat.le_of_ble_eq_true rfl) (c_isShelf (by omega) (by omega) ?_)
  refine am_r_if_eqB (pt := 22) (pf := 7) rfl rfl rfl (fun h4 => ?_) (fun h4 => ?_)
  · refine am_r_iconst (pc' := 23) rfl rfl ?_
    refine am_r_iret rfl rfl ?_
    rw [show t_row η e s n = η from if_neg (by omega), show r_rowc e s n = -1 from if_neg (by omega)] at hq
    exact hq M (am_fr_rf _ _ _) hH
  · refine am_r_iload2 (pc' := 8) rfl rfl ?_
    refine am_r_if_lt (pt := 22) (pf := 11) rfl rfl rfl (fun h8 => ?_) (fun h8 => ?_)
    · refine am_r_iconst (pc' := 23) rfl rfl ?_
      refine am_r_iret rfl rfl ?_
      rw [show t_row η e s n = η from if_neg (by omega), show r_rowc e s n = -1 from if_neg (by omega)] at hq
      exact hq M (am_fr_rf _ _ _) hH
    · refine am_r_iload2 (pc' := 12) rfl rfl ?_
      refine am_r_iconst (pc' := 13) rfl rfl ?_
      refine am_r_icmp_gt (pt := 22) (pf := 16) rfl rfl rfl (fun h13 => ?_) (fun h13 => ?_)
      · refine am_r_iconst (pc' := 23) rfl rfl ?_
        refine am_r_iret rfl rfl ?_
        rw [show t_row η e s n = η from if_neg (by omega), show r_rowc e s n = -1 from if_neg (by omega)] at hq
        exact hq M (am_fr_rf _ _ _) hH
      · refine am_r_iload3 (pc' := 17) rfl rfl ?_
        refine am_r_iconst (pc' := 19) rfl rfl ?_
        refine am_r_icmp_le (pt := 24) (pf := 22) rfl rfl rfl (fun h19 => ?_) (fun h19 => ?_)
        · refine am_r_iload3 (pc' := 25) rfl rfl ?_
          refine am_r_if_ge (pt := 31) (pf := 28) rfl rfl rfl (fun h25 => ?_) (fun h25 => ?_)
          · refine am_r_aload0 (pc' := 32) rfl rfl ?_
            refine am_r_getR (t := 38) (pc' := 35) rfl rfl rfl ?_
            refine am_r_iload1 (pc' := 36) rfl rfl ?_
            refine am_r_iload2 (pc' := 37) rfl rfl ?_
            refine am_r_iload3 (pc' := 38) rfl rfl ?_
            refine am_r_invV3 (pc' := 41) rfl rfl rfl (Nat.le_of_ble_eq_true rfl) (c_holdRow (by omega) hH (by omega) (by omega) (by omega) ?_)
            · intro M4 hf4 hH4
              refine am_r_iconst (pc' := 42) rfl rfl ?_
              refine am_r_iret rfl rfl ?_
              rw [show t_row η e s n = h_set η e (50 + s, n, fun _ => 0) from if_pos (by omega), show r_rowc e s n = 1 from (if_pos (by omega)).trans (if_neg (by omega))] at hq
              exact hq M4 hf4 hH4
          · refine am_r_iconst (pc' := 30) rfl rfl ?_
            refine am_r_iret rfl rfl ?_
            rw [show t_row η e s n = η from if_neg (by omega), show r_rowc e s n = -14 from (if_pos (by omega)).trans (if_pos (by omega))] at hq
            exact hq M (am_fr_rf _ _ _) hH
        · refine am_r_iconst (pc' := 23) rfl rfl ?_
          refine am_r_iret rfl rfl ?_
          rw [show t_row η e s n = η from if_neg (by omega), show r_rowc e s n = -1 from if_neg (by omega)] at hq
          exact hq M (am_fr_rf _ _ _) hH
def h_pr (η : Hs) (e i : Int) : Int := if ¬ h_rr η e = 0 then h_rr η e else if 0 ≤ i ∧ i < h_n η e then 0 else -13
theorem h_pr_b (η : Hs) (e i : Int) : -13 ≤ h_pr η e i ∧ h_pr η e i ≤ 0 ∧ (h_pr η e i = 0 ↔ ((0 ≤ e ∧ e < 6) ∧ 50 ≤ h_k η e) ∧ 0 ≤ i ∧ i < h_n η e) := by
  have h := h_rr_b η e
  unfold h_pr
  repeat' split
  all_goals omega
theorem c_placeRefusal {sL : Nat} {xs : Nat → Int32} {d : Nat} {M : Am_M} {Q : Int32 → Am_M → Prop} (hd : 3 ≤ d) {η : Hs} (hH : HX M η) {e : Int} (he : -2147483648 ≤ e ∧ e < 2147483648) {i : Int} (hi : -2147483648 ≤ i ∧ i < 2147483648)  (hq : Q (z_I (h_pr η e i)) M) : am_bi sL xs d 65 [.ref 38, .int (z_I e), .int (z_I i)] M Q := by
  obtain ⟨d, rfl⟩ : ∃ e, d = e + 1 := ⟨d - 1, by omega⟩
  have hrr := h_rr_b η e
  have hnb : ((0 ≤ e ∧ e < 6) ∧ 50 ≤ h_k η e) → 0 ≤ h_n η e ∧ h_n η e ≤ 60 := fun q => hb_n hH.1 q.1 q.2
  have hkb : (0 ≤ e ∧ e < 6) → -1 ≤ h_k η e ∧ h_k η e ≤ 54 := fun q => hb_k hH.1 q
  refine am_bi_of (P := am_pX6_placeRefusal) (rt := 1) (nL := 4) (Nat.le_of_ble_eq_true rfl) rfl (Nat.le_of_ble_eq_true rfl) rfl rfl rfl ?_
  refine am_r_aload0 (pc' := 1) rfl rfl ?_
  refine am_r_iload1 (pc' := 2) rfl rfl ?_
  refine am_r_invI1 (pc' := 5) rfl rfl rfl (Nat.le_of_ble_eq_true rfl) (c_rowRefusal (by omega) hH (by omega) ?_)
  refine am_r_istore3 (pc' := 6) rfl rfl rfl ?_
  refine am_r_iload3 (pc' := 7) rfl rfl ?_
  refine am_r_if_eq (pt := 12) (pf := 10) rfl rfl rfl (fun h7 => ?_) (fun h7 => ?_)
  · refine am_r_iload2 (pc' := 13) rfl rfl ?_
    refine am_r_if_lt (pt := 30) (pf := 16) rfl rfl rfl (fun h13 => ?_) (fun h13 => ?_)
    · refine am_r_iconst (pc' := 32) rfl rfl ?_
      refine am_r_iret rfl rfl ?_
      first
      | (rw [show h_pr η e i = 0 from (if_neg (by omega)).trans (if_pos (by omega))] at hq; exact hq)
      | (rw [show h_pr η e i = -13 from (if_neg (by omega)).trans (if_neg (by omega))] at hq; exact hq)
    · refine am_r_iload2 (pc' := 17) rfl rfl ?_
      refine am_r_aload0 (pc' := 18) rfl rfl ?_
      refine am_r_getR (t := 42) (pc' := 21) rfl rfl rfl ?_
      refine am_r_iload1 (pc' := 22) rfl rfl ?_
      refine am_r_iaZv (n := 6) (pc' := 23) rfl rfl rfl (by decide) (hx_n hH (by omega) (by omega)) ?_
      refine am_r_icmp_ge (pt := 30) (pf := 26) rfl rfl rfl (fun h23 => ?_) (fun h23 => ?_)
      · refine am_r_iconst (pc' := 32) rfl rfl ?_
        refine am_r_iret rfl rfl ?_
        first
        | (rw [show h_pr η e i = 0 from (if_neg (by omega)).trans (if_pos (by omega))] at hq; exact hq)
        | (rw [show h_pr η e i = -13 from (if_neg (by omega)).trans (if_neg (by omega))] at hq; exact hq)
      · refine am_r_iconst (pc' := 27) rfl rfl ?_
        refine am_r_goto (pc' := 32) rfl rfl ?_
        refine am_r_iret rfl rfl ?_
        first
        | (rw [show h_pr η e i = 0 from (if_neg (by omega)).trans (if_pos (by omega))] at hq; exact hq)
        | (rw [show h_pr η e i = -13 from (if_neg (by omega)).trans (if_neg (by omega))] at hq; exact hq)
  · refine am_r_iload3 (pc' := 11) rfl rfl ?_
    refine am_r_iret rfl rfl ?_
    rw [show h_pr η e i = h_rr η e from if_pos h7] at hq
    exact hq
def r_put (η : Hs) (e i : Int) : Int := if h_pr η e i = 0 then 1 else h_pr η e i
def t_put (η : Hs) (e i v : Int) : Hs := if h_pr η e i = 0 then h_set η e (h_k η e, h_n η e, fun j => if j = i then h_bb (h_k η e - 50) v else h_v η e j) else η
def r_elem (η : Hs) (e i : Int) : Int := if h_pr η e i = 0 then h_v η e i else -9223372036854775808
theorem c_put {sL : Nat} {xs : Nat → Int32} {d : Nat} {M : Am_M} {Q : Int32 → Am_M → Prop} (hd : 4 ≤ d) {η : Hs} (hH : HX M η) {e : Int} (he : -2147483648 ≤ e ∧ e < 2147483648) {i : Int} (hi : -2147483648 ≤ i ∧ i < 2147483648) {v : Int} (hv : -9223372036854775808 ≤ v ∧ v < 9223372036854775808)  (hq : ∀ M', am_fr 38 49 M M' → HX M' (t_put η e i v) → Q (z_I (r_put η e i)) M') : am_bi sL xs d 148 [.ref 0, .int (z_I e), .int (z_I i), .long (z_L v)] M Q := by
  obtain ⟨d, rfl⟩ : ∃ e, d = e + 1 := ⟨d - 1, by omega⟩
  have hrr := h_rr_b η e
  have hnb : ((0 ≤ e ∧ e < 6) ∧ 50 ≤ h_k η e) → 0 ≤ h_n η e ∧ h_n η e ≤ 60 := fun q => hb_n hH.1 q.1 q.2
  have hkb : (0 ≤ e ∧ e < 6) → -1 ≤ h_k η e ∧ h_k η e ≤ 54 := fun q => hb_k hH.1 q
  have hpr := h_pr_b η e i
  refine am_bi_of (P := am_pX10_put) (rt := 1) (nL := 6) (Nat.le_of_ble_eq_true rfl) rfl (Nat.le_of_ble_eq_true rfl) rfl rfl rfl ?_
  refine am_r_aload0 (pc' := 1) rfl rfl ?_
  refine am_r_getR (t := 38) (pc' := 4) rfl rfl rfl ?_
  refine am_r_iload1 (pc' := 5) rfl rfl ?_
  refine am_r_iload2 (pc' := 6) rfl rfl ?_
  refine am_r_invI2 (pc' := 9) rfl rfl rfl (Nat.le_of_ble_eq_true rfl) (c_placeRefusal (by omega) hH (by omega) (by omega) ?_)
  refine am_r_istore5 (pc' := 11) rfl rfl rfl ?_
  refine am_r_iload5 (pc' := 13) rfl rfl ?_
  refine am_r_if_eq (pt := 19) (pf := 16) rfl rfl rfl (fun h13 => ?_) (fun h13 => ?_)
  · refine am_r_aload0 (pc' := 20) rfl rfl ?_
    refine am_r_getR (t := 38) (pc' := 23) rfl rfl rfl ?_
    refine am_r_getR (t := 43) (pc' := 26) rfl rfl rfl ?_
    refine am_r_iload1 (pc' := 27) rfl rfl ?_
    refine am_r_aaZ (n := 6) (t := 44) (pc' := 28) rfl rfl rfl rfl (by decide) ?_
    refine am_r_iload2 (pc' := 29) rfl rfl ?_
    refine am_r_aload0 (pc' := 30) rfl rfl ?_
    refine am_r_getR (t := 38) (pc' := 33) rfl rfl rfl ?_
    refine am_r_getR (t := 41) (pc' := 36) rfl rfl rfl ?_
    refine am_r_iload1 (pc' := 37) rfl rfl ?_
    refine am_r_iaZv (n := 6) (pc' := 38) rfl rfl rfl (by decide) (hx_s hH (by omega) (by omega)) ?_
    refine am_r_lload3 (pc' := 39) rfl rfl ?_
    refine am_r_ivsL2 (pc' := 42) rfl rfl rfl (Nat.le_of_ble_eq_true rfl) (c_lowest (by omega) (by omega) hv ?_)
    refine am_r_last (n := 60) (pc' := 43) rfl rfl (am_row6z (by omega)) (by decide) ?_
    refine am_r_iconst (pc' := 44) rfl rfl ?_
    refine am_r_iret rfl rfl ?_
    rw [show t_put η e i v = h_set η e (h_k η e, h_n η e, fun j => if j = i then h_bb (h_k η e - 50) v else h_v η e j) from if_pos h13, show r_put η e i = 1 from if_pos h13] at hq
    have hbb := h_bb_b (s := h_k η e - 50) hv
    have hb : HB (h_set η e (h_k η e, h_n η e, fun j => if j = i then h_bb (h_k η e - 50) v else h_v η e j)) := hb_set hH.1 ⟨hkb (by omega), fun q => ⟨hnb (by omega), fun j hj => by
      simp only
      by_cases r : j = i
      · rw [if_pos r]; exact ⟨hbb.1, fun z => hbb.2 (by omega)⟩
      · rw [if_neg r]; exact ⟨hb_v hH.1 (by omega) q hj, fun z => hb_b hH.1 (by omega) z hj⟩⟩⟩
    refine hq _ (am_fr_upL (am_fr_rf _ _ _) (by omega)) (hx_set hH hb (fun x hx q => ?_) ⟨?_, fun q => ?_, fun q => ⟨?_, ?_, fun j hj => ?_⟩⟩)
    · have q2 : ¬ 44 + x.toNat = 44 + e.toNat := by omega
      refine ⟨⟨rfl, rfl, rfl, rfl⟩, ?_⟩
      funext z
      simp only [am_upL]
      rw [if_neg (fun w => q2 w.1)]
    · exact hx_h hH (by omega)
    · exact hx_m hH (by omega) q
    · exact hx_s hH (by omega) (by omega)
    · exact hx_n hH (by omega) (by omega)
    · have hv2 := hx_v hH (e := e) (i := j) (by omega) (by omega) hj
      show (if 44 + e.toNat = 44 + e.toNat ∧ j.toNat = i.toNat then _ else M.2 (44 + e.toNat) j.toNat) = z_L (if j = i then h_bb (h_k η e - 50) v else h_v η e j)
      by_cases r : j = i
      · rw [if_pos r, if_pos ⟨rfl, by rw [r]⟩]
      · rw [if_neg r, if_neg (fun w => r (by omega))]
        exact hv2
  · refine am_r_iload5 (pc' := 18) rfl rfl ?_
    refine am_r_iret rfl rfl ?_
    rw [show t_put η e i v = η from if_neg h13, show r_put η e i = h_pr η e i from if_neg h13] at hq
    exact hq M (am_fr_rf _ _ _) hH
theorem c_element {sL : Nat} {xs : Nat → Int32} {d : Nat} {M : Am_M} {Q : Int64 → Am_M → Prop} (hd : 4 ≤ d) {η : Hs} (hH : HX M η) {e : Int} (he : -2147483648 ≤ e ∧ e < 2147483648) {i : Int} (hi : -2147483648 ≤ i ∧ i < 2147483648)  (hq : Q (z_L (r_elem η e i)) M) : am_bl sL xs d 149 [.ref 0, .int (z_I e), .int (z_I i)] M Q := by
  obtain ⟨d, rfl⟩ : ∃ e, d = e + 1 := ⟨d - 1, by omega⟩
  have hrr := h_rr_b η e
  have hnb : ((0 ≤ e ∧ e < 6) ∧ 50 ≤ h_k η e) → 0 ≤ h_n η e ∧ h_n η e ≤ 60 := fun q => hb_n hH.1 q.1 q.2
  have hkb : (0 ≤ e ∧ e < 6) → -1 ≤ h_k η e ∧ h_k η e ≤ 54 := fun q => hb_k hH.1 q
  have hpr := h_pr_b η e i
  refine am_bl_of (P := am_pX10_element) (rt := 3) (nL := 3) (Nat.le_of_ble_eq_true rfl) rfl (Nat.le_of_ble_eq_true rfl) rfl rfl rfl ?_
  refine am_r_aload0 (pc' := 1) rfl rfl ?_
  refine am_r_getR (t := 38) (pc' := 4) rfl rfl rfl ?_
  refine am_r_iload1 (pc' := 5) rfl rfl ?_
  refine am_r_iload2 (pc' := 6) rfl rfl ?_
  refine am_r_invI2 (pc' := 9) rfl rfl rfl (Nat.le_of_ble_eq_true rfl) (c_placeRefusal (by omega) hH (by omega) (by omega) ?_)
  refine am_r_if_eq (pt := 16) (pf := 12) rfl rfl rfl (fun h9 => ?_) (fun h9 => ?_)
  · refine am_r_aload0 (pc' := 17) rfl rfl ?_
    refine am_r_getR (t := 38) (pc' := 20) rfl rfl rfl ?_
    refine am_r_getR (t := 43) (pc' := 23) rfl rfl rfl ?_
    refine am_r_iload1 (pc' := 24) rfl rfl ?_
    refine am_r_aaZ (n := 6) (t := 44) (pc' := 25) rfl rfl rfl rfl (by decide) ?_
    refine am_r_iload2 (pc' := 26) rfl rfl ?_
    refine am_r_laZv (n := 60) (pc' := 27) rfl rfl (am_row6z (by omega)) (by decide) (hx_v hH (by omega) (by omega) (by omega)) ?_
    refine am_r_lret rfl rfl ?_
    rw [show r_elem η e i = h_v η e i from if_pos h9] at hq
    exact hq
  · refine am_r_lconst (z := (-9223372036854775808)) (pc' := 15) rfl rfl rfl ?_
    refine am_r_lret rfl rfl ?_
    rw [show r_elem η e i = -9223372036854775808 from if_neg h9] at hq
    exact hq
def h_qr (η : Hs) (e f : Int) : Int := if ¬ ((0 ≤ e ∧ e < 6) ∧ 0 ≤ f ∧ f < 6) then -1 else if h_k η e < 0 ∨ h_k η f < 0 then -11 else if h_k η e < 50 ∨ ¬ h_k η e = h_k η f then -12 else 0
theorem h_qr_b (η : Hs) (e f : Int) : -12 ≤ h_qr η e f ∧ h_qr η e f ≤ 0 ∧ (h_qr η e f = 0 ↔ ((0 ≤ e ∧ e < 6) ∧ 0 ≤ f ∧ f < 6) ∧ 50 ≤ h_k η e ∧ h_k η e = h_k η f) := by
  unfold h_qr
  repeat' split
  all_goals omega
def h_sp (η : Hs) (e i f j n : Int) : Bool := decide (0 ≤ i ∧ 0 ≤ j ∧ 0 ≤ n ∧ i + n ≤ h_n η e ∧ j + n ≤ h_n η f)
def r_shift (η : Hs) (e i f j n : Int) : Int := if ¬ h_qr η e f = 0 then h_qr η e f else if h_sp η e i f j n = true then n else -13
def t_shift (η : Hs) (e i f j n : Int) : Hs := if h_qr η e f = 0 ∧ h_sp η e i f j n = true then h_set η f (h_k η f, h_n η f, fun x => if j ≤ x ∧ x < j + n then h_v η e (i + (x - j)) else h_v η f x) else η
theorem c_pairRefusal {sL : Nat} {xs : Nat → Int32} {d : Nat} {M : Am_M} {Q : Int32 → Am_M → Prop} (hd : 2 ≤ d) {η : Hs} (hH : HX M η) {e : Int} (he : -2147483648 ≤ e ∧ e < 2147483648) {f : Int} (hf : -2147483648 ≤ f ∧ f < 2147483648)  (hq : Q (z_I (h_qr η e f)) M) : am_bi sL xs d 66 [.ref 38, .int (z_I e), .int (z_I f)] M Q := by
  obtain ⟨d, rfl⟩ : ∃ e, d = e + 1 := ⟨d - 1, by omega⟩
  have hkb : (0 ≤ e ∧ e < 6) → -1 ≤ h_k η e ∧ h_k η e ≤ 54 := fun q => hb_k hH.1 q
  have hkf : (0 ≤ f ∧ f < 6) → -1 ≤ h_k η f ∧ h_k η f ≤ 54 := fun q => hb_k hH.1 q
  have hhe := h_hd_b (h_k η e)
  have hhf := h_hd_b (h_k η f)
  refine am_bi_of (P := am_pX6_pairRefusal) (rt := 1) (nL := 3) (Nat.le_of_ble_eq_true rfl) rfl (Nat.le_of_ble_eq_true rfl) rfl rfl rfl ?_
  refine am_r_iload1 (pc' := 1) rfl rfl ?_
  refine am_r_ivsI1 (pc' := 4) rfl rfl rfl (Nat.le_of_ble_eq_true rfl) (c_isShelf (by omega) (by omega) ?_)
  refine am_r_if_eqB (pt := 14) (pf := 7) rfl rfl rfl (fun h4 => ?_) (fun h4 => ?_)
  · refine am_r_iconst (pc' := 15) rfl rfl ?_
    refine am_r_iret rfl rfl ?_
    rw [show h_qr η e f = -1 from if_pos (by omega)] at hq
    exact hq
  · refine am_r_iload2 (pc' := 8) rfl rfl ?_
    refine am_r_ivsI1 (pc' := 11) rfl rfl rfl (Nat.le_of_ble_eq_true rfl) (c_isShelf (by omega) (by omega) ?_)
    refine am_r_if_neB (pt := 16) (pf := 14) rfl rfl rfl (fun h11 => ?_) (fun h11 => ?_)
    · refine am_r_aload0 (pc' := 17) rfl rfl ?_
      refine am_r_iload1 (pc' := 18) rfl rfl ?_
      refine am_r_invI1 (pc' := 21) rfl rfl rfl (Nat.le_of_ble_eq_true rfl) (c_isEmpty (by omega) hH (by omega) ?_)
      refine am_r_if_neB (pt := 32) (pf := 24) rfl rfl rfl (fun h21 => ?_) (fun h21 => ?_)
      · refine am_r_iconst (pc' := 34) rfl rfl ?_
        refine am_r_iret rfl rfl ?_
        rw [show h_qr η e f = -11 from (if_neg (by omega)).trans (if_pos (by omega))] at hq
        exact hq
      · refine am_r_aload0 (pc' := 25) rfl rfl ?_
        refine am_r_iload2 (pc' := 26) rfl rfl ?_
        refine am_r_invI1 (pc' := 29) rfl rfl rfl (Nat.le_of_ble_eq_true rfl) (c_isEmpty (by omega) hH (by omega) ?_)
        refine am_r_if_eqB (pt := 35) (pf := 32) rfl rfl rfl (fun h29 => ?_) (fun h29 => ?_)
        · refine am_r_aload0 (pc' := 36) rfl rfl ?_
          refine am_r_getR (t := 39) (pc' := 39) rfl rfl rfl ?_
          refine am_r_iload1 (pc' := 40) rfl rfl ?_
          refine am_r_iaZv (n := 6) (pc' := 41) rfl rfl rfl (by decide) (hx_h hH (by omega)) ?_
          refine am_r_iconst (pc' := 42) rfl rfl ?_
          refine am_r_icmp_ne (pt := 70) (pf := 45) rfl rfl rfl (fun h42 => ?_) (fun h42 => ?_)
          · refine am_r_iconst (pc' := 72) rfl rfl ?_
            refine am_r_iret rfl rfl ?_
            rw [show h_qr η e f = -12 from (if_neg (by omega)).trans ((if_neg (by omega)).trans (if_pos (by omega)))] at hq
            exact hq
          · refine am_r_aload0 (pc' := 46) rfl rfl ?_
            refine am_r_getR (t := 39) (pc' := 49) rfl rfl rfl ?_
            refine am_r_iload2 (pc' := 50) rfl rfl ?_
            refine am_r_iaZv (n := 6) (pc' := 51) rfl rfl rfl (by decide) (hx_h hH (by omega)) ?_
            refine am_r_iconst (pc' := 52) rfl rfl ?_
            refine am_r_icmp_ne (pt := 70) (pf := 55) rfl rfl rfl (fun h52 => ?_) (fun h52 => ?_)
            · refine am_r_iconst (pc' := 72) rfl rfl ?_
              refine am_r_iret rfl rfl ?_
              rw [show h_qr η e f = -12 from (if_neg (by omega)).trans ((if_neg (by omega)).trans (if_pos (by omega)))] at hq
              exact hq
            · refine am_r_aload0 (pc' := 56) rfl rfl ?_
              refine am_r_getR (t := 41) (pc' := 59) rfl rfl rfl ?_
              refine am_r_iload1 (pc' := 60) rfl rfl ?_
              refine am_r_iaZv (n := 6) (pc' := 61) rfl rfl rfl (by decide) (hx_s hH (by omega) (by omega)) ?_
              refine am_r_aload0 (pc' := 62) rfl rfl ?_
              refine am_r_getR (t := 41) (pc' := 65) rfl rfl rfl ?_
              refine am_r_iload2 (pc' := 66) rfl rfl ?_
              refine am_r_iaZv (n := 6) (pc' := 67) rfl rfl rfl (by decide) (hx_s hH (by omega) (by omega)) ?_
              refine am_r_icmp_eq (pt := 73) (pf := 70) rfl rfl rfl (fun h67 => ?_) (fun h67 => ?_)
              · refine am_r_iconst (pc' := 74) rfl rfl ?_
                refine am_r_iret rfl rfl ?_
                rw [show h_qr η e f = 0 from (if_neg (by omega)).trans ((if_neg (by omega)).trans (if_neg (by omega)))] at hq
                exact hq
              · refine am_r_iconst (pc' := 72) rfl rfl ?_
                refine am_r_iret rfl rfl ?_
                rw [show h_qr η e f = -12 from (if_neg (by omega)).trans ((if_neg (by omega)).trans (if_pos (by omega)))] at hq
                exact hq
        · refine am_r_iconst (pc' := 34) rfl rfl ?_
          refine am_r_iret rfl rfl ?_
          rw [show h_qr η e f = -11 from (if_neg (by omega)).trans (if_pos (by omega))] at hq
          exact hq
    · refine am_r_iconst (pc' := 15) rfl rfl ?_
      refine am_r_iret rfl rfl ?_
      rw [show h_qr η e f = -1 from if_pos (by omega)] at hq
      exact hq
theorem c_hasSpan {sL : Nat} {xs : Nat → Int32} {d : Nat} {M : Am_M} {Q : Int32 → Am_M → Prop} (hd : 1 ≤ d) {η : Hs} (hH : HX M η) {e : Int} (he : (0 ≤ e ∧ e < 6) ∧ 50 ≤ h_k η e) {i : Int} (hi : -2147483648 ≤ i ∧ i < 2147483648) {n : Int} (hn : -2147483648 ≤ n ∧ n < 2147483648)  (hq : Q (z_b (0 ≤ i ∧ 0 ≤ n ∧ i + n ≤ h_n η e)) M) : am_bi sL xs d 67 [.ref 38, .int (z_I e), .int (z_I i), .int (z_I n)] M Q := by
  obtain ⟨d, rfl⟩ : ∃ e, d = e + 1 := ⟨d - 1, by omega⟩
  have hnb := hb_n hH.1 he.1 he.2
  refine am_bi_of (P := am_pX6_hasSpan) (rt := 2) (nL := 4) (Nat.le_of_ble_eq_true rfl) rfl (Nat.le_of_ble_eq_true rfl) rfl rfl rfl ?_
  refine am_r_iload2 (pc' := 1) rfl rfl ?_
  refine am_r_if_lt (pt := 34) (pf := 4) rfl rfl rfl (fun h1 => ?_) (fun h1 => ?_)
  · refine am_r_iconst (pc' := 35) rfl rfl ?_
    refine am_r_zret rfl rfl (by first | exact Or.inr rfl | exact Or.inl rfl | exact z_b_01 _ | assumption) ?_
    first | (rw [z_bT (by omega)] at hq; exact hq) | (rw [z_bF (by omega)] at hq; exact hq)
  · refine am_r_iload3 (pc' := 5) rfl rfl ?_
    refine am_r_if_lt (pt := 34) (pf := 8) rfl rfl rfl (fun h5 => ?_) (fun h5 => ?_)
    · refine am_r_iconst (pc' := 35) rfl rfl ?_
      refine am_r_zret rfl rfl (by first | exact Or.inr rfl | exact Or.inl rfl | exact z_b_01 _ | assumption) ?_
      first | (rw [z_bT (by omega)] at hq; exact hq) | (rw [z_bF (by omega)] at hq; exact hq)
    · refine am_r_iload2 (pc' := 9) rfl rfl ?_
      refine am_r_aload0 (pc' := 10) rfl rfl ?_
      refine am_r_getR (t := 42) (pc' := 13) rfl rfl rfl ?_
      refine am_r_iload1 (pc' := 14) rfl rfl ?_
      refine am_r_iaZv (n := 6) (pc' := 15) rfl rfl rfl (by decide) (hx_n hH (by omega) (by omega)) ?_
      refine am_r_icmp_gt (pt := 34) (pf := 18) rfl rfl rfl (fun h15 => ?_) (fun h15 => ?_)
      · refine am_r_iconst (pc' := 35) rfl rfl ?_
        refine am_r_zret rfl rfl (by first | exact Or.inr rfl | exact Or.inl rfl | exact z_b_01 _ | assumption) ?_
        first | (rw [z_bT (by omega)] at hq; exact hq) | (rw [z_bF (by omega)] at hq; exact hq)
      · refine am_r_iload3 (pc' := 19) rfl rfl ?_
        refine am_r_aload0 (pc' := 20) rfl rfl ?_
        refine am_r_getR (t := 42) (pc' := 23) rfl rfl rfl ?_
        refine am_r_iload1 (pc' := 24) rfl rfl ?_
        refine am_r_iaZv (n := 6) (pc' := 25) rfl rfl rfl (by decide) (hx_n hH (by omega) (by omega)) ?_
        refine am_r_iload2 (pc' := 26) rfl rfl ?_
        refine am_r_isub (pc' := 27) rfl rfl ?_
        refine am_r_icmp_gt (pt := 34) (pf := 30) rfl rfl rfl (fun h27 => ?_) (fun h27 => ?_)
        · refine am_r_iconst (pc' := 35) rfl rfl ?_
          refine am_r_zret rfl rfl (by first | exact Or.inr rfl | exact Or.inl rfl | exact z_b_01 _ | assumption) ?_
          first | (rw [z_bT (by omega)] at hq; exact hq) | (rw [z_bF (by omega)] at hq; exact hq)
        · refine am_r_iconst (pc' := 31) rfl rfl ?_
          refine am_r_goto (pc' := 35) rfl rfl ?_
          refine am_r_zret rfl rfl (by first | exact Or.inr rfl | exact Or.inl rfl | exact z_b_01 _ | assumption) ?_
          first | (rw [z_bT (by omega)] at hq; exact hq) | (rw [z_bF (by omega)] at hq; exact hq)
theorem hb_vb {η : Hs} (h : HB η) {e i : Int} (he : 0 ≤ e ∧ e < 6) (hk : 50 ≤ h_k η e) (hi : 0 ≤ i ∧ i < 60) : (-9223372036854775808 ≤ h_v η e i ∧ h_v η e i < 9223372036854775808) ∧ (h_k η e = 50 → -128 ≤ h_v η e i ∧ h_v η e i ≤ 127) := ((h e he).2 hk).2 i hi
section ACP
variable {sL : Nat} {xs : Nat → Int32} {d rt pc pc' len : Nat} {P : Am_p} {lv r : List Value} {M : Am_M} {Q : Option Value → Am_M → Prop}
theorem am_r_acpZ {q0 q n : Nat} {s t k : Int} (h : am_lk P pc = some (.invokespecial 4, len)) (e : pc + len = pc') (h0 : am_okA q0 1 n = true) (h1 : am_okA q 1 n = true) (hc : am_cat r ≤ 8) (hs : 0 ≤ s ∧ s + k ≤ n) (ht : 0 ≤ t ∧ t + k ≤ n) (hk : 0 ≤ k ∧ n ≤ 1000000) (kk : am_rw sL xs d P rt pc' lv r (am_cpL M q0 q s.toNat t.toNat k.toNat) Q) : am_rw sL xs d P rt pc lv (.int (z_I k) :: .int (z_I t) :: .ref q :: .int (z_I s) :: .ref q0 :: r) M Q := by
  subst e
  simp only [am_okA, Bool.and_eq_true, decide_eq_true_eq] at h0 h1
  have n0 : ∀ z : Int, 0 ≤ z → z ≤ 1000000 → ¬ z_I z < 0 := fun z a b q => by
    have := (z_lt (a := z) (b := 0) (by omega) (by omega)).mp q
    omega
  have e1 := z_cl (a := s) (by omega)
  have e2 := z_cl (a := t) (by omega)
  have e3 := z_cl (a := k) (by omega)
  rw [← e1, ← e2, ← e3] at kk
  exact am_rw_go h (fun v M' K hk2 => ⟨by rw [h0.1], h0.2, by rw [h1.1], h1.2, n0 s (by omega) (by omega), n0 t (by omega) (by omega), n0 k (by omega) (by omega), by rw [e1, e3, h0.1]; show s.toNat + k.toNat ≤ n; omega, by rw [e2, e3, h1.1]; show t.toNat + k.toNat ≤ n; omega, hc, hk2⟩) kk
end ACP
theorem c_shift {sL : Nat} {xs : Nat → Int32} {d : Nat} {M : Am_M} {Q : Int32 → Am_M → Prop} (hd : 3 ≤ d) {η : Hs} (hH : HX M η) {e : Int} (he : -2147483648 ≤ e ∧ e < 2147483648) {i : Int} (hi : -2147483648 ≤ i ∧ i < 2147483648) {f : Int} (hf : -2147483648 ≤ f ∧ f < 2147483648) {j : Int} (hj : -2147483648 ≤ j ∧ j < 2147483648) {n : Int} (hn : -2147483648 ≤ n ∧ n < 2147483648)  (hq : ∀ M', am_fr 38 49 M M' → HX M' (t_shift η e i f j n) → Q (z_I (r_shift η e i f j n)) M') : am_bi sL xs d 150 [.ref 0, .int (z_I e), .int (z_I i), .int (z_I f), .int (z_I j), .int (z_I n)] M Q := by
  obtain ⟨d, rfl⟩ : ∃ e, d = e + 1 := ⟨d - 1, by omega⟩
  have hkb : (0 ≤ e ∧ e < 6) → -1 ≤ h_k η e ∧ h_k η e ≤ 54 := fun q => hb_k hH.1 q
  have hkf : (0 ≤ f ∧ f < 6) → -1 ≤ h_k η f ∧ h_k η f ≤ 54 := fun q => hb_k hH.1 q
  have hhe := h_hd_b (h_k η e)
  have hhf := h_hd_b (h_k η f)
  have hqr := h_qr_b η e f
  have hne : ((0 ≤ e ∧ e < 6) ∧ 50 ≤ h_k η e) → 0 ≤ h_n η e ∧ h_n η e ≤ 60 := fun q => hb_n hH.1 q.1 q.2
  have hnf : ((0 ≤ f ∧ f < 6) ∧ 50 ≤ h_k η f) → 0 ≤ h_n η f ∧ h_n η f ≤ 60 := fun q => hb_n hH.1 q.1 q.2
  refine am_bi_of (P := am_pX10_shift) (rt := 1) (nL := 7) (Nat.le_of_ble_eq_true rfl) rfl (Nat.le_of_ble_eq_true rfl) rfl rfl rfl ?_
  refine am_r_aload0 (pc' := 1) rfl rfl ?_
  refine am_r_getR (t := 38) (pc' := 4) rfl rfl rfl ?_
  refine am_r_iload1 (pc' := 5) rfl rfl ?_
  refine am_r_iload3 (pc' := 6) rfl rfl ?_
  refine am_r_invI2 (pc' := 9) rfl rfl rfl (Nat.le_of_ble_eq_true rfl) (c_pairRefusal (by omega) hH (by omega) (by omega) ?_)
  refine am_r_istore6 (pc' := 11) rfl rfl rfl ?_
  refine am_r_iload6 (pc' := 13) rfl rfl ?_
  refine am_r_if_eq (pt := 19) (pf := 16) rfl rfl rfl (fun h13 => ?_) (fun h13 => ?_)
  · refine am_r_aload0 (pc' := 20) rfl rfl ?_
    refine am_r_getR (t := 38) (pc' := 23) rfl rfl rfl ?_
    refine am_r_iload1 (pc' := 24) rfl rfl ?_
    refine am_r_iload2 (pc' := 25) rfl rfl ?_
    refine am_r_iload5 (pc' := 27) rfl rfl ?_
    refine am_r_invI3 (pc' := 30) rfl rfl rfl (Nat.le_of_ble_eq_true rfl) (c_hasSpan (by omega) hH (by omega) (by omega) (by omega) ?_)
    refine am_r_if_eqB (pt := 48) (pf := 33) rfl rfl rfl (fun h30 => ?_) (fun h30 => ?_)
    · refine am_r_iconst (pc' := 50) rfl rfl ?_
      refine am_r_iret rfl rfl ?_
      have e0 : ¬ h_sp η e i f j n = true := by unfold h_sp; rw [decide_eq_true_eq]; omega
      rw [show t_shift η e i f j n = η from if_neg (fun q => e0 q.2), show r_shift η e i f j n = -13 from (if_neg (by omega)).trans (if_neg e0)] at hq
      exact hq M (am_fr_rf _ _ _) hH
    · refine am_r_aload0 (pc' := 34) rfl rfl ?_
      refine am_r_getR (t := 38) (pc' := 37) rfl rfl rfl ?_
      refine am_r_iload3 (pc' := 38) rfl rfl ?_
      refine am_r_iload4 (pc' := 40) rfl rfl ?_
      refine am_r_iload5 (pc' := 42) rfl rfl ?_
      refine am_r_invI3 (pc' := 45) rfl rfl rfl (Nat.le_of_ble_eq_true rfl) (c_hasSpan (by omega) hH (by omega) (by omega) (by omega) ?_)
      refine am_r_if_neB (pt := 51) (pf := 48) rfl rfl rfl (fun h45 => ?_) (fun h45 => ?_)
      · refine am_r_aload0 (pc' := 52) rfl rfl ?_
        refine am_r_getR (t := 38) (pc' := 55) rfl rfl rfl ?_
        refine am_r_getR (t := 43) (pc' := 58) rfl rfl rfl ?_
        refine am_r_iload1 (pc' := 59) rfl rfl ?_
        refine am_r_aaZ (n := 6) (t := 44) (pc' := 60) rfl rfl rfl rfl (by decide) ?_
        refine am_r_iload2 (pc' := 61) rfl rfl ?_
        refine am_r_aload0 (pc' := 62) rfl rfl ?_
        refine am_r_getR (t := 38) (pc' := 65) rfl rfl rfl ?_
        refine am_r_getR (t := 43) (pc' := 68) rfl rfl rfl ?_
        refine am_r_iload3 (pc' := 69) rfl rfl ?_
        refine am_r_aaZ (n := 6) (t := 44) (pc' := 70) rfl rfl rfl rfl (by decide) ?_
        refine am_r_iload4 (pc' := 72) rfl rfl ?_
        refine am_r_iload5 (pc' := 74) rfl rfl ?_
        refine am_r_acpZ (pc' := 77) (n := 60) rfl rfl (am_row6z (by omega)) (am_row6z (by omega)) (Nat.le_of_ble_eq_true rfl) (by omega) (by omega) (by omega) ?_
        refine am_r_iload5 (pc' := 79) rfl rfl ?_
        refine am_r_iret rfl rfl ?_
        have e0 : h_sp η e i f j n = true := by unfold h_sp; rw [decide_eq_true_eq]; omega
        rw [show t_shift η e i f j n = h_set η f (h_k η f, h_n η f, fun x => if j ≤ x ∧ x < j + n then h_v η e (i + (x - j)) else h_v η f x) from if_pos ⟨h13, e0⟩, show r_shift η e i f j n = n from (if_neg (by omega)).trans (if_pos e0)] at hq
        have hb : HB (h_set η f (h_k η f, h_n η f, fun x => if j ≤ x ∧ x < j + n then h_v η e (i + (x - j)) else h_v η f x)) := hb_set hH.1 ⟨hkf (by omega), fun q => ⟨hnf (by omega), fun x hx => by
          simp only
          by_cases r : j ≤ x ∧ x < j + n
          · rw [if_pos r]
            have := hb_vb hH.1 (e := e) (i := i + (x - j)) (by omega) (by omega) (by omega)
            exact ⟨this.1, fun z => this.2 (by omega)⟩
          · rw [if_neg r]; exact hb_vb hH.1 (by omega) q hx⟩⟩
        refine hq _ (fun k hk => ⟨rfl, ?_⟩) (hx_set hH hb (fun x hx q => ?_) ⟨?_, fun q => ?_, fun q => ⟨?_, ?_, fun x hx => ?_⟩⟩)
        · show (if k = 44 + f.toNat then _ else M.2 k) = M.2 k
          rw [if_neg (by omega)]
        · refine ⟨⟨rfl, rfl, rfl, rfl⟩, ?_⟩
          show (if 44 + x.toNat = 44 + f.toNat then _ else M.2 (44 + x.toNat)) = M.2 (44 + x.toNat)
          rw [if_neg (by omega)]
        · exact hx_h hH (by omega)
        · exact hx_m hH (by omega) q
        · exact hx_s hH (by omega) q
        · exact hx_n hH (by omega) q
        · show (if 44 + f.toNat = 44 + f.toNat then va_cpy (M.2 (44 + e.toNat)) (M.2 (44 + f.toNat)) i.toNat j.toNat n.toNat else M.2 (44 + f.toNat)) x.toNat = z_L (if j ≤ x ∧ x < j + n then h_v η e (i + (x - j)) else h_v η f x)
          rw [if_pos rfl]
          have hv2 := hx_v hH (e := f) (i := x) (by omega) (by omega) hx
          unfold va_cpy
          by_cases r : j ≤ x ∧ x < j + n
          · rw [if_pos r, if_pos (by omega)]
            have hv1 := hx_v hH (e := e) (i := i + (x - j)) (by omega) (by omega) (by omega)
            rw [show i.toNat + (x.toNat - j.toNat) = (i + (x - j)).toNat by omega]
            exact hv1
          · rw [if_neg r, if_neg (by omega)]
            exact hv2
      · refine am_r_iconst (pc' := 50) rfl rfl ?_
        refine am_r_iret rfl rfl ?_
        have e0 : ¬ h_sp η e i f j n = true := by unfold h_sp; rw [decide_eq_true_eq]; omega
        rw [show t_shift η e i f j n = η from if_neg (fun q => e0 q.2), show r_shift η e i f j n = -13 from (if_neg (by omega)).trans (if_neg e0)] at hq
        exact hq M (am_fr_rf _ _ _) hH
  · refine am_r_iload6 (pc' := 18) rfl rfl ?_
    refine am_r_iret rfl rfl ?_
    rw [show t_shift η e i f j n = η from if_neg (fun q => h13 q.1), show r_shift η e i f j n = h_qr η e f from if_pos h13] at hq
    exact hq M (am_fr_rf _ _ _) hH
def r_taken (η : Hs) (κ : Int → Int) (e k : Int) : Int := if (0 ≤ e ∧ e < 6) ∧ (0 ≤ k ∧ k < 8) then (if h_k η e < 0 then -11 else if h_k η e < 50 then (if o_u k 8 (κ (h_k η e)) = true then κ (h_k η e) else -12) else -12) else -1
/-- what shelves hold of moods is there -/
def HO (η : Hs) (n : Int) : Prop := ∀ e, 0 ≤ e ∧ e < 6 → h_k η e < 50 → h_k η e < n
theorem c_taken {sL : Nat} {xs : Nat → Int32} {d : Nat} {M : Am_M} {Q : Int32 → Am_M → Prop} (hd : 3 ≤ d) {η : Hs} (hH : HX M η) {κ : Int → Int} {n : Int} {l : List Int} (hO : OK M κ n l) (hN : HO η n) {e : Int} (he : -2147483648 ≤ e ∧ e < 2147483648) {k : Int} (hk : -2147483648 ≤ k ∧ k < 2147483648)  (hq : Q (z_I (r_taken η κ e k)) M) : am_bi sL xs d 151 [.ref 0, .int (z_I e), .int (z_I k)] M Q := by
  obtain ⟨d, rfl⟩ : ∃ e, d = e + 1 := ⟨d - 1, by omega⟩
  have hnb := ok_nb hO
  have hkb : (0 ≤ e ∧ e < 6) → -1 ≤ h_k η e ∧ h_k η e ≤ 54 := fun q => hb_k hH.1 q
  refine am_bi_of (P := am_pX10_taken) (rt := 1) (nL := 4) (Nat.le_of_ble_eq_true rfl) rfl (Nat.le_of_ble_eq_true rfl) rfl rfl rfl ?_
  refine am_r_iload1 (pc' := 1) rfl rfl ?_
  refine am_r_ivsI1 (pc' := 4) rfl rfl rfl (Nat.le_of_ble_eq_true rfl) (c_isShelf (by omega) (by omega) ?_)
  refine am_r_if_eqB (pt := 14) (pf := 7) rfl rfl rfl (fun h4 => ?_) (fun h4 => ?_)
  · refine am_r_iconst (pc' := 15) rfl rfl ?_
    refine am_r_iret rfl rfl ?_
    rw [show r_taken η κ e k = -1 from if_neg (by omega)] at hq
    exact hq
  · refine am_r_iload2 (pc' := 8) rfl rfl ?_
    refine am_r_ivsI1 (pc' := 11) rfl rfl rfl (Nat.le_of_ble_eq_true rfl) (c_isKind (by omega) (by omega) ?_)
    refine am_r_if_neB (pt := 16) (pf := 14) rfl rfl rfl (fun h11 => ?_) (fun h11 => ?_)
    · refine am_r_aload0 (pc' := 17) rfl rfl ?_
      refine am_r_getR (t := 38) (pc' := 20) rfl rfl rfl ?_
      refine am_r_iload1 (pc' := 21) rfl rfl ?_
      refine am_r_invI1 (pc' := 24) rfl rfl rfl (Nat.le_of_ble_eq_true rfl) (c_isEmpty (by omega) hH (by omega) ?_)
      refine am_r_if_eqB (pt := 30) (pf := 27) rfl rfl rfl (fun h24 => ?_) (fun h24 => ?_)
      · refine am_r_aload0 (pc' := 31) rfl rfl ?_
        refine am_r_getR (t := 38) (pc' := 34) rfl rfl rfl ?_
        refine am_r_iload1 (pc' := 35) rfl rfl ?_
        refine am_r_invI1 (pc' := 38) rfl rfl rfl (Nat.le_of_ble_eq_true rfl) (c_isMood (by omega) hH (by omega) ?_)
        refine am_r_if_neB (pt := 44) (pf := 41) rfl rfl rfl (fun h38 => ?_) (fun h38 => ?_)
        · have hn3 := hN e (by omega) (by omega)
          have hkk := ok_kb hO (i := h_k η e) (by omega)
          refine am_r_aload0 (pc' := 45) rfl rfl ?_
          refine am_r_getR (t := 50) (pc' := 48) rfl rfl rfl ?_
          refine am_r_getR (t := 51) (pc' := 51) rfl rfl rfl ?_
          refine am_r_aload0 (pc' := 52) rfl rfl ?_
          refine am_r_getR (t := 38) (pc' := 55) rfl rfl rfl ?_
          refine am_r_getR (t := 40) (pc' := 58) rfl rfl rfl ?_
          refine am_r_iload1 (pc' := 59) rfl rfl ?_
          refine am_r_iaZv (n := 6) (pc' := 60) rfl rfl rfl (by decide) (hx_m hH (by omega) (by omega)) ?_
          refine am_r_iaZv (n := 50) (pc' := 61) rfl rfl rfl (by decide) (ok_k hO (by omega)) ?_
          refine am_r_istore3 (pc' := 62) rfl rfl rfl ?_
          refine am_r_iload3 (pc' := 63) rfl rfl ?_
          refine am_r_iload2 (pc' := 64) rfl rfl ?_
          refine am_r_ivsI2 (pc' := 67) rfl rfl rfl (Nat.le_of_ble_eq_true rfl) (c_isUnder (by omega) (by omega) (by omega) ?_)
          refine am_r_if_eqB (pt := 74) (pf := 70) rfl rfl rfl (fun h67 => ?_) (fun h67 => ?_)
          · refine am_r_iconst (pc' := 76) rfl rfl ?_
            refine am_r_iret rfl rfl ?_
            first
            | (rw [show r_taken η κ e k = κ (h_k η e) from (if_pos (by omega)).trans ((if_neg (by omega)).trans ((if_pos (by omega)).trans (if_pos h67)))] at hq; exact hq)
            | (rw [show r_taken η κ e k = -12 from (if_pos (by omega)).trans ((if_neg (by omega)).trans ((if_pos (by omega)).trans (if_neg h67)))] at hq; exact hq)
          · refine am_r_iload3 (pc' := 71) rfl rfl ?_
            refine am_r_goto (pc' := 76) rfl rfl ?_
            refine am_r_iret rfl rfl ?_
            first
            | (rw [show r_taken η κ e k = κ (h_k η e) from (if_pos (by omega)).trans ((if_neg (by omega)).trans ((if_pos (by omega)).trans (if_pos h67)))] at hq; exact hq)
            | (rw [show r_taken η κ e k = -12 from (if_pos (by omega)).trans ((if_neg (by omega)).trans ((if_pos (by omega)).trans (if_neg h67)))] at hq; exact hq)
        · refine am_r_iconst (pc' := 43) rfl rfl ?_
          refine am_r_iret rfl rfl ?_
          rw [show r_taken η κ e k = -12 from (if_pos (by omega)).trans ((if_neg (by omega)).trans (if_neg (by omega)))] at hq
          exact hq
      · refine am_r_iconst (pc' := 29) rfl rfl ?_
        refine am_r_iret rfl rfl ?_
        rw [show r_taken η κ e k = -11 from (if_pos (by omega)).trans (if_pos (by omega))] at hq
        exact hq
    · refine am_r_iconst (pc' := 15) rfl rfl ?_
      refine am_r_iret rfl rfl ?_
      rw [show r_taken η κ e k = -1 from if_neg (by omega)] at hq
      exact hq
