/-- what the shelves hold: -1 nothing, 0 to 49 a mood, 50 and the sort a row; how long; its elements -/
abbrev Hs : Type := Int → Int × Int × (Int → Int)
def h_k (η : Hs) (e : Int) : Int := (η e).1
def h_n (η : Hs) (e : Int) : Int := (η e).2.1
def h_v (η : Hs) (e : Int) : Int → Int := (η e).2.2
def HB (η : Hs) : Prop := ∀ e, 0 ≤ e ∧ e < 6 → (-1 ≤ h_k η e ∧ h_k η e ≤ 54) ∧ (50 ≤ h_k η e → (0 ≤ h_n η e ∧ h_n η e ≤ 60) ∧ ∀ i, 0 ≤ i ∧ i < 60 → (-9223372036854775808 ≤ h_v η e i ∧ h_v η e i < 9223372036854775808) ∧ (h_k η e = 50 → -128 ≤ h_v η e i ∧ h_v η e i ≤ 127))
def h_hd (k : Int) : Int := if k < 0 then 0 else if k < 50 then 1 else 2
def HX (M : Am_M) (η : Hs) : Prop := HB η ∧ ∀ e, 0 ≤ e ∧ e < 6 → M.1 39 e.toNat = z_I (h_hd (h_k η e)) ∧ (0 ≤ h_k η e ∧ h_k η e < 50 → M.1 40 e.toNat = z_I (h_k η e)) ∧ (50 ≤ h_k η e → M.1 41 e.toNat = z_I (h_k η e - 50) ∧ M.1 42 e.toNat = z_I (h_n η e) ∧ ∀ i, 0 ≤ i ∧ i < 60 → M.2 (44 + e.toNat) i.toNat = z_L (h_v η e i))
theorem hb_k {η : Hs} (h : HB η) {e : Int} (he : 0 ≤ e ∧ e < 6) : -1 ≤ h_k η e ∧ h_k η e ≤ 54 := (h e he).1
theorem hb_n {η : Hs} (h : HB η) {e : Int} (he : 0 ≤ e ∧ e < 6) (hk : 50 ≤ h_k η e) : 0 ≤ h_n η e ∧ h_n η e ≤ 60 := ((h e he).2 hk).1
theorem hb_v {η : Hs} (h : HB η) {e i : Int} (he : 0 ≤ e ∧ e < 6) (hk : 50 ≤ h_k η e) (hi : 0 ≤ i ∧ i < 60) : -9223372036854775808 ≤ h_v η e i ∧ h_v η e i < 9223372036854775808 := (((h e he).2 hk).2 i hi).1
theorem hb_b {η : Hs} (h : HB η) {e i : Int} (he : 0 ≤ e ∧ e < 6) (hk : h_k η e = 50) (hi : 0 ≤ i ∧ i < 60) : -128 ≤ h_v η e i ∧ h_v η e i ≤ 127 := (((h e he).2 (by omega)).2 i hi).2 hk
theorem hx_h {M : Am_M} {η : Hs} (h : HX M η) {e : Int} (he : 0 ≤ e ∧ e < 6) : M.1 39 e.toNat = z_I (h_hd (h_k η e)) := (h.2 e he).1
theorem hx_m {M : Am_M} {η : Hs} (h : HX M η) {e : Int} (he : 0 ≤ e ∧ e < 6) (hk : 0 ≤ h_k η e ∧ h_k η e < 50) : M.1 40 e.toNat = z_I (h_k η e) := (h.2 e he).2.1 hk
theorem hx_s {M : Am_M} {η : Hs} (h : HX M η) {e : Int} (he : 0 ≤ e ∧ e < 6) (hk : 50 ≤ h_k η e) : M.1 41 e.toNat = z_I (h_k η e - 50) := ((h.2 e he).2.2 hk).1
theorem hx_n {M : Am_M} {η : Hs} (h : HX M η) {e : Int} (he : 0 ≤ e ∧ e < 6) (hk : 50 ≤ h_k η e) : M.1 42 e.toNat = z_I (h_n η e) := ((h.2 e he).2.2 hk).2.1
theorem hx_v {M : Am_M} {η : Hs} (h : HX M η) {e : Int} (he : 0 ≤ e ∧ e < 6) (hk : 50 ≤ h_k η e) {i : Int} (hi : 0 ≤ i ∧ i < 60) : M.2 (44 + e.toNat) i.toNat = z_L (h_v η e i) := ((h.2 e he).2.2 hk).2.2 i hi
theorem hx_fr {M M' : Am_M} {η : Hs} {lo hi : Nat} (h : HX M η) (hf : am_fr lo hi M M') (hh : 49 < lo ∨ hi < 38) : HX M' η := by
  refine ⟨h.1, fun e he => ⟨by rw [(hf 39 (by omega)).1]; exact hx_h h he, fun hk => by rw [(hf 40 (by omega)).1]; exact hx_m h he hk, fun hk => ⟨by rw [(hf 41 (by omega)).1]; exact hx_s h he hk, by rw [(hf 42 (by omega)).1]; exact hx_n h he hk, fun i hi => by rw [(hf (44 + e.toNat) (by omega)).2]; exact hx_v h he hk hi⟩⟩⟩
theorem h_hd_b (k : Int) : 0 ≤ h_hd k ∧ h_hd k ≤ 2 ∧ (h_hd k = 0 ↔ k < 0) ∧ (h_hd k = 1 ↔ 0 ≤ k ∧ k < 50) ∧ (h_hd k = 2 ↔ 50 ≤ k) := by
  unfold h_hd
  repeat' split
  all_goals omega
theorem am_row6 : ∀ i : Nat, i < 6 → am_okA (44 + i) 1 60 = true := by decide +kernel
theorem am_row6z {e : Int} (h : 0 ≤ e ∧ e < 6) : am_okA (44 + e.toNat) 1 60 = true := am_row6 e.toNat (by omega)
/-- a book of bytes against the places of one -/
def y_ul (σ : Sg) (χ : q_X) (v : Int → Int) (a d : Int) : Bool := decide (¬ y_at σ χ (d.toNat + 1) a = v d)
theorem c_firstUnlike {sL : Nat} {xs : Nat → Int32} {d : Nat} {M : Am_M} {Q : Int32 → Am_M → Prop} (hd : 6 ≤ d) {σ : Sg} {χ : q_X} (hX : SX M σ) (hL : CL M χ) {η : Hs} (hH : HX M η) {e a : Int} (he : 0 ≤ e ∧ e < 6) (hk50 : h_k η e = 50) (ha : 0 ≤ a ∧ a < s_n σ) (hq : ∀ M', am_fr 22 28 M M' → Q (z_I (f_first (y_ul σ χ (h_v η e) a) 0 (h_n η e).toNat)) M') : am_bi sL xs d 31 [.ref 29, .ref (44 + e.toNat), .int (z_I (h_n η e)), .int (z_I a)] M Q := by
  obtain ⟨d, rfl⟩ : ∃ e, d = e + 1 := ⟨d - 1, by omega⟩
  have hn := sb_nb hX.1
  have hhn := hb_n hH.1 he (by omega)
  have hloop : ∀ (k i : Nat) (N : Am_M), (i : Int) + k = h_n η e → am_fr 22 28 M N → WX N σ (y_at σ χ i) → (∀ M', am_fr 22 28 M M' → Q (z_I (f_first (y_ul σ χ (h_v η e) a) (i : Int) k)) M') → am_rw sL xs d am_pX3_firstUnlike 1 10 [.ref 29, .ref (44 + e.toNat), .int (z_I (h_n η e)), .int (z_I a), .int (z_I (i : Int))] [] N (am_pi Q) := by
    intro k
    induction k with
    | zero =>
      intro i N hk hF hW hq
      have hX := hW.1
      have hL := cl_fr hL hF (by omega)
      refine am_r_iload4 (pc' := 12) rfl rfl ?_
      refine am_r_iload2 (pc' := 13) rfl rfl ?_
      refine am_r_icmp_ge (pt := 52) (pf := 16) rfl rfl rfl (fun h13 => ?_) (fun h13 => ?_)
      · refine am_r_iconst (pc' := 54) rfl rfl ?_
        refine am_r_iret rfl rfl ?_
        exact hq N hF
      · exfalso; omega
    | succ k ih =>
      intro i N hk hF hW hq
      have hX := hW.1
      have hL := cl_fr hL hF (by omega)
      have hpb : 0 ≤ y_nx σ χ (y_at σ χ i) (i : Int) a ∧ y_nx σ χ (y_at σ χ i) (i : Int) a < s_rd σ a := y_at_B hX.1 χ (i + 1) a ha
      have hvb := hb_b hH.1 (i := (i : Int)) he hk50 (by omega)
      have hgb := sg_b hX.1 ha
      refine am_r_iload4 (pc' := 12) rfl rfl ?_
      refine am_r_iload2 (pc' := 13) rfl rfl ?_
      refine am_r_icmp_ge (pt := 52) (pf := 16) rfl rfl rfl (fun h13 => ?_) (fun h13 => ?_)
      · exfalso; omega
      · refine am_r_aload0 (pc' := 17) rfl rfl ?_
        refine am_r_getR (t := 24) (pc' := 20) rfl rfl rfl ?_
        refine am_r_iload4 (pc' := 22) rfl rfl ?_
        refine am_r_invV1 (pc' := 25) rfl rfl rfl (Nat.le_of_ble_eq_true rfl) (c_pass (χ := χ) (t := (i : Int)) (by omega) hW hL ?_)
        · intro M4 hf4 hW4 hme4 hpu4 hb4
          have hF := am_fr_tr (lo := 22) (hi := 28) hF hf4 (by omega) (by omega)
          refine am_r_aload0 (pc' := 26) rfl rfl ?_
          refine am_r_getR (t := 24) (pc' := 29) rfl rfl rfl ?_
          refine am_r_getR (t := 25) (pc' := 32) rfl rfl rfl ?_
          refine am_r_iload3 (pc' := 33) rfl rfl ?_
          refine am_r_iaZv (n := 8) (pc' := 34) rfl rfl rfl (by decide) (wx_pl hW4 ha) ?_
          refine am_r_i2l (pc' := 35) rfl rfl ?_
          refine am_r_aload1 (pc' := 36) rfl rfl ?_
          refine am_r_iload4 (pc' := 38) rfl rfl ?_
          refine am_r_laZv (n := 60) (pc' := 39) rfl rfl (am_row6z he) (by decide) (show _ = z_L (h_v η e (i : Int)) by rw [(hF (44 + e.toNat) (by omega)).2]; exact hx_v hH he (by omega) (by omega)) ?_
          refine am_r_lcmp (pc' := 40) rfl rfl ?_
          refine am_r_lif_eq (pt := 46) (pf := 43) rfl rfl rfl (fun h40 => ?_) (fun h40 => ?_)
          · refine am_r_iinc4 (pc' := 49) rfl rfl rfl ?_
            refine am_r_goto (pc' := 10) rfl rfl ?_
            exact ih (i + 1) M4 (by omega) hF hW4 (fun M5 h5 => by have := hq M5 h5; rw [f_first_f (by unfold y_ul; rw [decide_eq_true_eq]; exact fun z => z h40)] at this; exact this)
          · refine am_r_iload4 (pc' := 45) rfl rfl ?_
            refine am_r_iret rfl rfl ?_
            have := hq M4 hF
            rw [f_first_t (show y_ul σ χ (h_v η e) a (i : Int) = true from decide_eq_true h40)] at this
            exact this
  refine am_bi_of (P := am_pX3_firstUnlike) (rt := 1) (nL := 5) (Nat.le_of_ble_eq_true rfl) rfl (Nat.le_of_ble_eq_true rfl) rfl rfl rfl ?_
  refine am_r_aload0 (pc' := 1) rfl rfl ?_
  refine am_r_getR (t := 24) (pc' := 4) rfl rfl rfl ?_
  refine am_r_invV0 (pc' := 7) rfl rfl rfl (Nat.le_of_ble_eq_true rfl) (c_begin (by omega) hX ?_)
  · intro M2 hf2 hW2
    have hF : am_fr 22 28 M M2 := am_fr_w hf2 (by omega)
    refine am_r_iconst (pc' := 8) rfl rfl ?_
    refine am_r_istore4 (pc' := 10) rfl rfl rfl ?_
    exact hloop (h_n η e).toNat 0 M2 (by omega) hF hW2 hq
