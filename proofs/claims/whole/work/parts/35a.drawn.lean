/-! PUSHED, the class: slips by draws -/
/-- the draws: how the seed goes on, what is asked of it; apart, so that nothing counts with them -/
abbrev y_F : Type := (Int32 → Int32) × (Int32 → Int32)
def y_z1 (z : Int32) : Int32 := z * z_I 1103515245 + z_I 12345
def y_ush (x y : Int32) : Int32 := (x.toUInt32 >>> (y.toUInt32 &&& Int32.toUInt32 31)).toInt32
def y_r12 (z : Int32) : Int32 := y_ush z (z_I 8) - y_ush z (z_I 8) / z_I 12 * z_I 12
abbrev y_S : Type := Int32 × y_P
/-- slips of the bodies from i on, k of them -/
def y_sl (F : y_F) (σ : Sg) (s : Int) : Nat → Int → y_S → y_S
  | 0, _, x => x
  | k + 1, i, x => y_sl F σ s k (i + 1) (F.1 x.1, if z_I s ≤ F.2 (F.1 x.1) then x.2 else fun a => if a = i then (x.2 i + -1) % s_rd σ i else x.2 a)
theorem y_sl_s {F : y_F} {σ : Sg} {s : Int} {k : Nat} {i : Int} {x : y_S} (h : z_I s ≤ F.2 (F.1 x.1)) : y_sl F σ s (k + 1) i x = y_sl F σ s k (i + 1) (F.1 x.1, x.2) := by
  show y_sl F σ s k (i + 1) (F.1 x.1, if z_I s ≤ F.2 (F.1 x.1) then x.2 else fun a => if a = i then (x.2 i + -1) % s_rd σ i else x.2 a) = _
  rw [if_pos h]
theorem y_sl_m {F : y_F} {σ : Sg} {s : Int} {k : Nat} {i : Int} {x : y_S} (h : ¬ z_I s ≤ F.2 (F.1 x.1)) : y_sl F σ s (k + 1) i x = y_sl F σ s k (i + 1) (F.1 x.1, fun a => if a = i then (x.2 i + -1) % s_rd σ i else x.2 a) := by
  show y_sl F σ s k (i + 1) (F.1 x.1, if z_I s ≤ F.2 (F.1 x.1) then x.2 else fun a => if a = i then (x.2 i + -1) % s_rd σ i else x.2 a) = _
  rw [if_neg h]
/-- one day, k days -/
def y_dy (F : y_F) (σ : Sg) (χ : q_X) (s t : Int) (x : y_S) : y_S := y_sl F σ s (s_n σ).toNat 0 (x.1, y_nx σ χ x.2 t)
def y_ds (F : y_F) (σ : Sg) (χ : q_X) (s : Int) : Nat → y_S → y_S
  | 0, x => x
  | k + 1, x => y_dy F σ χ s (k : Int) (y_ds F σ χ s k x)
/-- on how many of k days a meets anybody -/
def y_m1 (σ : Sg) (a : Int) (x : y_S) : Int := if 0 ≤ a ∧ y_bits σ x.2 a ≠ 0 then 1 else 0
def y_mk (F : y_F) (σ : Sg) (χ : q_X) (s a : Int) : Nat → y_S → Int
  | 0, _ => 0
  | k + 1, x => y_mk F σ χ s a k x + y_m1 σ a (y_ds F σ χ s k x)
/-- the years -/
def y_zy (F : y_F) (σ : Sg) (χ : q_X) (s : Int) (m : Nat) (z : Int32) : Nat → Int32
  | 0 => z
  | k + 1 => (y_ds F σ χ s m (y_zy F σ χ s m z k, s_pl σ)).1
def y_ym (F : y_F) (σ : Sg) (χ : q_X) (s a : Int) (m : Nat) (z : Int32) : Nat → Int
  | 0 => 0
  | k + 1 => y_ym F σ χ s a m z k + y_mk F σ χ s a m (y_zy F σ χ s m z k, s_pl σ)
def y_ye (F : y_F) (σ : Sg) (χ : q_X) (s : Int) (m : Nat) (z : Int32) : Nat → Int
  | 0 => 0
  | k + 1 => y_ye F σ χ s m z k + (if y_z0 σ (y_ds F σ χ s m (y_zy F σ χ s m z k, s_pl σ)).2 = true then 1 else 0)
def y_dr (F : y_F) (σ : Sg) (χ : q_X) (z : Int32) (y m s a : Int) : Int := if 0 ≤ a then y_ym F σ χ s a m.toNat z y.toNat else y_ye F σ χ s m.toNat z y.toNat
theorem c_slipped {sL : Nat} {xs : Nat → Int32} {d : Nat} {M : Am_M} {Q : Int32 → Am_M → Prop} (hd : 3 ≤ d) {F : y_F} (hz1 : ∀ z : Int32, z * z_I 1103515245 + z_I 12345 = F.1 z) (hz2 : ∀ z : Int32, (z.toUInt32 >>> ((z_I 8).toUInt32 &&& Int32.toUInt32 31)).toInt32 - (z.toUInt32 >>> ((z_I 8).toUInt32 &&& Int32.toUInt32 31)).toInt32 / z_I 12 * z_I 12 = F.2 z) {σ : Sg} {x : y_S} {s : Int} (hW : WX M σ x.2) (hs : 0 ≤ s ∧ s ≤ 12) (hq : ∀ M', am_fr 25 25 M M' → WX M' σ (y_sl F σ s (s_n σ).toNat 0 x).2 → Q (y_sl F σ s (s_n σ).toNat 0 x).1 M') : am_bi sL xs d 33 [.ref 29, .int x.1, .int (z_I s)] M Q := by
  obtain ⟨d, rfl⟩ : ∃ e, d = e + 1 := ⟨d - 1, by omega⟩
  have hX := hW.1
  have hn := sb_nb hX.1
  have hloop : ∀ (k : Nat) (i : Int) (z : Int32) (π : y_P) (N : Am_M), 0 ≤ i ∧ i + k = s_n σ → am_fr 25 25 M N → WX N σ π → y_sl F σ s k i (z, π) = y_sl F σ s (s_n σ).toNat 0 x → am_rw sL xs d am_pX3_slipped 1 5 [.ref 29, .int x.1, .int (z_I s), .int z, .int (z_I i)] [] N (am_pi Q) := by
    intro k
    induction k with
    | zero =>
      intro i z π N hk hF hW he
      have hX := hW.1
      have he2 : (z, π) = y_sl F σ s (s_n σ).toNat 0 x := he
      refine am_r_iload4 (pc' := 7) rfl rfl ?_
      refine am_r_aload0 (pc' := 8) rfl rfl ?_
      refine am_r_getR (t := 1) (pc' := 11) rfl rfl rfl ?_
      refine am_r_getIv (f := 5) (pc' := 14) rfl rfl rfl (sx_n hX) ?_
      refine am_r_icmp_ge (pt := 53) (pf := 17) rfl rfl rfl (fun h14 => ?_) (fun h14 => ?_)
      · refine am_r_iload3 (pc' := 54) rfl rfl ?_
        refine am_r_iret rfl rfl ?_
        rw [← he2] at hq
        exact hq N hF hW
      · exfalso; omega
    | succ k ih =>
      intro i z π N hk hF hW he
      have hX := hW.1
      have hg := sg_b hX.1 (a := i) (by omega)
      have hpi := wx_b hW (a := i) (by omega)
      have h12 : ¬ z_I 12 = 0 := by decide
      refine am_r_iload4 (pc' := 7) rfl rfl ?_
      refine am_r_aload0 (pc' := 8) rfl rfl ?_
      refine am_r_getR (t := 1) (pc' := 11) rfl rfl rfl ?_
      refine am_r_getIv (f := 5) (pc' := 14) rfl rfl rfl (sx_n hX) ?_
      refine am_r_icmp_ge (pt := 53) (pf := 17) rfl rfl rfl (fun h14 => ?_) (fun h14 => ?_)
      · exfalso; omega
      · refine am_r_iload3 (pc' := 18) rfl rfl ?_
        refine am_r_iconst (pc' := 20) rfl rfl ?_
        refine am_r_imulR (pc' := 21) rfl rfl ?_
        refine am_r_iconst (pc' := 24) rfl rfl ?_
        refine am_r_iaddR (pc' := 25) rfl rfl ?_
        rw [hz1]
        refine am_r_istore3 (pc' := 26) rfl rfl rfl ?_
        refine am_r_iload3 (pc' := 27) rfl rfl ?_
        refine am_r_iconst (pc' := 29) rfl rfl ?_
        refine am_r_iushr (pc' := 30) rfl rfl ?_
        refine am_r_iconst (pc' := 32) rfl rfl ?_
        refine am_r_iremR (pc' := 33) rfl rfl (by assumption) ?_
        rw [hz2]
        refine am_r_iload2 (pc' := 34) rfl rfl ?_
        refine am_r_icmp_geR (pt := 47) (pf := 37) rfl rfl rfl (fun h34 => ?_) (fun h34 => ?_)
        · refine am_r_iinc4 (pc' := 50) rfl rfl rfl ?_
          refine am_r_goto (pc' := 5) rfl rfl ?_
          rw [y_sl_s (x := (z, π)) h34] at he
          exact ih (i + 1) _ _ N (by omega) hF hW he
        · refine am_r_aload0 (pc' := 38) rfl rfl ?_
          refine am_r_getR (t := 24) (pc' := 41) rfl rfl rfl ?_
          refine am_r_iload4 (pc' := 43) rfl rfl ?_
          refine am_r_iconst (pc' := 44) rfl rfl ?_
          refine am_r_invV2 (pc' := 47) rfl rfl rfl (Nat.le_of_ble_eq_true rfl) (c_move (by omega) hX (a := i) (b := -1) (p := π i) (by omega) (wx_pl hW (by omega)) (by omega) (by omega) ?_)
          refine am_r_iinc4 (pc' := 50) rfl rfl rfl ?_
          refine am_r_goto (pc' := 5) rfl rfl ?_
          rw [y_sl_m (x := (z, π)) h34] at he
          refine ih (i + 1) _ _ _ (by omega) (am_fr_upI hF (by omega)) ⟨sx_fr hX (am_fr_upI (am_fr_rf 25 25 _) (by omega)) (by omega), fun a ha => ?_, fun a ha => ?_⟩ he
          · have := sg_b hX.1 ha
            by_cases e : a = i
            · simp only [if_pos e]
              rw [← e]
              exact ⟨Int.emod_nonneg _ (by omega), Int.emod_lt_of_pos _ (by omega)⟩
            · simp only [if_neg e]
              exact hW.2.1 a ha
          · by_cases e : a = i
            · simp only [if_pos e]
              rw [e]
              exact am_up_e _ _ _ _
            · have q2 : a.toNat ≠ i.toNat := by omega
              simp only [if_neg e]
              rw [am_up_n _ _ _ _ _ q2]
              exact wx_pl hW ha
  refine am_bi_of (P := am_pX3_slipped) (rt := 1) (nL := 5) (Nat.le_of_ble_eq_true rfl) rfl (Nat.le_of_ble_eq_true rfl) rfl rfl rfl ?_
  refine am_r_iload1 (pc' := 1) rfl rfl ?_
  refine am_r_istore3 (pc' := 2) rfl rfl rfl ?_
  refine am_r_iconst (pc' := 3) rfl rfl ?_
  refine am_r_istore4 (pc' := 5) rfl rfl rfl ?_
  exact hloop (s_n σ).toNat 0 x.1 x.2 M (by omega) (am_fr_rf _ _ _) hW rfl
theorem c_drawnYears {sL : Nat} {xs : Nat → Int32} {d : Nat} {M : Am_M} {Q : Int32 → Am_M → Prop} (hd : 6 ≤ d) {F : y_F} (hz1 : ∀ z : Int32, z * z_I 1103515245 + z_I 12345 = F.1 z) (hz2 : ∀ z : Int32, (z.toUInt32 >>> ((z_I 8).toUInt32 &&& Int32.toUInt32 31)).toInt32 - (z.toUInt32 >>> ((z_I 8).toUInt32 &&& Int32.toUInt32 31)).toInt32 / z_I 12 * z_I 12 = F.2 z) {σ : Sg} {χ : q_X} (hX : SX M σ) (hL : CL M χ) {z : Int32} {yr m s a : Int} (hy : 1 ≤ yr ∧ yr ≤ 30) (hm : 1 ≤ m ∧ m ≤ 60) (hs : 0 ≤ s ∧ s ≤ 12) (ha : a = -1 ∨ (0 ≤ a ∧ a < s_n σ)) (hq : ∀ M', am_fr 22 28 M M' → Q (z_I (y_dr F σ χ z yr m s a)) M') : am_bi sL xs d 32 [.ref 29, .int z, .int (z_I yr), .int (z_I m), .int (z_I s), .int (z_I a)] M Q := by
  obtain ⟨d, rfl⟩ : ∃ e, d = e + 1 := ⟨d - 1, by omega⟩
  have hn := sb_nb hX.1
  have hin : ∀ (k i : Nat) (c e : Int) (x : y_S) (N : Am_M) (y : Nat) (Z : Option Value → Am_M → Prop), (i : Int) + k = m → am_fr 22 28 M N → SX N σ → WX N σ (y_ds F σ χ s i x).2 → (∀ N' : Am_M, am_fr 22 28 M N' → WX N' σ (y_ds F σ χ s m.toNat x).2 → am_rw sL xs d am_pX3_drawnYears 1 80 [.ref 29, .int z, .int (z_I yr), .int (z_I m), .int (z_I s), .int (z_I a), .int (y_ds F σ χ s m.toNat x).1, .int (z_I (c + y_mk F σ χ s a m.toNat x)), .int (z_I e), .int (z_I (y : Int)), .int (z_I m)] [] N' Z) → am_rw sL xs d am_pX3_drawnYears 1 28 [.ref 29, .int z, .int (z_I yr), .int (z_I m), .int (z_I s), .int (z_I a), .int (y_ds F σ χ s i x).1, .int (z_I (c + y_mk F σ χ s a i x)), .int (z_I e), .int (z_I (y : Int)), .int (z_I (i : Int))] [] N Z := by
    intro k
    induction k with
    | zero =>
      intro i c e x N y Z hk hF hX hW hz
      have hmi : m.toNat = i := by omega
      rw [hmi] at hz
      refine am_r_iload10 (pc' := 30) rfl rfl ?_
      refine am_r_iload3 (pc' := 31) rfl rfl ?_
      refine am_r_icmp_ge (pt := 80) (pf := 34) rfl rfl rfl (fun h31 => ?_) (fun h31 => ?_)
      · rw [show (i : Int) = m by omega]
        exact hz N hF hW
      · exfalso; omega
    | succ k ih =>
      intro i c e x N y Z hk hF hX hW hz
      have hL := cl_fr hL hF (by omega)
      have hwb := y_bits_b hX.1 (y_ds F σ χ s i x).2 a
      refine am_r_iload10 (pc' := 30) rfl rfl ?_
      refine am_r_iload3 (pc' := 31) rfl rfl ?_
      refine am_r_icmp_ge (pt := 80) (pf := 34) rfl rfl rfl (fun h31 => ?_) (fun h31 => ?_)
      · exfalso; omega
      · refine am_r_aload0 (pc' := 35) rfl rfl ?_
        refine am_r_getR (t := 24) (pc' := 38) rfl rfl rfl ?_
        refine am_r_iload10 (pc' := 40) rfl rfl ?_
        refine am_r_invV1 (pc' := 43) rfl rfl rfl (Nat.le_of_ble_eq_true rfl) (c_pass (χ := χ) (t := (i : Int)) (by omega) hW hL ?_)
        · intro M4 hf4 hW4 hme4 hpu4 hb4
          have hF := am_fr_tr (lo := 22) (hi := 28) hF hf4 (by omega) (by omega)
          refine am_r_iload5 (pc' := 45) rfl rfl ?_
          refine am_r_if_lt (pt := 64) (pf := 48) rfl rfl rfl (fun h45 => ?_) (fun h45 => ?_)
          · refine am_r_aload0 (pc' := 65) rfl rfl ?_
            refine am_r_iload6 (pc' := 67) rfl rfl ?_
            refine am_r_iload4 (pc' := 69) rfl rfl ?_
            refine am_r_invI2 (pc' := 72) rfl rfl rfl (Nat.le_of_ble_eq_true rfl) (c_slipped (x := ((y_ds F σ χ s i x).1, y_nx σ χ (y_ds F σ χ s i x).2 (i : Int))) (by omega) hz1 hz2 hW4 hs ?_)
            · intro M6 hf6 hW6
              refine am_r_istore6 (pc' := 74) rfl rfl rfl ?_
              refine am_r_iinc10 (pc' := 77) rfl rfl rfl ?_
              refine am_r_goto (pc' := 28) rfl rfl ?_
              have hm1 : y_m1 σ a (y_ds F σ χ s i x) = 0 := if_neg (fun q => by omega)
              have e1 : c + y_mk F σ χ s a (i + 1) x = c + y_mk F σ χ s a i x + y_m1 σ a (y_ds F σ χ s i x) := (Int.add_assoc _ _ _).symm
              have e2 : y_ds F σ χ s (i + 1) x = y_sl F σ s (s_n σ).toNat 0 ((y_ds F σ χ s i x).1, y_nx σ χ (y_ds F σ χ s i x).2 (i : Int)) := rfl
              have := ih (i + 1) c e x M6 y Z (by omega) (am_fr_tr hF hf6 (by omega) (by omega)) hW6.1 (by rw [e2]; exact hW6) hz
              rw [e1, e2, hm1] at this
              rw [Int.add_zero] at this
              exact this
          · refine am_r_aload0 (pc' := 49) rfl rfl ?_
            refine am_r_getR (t := 24) (pc' := 52) rfl rfl rfl ?_
            refine am_r_getR (t := 28) (pc' := 55) rfl rfl rfl ?_
            refine am_r_iload5 (pc' := 57) rfl rfl ?_
            refine am_r_iaZv (n := 8) (pc' := 58) rfl rfl rfl (by decide) (hb4 a (by omega)) ?_
            refine am_r_if_eq (pt := 64) (pf := 61) rfl rfl rfl (fun h58 => ?_) (fun h58 => ?_)
            · refine am_r_aload0 (pc' := 65) rfl rfl ?_
              refine am_r_iload6 (pc' := 67) rfl rfl ?_
              refine am_r_iload4 (pc' := 69) rfl rfl ?_
              refine am_r_invI2 (pc' := 72) rfl rfl rfl (Nat.le_of_ble_eq_true rfl) (c_slipped (x := ((y_ds F σ χ s i x).1, y_nx σ χ (y_ds F σ χ s i x).2 (i : Int))) (by omega) hz1 hz2 hW4 hs ?_)
              · intro M6 hf6 hW6
                refine am_r_istore6 (pc' := 74) rfl rfl rfl ?_
                refine am_r_iinc10 (pc' := 77) rfl rfl rfl ?_
                refine am_r_goto (pc' := 28) rfl rfl ?_
                have hm1 : y_m1 σ a (y_ds F σ χ s i x) = 0 := if_neg (fun q => q.2 h58)
                have e1 : c + y_mk F σ χ s a (i + 1) x = c + y_mk F σ χ s a i x + y_m1 σ a (y_ds F σ χ s i x) := (Int.add_assoc _ _ _).symm
                have e2 : y_ds F σ χ s (i + 1) x = y_sl F σ s (s_n σ).toNat 0 ((y_ds F σ χ s i x).1, y_nx σ χ (y_ds F σ χ s i x).2 (i : Int)) := rfl
                have := ih (i + 1) c e x M6 y Z (by omega) (am_fr_tr hF hf6 (by omega) (by omega)) hW6.1 (by rw [e2]; exact hW6) hz
                rw [e1, e2, hm1] at this
                rw [Int.add_zero] at this
                exact this
            · refine am_r_iinc7 (pc' := 64) rfl rfl rfl ?_
              refine am_r_aload0 (pc' := 65) rfl rfl ?_
              refine am_r_iload6 (pc' := 67) rfl rfl ?_
              refine am_r_iload4 (pc' := 69) rfl rfl ?_
              refine am_r_invI2 (pc' := 72) rfl rfl rfl (Nat.le_of_ble_eq_true rfl) (c_slipped (x := ((y_ds F σ χ s i x).1, y_nx σ χ (y_ds F σ χ s i x).2 (i : Int))) (by omega) hz1 hz2 hW4 hs ?_)
              · intro M6 hf6 hW6
                refine am_r_istore6 (pc' := 74) rfl rfl rfl ?_
                refine am_r_iinc10 (pc' := 77) rfl rfl rfl ?_
                refine am_r_goto (pc' := 28) rfl rfl ?_
                have hm1 : y_m1 σ a (y_ds F σ χ s i x) = 1 := if_pos ⟨h45, h58⟩
                have e1 : c + y_mk F σ χ s a (i + 1) x = c + y_mk F σ χ s a i x + y_m1 σ a (y_ds F σ χ s i x) := (Int.add_assoc _ _ _).symm
                have e2 : y_ds F σ χ s (i + 1) x = y_sl F σ s (s_n σ).toNat 0 ((y_ds F σ χ s i x).1, y_nx σ χ (y_ds F σ χ s i x).2 (i : Int)) := rfl
                have := ih (i + 1) c e x M6 y Z (by omega) (am_fr_tr hF hf6 (by omega) (by omega)) hW6.1 (by rw [e2]; exact hW6) hz
                rw [e1, e2, hm1] at this
                exact this
  have hout : ∀ (k y : Nat) (N : Am_M) (w10 : Value), (y : Int) + k = yr → am_fr 22 28 M N → am_rw sL xs d am_pX3_drawnYears 1 12 [.ref 29, .int z, .int (z_I yr), .int (z_I m), .int (z_I s), .int (z_I a), .int (y_zy F σ χ s m.toNat z y), .int (z_I (y_ym F σ χ s a m.toNat z y)), .int (z_I (y_ye F σ χ s m.toNat z y)), .int (z_I (y : Int)), w10] [] N (am_pi Q) := by
    intro k
    induction k with
    | zero =>
      intro y N w10 hk hF
      have hyy : yr.toNat = y := by omega
      refine am_r_iload9 (pc' := 14) rfl rfl ?_
      refine am_r_iload2 (pc' := 15) rfl rfl ?_
      refine am_r_icmp_ge (pt := 99) (pf := 18) rfl rfl rfl (fun h15 => ?_) (fun h15 => ?_)
      · refine am_r_iload5 (pc' := 101) rfl rfl ?_
        refine am_r_if_lt (pt := 109) (pf := 104) rfl rfl rfl (fun h101 => ?_) (fun h101 => ?_)
        · refine am_r_iload8 (pc' := 111) rfl rfl ?_
          refine am_r_iret rfl rfl ?_
          refine am_q ?_ (hq N hF)
          unfold y_dr
          rw [if_neg (by omega), hyy]
        · refine am_r_iload7 (pc' := 106) rfl rfl ?_
          refine am_r_goto (pc' := 111) rfl rfl ?_
          refine am_r_iret rfl rfl ?_
          refine am_q ?_ (hq N hF)
          unfold y_dr
          rw [if_pos (by omega), hyy]
      · exfalso; omega
    | succ k ih =>
      intro y N w10 hk hF
      have hX := sx_fr hX hF (by omega)
      refine am_r_iload9 (pc' := 14) rfl rfl ?_
      refine am_r_iload2 (pc' := 15) rfl rfl ?_
      refine am_r_icmp_ge (pt := 99) (pf := 18) rfl rfl rfl (fun h15 => ?_) (fun h15 => ?_)
      · exfalso; omega
      · refine am_r_aload0 (pc' := 19) rfl rfl ?_
        refine am_r_getR (t := 24) (pc' := 22) rfl rfl rfl ?_
        refine am_r_invV0 (pc' := 25) rfl rfl rfl (Nat.le_of_ble_eq_true rfl) (c_begin (by omega) hX ?_)
        · intro M2 hf2 hW2
          have hF2 : am_fr 22 28 M M2 := am_fr_tr hF hf2 (by omega) (by omega)
          refine am_r_iconst (pc' := 26) rfl rfl ?_
          refine am_r_istore10 (pc' := 28) rfl rfl rfl ?_
          refine Eq.mp ?_ (hin m.toNat 0 (y_ym F σ χ s a m.toNat z y) (y_ye F σ χ s m.toNat z y) (y_zy F σ χ s m.toNat z y, s_pl σ) M2 y (am_pi Q) (by omega) hF2 hW2.1 hW2 (fun N6 hF6 hW6 => ?_))
          · rw [show y_mk F σ χ s a 0 (y_zy F σ χ s m.toNat z y, s_pl σ) = 0 from rfl, Int.add_zero]; rfl
          · refine am_r_aload0 (pc' := 81) rfl rfl ?_
            refine am_r_getR (t := 24) (pc' := 84) rfl rfl rfl ?_
            refine am_r_invI0 (pc' := 87) rfl rfl rfl (Nat.le_of_ble_eq_true rfl) (c_areAllAtStart (by omega) hW6 ?_)
            refine am_r_if_eqB (pt := 93) (pf := 90) rfl rfl rfl (fun h87 => ?_) (fun h87 => ?_)
            · refine am_r_iinc9 (pc' := 96) rfl rfl rfl ?_
              refine am_r_goto (pc' := 12) rfl rfl ?_
              have := ih (y + 1) N6 (.int (z_I m)) (by omega) hF6
              rw [show y_ye F σ χ s m.toNat z (y + 1) = y_ye F σ χ s m.toNat z y from (show _ + (if _ then (1 : Int) else 0) = _ by rw [if_neg h87, Int.add_zero])] at this
              exact this
            · refine am_r_iinc8 (pc' := 93) rfl rfl rfl ?_
              refine am_r_iinc9 (pc' := 96) rfl rfl rfl ?_
              refine am_r_goto (pc' := 12) rfl rfl ?_
              have := ih (y + 1) N6 (.int (z_I m)) (by omega) hF6
              rw [show y_ye F σ χ s m.toNat z (y + 1) = y_ye F σ χ s m.toNat z y + 1 from (show _ + (if _ then (1 : Int) else 0) = _ by rw [if_pos h87])] at this
              exact this
  refine am_bi_of (P := am_pX3_drawnYears) (rt := 1) (nL := 11) (Nat.le_of_ble_eq_true rfl) rfl (Nat.le_of_ble_eq_true rfl) rfl rfl rfl ?_
  refine am_r_iload1 (pc' := 1) rfl rfl ?_
  refine am_r_istore6 (pc' := 3) rfl rfl rfl ?_
  refine am_r_iconst (pc' := 4) rfl rfl ?_
  refine am_r_istore7 (pc' := 6) rfl rfl rfl ?_
  refine am_r_iconst (pc' := 7) rfl rfl ?_
  refine am_r_istore8 (pc' := 9) rfl rfl rfl ?_
  refine am_r_iconst (pc' := 10) rfl rfl ?_
  refine am_r_istore9 (pc' := 12) rfl rfl rfl ?_
  exact hout yr.toNat 0 M _ (by omega) (am_fr_rf _ _ _)
