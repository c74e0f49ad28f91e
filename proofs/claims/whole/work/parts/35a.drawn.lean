/-! PUSHED, the class: slips by draws, books -/
def y_z1 (z : Int32) : Int32 := z * z_I 1103515245 + z_I 12345
def y_ush (x y : Int32) : Int32 := (x.toUInt32 >>> (y.toUInt32 &&& Int32.toUInt32 31)).toInt32
def y_r12 (z : Int32) : Int32 := y_ush z (z_I 8) - y_ush z (z_I 8) / z_I 12 * z_I 12
abbrev y_S : Type := Int32 × y_P
/-- slips of the bodies from i on, k of them -/
def y_sl (σ : Sg) (s : Int) : Nat → Int → y_S → y_S
  | 0, _, x => x
  | k + 1, i, x => y_sl σ s k (i + 1) (y_z1 x.1, if z_I s ≤ y_r12 (y_z1 x.1) then x.2 else fun a => if a = i then (x.2 i + -1) % s_rd σ i else x.2 a)
theorem y_sl_B {σ : Sg} (h : SB σ) (s : Int) : ∀ (k : Nat) (i : Int) (x : y_S), y_B σ x.2 → y_B σ (y_sl σ s k i x).2
  | 0, _, x, hx => hx
  | k + 1, i, x, hx => by
    refine y_sl_B h s k (i + 1) _ ?_
    show y_B σ (if z_I s ≤ y_r12 (y_z1 x.1) then x.2 else fun a => if a = i then (x.2 i + -1) % s_rd σ i else x.2 a)
    split
    · exact hx
    · intro a ha
      have := sg_b h ha
      by_cases e : a = i
      · simp only [if_pos e]
        rw [← e]
        exact ⟨Int.emod_nonneg _ (by omega), Int.emod_lt_of_pos _ (by omega)⟩
      · simp only [if_neg e]
        exact hx a ha
/-- one day, k days -/
def y_dy (σ : Sg) (χ : q_X) (s t : Int) (x : y_S) : y_S := y_sl σ s (s_n σ).toNat 0 (x.1, y_nx σ χ x.2 t)
def y_ds (σ : Sg) (χ : q_X) (s : Int) : Nat → y_S → y_S
  | 0, x => x
  | k + 1, x => y_dy σ χ s (k : Int) (y_ds σ χ s k x)
theorem y_ds_B {σ : Sg} (h : SB σ) (χ : q_X) (s : Int) : ∀ (k : Nat) (x : y_S), y_B σ x.2 → y_B σ (y_ds σ χ s k x).2
  | 0, _, hx => hx
  | k + 1, x, hx => y_sl_B h s _ _ _ (y_nx_B h χ _ _)
/-- on how many of k days a meets anybody -/
def y_m1 (σ : Sg) (a : Int) (x : y_S) : Int := if 0 ≤ a ∧ y_bits σ x.2 a ≠ 0 then 1 else 0
def y_mk (σ : Sg) (χ : q_X) (s a : Int) : Nat → y_S → Int
  | 0, _ => 0
  | k + 1, x => y_mk σ χ s a k x + y_m1 σ a (y_ds σ χ s k x)
/-- the years -/
def y_zy (σ : Sg) (χ : q_X) (s : Int) (m : Nat) (z : Int32) : Nat → Int32
  | 0 => z
  | k + 1 => (y_ds σ χ s m (y_zy σ χ s m z k, s_pl σ)).1
def y_ym (σ : Sg) (χ : q_X) (s a : Int) (m : Nat) (z : Int32) : Nat → Int
  | 0 => 0
  | k + 1 => y_ym σ χ s a m z k + y_mk σ χ s a m (y_zy σ χ s m z k, s_pl σ)
def y_ye (σ : Sg) (χ : q_X) (s : Int) (m : Nat) (z : Int32) : Nat → Int
  | 0 => 0
  | k + 1 => y_ye σ χ s m z k + (if y_z0 σ (y_ds σ χ s m (y_zy σ χ s m z k, s_pl σ)).2 = true then 1 else 0)
def y_dr (σ : Sg) (χ : q_X) (z : Int32) (y m s a : Int) : Int := if 0 ≤ a then y_ym σ χ s a m.toNat z y.toNat else y_ye σ χ s m.toNat z y.toNat
theorem c_slipped {sL : Nat} {xs : Nat → Int32} {d : Nat} {M : Am_M} {Q : Int32 → Am_M → Prop} (hd : 3 ≤ d) {σ : Sg} {x : y_S} {s : Int} (hW : WX M σ x.2) (hs : 0 ≤ s ∧ s ≤ 12) (hq : ∀ M', am_fr 25 25 M M' → WX M' σ (y_sl σ s (s_n σ).toNat 0 x).2 → Q (y_sl σ s (s_n σ).toNat 0 x).1 M') : am_bi sL xs d 33 [.ref 29, .int x.1, .int (z_I s)] M Q := by
  obtain ⟨d, rfl⟩ : ∃ e, d = e + 1 := ⟨d - 1, by omega⟩
  have hX := hW.1
  have hn := sb_nb hX.1
  have hloop : ∀ (k : Nat) (i : Int) (y : y_S) (N : Am_M), 0 ≤ i ∧ i + k = s_n σ → am_fr 25 25 M N → WX N σ y.2 → y_sl σ s k i y = y_sl σ s (s_n σ).toNat 0 x → am_rw sL xs d am_pX3_slipped 1 5 [.ref 29, .int x.1, .int (z_I s), .int y.1, .int (z_I i)] [] N (am_pi Q) := by
    intro k
    induction k with
    | zero =>
      intro i y N hk hF hW he
      have hX := hW.1
      refine am_r_iload4 (pc' := 7) rfl rfl ?_
      refine am_r_aload0 (pc' := 8) rfl rfl ?_
      refine am_r_getR (t := 1) (pc' := 11) rfl rfl rfl ?_
      refine am_r_getIv (f := 5) (pc' := 14) rfl rfl rfl (sx_n hX) ?_
      refine am_r_icmp_ge (pt := 53) (pf := 17) rfl rfl rfl (fun h14 => ?_) (fun h14 => ?_)
      · refine am_r_iload3 (pc' := 54) rfl rfl ?_
        refine am_r_iret rfl rfl ?_
        rw [← he] at hq
        exact hq N hF hW
      · exfalso; omega
    | succ k ih =>
      intro i y N hk hF hW he
      have hX := hW.1
      have hg := sg_b hX.1 (a := i) (by omega)
      have hpi := wx_b hW (a := i) (by omega)
      have h12 : ¬ z_I 12 = 0 := by decide
      refine am_r_iload4 (pc' := 7) rfl rfl ?_
      refine am_r_aload0 (pc' := 8) rfl rfl ?_
      refine am_r_getR (t := 1) (pc' := 11) rfl rfl rfl ?_
      refine am_r_getIv (f := 5) (pc' := 14) rfl rfl rfl (sx_n hX) ?_
      refine am_r_icmp_ge (pt := 53) (pf := 17) rfl rfl rfl (fun h14 => ?_) (fun h14 => ?_)
      · exfalso; omega
      · refine am_r_iload3 (pc' := 18) rfl rfl ?_
        refine am_r_iconst (pc' := 20) rfl rfl ?_
        refine am_r_imulR (pc' := 21) rfl rfl ?_
        refine am_r_iconst (pc' := 24) rfl rfl ?_
        refine am_r_iaddR (pc' := 25) rfl rfl ?_
        refine am_r_istore3 (pc' := 26) rfl rfl rfl ?_
        refine am_r_iload3 (pc' := 27) rfl rfl ?_
        refine am_r_iconst (pc' := 29) rfl rfl ?_
        refine am_r_iushr (pc' := 30) rfl rfl ?_
        refine am_r_iconst (pc' := 32) rfl rfl ?_
        refine am_r_iremR (pc' := 33) rfl rfl (by assumption) ?_
        refine am_r_iload2 (pc' := 34) rfl rfl ?_
        refine am_r_icmp_geR (pt := 47) (pf := 37) rfl rfl rfl (fun h34 => ?_) (fun h34 => ?_)
        · refine am_r_iinc4 (pc' := 50) rfl rfl rfl ?_
          refine am_r_goto (pc' := 5) rfl rfl ?_
          first
          | (refine ih (i + 1) (y_z1 y.1, y.2) N (by omega) hF hW ?_; rw [← he]; show _ = y_sl σ s k (i + 1) (y_z1 y.1, if z_I s ≤ y_r12 (y_z1 y.1) then y.2 else fun a => if a = i then (y.2 i + -1) % s_rd σ i else y.2 a); rw [if_pos (show z_I s ≤ y_r12 (y_z1 y.1) from h34)])
          | (refine ih (i + 1) (y_z1 y.1, fun a => if a = i then (y.2 i + -1) % s_rd σ i else y.2 a) _ (by omega) (am_fr_upI hF (by omega)) ⟨sx_fr hX (am_fr_upI (am_fr_rf 25 25 _) (by omega)) (by omega), fun a ha => ?_, fun a ha => ?_⟩ ?_
             · have := sg_b hX.1 ha
               by_cases e : a = i
               · simp only [if_pos e]
                 rw [← e]
                 exact ⟨Int.emod_nonneg _ (by omega), Int.emod_lt_of_pos _ (by omega)⟩
               · simp only [if_neg e]
                 exact hW.2.1 a ha
             · by_cases e : a = i
               · simp only [if_pos e]
                 rw [e]
                 exact am_up_e _ _ _ _
               · have q2 : a.toNat ≠ i.toNat := by omega
                 simp only [if_neg e]
                 rw [am_up_n _ _ _ _ _ q2]
                 exact wx_pl hW ha
             · rw [← he]
               show _ = y_sl σ s k (i + 1) (y_z1 y.1, if z_I s ≤ y_r12 (y_z1 y.1) then y.2 else fun a => if a = i then (y.2 i + -1) % s_rd σ i else y.2 a)
               rw [if_neg (show ¬ z_I s ≤ y_r12 (y_z1 y.1) from h34)])
        · refine am_r_aload0 (pc' := 38) rfl rfl ?_
          refine am_r_getR (t := 24) (pc' := 41) rfl rfl rfl ?_
          refine am_r_iload4 (pc' := 43) rfl rfl ?_
          refine am_r_iconst (pc' := 44) rfl rfl ?_
          refine am_r_invV2 (pc' := 47) rfl rfl rfl (Nat.le_of_ble_eq_true rfl) (c_move (by omega) hX (a := i) (b := -1) (p := y.2 i) (by omega) (wx_pl hW (by omega)) (by omega) (by omega) ?_)
          refine am_r_iinc4 (pc' := 50) rfl rfl rfl ?_
          refine am_r_goto (pc' := 5) rfl rfl ?_
          first
          | (refine ih (i + 1) (y_z1 y.1, y.2) N (by omega) hF hW ?_; rw [← he]; show _ = y_sl σ s k (i + 1) (y_z1 y.1, if z_I s ≤ y_r12 (y_z1 y.1) then y.2 else fun a => if a = i then (y.2 i + -1) % s_rd σ i else y.2 a); rw [if_pos (show z_I s ≤ y_r12 (y_z1 y.1) from h34)])
          | (refine ih (i + 1) (y_z1 y.1, fun a => if a = i then (y.2 i + -1) % s_rd σ i else y.2 a) _ (by omega) (am_fr_upI hF (by omega)) ⟨sx_fr hX (am_fr_upI (am_fr_rf 25 25 _) (by omega)) (by omega), fun a ha => ?_, fun a ha => ?_⟩ ?_
             · have := sg_b hX.1 ha
               by_cases e : a = i
               · simp only [if_pos e]
                 rw [← e]
                 exact ⟨Int.emod_nonneg _ (by omega), Int.emod_lt_of_pos _ (by omega)⟩
               · simp only [if_neg e]
                 exact hW.2.1 a ha
             · by_cases e : a = i
               · simp only [if_pos e]
                 rw [e]
                 exact am_up_e _ _ _ _
               · have q2 : a.toNat ≠ i.toNat := by omega
                 simp only [if_neg e]
                 rw [am_up_n _ _ _ _ _ q2]
                 exact wx_pl hW ha
             · rw [← he]
               show _ = y_sl σ s k (i + 1) (y_z1 y.1, if z_I s ≤ y_r12 (y_z1 y.1) then y.2 else fun a => if a = i then (y.2 i + -1) % s_rd σ i else y.2 a)
               rw [if_neg (show ¬ z_I s ≤ y_r12 (y_z1 y.1) from h34)])
  refine am_bi_of (P := am_pX3_slipped) (rt := 1) (nL := 5) (Nat.le_of_ble_eq_true rfl) rfl (Nat.le_of_ble_eq_true rfl) rfl rfl rfl ?_
  refine am_r_iload1 (pc' := 1) rfl rfl ?_
  refine am_r_istore3 (pc' := 2) rfl rfl rfl ?_
  refine am_r_iconst (pc' := 3) rfl rfl ?_
  refine am_r_istore4 (pc' := 5) rfl rfl rfl ?_
  exact hloop (s_n σ).toNat 0 x M (by omega) (am_fr_rf _ _ _) hW rfl
theorem c_drawnYears {sL : Nat} {xs : Nat → Int32} {d : Nat} {M : Am_M} {Q : Int32 → Am_M → Prop} (hd : 6 ≤ d) {σ : Sg} {χ : q_X} (hX : SX M σ) (hL : CL M χ) {z : Int32} {yr m s a : Int} (hy : 1 ≤ yr ∧ yr ≤ 30) (hm : 1 ≤ m ∧ m ≤ 60) (hs : 0 ≤ s ∧ s ≤ 12) (ha : a = -1 ∨ (0 ≤ a ∧ a < s_n σ)) (hq : ∀ M', am_fr 22 28 M M' → Q (z_I (y_dr σ χ z yr m s a)) M') : am_bi sL xs d 32 [.ref 29, .int z, .int (z_I yr), .int (z_I m), .int (z_I s), .int (z_I a)] M Q := by
  obtain ⟨d, rfl⟩ : ∃ e, d = e + 1 := ⟨d - 1, by omega⟩
  have hn := sb_nb hX.1
  have hin : ∀ (k i : Nat) (c e : Int) (x : y_S) (N : Am_M) (y : Nat) (Z : Option Value → Am_M → Prop), (i : Int) + k = m → am_fr 22 28 M N → SX N σ → WX N σ (y_ds σ χ s i x).2 → (∀ N' : Am_M, am_fr 22 28 M N' → WX N' σ (y_ds σ χ s m.toNat x).2 → am_rw sL xs d am_pX3_drawnYears 1 80 [.ref 29, .int z, .int (z_I yr), .int (z_I m), .int (z_I s), .int (z_I a), .int (y_ds σ χ s m.toNat x).1, .int (z_I (c + y_mk σ χ s a m.toNat x)), .int (z_I e), .int (z_I (y : Int)), .int (z_I m)] [] N' Z) → am_rw sL xs d am_pX3_drawnYears 1 28 [.ref 29, .int z, .int (z_I yr), .int (z_I m), .int (z_I s), .int (z_I a), .int (y_ds σ χ s i x).1, .int (z_I (c + y_mk σ χ s a i x)), .int (z_I e), .int (z_I (y : Int)), .int (z_I (i : Int))] [] N Z := by
    intro k
    induction k with
    | zero =>
      intro i c e x N y Z hk hF hX hW hz
      have hmi : m.toNat = i := by omega
      rw [hmi] at hz
      refine am_r_iload10 (pc' := 30) rfl rfl ?_
      refine am_r_iload3 (pc' := 31) rfl rfl ?_
      refine am_r_icmp_ge (pt := 80) (pf := 34) rfl rfl rfl (fun h31 => ?_) (fun h31 => ?_)
      · rw [show (i : Int) = m by omega]
        exact hz N hF hW
      · exfalso; omega
    | succ k ih =>
      intro i c e x N y Z hk hF hX hW hz
      have hL := cl_fr hL hF (by omega)
      have hwb := y_bits_b hX.1 (y_ds σ χ s i x).2 a
      refine am_r_iload10 (pc' := 30) rfl rfl ?_
      refine am_r_iload3 (pc' := 31) rfl rfl ?_
      refine am_r_icmp_ge (pt := 80) (pf := 34) rfl rfl rfl (fun h31 => ?_) (fun h31 => ?_)
      · exfalso; omega
      · refine am_r_aload0 (pc' := 35) rfl rfl ?_
        refine am_r_getR (t := 24) (pc' := 38) rfl rfl rfl ?_
        refine am_r_iload10 (pc' := 40) rfl rfl ?_
        refine am_r_invV1 (pc' := 43) rfl rfl rfl (Nat.le_of_ble_eq_true rfl) (c_pass (χ := χ) (t := (i : Int)) (by omega) hW hL ?_)
        · intro M4 hf4 hW4 hme4 hpu4 hb4
          have hF := am_fr_tr (lo := 22) (hi := 28) hF hf4 (by omega) (by omega)
          refine am_r_iload5 (pc' := 45) rfl rfl ?_
          refine am_r_if_lt (pt := 64) (pf := 48) rfl rfl rfl (fun h45 => ?_) (fun h45 => ?_)
          · refine am_r_aload0 (pc' := 65) rfl rfl ?_
            refine am_r_iload6 (pc' := 67) rfl rfl ?_
            refine am_r_iload4 (pc' := 69) rfl rfl ?_
            refine am_r_invI2 (pc' := 72) rfl rfl rfl (Nat.le_of_ble_eq_true rfl) (c_slipped (x := ((y_ds σ χ s i x).1, y_nx σ χ (y_ds σ χ s i x).2 (i : Int))) (by omega) hW4 hs ?_)
            · intro M6 hf6 hW6
              refine am_r_istore6 (pc' := 74) rfl rfl rfl ?_
              refine am_r_iinc10 (pc' := 77) rfl rfl rfl ?_
              refine am_r_goto (pc' := 28) rfl rfl ?_
              have e1 : c + y_mk σ χ s a (i + 1) x = c + y_mk σ χ s a i x + y_m1 σ a (y_ds σ χ s i x) := by rw [Int.add_assoc]; rfl
              have e2 : y_ds σ χ s (i + 1) x = y_sl σ s (s_n σ).toNat 0 ((y_ds σ χ s i x).1, y_nx σ χ (y_ds σ χ s i x).2 (i : Int)) := rfl
              have := ih (i + 1) c e x M6 y Z (by omega) (am_fr_tr hF hf6 (by omega) (by omega)) hW6.1 (by rw [e2]; exact hW6) hz
              rw [e1, e2] at this
              first
              | (rw [show y_m1 σ a (y_ds σ χ s i x) = 1 from if_pos ⟨h45, h58⟩] at this; exact this)
              | (rw [show y_m1 σ a (y_ds σ χ s i x) = 0 from if_neg (fun q => q.2 h58), Int.add_zero] at this; exact this)
              | (rw [show y_m1 σ a (y_ds σ χ s i x) = 0 from if_neg (fun q => by omega), Int.add_zero] at this; exact this)
          · refine am_r_aload0 (pc' := 49) rfl rfl ?_
            refine am_r_getR (t := 24) (pc' := 52) rfl rfl rfl ?_
            refine am_r_getR (t := 28) (pc' := 55) rfl rfl rfl ?_
            refine am_r_iload5 (pc' := 57) rfl rfl ?_
            refine am_r_iaZv (n := 8) (pc' := 58) rfl rfl rfl (by decide) (hb4 a (by omega)) ?_
            refine am_r_if_eq (pt := 64) (pf := 61) rfl rfl rfl (fun h58 => ?_) (fun h58 => ?_)
            · refine am_r_aload0 (pc' := 65) rfl rfl ?_
              refine am_r_iload6 (pc' := 67) rfl rfl ?_
              refine am_r_iload4 (pc' := 69) rfl rfl ?_
              refine am_r_invI2 (pc' := 72) rfl rfl rfl (Nat.le_of_ble_eq_true rfl) (c_slipped (x := ((y_ds σ χ s i x).1, y_nx σ χ (y_ds σ χ s i x).2 (i : Int))) (by omega) hW4 hs ?_)
              · intro M6 hf6 hW6
                refine am_r_istore6 (pc' := 74) rfl rfl rfl ?_
                refine am_r_iinc10 (pc' := 77) rfl rfl rfl ?_
                refine am_r_goto (pc' := 28) rfl rfl ?_
                have e1 : c + y_mk σ χ s a (i + 1) x = c + y_mk σ χ s a i x + y_m1 σ a (y_ds σ χ s i x) := by rw [Int.add_assoc]; rfl
                have e2 : y_ds σ χ s (i + 1) x = y_sl σ s (s_n σ).toNat 0 ((y_ds σ χ s i x).1, y_nx σ χ (y_ds σ χ s i x).2 (i : Int)) := rfl
                have := ih (i + 1) c e x M6 y Z (by omega) (am_fr_tr hF hf6 (by omega) (by omega)) hW6.1 (by rw [e2]; exact hW6) hz
                rw [e1, e2] at this
                first
                | (rw [show y_m1 σ a (y_ds σ χ s i x) = 1 from if_pos ⟨h45, h58⟩] at this; exact this)
                | (rw [show y_m1 σ a (y_ds σ χ s i x) = 0 from if_neg (fun q => q.2 h58), Int.add_zero] at this; exact this)
                | (rw [show y_m1 σ a (y_ds σ χ s i x) = 0 from if_neg (fun q => by omega), Int.add_zero] at this; exact this)
            · refine am_r_iinc7 (pc' := 64) rfl rfl rfl ?_
              refine am_r_aload0 (pc' := 65) rfl rfl ?_
              refine am_r_iload6 (pc' := 67) rfl rfl ?_
              refine am_r_iload4 (pc' := 69) rfl rfl ?_
              refine am_r_invI2 (pc' := 72) rfl rfl rfl (Nat.le_of_ble_eq_true rfl) (c_slipped (x := ((y_ds σ χ s i x).1, y_nx σ χ (y_ds σ χ s i x).2 (i : Int))) (by omega) hW4 hs ?_)
              · intro M6 hf6 hW6
                refine am_r_istore6 (pc' := 74) rfl rfl rfl ?_
                refine am_r_iinc10 (pc' := 77) rfl rfl rfl ?_
                refine am_r_goto (pc' := 28) rfl rfl ?_
                have e1 : c + y_mk σ χ s a (i + 1) x = c + y_mk σ χ s a i x + y_m1 σ a (y_ds σ χ s i x) := by rw [Int.add_assoc]; rfl
                have e2 : y_ds σ χ s (i + 1) x = y_sl σ s (s_n σ).toNat 0 ((y_ds σ χ s i x).1, y_nx σ χ (y_ds σ χ s i x).2 (i : Int)) := rfl
                have := ih (i + 1) c e x M6 y Z (by omega) (am_fr_tr hF hf6 (by omega) (by omega)) hW6.1 (by rw [e2]; exact hW6) hz
                rw [e1, e2] at this
                first
                | (rw [show y_m1 σ a (y_ds σ χ s i x) = 1 from if_pos ⟨h45, h58⟩] at this; exact this)
                | (rw [show y_m1 σ a (y_ds σ χ s i x) = 0 from if_neg (fun q => q.2 h58), Int.add_zero] at this; exact this)
                | (rw [show y_m1 σ a (y_ds σ χ s i x) = 0 from if_neg (fun q => by omega), Int.add_zero] at this; exact this)
  have hout : ∀ (k y : Nat) (N : Am_M) (w10 : Value), (y : Int) + k = yr → am_fr 22 28 M N → am_rw sL xs d am_pX3_drawnYears 1 12 [.ref 29, .int z, .int (z_I yr), .int (z_I m), .int (z_I s), .int (z_I a), .int (y_zy σ χ s m.toNat z y), .int (z_I (y_ym σ χ s a m.toNat z y)), .int (z_I (y_ye σ χ s m.toNat z y)), .int (z_I (y : Int)), w10] [] N (am_pi Q) := by
    intro k
    induction k with
    | zero =>
      intro y N w10 hk hF
      have hyy : yr.toNat = y := by omega
      refine am_r_iload9 (pc' := 14) rfl rfl ?_
      refine am_r_iload2 (pc' := 15) rfl rfl ?_
      refine am_r_icmp_ge (pt := 99) (pf := 18) rfl rfl rfl (fun h15 => ?_) (fun h15 => ?_)
      · refine am_r_iload5 (pc' := 101) rfl rfl ?_
        refine am_r_if_lt (pt := 109) (pf := 104) rfl rfl rfl (fun h101 => ?_) (fun h101 => ?_)
        · refine am_r_iload8 (pc' := 111) rfl rfl ?_
          refine am_r_iret rfl rfl ?_
          have := hq N hF
          unfold y_dr at this
          rw [hyy] at this
          first
          | (rw [if_pos (by omega)] at this; exact this)
          | (rw [if_neg (by omega)] at this; exact this)
        · refine am_r_iload7 (pc' := 106) rfl rfl ?_
          refine am_r_goto (pc' := 111) rfl rfl ?_
          refine am_r_iret rfl rfl ?_
          have := hq N hF
          unfold y_dr at this
          rw [hyy] at this
          first
          | (rw [if_pos (by omega)] at this; exact this)
          | (rw [if_neg (by omega)] at this; exact this)
      · exfalso; omega
    | succ k ih =>
      intro y N w10 hk hF
      have hX := sx_fr hX hF (by omega)
      refine am_r_iload9 (pc' := 14) rfl rfl ?_
      refine am_r_iload2 (pc' := 15) rfl rfl ?_
      refine am_r_icmp_ge (pt := 99) (pf := 18) rfl rfl rfl (fun h15 => ?_) (fun h15 => ?_)
      · exfalso; omega
      · refine am_r_aload0 (pc' := 19) rfl rfl ?_
        refine am_r_getR (t := 24) (pc' := 22) rfl rfl rfl ?_
        refine am_r_invV0 (pc' := 25) rfl rfl rfl (Nat.le_of_ble_eq_true rfl) (c_begin (by omega) hX ?_)
        · intro M2 hf2 hW2
          have hF2 : am_fr 22 28 M M2 := am_fr_tr hF hf2 (by omega) (by omega)
          refine am_r_iconst (pc' := 26) rfl rfl ?_
          refine am_r_istore10 (pc' := 28) rfl rfl rfl ?_
          refine Eq.mp ?_ (hin m.toNat 0 (y_ym σ χ s a m.toNat z y) (y_ye σ χ s m.toNat z y) (y_zy σ χ s m.toNat z y, s_pl σ) M2 y (am_pi Q) (by omega) hF2 hW2.1 hW2 (fun N6 hF6 hW6 => ?_))
          · rw [show y_mk σ χ s a 0 (y_zy σ χ s m.toNat z y, s_pl σ) = 0 from rfl, Int.add_zero]; rfl
          · refine am_r_aload0 (pc' := 81) rfl rfl ?_
            refine am_r_getR (t := 24) (pc' := 84) rfl rfl rfl ?_
            refine am_r_invI0 (pc' := 87) rfl rfl rfl (Nat.le_of_ble_eq_true rfl) (c_areAllAtStart (by omega) hW6 ?_)
            refine am_r_if_eqB (pt := 93) (pf := 90) rfl rfl rfl (fun h87 => ?_) (fun h87 => ?_)
            · refine am_r_iinc9 (pc' := 96) rfl rfl rfl ?_
              refine am_r_goto (pc' := 12) rfl rfl ?_
              have := ih (y + 1) N6 (.int (z_I m)) (by omega) hF6
              first
              | (rw [show y_ye σ χ s m.toNat z (y + 1) = y_ye σ χ s m.toNat z y + 1 from congrArg (y_ye σ χ s m.toNat z y + ·) (if_pos h87)] at this; exact this)
              | (rw [show y_ye σ χ s m.toNat z (y + 1) = y_ye σ χ s m.toNat z y from (congrArg (y_ye σ χ s m.toNat z y + ·) (if_neg h87)).trans (Int.add_zero _)] at this; exact this)
            · refine am_r_iinc8 (pc' := 93) rfl rfl rfl ?_
              refine am_r_iinc9 (pc' := 96) rfl rfl rfl ?_
              refine am_r_goto (pc' := 12) rfl rfl ?_
              have := ih (y + 1) N6 (.int (z_I m)) (by omega) hF6
              first
              | (rw [show y_ye σ χ s m.toNat z (y + 1) = y_ye σ χ s m.toNat z y + 1 from congrArg (y_ye σ χ s m.toNat z y + ·) (if_pos h87)] at this; exact this)
              | (rw [show y_ye σ χ s m.toNat z (y + 1) = y_ye σ χ s m.toNat z y from (congrArg (y_ye σ χ s m.toNat z y + ·) (if_neg h87)).trans (Int.add_zero _)] at this; exact this)
  refine am_bi_of (P := am_pX3_drawnYears) (rt := 1) (nL := 11) (Nat.le_of_ble_eq_true rfl) rfl (Nat.le_of_ble_eq_true rfl) rfl rfl rfl ?_
  refine am_r_iload1 (pc' := 1) rfl rfl ?_
  refine am_r_istore6 (pc' := 3) rfl rfl rfl ?_
  refine am_r_iconst (pc' := 4) rfl rfl ?_
  refine am_r_istore7 (pc' := 6) rfl rfl rfl ?_
  refine am_r_iconst (pc' := 7) rfl rfl ?_
  refine am_r_istore8 (pc' := 9) rfl rfl rfl ?_
  refine am_r_iconst (pc' := 10) rfl rfl ?_
  refine am_r_istore9 (pc' := 12) rfl rfl rfl ?_
  exact hout yr.toNat 0 M _ (by omega) (am_fr_rf _ _ _)
