/-! THE LAW of the class: a text worked out -/
/-- a start of the loop -/
def WL (sL : Nat) (xs : Nat → Int32) (d : Nat) (Q : Int32 → Am_M → Prop) (l : List (Int × Int)) (ν : Int → Int32) (N : Am_M) (i : Nat) (st : List Int32) : Prop := ∀ (k t j : Int) (w4 w5 : Value), j = (i : Int) → t = (st.length : Int) → 0 ≤ k ∧ k ≤ j → am_rw sL xs d am_pX4_workedOut 1 6 [.ref 19, .int (z_I t), .int (z_I j), .int (z_I k), w4, w5] [] N (am_pi Q)
theorem cx_v {M : Am_M} {l : List (Int × Int)} (h : CX M l) {i : Nat} {x : Int × Int} (hx : l[i]? = some x) : M.1 20 i = z_I x.1 ∧ M.1 21 i = z_I x.2 := h.2.2.2 i x hx
theorem cx_b {M : Am_M} {l : List (Int × Int)} (h : CX M l) {i : Nat} {x : Int × Int} (hx : l[i]? = some x) : 0 ≤ x.1 ∧ x.1 ≤ 255 ∧ 0 ≤ x.2 ∧ x.2 ≤ 10000 := h.2.2.1 x (List.mem_of_getElem? hx)
theorem cx_l {M : Am_M} {l : List (Int × Int)} (h : CX M l) : l.length ≤ 121 := h.2.1
theorem w_push {sL : Nat} {xs : Nat → Int32} {d : Nat} {M : Am_M} {Q : Int32 → Am_M → Prop} (hd : 1 ≤ d) {l : List (Int × Int)} {ν : Int → Int32} {i : Nat} {x : Int × Int} {st : List Int32} (hC : CX M l) (hν : NM M ν) (hS : SK M st) (hx : l[i]? = some x) (hst : st.length ≤ i) (h1 : x.1 = 1 ∨ x.1 = 2) (hgo : ∀ M2, am_fr 23 23 M M2 → SK M2 ((if x.1 = 1 then z_I x.2 else ν x.2) :: st) → WL sL xs d Q l ν M2 (i + 1) ((if x.1 = 1 then z_I x.2 else ν x.2) :: st)) : WL sL xs d Q l ν M i st := by
  intro k t j w4 w5 hj ht hk
  subst hj
  have hxv := cx_v hC hx
  have hxb := cx_b hC hx
  have hll := cx_l hC
  have hil : i < l.length := (List.getElem?_eq_some_iff.mp hx).1
  refine am_r_iload3 (pc' := 7) rfl rfl ?_
  refine am_r_iconst (pc' := 9) rfl rfl ?_
  refine am_r_icmp_ge (pt := 213) (pf := 12) rfl rfl rfl (fun h9 => ?_) (fun h9 => ?_)
  · refine am_r_iconst (pc' := 214) rfl rfl ?_
    refine am_r_iret rfl rfl ?_
    exfalso; omega
  · refine am_r_iload2 (pc' := 13) rfl rfl ?_
    refine am_r_aload0 (pc' := 14) rfl rfl ?_
    refine am_r_getIv (f := 2) (pc' := 17) rfl rfl rfl (cx_s hC) ?_
    refine am_r_icmp_ge (pt := 213) (pf := 20) rfl rfl rfl (fun h17 => ?_) (fun h17 => ?_)
    · refine am_r_iconst (pc' := 214) rfl rfl ?_
      refine am_r_iret rfl rfl ?_
      exfalso; omega
    · refine am_r_aload0 (pc' := 21) rfl rfl ?_
      refine am_r_getR (t := 20) (pc' := 24) rfl rfl rfl ?_
      refine am_r_iload2 (pc' := 25) rfl rfl ?_
      refine am_r_iaZv (n := 121) (pc' := 26) rfl rfl rfl (by decide) (show _ = z_I x.1 by rw [Int.toNat_natCast]; exact hxv.1) ?_
      refine am_r_istore4 (pc' := 28) rfl rfl rfl ?_
      refine am_r_aload0 (pc' := 29) rfl rfl ?_
      refine am_r_getR (t := 21) (pc' := 32) rfl rfl rfl ?_
      refine am_r_iload2 (pc' := 33) rfl rfl ?_
      refine am_r_iaZv (n := 121) (pc' := 34) rfl rfl rfl (by decide) (show _ = z_I x.2 by rw [Int.toNat_natCast]; exact hxv.2) ?_
      refine am_r_istore5 (pc' := 36) rfl rfl rfl ?_
      refine am_r_iinc2 (pc' := 39) rfl rfl rfl ?_
      refine am_r_iload4 (pc' := 41) rfl rfl ?_
      refine am_r_iconst (pc' := 42) rfl rfl ?_
      refine am_r_icmp_eq (pt := 51) (pf := 45) rfl rfl rfl (fun h42 => ?_) (fun h42 => ?_)
      · refine am_r_iload1 (pc' := 52) rfl rfl ?_
        refine am_r_iconst (pc' := 54) rfl rfl ?_
        refine am_r_icmp_lt (pt := 59) (pf := 57) rfl rfl rfl (fun h54 => ?_) (fun h54 => ?_)
        · refine am_r_aload0 (pc' := 60) rfl rfl ?_
          refine am_r_getR (t := 23) (pc' := 63) rfl rfl rfl ?_
          refine am_r_iload1 (pc' := 64) rfl rfl ?_
          refine am_r_iload4 (pc' := 66) rfl rfl ?_
          refine am_r_iconst (pc' := 67) rfl rfl ?_
          refine am_r_icmp_ne (pt := 75) (pf := 70) rfl rfl rfl (fun h67 => ?_) (fun h67 => ?_)
          · refine am_r_aload0 (pc' := 76) rfl rfl ?_
            refine am_r_iload5 (pc' := 78) rfl rfl ?_
            refine am_r_invI1 (pc' := 81) rfl rfl rfl (Nat.le_of_ble_eq_true rfl) (c_namedBy (by omega) hν (by omega) ?_)
            refine am_r_iast (n := 121) (pc' := 82) rfl rfl (rfl) (by decide) ?_
            refine am_r_iinc1 (pc' := 85) rfl rfl rfl ?_
            refine am_r_goto (pc' := 207) rfl rfl ?_
            refine am_r_iinc3 (pc' := 210) rfl rfl rfl ?_
            refine am_r_goto (pc' := 6) rfl rfl ?_
            first | (rw [if_pos (by omega)] at hgo; exact hgo _ (am_fr_upI (am_fr_rf _ _ _) (by omega)) (sk_push hS (by omega)) _ _ _ _ _ (by omega) (by simp only [List.length_cons]; omega) (by omega)) | (rw [if_neg (by omega)] at hgo; exact hgo _ (am_fr_upI (am_fr_rf _ _ _) (by omega)) (sk_push hS (by omega)) _ _ _ _ _ (by omega) (by simp only [List.length_cons]; omega) (by omega))
          · refine am_r_iload5 (pc' := 72) rfl rfl ?_
            refine am_r_goto (pc' := 81) rfl rfl ?_
            refine am_r_iast (n := 121) (pc' := 82) rfl rfl (rfl) (by decide) ?_
            refine am_r_iinc1 (pc' := 85) rfl rfl rfl ?_
            refine am_r_goto (pc' := 207) rfl rfl ?_
            refine am_r_iinc3 (pc' := 210) rfl rfl rfl ?_
            refine am_r_goto (pc' := 6) rfl rfl ?_
            first | (rw [if_pos (by omega)] at hgo; exact hgo _ (am_fr_upI (am_fr_rf _ _ _) (by omega)) (sk_push hS (by omega)) _ _ _ _ _ (by omega) (by simp only [List.length_cons]; omega) (by omega)) | (rw [if_neg (by omega)] at hgo; exact hgo _ (am_fr_upI (am_fr_rf _ _ _) (by omega)) (sk_push hS (by omega)) _ _ _ _ _ (by omega) (by simp only [List.length_cons]; omega) (by omega))
        · refine am_r_iconst (pc' := 58) rfl rfl ?_
          refine am_r_iret rfl rfl ?_
          exfalso; omega
      · refine am_r_iload4 (pc' := 47) rfl rfl ?_
        refine am_r_iconst (pc' := 48) rfl rfl ?_
        refine am_r_icmp_ne (pt := 88) (pf := 51) rfl rfl rfl (fun h48 => ?_) (fun h48 => ?_)
        · exfalso; omega
        · refine am_r_iload1 (pc' := 52) rfl rfl ?_
          refine am_r_iconst (pc' := 54) rfl rfl ?_
          refine am_r_icmp_lt (pt := 59) (pf := 57) rfl rfl rfl (fun h54 => ?_) (fun h54 => ?_)
          · refine am_r_aload0 (pc' := 60) rfl rfl ?_
            refine am_r_getR (t := 23) (pc' := 63) rfl rfl rfl ?_
            refine am_r_iload1 (pc' := 64) rfl rfl ?_
            refine am_r_iload4 (pc' := 66) rfl rfl ?_
            refine am_r_iconst (pc' := 67) rfl rfl ?_
            refine am_r_icmp_ne (pt := 75) (pf := 70) rfl rfl rfl (fun h67 => ?_) (fun h67 => ?_)
            · refine am_r_aload0 (pc' := 76) rfl rfl ?_
              refine am_r_iload5 (pc' := 78) rfl rfl ?_
              refine am_r_invI1 (pc' := 81) rfl rfl rfl (Nat.le_of_ble_eq_true rfl) (c_namedBy (by omega) hν (by omega) ?_)
              refine am_r_iast (n := 121) (pc' := 82) rfl rfl (rfl) (by decide) ?_
              refine am_r_iinc1 (pc' := 85) rfl rfl rfl ?_
              refine am_r_goto (pc' := 207) rfl rfl ?_
              refine am_r_iinc3 (pc' := 210) rfl rfl rfl ?_
              refine am_r_goto (pc' := 6) rfl rfl ?_
              first | (rw [if_pos (by omega)] at hgo; exact hgo _ (am_fr_upI (am_fr_rf _ _ _) (by omega)) (sk_push hS (by omega)) _ _ _ _ _ (by omega) (by simp only [List.length_cons]; omega) (by omega)) | (rw [if_neg (by omega)] at hgo; exact hgo _ (am_fr_upI (am_fr_rf _ _ _) (by omega)) (sk_push hS (by omega)) _ _ _ _ _ (by omega) (by simp only [List.length_cons]; omega) (by omega))
            · refine am_r_iload5 (pc' := 72) rfl rfl ?_
              refine am_r_goto (pc' := 81) rfl rfl ?_
              refine am_r_iast (n := 121) (pc' := 82) rfl rfl (rfl) (by decide) ?_
              refine am_r_iinc1 (pc' := 85) rfl rfl rfl ?_
              refine am_r_goto (pc' := 207) rfl rfl ?_
              refine am_r_iinc3 (pc' := 210) rfl rfl rfl ?_
              refine am_r_goto (pc' := 6) rfl rfl ?_
              first | (rw [if_pos (by omega)] at hgo; exact hgo _ (am_fr_upI (am_fr_rf _ _ _) (by omega)) (sk_push hS (by omega)) _ _ _ _ _ (by omega) (by simp only [List.length_cons]; omega) (by omega)) | (rw [if_neg (by omega)] at hgo; exact hgo _ (am_fr_upI (am_fr_rf _ _ _) (by omega)) (sk_push hS (by omega)) _ _ _ _ _ (by omega) (by simp only [List.length_cons]; omega) (by omega))
          · refine am_r_iconst (pc' := 58) rfl rfl ?_
            refine am_r_iret rfl rfl ?_
            exfalso; omega

theorem w_bin {sL : Nat} {xs : Nat → Int32} {d : Nat} {M : Am_M} {Q : Int32 → Am_M → Prop} (hd : 1 ≤ d) {l : List (Int × Int)} {ν : Int → Int32} {i : Nat} {x : Int × Int} {st : List Int32} {a b : Int32} (hC : CX M l) (hν : NM M ν) (hS : SK M (b :: a :: st)) (hx : l[i]? = some x) (hst : (b :: a :: st).length ≤ i) (h1 : 6 < x.1) (hgo : ∀ M2, am_fr 23 23 M M2 → SK M2 (q_join x.1 a b :: st) → WL sL xs d Q l ν M2 (i + 1) (q_join x.1 a b :: st)) : WL sL xs d Q l ν M i (b :: a :: st) := by
  intro k t j w4 w5 hj ht hk
  subst hj
  have hxv := cx_v hC hx
  have hxb := cx_b hC hx
  have hll := cx_l hC
  have hil : i < l.length := (List.getElem?_eq_some_iff.mp hx).1
  simp only [List.length_cons] at ht hst
  refine am_r_iload3 (pc' := 7) rfl rfl ?_
  refine am_r_iconst (pc' := 9) rfl rfl ?_
  refine am_r_icmp_ge (pt := 213) (pf := 12) rfl rfl rfl (fun h9 => ?_) (fun h9 => ?_)
  · refine am_r_iconst (pc' := 214) rfl rfl ?_
    refine am_r_iret rfl rfl ?_
    exfalso; omega
  · refine am_r_iload2 (pc' := 13) rfl rfl ?_
    refine am_r_aload0 (pc' := 14) rfl rfl ?_
    refine am_r_getIv (f := 2) (pc' := 17) rfl rfl rfl (cx_s hC) ?_
    refine am_r_icmp_ge (pt := 213) (pf := 20) rfl rfl rfl (fun h17 => ?_) (fun h17 => ?_)
    · refine am_r_iconst (pc' := 214) rfl rfl ?_
      refine am_r_iret rfl rfl ?_
      exfalso; omega
    · refine am_r_aload0 (pc' := 21) rfl rfl ?_
      refine am_r_getR (t := 20) (pc' := 24) rfl rfl rfl ?_
      refine am_r_iload2 (pc' := 25) rfl rfl ?_
      refine am_r_iaZv (n := 121) (pc' := 26) rfl rfl rfl (by decide) (show _ = z_I x.1 by rw [Int.toNat_natCast]; exact hxv.1) ?_
      refine am_r_istore4 (pc' := 28) rfl rfl rfl ?_
      refine am_r_aload0 (pc' := 29) rfl rfl ?_
      refine am_r_getR (t := 21) (pc' := 32) rfl rfl rfl ?_
      refine am_r_iload2 (pc' := 33) rfl rfl ?_
      refine am_r_iaZv (n := 121) (pc' := 34) rfl rfl rfl (by decide) (show _ = z_I x.2 by rw [Int.toNat_natCast]; exact hxv.2) ?_
      refine am_r_istore5 (pc' := 36) rfl rfl rfl ?_
      refine am_r_iinc2 (pc' := 39) rfl rfl rfl ?_
      refine am_r_iload4 (pc' := 41) rfl rfl ?_
      refine am_r_iconst (pc' := 42) rfl rfl ?_
      refine am_r_icmp_eq (pt := 51) (pf := 45) rfl rfl rfl (fun h42 => ?_) (fun h42 => ?_)
      · exfalso; omega
      · refine am_r_iload4 (pc' := 47) rfl rfl ?_
        refine am_r_iconst (pc' := 48) rfl rfl ?_
        refine am_r_icmp_ne (pt := 88) (pf := 51) rfl rfl rfl (fun h48 => ?_) (fun h48 => ?_)
        · refine am_r_iload4 (pc' := 90) rfl rfl ?_
          refine am_r_iconst (pc' := 92) rfl rfl ?_
          refine am_r_icmp_le (pt := 135) (pf := 95) rfl rfl rfl (fun h92 => ?_) (fun h92 => ?_)
          · exfalso; omega
          · refine am_r_iload1 (pc' := 96) rfl rfl ?_
            refine am_r_iconst (pc' := 97) rfl rfl ?_
            refine am_r_icmp_ge (pt := 102) (pf := 100) rfl rfl rfl (fun h97 => ?_) (fun h97 => ?_)
            · refine am_r_iinc1 (pc' := 105) rfl rfl rfl ?_
              refine am_r_aload0 (pc' := 106) rfl rfl ?_
              refine am_r_getR (t := 23) (pc' := 109) rfl rfl rfl ?_
              refine am_r_iload1 (pc' := 110) rfl rfl ?_
              refine am_r_iconst (pc' := 111) rfl rfl ?_
              refine am_r_isub (pc' := 112) rfl rfl ?_
              refine am_r_iload4 (pc' := 114) rfl rfl ?_
              refine am_r_aload0 (pc' := 115) rfl rfl ?_
              refine am_r_getR (t := 23) (pc' := 118) rfl rfl rfl ?_
              refine am_r_iload1 (pc' := 119) rfl rfl ?_
              refine am_r_iconst (pc' := 120) rfl rfl ?_
              refine am_r_isub (pc' := 121) rfl rfl ?_
              refine am_r_iaZv (n := 121) (pc' := 122) rfl rfl rfl (by decide) (sk_at hS.2 (by omega)) ?_
              refine am_r_aload0 (pc' := 123) rfl rfl ?_
              refine am_r_getR (t := 23) (pc' := 126) rfl rfl rfl ?_
              refine am_r_iload1 (pc' := 127) rfl rfl ?_
              refine am_r_iaZv (n := 121) (pc' := 128) rfl rfl rfl (by decide) (sk_at hS (by simp only [List.length_cons]; omega)) ?_
              refine am_r_ivsI3 (pc' := 131) rfl rfl rfl (Nat.le_of_ble_eq_true rfl) (c_joined (by omega) (by omega) ?_)
              refine am_r_iast (n := 121) (pc' := 132) rfl rfl (rfl) (by decide) ?_
              refine am_r_goto (pc' := 207) rfl rfl ?_
              refine am_r_iinc3 (pc' := 210) rfl rfl rfl ?_
              refine am_r_goto (pc' := 6) rfl rfl ?_
              exact hgo _ (am_fr_upI (am_fr_rf _ _ _) (by omega)) (sk_push hS.2.2 (by omega)) _ _ _ _ _ (by omega) (by simp only [List.length_cons]; omega) (by omega)
            · refine am_r_iconst (pc' := 101) rfl rfl ?_
              refine am_r_iret rfl rfl ?_
              exfalso; omega
        · exfalso; omega
theorem w_un {sL : Nat} {xs : Nat → Int32} {d : Nat} {M : Am_M} {Q : Int32 → Am_M → Prop} (hd : 1 ≤ d) {l : List (Int × Int)} {ν : Int → Int32} {i : Nat} {x : Int × Int} {st : List Int32} {a : Int32} (hC : CX M l) (hν : NM M ν) (hS : SK M (a :: st)) (hx : l[i]? = some x) (hst : (a :: st).length ≤ i) (h1 : x.1 = 3 ∨ x.1 = 4) (hgo : ∀ M2, am_fr 23 23 M M2 → SK M2 ((if x.1 = 4 then -a else if a = 0 then z_I 1 else z_I 0) :: st) → WL sL xs d Q l ν M2 (i + 1) ((if x.1 = 4 then -a else if a = 0 then z_I 1 else z_I 0) :: st)) : WL sL xs d Q l ν M i (a :: st) := by
  intro k t j w4 w5 hj ht hk
  subst hj
  have hxv := cx_v hC hx
  have hxb := cx_b hC hx
  have hll := cx_l hC
  have hil : i < l.length := (List.getElem?_eq_some_iff.mp hx).1
  simp only [List.length_cons] at ht hst
  refine am_r_iload3 (pc' := 7) rfl rfl ?_
  refine am_r_iconst (pc' := 9) rfl rfl ?_
  refine am_r_icmp_ge (pt := 213) (pf := 12) rfl rfl rfl (fun h9 => ?_) (fun h9 => ?_)
  · refine am_r_iconst (pc' := 214) rfl rfl ?_
    refine am_r_iret rfl rfl ?_
    exfalso; omega
  · refine am_r_iload2 (pc' := 13) rfl rfl ?_
    refine am_r_aload0 (pc' := 14) rfl rfl ?_
    refine am_r_getIv (f := 2) (pc' := 17) rfl rfl rfl (cx_s hC) ?_
    refine am_r_icmp_ge (pt := 213) (pf := 20) rfl rfl rfl (fun h17 => ?_) (fun h17 => ?_)
    · refine am_r_iconst (pc' := 214) rfl rfl ?_
      refine am_r_iret rfl rfl ?_
      exfalso; omega
    · refine am_r_aload0 (pc' := 21) rfl rfl ?_
      refine am_r_getR (t := 20) (pc' := 24) rfl rfl rfl ?_
      refine am_r_iload2 (pc' := 25) rfl rfl ?_
      refine am_r_iaZv (n := 121) (pc' := 26) rfl rfl rfl (by decide) (show _ = z_I x.1 by rw [Int.toNat_natCast]; exact hxv.1) ?_
      refine am_r_istore4 (pc' := 28) rfl rfl rfl ?_
      refine am_r_aload0 (pc' := 29) rfl rfl ?_
      refine am_r_getR (t := 21) (pc' := 32) rfl rfl rfl ?_
      refine am_r_iload2 (pc' := 33) rfl rfl ?_
      refine am_r_iaZv (n := 121) (pc' := 34) rfl rfl rfl (by decide) (show _ = z_I x.2 by rw [Int.toNat_natCast]; exact hxv.2) ?_
      refine am_r_istore5 (pc' := 36) rfl rfl rfl ?_
      refine am_r_iinc2 (pc' := 39) rfl rfl rfl ?_
      refine am_r_iload4 (pc' := 41) rfl rfl ?_
      refine am_r_iconst (pc' := 42) rfl rfl ?_
      refine am_r_icmp_eq (pt := 51) (pf := 45) rfl rfl rfl (fun h42 => ?_) (fun h42 => ?_)
      · exfalso; omega
      · refine am_r_iload4 (pc' := 47) rfl rfl ?_
        refine am_r_iconst (pc' := 48) rfl rfl ?_
        refine am_r_icmp_ne (pt := 88) (pf := 51) rfl rfl rfl (fun h48 => ?_) (fun h48 => ?_)
        · refine am_r_iload4 (pc' := 90) rfl rfl ?_
          refine am_r_iconst (pc' := 92) rfl rfl ?_
          refine am_r_icmp_le (pt := 135) (pf := 95) rfl rfl rfl (fun h92 => ?_) (fun h92 => ?_)
          · refine am_r_iload1 (pc' := 136) rfl rfl ?_
            refine am_r_iconst (pc' := 137) rfl rfl ?_
            refine am_r_icmp_ge (pt := 142) (pf := 140) rfl rfl rfl (fun h137 => ?_) (fun h137 => ?_)
            · refine am_r_iload4 (pc' := 144) rfl rfl ?_
              refine am_r_iconst (pc' := 146) rfl rfl ?_
              refine am_r_icmp_ne (pt := 158) (pf := 149) rfl rfl rfl (fun h146 => ?_) (fun h146 => ?_)
              · refine am_r_iload4 (pc' := 160) rfl rfl ?_
                refine am_r_iconst (pc' := 161) rfl rfl ?_
                refine am_r_icmp_ne (pt := 186) (pf := 164) rfl rfl rfl (fun h161 => ?_) (fun h161 => ?_)
                · refine am_r_aload0 (pc' := 187) rfl rfl ?_
                  refine am_r_getR (t := 23) (pc' := 190) rfl rfl rfl ?_
                  refine am_r_iload1 (pc' := 191) rfl rfl ?_
                  refine am_r_iconst (pc' := 192) rfl rfl ?_
                  refine am_r_isub (pc' := 193) rfl rfl ?_
                  refine am_r_iload4 (pc' := 195) rfl rfl ?_
                  refine am_r_aload0 (pc' := 196) rfl rfl ?_
                  refine am_r_getR (t := 23) (pc' := 199) rfl rfl rfl ?_
                  refine am_r_iload1 (pc' := 200) rfl rfl ?_
                  refine am_r_iconst (pc' := 201) rfl rfl ?_
                  refine am_r_isub (pc' := 202) rfl rfl ?_
                  refine am_r_iaZv (n := 121) (pc' := 203) rfl rfl rfl (by decide) (sk_at hS (by omega)) ?_
                  refine am_r_ivsI2 (pc' := 206) rfl rfl rfl (Nat.le_of_ble_eq_true rfl) (c_turned (by omega) (by omega) ?_)
                  refine am_r_iast (n := 121) (pc' := 207) rfl rfl (rfl) (by decide) ?_
                  refine am_r_iinc3 (pc' := 210) rfl rfl rfl ?_
                  refine am_r_goto (pc' := 6) rfl rfl ?_
                  exact hgo _ (am_fr_upI (am_fr_rf _ _ _) (by omega)) (sk_push hS.2 (by omega)) _ _ _ _ _ (by omega) (by simp only [List.length_cons]; omega) (by omega)
                · exfalso; omega
              · exfalso; omega
            · refine am_r_iconst (pc' := 141) rfl rfl ?_
              refine am_r_iret rfl rfl ?_
              exfalso; omega
          · refine am_r_iload1 (pc' := 96) rfl rfl ?_
            refine am_r_iconst (pc' := 97) rfl rfl ?_
            refine am_r_icmp_ge (pt := 102) (pf := 100) rfl rfl rfl (fun h97 => ?_) (fun h97 => ?_)
            · exfalso; omega
            · refine am_r_iconst (pc' := 101) rfl rfl ?_
              refine am_r_iret rfl rfl ?_
              exfalso; omega
        · exfalso; omega
theorem w_give {sL : Nat} {xs : Nat → Int32} {d : Nat} {M : Am_M} {Q : Int32 → Am_M → Prop} (hd : 1 ≤ d) {l : List (Int × Int)} {ν : Int → Int32} {i : Nat} {x : Int × Int} {st : List Int32} {a : Int32} (hC : CX M l) (hν : NM M ν) (hS : SK M (a :: st)) (hx : l[i]? = some x) (hst : (a :: st).length ≤ i) (h1 : x.1 = 6) (hq : Q a M) : WL sL xs d Q l ν M i (a :: st) := by
  intro k t j w4 w5 hj ht hk
  subst hj
  have hxv := cx_v hC hx
  have hxb := cx_b hC hx
  have hll := cx_l hC
  have hil : i < l.length := (List.getElem?_eq_some_iff.mp hx).1
  simp only [List.length_cons] at ht hst
  refine am_r_iload3 (pc' := 7) rfl rfl ?_
  refine am_r_iconst (pc' := 9) rfl rfl ?_
  refine am_r_icmp_ge (pt := 213) (pf := 12) rfl rfl rfl (fun h9 => ?_) (fun h9 => ?_)
  · refine am_r_iconst (pc' := 214) rfl rfl ?_
    refine am_r_iret rfl rfl ?_
    first | exact hq | (exfalso; omega)
  · refine am_r_iload2 (pc' := 13) rfl rfl ?_
    refine am_r_aload0 (pc' := 14) rfl rfl ?_
    refine am_r_getIv (f := 2) (pc' := 17) rfl rfl rfl (cx_s hC) ?_
    refine am_r_icmp_ge (pt := 213) (pf := 20) rfl rfl rfl (fun h17 => ?_) (fun h17 => ?_)
    · refine am_r_iconst (pc' := 214) rfl rfl ?_
      refine am_r_iret rfl rfl ?_
      first | exact hq | (exfalso; omega)
    · refine am_r_aload0 (pc' := 21) rfl rfl ?_
      refine am_r_getR (t := 20) (pc' := 24) rfl rfl rfl ?_
      refine am_r_iload2 (pc' := 25) rfl rfl ?_
      refine am_r_iaZv (n := 121) (pc' := 26) rfl rfl rfl (by decide) (show _ = z_I x.1 by rw [Int.toNat_natCast]; exact hxv.1) ?_
      refine am_r_istore4 (pc' := 28) rfl rfl rfl ?_
      refine am_r_aload0 (pc' := 29) rfl rfl ?_
      refine am_r_getR (t := 21) (pc' := 32) rfl rfl rfl ?_
      refine am_r_iload2 (pc' := 33) rfl rfl ?_
      refine am_r_iaZv (n := 121) (pc' := 34) rfl rfl rfl (by decide) (show _ = z_I x.2 by rw [Int.toNat_natCast]; exact hxv.2) ?_
      refine am_r_istore5 (pc' := 36) rfl rfl rfl ?_
      refine am_r_iinc2 (pc' := 39) rfl rfl rfl ?_
      refine am_r_iload4 (pc' := 41) rfl rfl ?_
      refine am_r_iconst (pc' := 42) rfl rfl ?_
      refine am_r_icmp_eq (pt := 51) (pf := 45) rfl rfl rfl (fun h42 => ?_) (fun h42 => ?_)
      · exfalso; omega
      · refine am_r_iload4 (pc' := 47) rfl rfl ?_
        refine am_r_iconst (pc' := 48) rfl rfl ?_
        refine am_r_icmp_ne (pt := 88) (pf := 51) rfl rfl rfl (fun h48 => ?_) (fun h48 => ?_)
        · refine am_r_iload4 (pc' := 90) rfl rfl ?_
          refine am_r_iconst (pc' := 92) rfl rfl ?_
          refine am_r_icmp_le (pt := 135) (pf := 95) rfl rfl rfl (fun h92 => ?_) (fun h92 => ?_)
          · refine am_r_iload1 (pc' := 136) rfl rfl ?_
            refine am_r_iconst (pc' := 137) rfl rfl ?_
            refine am_r_icmp_ge (pt := 142) (pf := 140) rfl rfl rfl (fun h137 => ?_) (fun h137 => ?_)
            · refine am_r_iload4 (pc' := 144) rfl rfl ?_
              refine am_r_iconst (pc' := 146) rfl rfl ?_
              refine am_r_icmp_ne (pt := 158) (pf := 149) rfl rfl rfl (fun h146 => ?_) (fun h146 => ?_)
              · exfalso; omega
              · refine am_r_aload0 (pc' := 150) rfl rfl ?_
                refine am_r_getR (t := 23) (pc' := 153) rfl rfl rfl ?_
                refine am_r_iload1 (pc' := 154) rfl rfl ?_
                refine am_r_iconst (pc' := 155) rfl rfl ?_
                refine am_r_isub (pc' := 156) rfl rfl ?_
                refine am_r_iaZv (n := 121) (pc' := 157) rfl rfl rfl (by decide) (sk_at hS (by omega)) ?_
                refine am_r_iret rfl rfl ?_
                first | exact hq | (exfalso; omega)
            · refine am_r_iconst (pc' := 141) rfl rfl ?_
              refine am_r_iret rfl rfl ?_
              first | exact hq | (exfalso; omega)
          · refine am_r_iload1 (pc' := 96) rfl rfl ?_
            refine am_r_iconst (pc' := 97) rfl rfl ?_
            refine am_r_icmp_ge (pt := 102) (pf := 100) rfl rfl rfl (fun h97 => ?_) (fun h97 => ?_)
            · exfalso; omega
            · refine am_r_iconst (pc' := 101) rfl rfl ?_
              refine am_r_iret rfl rfl ?_
              first | exact hq | (exfalso; omega)
        · exfalso; omega
theorem w_ask {sL : Nat} {xs : Nat → Int32} {d : Nat} {M : Am_M} {Q : Int32 → Am_M → Prop} (hd : 1 ≤ d) {l : List (Int × Int)} {ν : Int → Int32} {i : Nat} {x : Int × Int} {st : List Int32} {a : Int32} (hC : CX M l) (hν : NM M ν) (hS : SK M (a :: st)) (hx : l[i]? = some x) (hst : (a :: st).length ≤ i) (h1 : x.1 = 5) (hv : (i : Int) < x.2) (hgo : ∀ j : Nat, (j : Int) = (if a = 0 then x.2 else (i : Int) + 1) → WL sL xs d Q l ν M j st) : WL sL xs d Q l ν M i (a :: st) := by
  intro k t j w4 w5 hj ht hk
  subst hj
  have hxv := cx_v hC hx
  have hxb := cx_b hC hx
  have hll := cx_l hC
  have hil : i < l.length := (List.getElem?_eq_some_iff.mp hx).1
  simp only [List.length_cons] at ht hst
  refine am_r_iload3 (pc' := 7) rfl rfl ?_
  refine am_r_iconst (pc' := 9) rfl rfl ?_
  refine am_r_icmp_ge (pt := 213) (pf := 12) rfl rfl rfl (fun h9 => ?_) (fun h9 => ?_)
  · refine am_r_iconst (pc' := 214) rfl rfl ?_
    refine am_r_iret rfl rfl ?_
    exfalso; omega
  · refine am_r_iload2 (pc' := 13) rfl rfl ?_
    refine am_r_aload0 (pc' := 14) rfl rfl ?_
    refine am_r_getIv (f := 2) (pc' := 17) rfl rfl rfl (cx_s hC) ?_
    refine am_r_icmp_ge (pt := 213) (pf := 20) rfl rfl rfl (fun h17 => ?_) (fun h17 => ?_)
    · refine am_r_iconst (pc' := 214) rfl rfl ?_
      refine am_r_iret rfl rfl ?_
      exfalso; omega
    · refine am_r_aload0 (pc' := 21) rfl rfl ?_
      refine am_r_getR (t := 20) (pc' := 24) rfl rfl rfl ?_
      refine am_r_iload2 (pc' := 25) rfl rfl ?_
      refine am_r_iaZv (n := 121) (pc' := 26) rfl rfl rfl (by decide) (show _ = z_I x.1 by rw [Int.toNat_natCast]; exact hxv.1) ?_
      refine am_r_istore4 (pc' := 28) rfl rfl rfl ?_
      refine am_r_aload0 (pc' := 29) rfl rfl ?_
      refine am_r_getR (t := 21) (pc' := 32) rfl rfl rfl ?_
      refine am_r_iload2 (pc' := 33) rfl rfl ?_
      refine am_r_iaZv (n := 121) (pc' := 34) rfl rfl rfl (by decide) (show _ = z_I x.2 by rw [Int.toNat_natCast]; exact hxv.2) ?_
      refine am_r_istore5 (pc' := 36) rfl rfl rfl ?_
      refine am_r_iinc2 (pc' := 39) rfl rfl rfl ?_
      refine am_r_iload4 (pc' := 41) rfl rfl ?_
      refine am_r_iconst (pc' := 42) rfl rfl ?_
      refine am_r_icmp_eq (pt := 51) (pf := 45) rfl rfl rfl (fun h42 => ?_) (fun h42 => ?_)
      · exfalso; omega
      · refine am_r_iload4 (pc' := 47) rfl rfl ?_
        refine am_r_iconst (pc' := 48) rfl rfl ?_
        refine am_r_icmp_ne (pt := 88) (pf := 51) rfl rfl rfl (fun h48 => ?_) (fun h48 => ?_)
        · refine am_r_iload4 (pc' := 90) rfl rfl ?_
          refine am_r_iconst (pc' := 92) rfl rfl ?_
          refine am_r_icmp_le (pt := 135) (pf := 95) rfl rfl rfl (fun h92 => ?_) (fun h92 => ?_)
          · refine am_r_iload1 (pc' := 136) rfl rfl ?_
            refine am_r_iconst (pc' := 137) rfl rfl ?_
            refine am_r_icmp_ge (pt := 142) (pf := 140) rfl rfl rfl (fun h137 => ?_) (fun h137 => ?_)
            · refine am_r_iload4 (pc' := 144) rfl rfl ?_
              refine am_r_iconst (pc' := 146) rfl rfl ?_
              refine am_r_icmp_ne (pt := 158) (pf := 149) rfl rfl rfl (fun h146 => ?_) (fun h146 => ?_)
              · refine am_r_iload4 (pc' := 160) rfl rfl ?_
                refine am_r_iconst (pc' := 161) rfl rfl ?_
                refine am_r_icmp_ne (pt := 186) (pf := 164) rfl rfl rfl (fun h161 => ?_) (fun h161 => ?_)
                · exfalso; omega
                · refine am_r_iinc1 (pc' := 167) rfl rfl rfl ?_
                  refine am_r_aload0 (pc' := 168) rfl rfl ?_
                  refine am_r_getR (t := 23) (pc' := 171) rfl rfl rfl ?_
                  refine am_r_iload1 (pc' := 172) rfl rfl ?_
                  refine am_r_iaZv (n := 121) (pc' := 173) rfl rfl rfl (by decide) (sk_at hS (by omega)) ?_
                  refine am_r_if_neR (pt := 181) (pf := 176) rfl rfl rfl (fun h173 => ?_) (fun h173 => ?_)
                  · refine am_r_iload2 (pc' := 182) rfl rfl ?_
                    refine am_r_istore2 (pc' := 183) rfl rfl rfl ?_
                    refine am_r_goto (pc' := 207) rfl rfl ?_
                    refine am_r_iinc3 (pc' := 210) rfl rfl rfl ?_
                    refine am_r_goto (pc' := 6) rfl rfl ?_
                    first | (rw [if_neg (by assumption)] at hgo; exact hgo (i + 1) (by omega) _ _ _ _ _ (by omega) (by omega) (by omega)) | (rw [if_pos (Classical.not_not.mp (by assumption))] at hgo; exact hgo x.2.toNat (by omega) _ _ _ _ _ (by omega) (by omega) (by omega)) | (rw [if_pos (by assumption)] at hgo; exact hgo x.2.toNat (by omega) _ _ _ _ _ (by omega) (by omega) (by omega))
                  · refine am_r_iload5 (pc' := 178) rfl rfl ?_
                    refine am_r_goto (pc' := 182) rfl rfl ?_
                    refine am_r_istore2 (pc' := 183) rfl rfl rfl ?_
                    refine am_r_goto (pc' := 207) rfl rfl ?_
                    refine am_r_iinc3 (pc' := 210) rfl rfl rfl ?_
                    refine am_r_goto (pc' := 6) rfl rfl ?_
                    first | (rw [if_neg (by assumption)] at hgo; exact hgo (i + 1) (by omega) _ _ _ _ _ (by omega) (by omega) (by omega)) | (rw [if_pos (Classical.not_not.mp (by assumption))] at hgo; exact hgo x.2.toNat (by omega) _ _ _ _ _ (by omega) (by omega) (by omega)) | (rw [if_pos (by assumption)] at hgo; exact hgo x.2.toNat (by omega) _ _ _ _ _ (by omega) (by omega) (by omega))
              · exfalso; omega
            · refine am_r_iconst (pc' := 141) rfl rfl ?_
              refine am_r_iret rfl rfl ?_
              exfalso; omega
          · refine am_r_iload1 (pc' := 96) rfl rfl ?_
            refine am_r_iconst (pc' := 97) rfl rfl ?_
            refine am_r_icmp_ge (pt := 102) (pf := 100) rfl rfl rfl (fun h97 => ?_) (fun h97 => ?_)
            · exfalso; omega
            · refine am_r_iconst (pc' := 101) rfl rfl ?_
              refine am_r_iret rfl rfl ?_
              exfalso; omega
        · exfalso; omega
theorem nm_fr {M M' : Am_M} {ν : Int → Int32} {lo hi : Nat} (h : NM M ν) (hf : am_fr lo hi M M') (hh : hi < 22 ∨ 22 < lo) : NM M' ν := ⟨fun k hk => by rw [(hf 22 (by omega)).1]; exact h.1 k hk, h.2⟩
theorem q_step_b2 {ν : Int → Int32} {x : Int × Int} (h : 6 < x.1) {a b : Int32} {r : List Int32} : q_step ν x (b :: a :: r) = some (q_join x.1 a b :: r) := by
  unfold q_step
  rw [if_neg (by omega), if_neg (by omega), if_pos h]
theorem q_step_b1 {ν : Int → Int32} {x : Int × Int} (h : 6 < x.1) {b : Int32} : q_step ν x [b] = none := by
  unfold q_step
  rw [if_neg (by omega), if_neg (by omega), if_pos h]
theorem q_step_b0 {ν : Int → Int32} {x : Int × Int} (h : 6 < x.1) : q_step ν x [] = none := by
  unfold q_step
  rw [if_neg (by omega), if_neg (by omega), if_pos h]
theorem q_step_u1 {ν : Int → Int32} {x : Int × Int} (h : x.1 = 3 ∨ x.1 = 4) {a : Int32} {r : List Int32} : q_step ν x (a :: r) = some ((if x.1 = 4 then -a else if a = 0 then z_I 1 else z_I 0) :: r) := by
  unfold q_step
  rw [if_neg (by omega), if_neg (by omega), if_neg (by omega), if_pos h]
theorem q_step_u0 {ν : Int → Int32} {x : Int × Int} (h : x.1 = 3 ∨ x.1 = 4) : q_step ν x [] = none := by
  unfold q_step
  rw [if_neg (by omega), if_neg (by omega), if_neg (by omega), if_pos h]
/-- a run of steps -/
theorem w_seg {sL : Nat} {xs : Nat → Int32} {d : Nat} {Q : Int32 → Am_M → Prop} (hd : 1 ≤ d) {l : List (Int × Int)} {ν : Int → Int32} {M0 : Am_M} : ∀ (s A B : List (Int × Int)) (st st' : List Int32) (M : Am_M), l = A ++ s ++ B → q_ev ν s st = some st' → am_fr 23 23 M0 M → CX M l → NM M ν → SK M st → st.length ≤ A.length → (∀ M', am_fr 23 23 M0 M' → CX M' l → NM M' ν → SK M' st' → st'.length ≤ (A ++ s).length → WL sL xs d Q l ν M' (A ++ s).length st') → WL sL xs d Q l ν M A.length st
  | [], A, B, st, st', M, hl, he, hF, hC, hν, hS, hst, hgo => by
    have : st = st' := by simpa [q_ev] using he
    subst this
    rw [List.append_nil] at hgo
    exact hgo M hF hC hν hS hst
  | x :: s, A, B, st, st', M, hl, he, hF, hC, hν, hS, hst, hgo => by
    have hx : l[A.length]? = some x := by
      rw [hl, List.append_assoc, List.getElem?_append_right (Nat.le_refl _)]
      simp
    have hl2 : l = (A ++ [x]) ++ s ++ B := by rw [hl]; simp
    have hlen : (A ++ [x]).length = A.length + 1 := by simp
    have hgo2 : ∀ M', am_fr 23 23 M0 M' → CX M' l → NM M' ν → SK M' st' → st'.length ≤ ((A ++ [x]) ++ s).length → WL sL xs d Q l ν M' ((A ++ [x]) ++ s).length st' := by
      rw [show (A ++ [x]) ++ s = A ++ (x :: s) by simp]
      exact hgo
    have hrec : ∀ (st1 : List Int32), q_ev ν s st1 = some st' → st1.length ≤ A.length + 1 → ∀ M2, am_fr 23 23 M M2 → SK M2 st1 → WL sL xs d Q l ν M2 (A.length + 1) st1 := by
      intro st1 h1 h2 M2 h3 h4
      have := w_seg hd s (A ++ [x]) B st1 st' M2 hl2 h1 (am_fr_tr hF h3 (by omega) (by omega)) (cx_fr hC h3 (by omega)) (nm_fr hν h3 (by omega)) h4 (by rw [hlen]; exact h2) hgo2
      rw [hlen] at this
      exact this
    simp only [q_ev] at he
    by_cases c1 : x.1 = 1 ∨ x.1 = 2
    · have e : q_step ν x st = some ((if x.1 = 1 then z_I x.2 else ν x.2) :: st) := by
        unfold q_step
        rcases c1 with c1 | c1
        · rw [if_pos c1, if_pos c1]
        · rw [if_neg (by omega), if_pos c1, if_neg (by omega)]
      rw [e] at he
      exact w_push hd hC hν hS hx hst c1 (hrec _ he (by simp only [List.length_cons]; omega))
    · by_cases c2 : 6 < x.1
      · rcases st with _ | ⟨b, _ | ⟨a, r⟩⟩
        · rw [q_step_b0 c2] at he; exact absurd he (by simp)
        · rw [q_step_b1 c2] at he; exact absurd he (by simp)
        · rw [q_step_b2 c2] at he
          exact w_bin hd hC hν hS hx hst c2 (hrec _ he (by simp only [List.length_cons] at hst ⊢; omega))
      · by_cases c3 : x.1 = 3 ∨ x.1 = 4
        · rcases st with _ | ⟨a, r⟩
          · rw [q_step_u0 c3] at he; exact absurd he (by simp)
          · rw [q_step_u1 c3] at he
            exact w_un hd hC hν hS hx hst c3 (hrec _ he (by simp only [List.length_cons] at hst ⊢; omega))
        · have e : q_step ν x st = none := by
            unfold q_step
            rw [if_neg (by omega), if_neg (by omega), if_neg c2, if_neg c3]
          rw [e] at he
          exact absurd he (by simp)
theorem w_at {sL : Nat} {xs : Nat → Int32} {d : Nat} {Q : Int32 → Am_M → Prop} {l : List (Int × Int)} {ν : Int → Int32} {N : Am_M} {st : List Int32} {i j : Nat} (e : i = j) (h : WL sL xs d Q l ν N i st) : WL sL xs d Q l ν N j st := e ▸ h
/-- a line at work -/
theorem w_ln {sL : Nat} {xs : Nat → Int32} {d : Nat} {Q : Int32 → Am_M → Prop} (hd : 1 ≤ d) {l A B : List (Int × Int)} {ν : Int → Int32} {M0 M : Am_M} {c : Int → Int} {p : Int} (hok : (q_ln (q_e c) c A.length p).1 = true) (hl : l = A ++ (q_ln (q_e c) c A.length p).2.2.1 ++ B) (hF : am_fr 23 23 M0 M) (hC : CX M l) (hν : NM M ν)
    (hret : ∀ v M', am_fr 23 23 M0 M' → (q_ln (q_e c) c A.length p).2.2.2 ν = some v → Q v M')
    (hgo : ∀ M', am_fr 23 23 M0 M' → CX M' l → NM M' ν → (q_ln (q_e c) c A.length p).2.2.2 ν = none → WL sL xs d Q l ν M' (A ++ (q_ln (q_e c) c A.length p).2.2.1).length []) : WL sL xs d Q l ν M A.length [] := by
  have hv : ∀ p, q_wv (q_e c p) := q_e_wv c
  unfold q_ln at hok hl hret hgo
  by_cases h1 : (q_e c p).1 = true
  · simp only [if_pos h1] at hok hl hret hgo
    by_cases h2 : c (q_e c p).2.1 = 63
    · simp only [if_pos h2] at hok hl hret hgo
      by_cases h3 : (q_e c ((q_e c p).2.1 + 1)).1 = true
      · simp only [if_pos h3] at hok hl hret hgo
        -- the question
        refine w_seg hd (q_e c p).2.2.1 A ([(5, ((A.length + (q_e c p).2.2.1.length + 1 + (q_e c ((q_e c p).2.1 + 1)).2.2.1.length + 1 : Nat) : Int))] ++ (q_e c ((q_e c p).2.1 + 1)).2.2.1 ++ [(6, 0)] ++ B) [] _ M (by rw [hl]; simp) (hv p h1 ν []) hF hC hν trivial (by simp) ?_
        intro M1 hF1 hC1 hν1 hS1 hst1
        have hx1 : l[(A ++ (q_e c p).2.2.1).length]? = some (5, ((A.length + (q_e c p).2.2.1.length + 1 + (q_e c ((q_e c p).2.1 + 1)).2.2.1.length + 1 : Nat) : Int)) := by
          rw [hl, show A ++ ((q_e c p).2.2.1 ++ [(5, ((A.length + (q_e c p).2.2.1.length + 1 + (q_e c ((q_e c p).2.1 + 1)).2.2.1.length + 1 : Nat) : Int))] ++ (q_e c ((q_e c p).2.1 + 1)).2.2.1 ++ [(6, 0)]) ++ B = (A ++ (q_e c p).2.2.1) ++ ((5, ((A.length + (q_e c p).2.2.1.length + 1 + (q_e c ((q_e c p).2.1 + 1)).2.2.1.length + 1 : Nat) : Int)) :: ((q_e c ((q_e c p).2.1 + 1)).2.2.1 ++ [(6, 0)] ++ B)) by simp]
          rw [List.getElem?_append_right (Nat.le_refl _)]
          simp
        refine w_ask hd hC1 hν1 hS1 hx1 hst1 rfl (by simp only [List.length_append]; omega) ?_
        intro j hj
        by_cases h0 : (q_e c p).2.2.2 ν = 0
        · rw [if_pos h0] at hj
          have := hgo M1 hF1 hC1 hν1 (by rw [if_pos h0])
          exact w_at (by simp only [List.length_append, List.length_cons, List.length_nil]; omega) this
        · rw [if_neg h0] at hj
          have hw := w_seg (sL := sL) (xs := xs) (d := d) (Q := Q) hd (q_e c ((q_e c p).2.1 + 1)).2.2.1 (A ++ (q_e c p).2.2.1 ++ [(5, ((A.length + (q_e c p).2.2.1.length + 1 + (q_e c ((q_e c p).2.1 + 1)).2.2.1.length + 1 : Nat) : Int))]) ([(6, 0)] ++ B) [] _ M1 (l := l) (by rw [hl]; simp) (hv _ h3 ν []) hF1 hC1 hν1 trivial (by simp) (fun M2 hF2 hC2 hν2 hS2 hst2 => by
            refine w_give hd hC2 hν2 hS2 (x := (6, 0)) ?_ hst2 rfl (hret _ M2 hF2 (by rw [if_neg h0]))
            rw [hl, show A ++ ((q_e c p).2.2.1 ++ [(5, ((A.length + (q_e c p).2.2.1.length + 1 + (q_e c ((q_e c p).2.1 + 1)).2.2.1.length + 1 : Nat) : Int))] ++ (q_e c ((q_e c p).2.1 + 1)).2.2.1 ++ [(6, 0)]) ++ B = (A ++ (q_e c p).2.2.1 ++ [(5, ((A.length + (q_e c p).2.2.1.length + 1 + (q_e c ((q_e c p).2.1 + 1)).2.2.1.length + 1 : Nat) : Int))] ++ (q_e c ((q_e c p).2.1 + 1)).2.2.1) ++ ((6, 0) :: B) by simp]
            rw [List.getElem?_append_right (Nat.le_refl _)]
            simp)
          exact w_at (by simp only [List.length_append, List.length_cons, List.length_nil] at hj ⊢; omega) hw
      · rw [if_neg h3] at hok
        exact absurd hok (by simp [q_nt])
    · simp only [if_neg h2] at hok hl hret hgo
      refine w_seg hd (q_e c p).2.2.1 A ([(6, 0)] ++ B) [] _ M (by rw [hl]; simp) (hv p h1 ν []) hF hC hν trivial (by simp) ?_
      intro M1 hF1 hC1 hν1 hS1 hst1
      refine w_give hd hC1 hν1 hS1 (x := (6, 0)) ?_ hst1 rfl (hret _ M1 hF1 rfl)
      rw [hl, show A ++ ((q_e c p).2.2.1 ++ [(6, 0)]) ++ B = (A ++ (q_e c p).2.2.1) ++ ((6, 0) :: B) by simp]
      rw [List.getElem?_append_right (Nat.le_refl _)]
      simp
  · rw [if_neg h1] at hok
    exact absurd hok (by simp [q_nt])
/-- lines at work, from the first on -/
def w_P (sL : Nat) (xs : Nat → Int32) (d : Nat) (ν : Int → Int32) (a : q_T) : Prop := ∀ (Q : Int32 → Am_M → Prop) (l B : List (Int × Int)) (M : Am_M), l = a.2.2.1 ++ B → CX M l → NM M ν → (∀ v M', am_fr 23 23 M M' → a.2.2.2 ν = some v → Q v M') → (∀ M', am_fr 23 23 M M' → CX M' l → NM M' ν → a.2.2.2 ν = none → WL sL xs d Q l ν M' a.2.2.1.length []) → WL sL xs d Q l ν M 0 []
theorem w_P0 {sL : Nat} {xs : Nat → Int32} {d : Nat} {ν : Int → Int32} {c : Int → Int} (hd : 1 ≤ d) (hok : (q_ln (q_e c) c 0 0).1 = true) : w_P sL xs d ν (q_ln (q_e c) c 0 0) := fun Q l B M hl hC hν hret hgo =>
  w_ln hd (A := []) (B := B) hok hl (am_fr_rf _ _ _) hC hν hret hgo
theorem w_Ps {sL : Nat} {xs : Nat → Int32} {d : Nat} {ν : Int → Int32} {c : Int → Int} (hd : 1 ≤ d) : ∀ (k : Nat) (a : q_T), a.1 = true → w_P sL xs d ν a → (q_tx (q_e c) c k a).1 = true → w_P sL xs d ν (q_tx (q_e c) c k a)
  | 0, a, _, h, _ => h
  | k + 1, a, ha, h, hok => by
    unfold q_tx at hok ⊢
    by_cases q : a.1 = true ∧ c a.2.1 = 59
    · rw [if_pos q] at hok ⊢
      by_cases r : (q_ln (q_e c) c a.2.2.1.length (a.2.1 + 1)).1 = true
      · rw [if_pos r] at hok ⊢
        refine w_Ps hd k _ rfl ?_ hok
        intro Q l B M hl hC hν hret hgo
        simp only at hl hret hgo
        refine h Q l ((q_ln (q_e c) c a.2.2.1.length (a.2.1 + 1)).2.2.1 ++ B) M (by rw [hl]; simp) hC hν (fun v M' f e => hret v M' f (by rw [e]; rfl)) (fun M' f hC' hν' e => ?_)
        refine w_ln hd (A := a.2.2.1) (B := B) r hl f hC' hν' (fun v M'' f2 e2 => hret v M'' f2 (by rw [e]; exact e2)) (fun M'' f2 hC2 hν2 e2 => ?_)
        exact hgo M'' f2 hC2 hν2 (by rw [e]; exact e2)
      · rw [if_neg r] at hok
        exact absurd hok (by simp [q_nt])
    · rw [if_neg q] at hok ⊢
      exact h
theorem w_all {sL : Nat} {xs : Nat → Int32} {d : Nat} {ν : Int → Int32} {c : Int → Int} (hd : 1 ≤ d) (hok : q_good c = true) : w_P sL xs d ν (q_all c) := by
  have h1 : (q_all c).1 = true := by unfold q_good at hok; exact (Bool.and_eq_true _ _ ▸ hok).1
  have h0 : (q_ln (q_e c) c 0 0).1 = true := by
    by_cases q : (q_ln (q_e c) c 0 0).1 = true
    · exact q
    · have e : q_all c = q_ln (q_e c) c 0 0 := by
        unfold q_all
        rw [q_tx, if_neg (fun z => q z.1)]
      rw [e] at h1
      exact h1
  exact w_Ps hd 120 _ h0 (w_P0 hd h0) h1
set_option maxRecDepth 20000 in
theorem c_workedOut {sL : Nat} {xs : Nat → Int32} {d : Nat} {M : Am_M} {Q : Int32 → Am_M → Prop} (hd : 2 ≤ d) {c : Int → Int} {ν : Int → Int32} (hok : q_good c = true) (hC : CX M (q_all c).2.2.1) (hν : NM M ν) (hq : ∀ M', am_fr 23 23 M M' → Q (((q_all c).2.2.2 ν).getD (z_I 0)) M') : am_bi sL xs d 38 [.ref 19] M Q := by
  obtain ⟨d, rfl⟩ : ∃ e, d = e + 1 := ⟨d - 1, by omega⟩
  refine am_bi_of (P := am_pX4_workedOut) (rt := 1) (nL := 6) (Nat.le_of_ble_eq_true rfl) rfl (Nat.le_of_ble_eq_true rfl) rfl rfl rfl ?_
  refine am_r_iconst (pc' := 1) rfl rfl ?_
  refine am_r_istore1 (pc' := 2) rfl rfl rfl ?_
  refine am_r_iconst (pc' := 3) rfl rfl ?_
  refine am_r_istore2 (pc' := 4) rfl rfl rfl ?_
  refine am_r_iconst (pc' := 5) rfl rfl ?_
  refine am_r_istore3 (pc' := 6) rfl rfl rfl ?_
  refine w_all (by omega) hok Q (q_all c).2.2.1 [] M (by simp) hC hν (fun v M' f e => by have := hq M' f; rw [e] at this; exact this) (fun M' f hC2 hν2 e => ?_) 0 0 0 _ _ rfl rfl (by omega)
  intro k t j w4 w5 hj ht hk
  have hll := cx_l hC2
  have hq2 := hq M' f
  rw [e] at hq2
  refine am_r_iload3 (pc' := 7) rfl rfl ?_
  refine am_r_iconst (pc' := 9) rfl rfl ?_
  refine am_r_icmp_ge (pt := 213) (pf := 12) rfl rfl rfl (fun h9 => ?_) (fun h9 => ?_)
  · refine am_r_iconst (pc' := 214) rfl rfl ?_
    refine am_r_iret rfl rfl ?_
    exact hq2
  · refine am_r_iload2 (pc' := 13) rfl rfl ?_
    refine am_r_aload0 (pc' := 14) rfl rfl ?_
    refine am_r_getIv (f := 2) (pc' := 17) rfl rfl rfl (cx_s hC2) ?_
    refine am_r_icmp_ge (pt := 213) (pf := 20) rfl rfl rfl (fun h17 => ?_) (fun h17 => ?_)
    · refine am_r_iconst (pc' := 214) rfl rfl ?_
      refine am_r_iret rfl rfl ?_
      exact hq2
    · exfalso; omega
theorem nm_3 {M : Am_M} (ν : Int → Int32) (h2 : ∀ k : Int, ¬ (0 ≤ k ∧ k ≤ 5) → ν k = z_I 0) (h0 : M.1 22 0 = ν 0) (h1 : M.1 22 1 = ν 1) (h22 : M.1 22 2 = ν 2) (h3 : M.1 22 3 = ν 3) (h4 : M.1 22 4 = ν 4) (h5 : M.1 22 5 = ν 5) : NM M ν := by
  refine ⟨fun k hk => ?_, h2⟩
  rcases (show k = 0 ∨ k = 1 ∨ k = 2 ∨ k = 3 ∨ k = 4 ∨ k = 5 by omega) with rfl | rfl | rfl | rfl | rfl | rfl
  · exact h0
  · exact h1
  · exact h22
  · exact h3
  · exact h4
  · exact h5
/-- the six names -/
def q_n6 (l w r a d p : Int) : Int → Int32 := fun k => if k = 0 then z_I l else if k = 1 then z_I w else if k = 2 then z_I r else if k = 3 then z_I a else if k = 4 then z_I d else if k = 5 then z_I p else z_I 0
/-- the law's text, or none -/
abbrev q_X := Option (Int → Int)
def CL (M : Am_M) : q_X → Prop
  | none => M.1 19 2 = z_I 0
  | some c => q_good c = true ∧ CX M (q_all c).2.2.1
theorem cl_fr {M M' : Am_M} {χ : q_X} {lo hi : Nat} (h : CL M χ) (hf : am_fr lo hi M M') (hh : hi < 19 ∨ 21 < lo) : CL M' χ := by
  cases χ with
  | none => exact ((congrFun (hf 19 (by omega)).1 2).trans h)
  | some c => exact ⟨h.1, cx_fr h.2 hf hh⟩
def g_given (χ : q_X) (l w r a d p : Int) : Int32 := match χ with
  | none => z_I (l * w)
  | some c => ((q_all c).2.2.2 (q_n6 l w r a d p)).getD (z_I 0)
def g_push (χ : q_X) (l w r a d p : Int) : Int := max (-9) (min 9 (g_given χ l w r a d p).toInt)
theorem g_push_b (χ : q_X) (l w r a d p : Int) : -9 ≤ g_push χ l w r a d p ∧ g_push χ l w r a d p ≤ 9 := by unfold g_push; omega
theorem q_all_1 (c : Int → Int) (h : q_good c = true) : (q_all c).2.2.1.length ≠ 0 := by
  have h1 : (q_all c).1 = true := by unfold q_good at h; exact (Bool.and_eq_true _ _ ▸ h).1
  have key : ∀ (k : Nat) (a : q_T), (a.1 = true → a.2.2.1.length ≠ 0) → (q_tx (q_e c) c k a).1 = true → (q_tx (q_e c) c k a).2.2.1.length ≠ 0 := by
    intro k
    induction k with
    | zero => intro a ha hk; exact ha hk
    | succ k ih =>
      intro a ha hk
      unfold q_tx at hk ⊢
      by_cases q : a.1 = true ∧ c a.2.1 = 59
      · rw [if_pos q] at hk ⊢
        by_cases r : (q_ln (q_e c) c a.2.2.1.length (a.2.1 + 1)).1 = true
        · rw [if_pos r] at hk ⊢
          refine ih _ (fun _ => ?_) hk
          have := ha q.1
          simp only [List.length_append]
          omega
        · rw [if_neg r] at hk
          exact absurd hk (by simp [q_nt])
      · rw [if_neg q] at hk ⊢
        exact ha hk
  refine key 120 _ (fun z => ?_) h1
  unfold q_ln at z ⊢
  by_cases r : (q_e c 0).1 = true
  · rw [if_pos r] at z ⊢
    by_cases t : c (q_e c 0).2.1 = 63
    · rw [if_pos t] at z ⊢
      by_cases u : (q_e c ((q_e c 0).2.1 + 1)).1 = true
      · rw [if_pos u] at z ⊢
        simp
      · rw [if_neg u] at z
        exact absurd z (by simp [q_nt])
    · rw [if_neg t] at z ⊢
      simp
  · rw [if_neg r] at z
    exact absurd z (by simp [q_nt])
theorem c_turnTo {sL : Nat} {xs : Nat → Int32} {d : Nat} {M : Am_M} {Q : Am_M → Prop} (hd : 1 ≤ d) {x y z : Int32} (hq : ∀ M', am_fr 22 22 M M' → M'.1 22 2 = x → M'.1 22 4 = y → M'.1 22 5 = z → Q M') : am_bv sL xs d 36 [.ref 19, .int x, .int y, .int z] M Q := by
  obtain ⟨d, rfl⟩ : ∃ e, d = e + 1 := ⟨d - 1, by omega⟩
  refine am_bv_of (P := am_pX4_turnTo) (rt := 0) (nL := 4) (Nat.le_of_ble_eq_true rfl) rfl (Nat.le_of_ble_eq_true rfl) rfl rfl rfl ?_
  refine am_r_aload0 (pc' := 1) rfl rfl ?_
  refine am_r_getR (t := 22) (pc' := 4) rfl rfl rfl ?_
  refine am_r_iconst (pc' := 5) rfl rfl ?_
  refine am_r_iload1 (pc' := 6) rfl rfl ?_
  refine am_r_iast (n := 6) (pc' := 7) rfl rfl (rfl) (by decide) ?_
  refine am_r_aload0 (pc' := 8) rfl rfl ?_
  refine am_r_getR (t := 22) (pc' := 11) rfl rfl rfl ?_
  refine am_r_iconst (pc' := 12) rfl rfl ?_
  refine am_r_iload2 (pc' := 13) rfl rfl ?_
  refine am_r_iast (n := 6) (pc' := 14) rfl rfl (rfl) (by decide) ?_
  refine am_r_aload0 (pc' := 15) rfl rfl ?_
  refine am_r_getR (t := 22) (pc' := 18) rfl rfl rfl ?_
  refine am_r_iconst (pc' := 19) rfl rfl ?_
  refine am_r_iload3 (pc' := 20) rfl rfl ?_
  refine am_r_iast (n := 6) (pc' := 21) rfl rfl (rfl) (by decide) ?_
  refine am_r_vret rfl rfl ?_
  exact hq _ (am_fr_upI (am_fr_upI (am_fr_upI (am_fr_rf _ _ _) (by omega)) (by omega)) (by omega)) (by simp [am_upI]) (by simp [am_upI]) (by simp [am_upI])
theorem c_push {sL : Nat} {xs : Nat → Int32} {d : Nat} {M : Am_M} {Q : Int32 → Am_M → Prop} (hd : 3 ≤ d) {χ : q_X} {l w r a t p : Int} (hL : CL M χ) (h2 : M.1 22 2 = z_I r) (h4 : M.1 22 4 = z_I t) (h5 : M.1 22 5 = z_I p) (hl : -9 ≤ l ∧ l ≤ 9) (hw : 0 ≤ w ∧ w ≤ 9) (hq : ∀ M', am_fr 22 23 M M' → M'.1 22 2 = z_I r → M'.1 22 4 = z_I t → M'.1 22 5 = z_I p → Q (z_I (g_push χ l w r a t p)) M') : am_bi sL xs d 37 [.ref 19, .int (z_I l), .int (z_I w), .int (z_I a)] M Q := by
  obtain ⟨d, rfl⟩ : ∃ e, d = e + 1 := ⟨d - 1, by omega⟩
  have hlw : -81 ≤ l * w ∧ l * w ≤ 81 := by
    obtain ⟨j, rfl⟩ : ∃ j : Nat, w = j := ⟨w.toNat, by omega⟩
    rcases (show j = 0 ∨ j = 1 ∨ j = 2 ∨ j = 3 ∨ j = 4 ∨ j = 5 ∨ j = 6 ∨ j = 7 ∨ j = 8 ∨ j = 9 by omega) with rfl | rfl | rfl | rfl | rfl | rfl | rfl | rfl | rfl | rfl <;> omega
  refine am_bi_of (P := am_pX4_push) (rt := 1) (nL := 5) (Nat.le_of_ble_eq_true rfl) rfl (Nat.le_of_ble_eq_true rfl) rfl rfl rfl ?_
  refine am_r_aload0 (pc' := 1) rfl rfl ?_
  refine am_r_getR (t := 22) (pc' := 4) rfl rfl rfl ?_
  refine am_r_iconst (pc' := 5) rfl rfl ?_
  refine am_r_iload1 (pc' := 6) rfl rfl ?_
  refine am_r_iast (n := 6) (pc' := 7) rfl rfl (rfl) (by decide) ?_
  refine am_r_aload0 (pc' := 8) rfl rfl ?_
  refine am_r_getR (t := 22) (pc' := 11) rfl rfl rfl ?_
  refine am_r_iconst (pc' := 12) rfl rfl ?_
  refine am_r_iload2 (pc' := 13) rfl rfl ?_
  refine am_r_iast (n := 6) (pc' := 14) rfl rfl (rfl) (by decide) ?_
  refine am_r_aload0 (pc' := 15) rfl rfl ?_
  refine am_r_getR (t := 22) (pc' := 18) rfl rfl rfl ?_
  refine am_r_iconst (pc' := 19) rfl rfl ?_
  refine am_r_iload3 (pc' := 20) rfl rfl ?_
  refine am_r_iast (n := 6) (pc' := 21) rfl rfl (rfl) (by decide) ?_
  have hF : am_fr 22 22 M (am_upI (am_upI (am_upI M 22 0 (z_I l)) 22 1 (z_I w)) 22 3 (z_I a)) := am_fr_upI (am_fr_upI (am_fr_upI (am_fr_rf _ _ _) (by omega)) (by omega)) (by omega)
  have e0 : (am_upI (am_upI (am_upI M 22 0 (z_I l)) 22 1 (z_I w)) 22 3 (z_I a)).1 22 2 = z_I r := by simp [am_upI, h2]
  have e1 : (am_upI (am_upI (am_upI M 22 0 (z_I l)) 22 1 (z_I w)) 22 3 (z_I a)).1 22 4 = z_I t := by simp [am_upI, h4]
  have e2 : (am_upI (am_upI (am_upI M 22 0 (z_I l)) 22 1 (z_I w)) 22 3 (z_I a)).1 22 5 = z_I p := by simp [am_upI, h5]
  have hL2 := cl_fr hL hF (by omega)
  cases χ with
  | none =>
    refine am_r_aload0 (pc' := 22) rfl rfl ?_
    refine am_r_getIv (f := 2) (pc' := 25) rfl rfl rfl (hL2) ?_
    refine am_r_if_ne (pt := 34) (pf := 28) rfl rfl rfl (fun h25 => ?_) (fun h25 => ?_)
    · exfalso; omega
    · refine am_r_iload1 (pc' := 29) rfl rfl ?_
      refine am_r_iload2 (pc' := 30) rfl rfl ?_
      refine am_r_imul (pc' := 31) rfl rfl ?_
      refine am_r_goto (pc' := 38) rfl rfl ?_
      refine am_r_istore4 (pc' := 40) rfl rfl rfl ?_
      refine am_r_iconst (pc' := 42) rfl rfl ?_
      refine am_r_iconst (pc' := 44) rfl rfl ?_
      refine am_r_iload4 (pc' := 46) rfl rfl ?_
      refine am_r_minZ (pc' := 49) rfl rfl (Nat.le_of_ble_eq_true rfl) ?_
      refine am_r_maxZ (pc' := 52) rfl rfl (Nat.le_of_ble_eq_true rfl) ?_
      refine am_r_iret rfl rfl ?_
      refine am_q ?_ (hq _ (am_fr_w hF (by omega)) e0 e1 e2)
      unfold g_push g_given
      rw [z_toInt (by omega)]
  | some c =>
    have hne := q_all_1 c hL.1
    have hcl := cx_l hL2.2
    refine am_r_aload0 (pc' := 22) rfl rfl ?_
    refine am_r_getIv (f := 2) (pc' := 25) rfl rfl rfl (cx_s hL2.2) ?_
    refine am_r_if_ne (pt := 34) (pf := 28) rfl rfl rfl (fun h25 => ?_) (fun h25 => ?_)
    · refine am_r_aload0 (pc' := 35) rfl rfl ?_
      refine am_r_invI0 (pc' := 38) rfl rfl rfl (Nat.le_of_ble_eq_true rfl) (c_workedOut (by omega) hL2.1 hL2.2 (nm_3 (q_n6 l w r a t p) (fun k hk => by unfold q_n6; repeat (rw [if_neg (by omega)])) (by simp [am_upI]; rfl) (by simp [am_upI]; rfl) e0 (by simp [am_upI]; rfl) e1 e2) ?_)
      · intro M2 hf2
        obtain ⟨g, hg, eg⟩ := z_of (((q_all c).2.2.2 (q_n6 l w r a t p)).getD (z_I 0))
        rw [eg]
        refine am_r_istore4 (pc' := 40) rfl rfl rfl ?_
        refine am_r_iconst (pc' := 42) rfl rfl ?_
        refine am_r_iconst (pc' := 44) rfl rfl ?_
        refine am_r_iload4 (pc' := 46) rfl rfl ?_
        refine am_r_minZ (pc' := 49) rfl rfl (Nat.le_of_ble_eq_true rfl) ?_
        refine am_r_maxZ (pc' := 52) rfl rfl (Nat.le_of_ble_eq_true rfl) ?_
        refine am_r_iret rfl rfl ?_
        refine am_q ?_ (hq _ (am_fr_tr hF hf2 (by omega) (by omega)) (by rw [(hf2 22 (by omega)).1]; exact e0) (by rw [(hf2 22 (by omega)).1]; exact e1) (by rw [(hf2 22 (by omega)).1]; exact e2))
        unfold g_push g_given
        simp only
        rw [eg, z_toInt (by omega)]
    · exfalso; omega
