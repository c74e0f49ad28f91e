/-! THE LAW'S TEXT, the reference: operands, lines -/
variable {M M' : Am_M} {c : Int → Int} {n p f : Int} {ν : Int → Int32}
theorem q_j60t {x y : Int32} (h : ¬ y ≤ x) : z_I 1 = q_join 60 x y := (show q_join 60 x y = if x < y then z_I 1 else z_I 0 from rfl).symm ▸ (if_pos (Int32.not_le.mp h)).symm
theorem q_j60f {x y : Int32} (h : y ≤ x) : z_I 0 = q_join 60 x y := (show q_join 60 x y = if x < y then z_I 1 else z_I 0 from rfl).symm ▸ (if_neg (Int32.not_lt.mpr h)).symm
theorem q_j61t {x y : Int32} (h : ¬ ¬ x = y) : z_I 1 = q_join 61 x y := (show q_join 61 x y = if x = y then z_I 1 else z_I 0 from rfl).symm ▸ (if_pos (Classical.not_not.mp h)).symm
theorem q_j61f {x y : Int32} (h : ¬ x = y) : z_I 0 = q_join 61 x y := (show q_join 61 x y = if x = y then z_I 1 else z_I 0 from rfl).symm ▸ (if_neg h).symm
theorem q_j62t {x y : Int32} (h : ¬ x ≤ y) : z_I 1 = q_join 62 x y := (show q_join 62 x y = if y < x then z_I 1 else z_I 0 from rfl).symm ▸ (if_pos (Int32.not_le.mp h)).symm
theorem q_j62f {x y : Int32} (h : x ≤ y) : z_I 0 = q_join 62 x y := (show q_join 62 x y = if y < x then z_I 1 else z_I 0 from rfl).symm ▸ (if_neg (Int32.not_lt.mpr h)).symm
theorem m_compared {sL : Nat} {xs : Nat → Int32} {o : Int} {D : Nat} {one : Int → q_R} (hg : q_gd n one) (hD : 2 ≤ D) (hs : q_md sL xs c n ν D 181 o one) : q_md sL xs c n ν (D + 1) 180 o (q_cmp one c) := by
  intro d M Q p hd hM hO hqT hqF
  obtain ⟨d, rfl⟩ : ∃ e, d = e + 1 := ⟨d - 1, by omega⟩
  have hnb := ms_nb hM
  have hpb := ms_pb hM
  have hcb := ms_cb hM
  have hF := am_fq_rf M
  have hg2 := hg p (by omega) (by omega)
  have hc0 : ¬ (c (one p).2.1 = 60 ∨ c (one p).2.1 = 61 ∨ c (one p).2.1 = 62) → q_cmp one c p = one p := fun q => if_neg (fun z => q z.2)
  refine am_bi_of (P := am_pX11_compared) (rt := 1) (nL := 4) (Nat.le_of_ble_eq_true rfl) rfl (Nat.le_of_ble_eq_true rfl) rfl rfl rfl ?_
  refine am_r_aload0 (pc' := 1) rfl rfl ?_
  refine am_r_invI0 (pc' := 4) rfl rfl rfl (Nat.le_of_ble_eq_true rfl) (hs (by omega) hM hO ?_ ?_)
  · intro M4 hf4 e4 hM4 hO4
    have hM := hM4
    have hO := hO4
    have hF := am_fq_tr hF hf4
    have hcb := ms_cb hM
    have hpb := ms_pb hM
    refine am_r_istore1 (pc' := 5) rfl rfl rfl ?_
    refine am_r_aload0 (pc' := 6) rfl rfl ?_
    refine am_r_invI0 (pc' := 9) rfl rfl rfl (Nat.le_of_ble_eq_true rfl) (m_byteAt (by omega) hM ?_)
    refine am_r_istore2 (pc' := 10) rfl rfl rfl ?_
    refine am_r_aload0 (pc' := 11) rfl rfl ?_
    refine am_r_getIv (f := 15) (pc' := 14) rfl rfl rfl (ms_f hM) ?_
    refine am_r_if_ge (pt := 35) (pf := 17) rfl rfl rfl (fun h14 => ?_) (fun h14 => ?_)
    · refine am_r_iload1 (pc' := 36) rfl rfl ?_
      refine am_r_iret rfl rfl ?_
      first | (have e := hc0 (by omega); rw [e] at hqT; exact hqT _ hF e4 hM hO) | exact hqF _ _ hF e4 hM
    · refine am_r_iload2 (pc' := 18) rfl rfl ?_
      refine am_r_iconst (pc' := 20) rfl rfl ?_
      refine am_r_icmp_eq (pt := 37) (pf := 23) rfl rfl rfl (fun h20 => ?_) (fun h20 => ?_)
      · refine am_r_aload0 (pc' := 38) rfl rfl ?_
        refine am_r_dup (pc' := 39) rfl rfl rfl ?_
        refine am_r_getIv (f := 13) (pc' := 42) rfl rfl rfl (ms_p hM) ?_
        refine am_r_iconst (pc' := 43) rfl rfl ?_
        refine am_r_iadd (pc' := 44) rfl rfl ?_
        refine am_r_putI (f := 13) (pc' := 47) rfl rfl rfl (by decide) ?_
        have hF := am_fq_up (i := 13) (x := z_I ((one p).2.1 + 1)) hF (by omega)
        have hO := am_op_e (i := 13) (x := z_I ((one p).2.1 + 1)) hO (by omega)
        have hM := ms_inc hM (by omega)
        refine am_r_aload0 (pc' := 48) rfl rfl ?_
        refine am_r_invI0 (pc' := 51) rfl rfl rfl (Nat.le_of_ble_eq_true rfl) (hs (by omega) hM hO ?_ ?_)
        · intro M6 hf6 e6 hM6 hO6
          have hF := am_fq_tr hF hf6
          have e : q_cmp one c p = (true, (one ((one p).2.1 + 1)).2.1, (one p).2.2.1 ++ (one ((one p).2.1 + 1)).2.2.1 ++ [(c (one p).2.1, 0)], fun ν => q_join (c (one p).2.1) ((one p).2.2.2 ν) ((one ((one p).2.1 + 1)).2.2.2 ν)) := (by unfold q_cmp; rw [if_pos ⟨e4, by omega⟩, if_pos e6])
          rw [e] at hqT
          refine am_r_istore3 (pc' := 52) rfl rfl rfl ?_
          refine am_r_iload2 (pc' := 53) rfl rfl ?_
          refine am_r_iconst (pc' := 55) rfl rfl ?_
          refine am_r_icmp_ne (pt := 66) (pf := 58) rfl rfl rfl (fun h55 => ?_) (fun h55 => ?_)
          · refine am_r_iload2 (pc' := 67) rfl rfl ?_
            refine am_r_iconst (pc' := 69) rfl rfl ?_
            refine am_r_icmp_ne (pt := 80) (pf := 72) rfl rfl rfl (fun h69 => ?_) (fun h69 => ?_)
            · refine am_r_iload1 (pc' := 81) rfl rfl ?_
              refine am_r_iload3 (pc' := 82) rfl rfl ?_
              refine am_r_icmp_leR (pt := 89) (pf := 85) rfl rfl rfl (fun h82 => ?_) (fun h82 => ?_)
              · refine am_r_iconst (pc' := 90) rfl rfl ?_
                refine am_r_iret rfl rfl ?_
                first
                | (refine am_q2 ?_ (hqT _ hF rfl hM6 hO6); show _ = q_join (c (one p).2.1) _ _; rw [show c (one p).2.1 = 60 by omega]; exact q_j60t (by assumption))
                | (refine am_q2 ?_ (hqT _ hF rfl hM6 hO6); show _ = q_join (c (one p).2.1) _ _; rw [show c (one p).2.1 = 60 by omega]; exact q_j60f (by assumption))
                | (refine am_q2 ?_ (hqT _ hF rfl hM6 hO6); show _ = q_join (c (one p).2.1) _ _; rw [show c (one p).2.1 = 61 by omega]; exact q_j61t (by assumption))
                | (refine am_q2 ?_ (hqT _ hF rfl hM6 hO6); show _ = q_join (c (one p).2.1) _ _; rw [show c (one p).2.1 = 61 by omega]; exact q_j61f (by assumption))
                | (refine am_q2 ?_ (hqT _ hF rfl hM6 hO6); show _ = q_join (c (one p).2.1) _ _; rw [show c (one p).2.1 = 62 by omega]; exact q_j62t (by assumption))
                | (refine am_q2 ?_ (hqT _ hF rfl hM6 hO6); show _ = q_join (c (one p).2.1) _ _; rw [show c (one p).2.1 = 62 by omega]; exact q_j62f (by assumption))
                | exact hqF _ _ hF rfl hM6
              · refine am_r_iconst (pc' := 86) rfl rfl ?_
                refine am_r_goto (pc' := 90) rfl rfl ?_
                refine am_r_iret rfl rfl ?_
                first
                | (refine am_q2 ?_ (hqT _ hF rfl hM6 hO6); show _ = q_join (c (one p).2.1) _ _; rw [show c (one p).2.1 = 60 by omega]; exact q_j60t (by assumption))
                | (refine am_q2 ?_ (hqT _ hF rfl hM6 hO6); show _ = q_join (c (one p).2.1) _ _; rw [show c (one p).2.1 = 60 by omega]; exact q_j60f (by assumption))
                | (refine am_q2 ?_ (hqT _ hF rfl hM6 hO6); show _ = q_join (c (one p).2.1) _ _; rw [show c (one p).2.1 = 61 by omega]; exact q_j61t (by assumption))
                | (refine am_q2 ?_ (hqT _ hF rfl hM6 hO6); show _ = q_join (c (one p).2.1) _ _; rw [show c (one p).2.1 = 61 by omega]; exact q_j61f (by assumption))
                | (refine am_q2 ?_ (hqT _ hF rfl hM6 hO6); show _ = q_join (c (one p).2.1) _ _; rw [show c (one p).2.1 = 62 by omega]; exact q_j62t (by assumption))
                | (refine am_q2 ?_ (hqT _ hF rfl hM6 hO6); show _ = q_join (c (one p).2.1) _ _; rw [show c (one p).2.1 = 62 by omega]; exact q_j62f (by assumption))
                | exact hqF _ _ hF rfl hM6
            · refine am_r_iload1 (pc' := 73) rfl rfl ?_
              refine am_r_iload3 (pc' := 74) rfl rfl ?_
              refine am_r_icmp_neR (pt := 89) (pf := 77) rfl rfl rfl (fun h74 => ?_) (fun h74 => ?_)
              · refine am_r_iconst (pc' := 90) rfl rfl ?_
                refine am_r_iret rfl rfl ?_
                first
                | (refine am_q2 ?_ (hqT _ hF rfl hM6 hO6); show _ = q_join (c (one p).2.1) _ _; rw [show c (one p).2.1 = 60 by omega]; exact q_j60t (by assumption))
                | (refine am_q2 ?_ (hqT _ hF rfl hM6 hO6); show _ = q_join (c (one p).2.1) _ _; rw [show c (one p).2.1 = 60 by omega]; exact q_j60f (by assumption))
                | (refine am_q2 ?_ (hqT _ hF rfl hM6 hO6); show _ = q_join (c (one p).2.1) _ _; rw [show c (one p).2.1 = 61 by omega]; exact q_j61t (by assumption))
                | (refine am_q2 ?_ (hqT _ hF rfl hM6 hO6); show _ = q_join (c (one p).2.1) _ _; rw [show c (one p).2.1 = 61 by omega]; exact q_j61f (by assumption))
                | (refine am_q2 ?_ (hqT _ hF rfl hM6 hO6); show _ = q_join (c (one p).2.1) _ _; rw [show c (one p).2.1 = 62 by omega]; exact q_j62t (by assumption))
                | (refine am_q2 ?_ (hqT _ hF rfl hM6 hO6); show _ = q_join (c (one p).2.1) _ _; rw [show c (one p).2.1 = 62 by omega]; exact q_j62f (by assumption))
                | exact hqF _ _ hF rfl hM6
              · refine am_r_goto (pc' := 85) rfl rfl ?_
                refine am_r_iconst (pc' := 86) rfl rfl ?_
                refine am_r_goto (pc' := 90) rfl rfl ?_
                refine am_r_iret rfl rfl ?_
                first
                | (refine am_q2 ?_ (hqT _ hF rfl hM6 hO6); show _ = q_join (c (one p).2.1) _ _; rw [show c (one p).2.1 = 60 by omega]; exact q_j60t (by assumption))
                | (refine am_q2 ?_ (hqT _ hF rfl hM6 hO6); show _ = q_join (c (one p).2.1) _ _; rw [show c (one p).2.1 = 60 by omega]; exact q_j60f (by assumption))
                | (refine am_q2 ?_ (hqT _ hF rfl hM6 hO6); show _ = q_join (c (one p).2.1) _ _; rw [show c (one p).2.1 = 61 by omega]; exact q_j61t (by assumption))
                | (refine am_q2 ?_ (hqT _ hF rfl hM6 hO6); show _ = q_join (c (one p).2.1) _ _; rw [show c (one p).2.1 = 61 by omega]; exact q_j61f (by assumption))
                | (refine am_q2 ?_ (hqT _ hF rfl hM6 hO6); show _ = q_join (c (one p).2.1) _ _; rw [show c (one p).2.1 = 62 by omega]; exact q_j62t (by assumption))
                | (refine am_q2 ?_ (hqT _ hF rfl hM6 hO6); show _ = q_join (c (one p).2.1) _ _; rw [show c (one p).2.1 = 62 by omega]; exact q_j62f (by assumption))
                | exact hqF _ _ hF rfl hM6
          · refine am_r_iload1 (pc' := 59) rfl rfl ?_
            refine am_r_iload3 (pc' := 60) rfl rfl ?_
            refine am_r_icmp_geR (pt := 89) (pf := 63) rfl rfl rfl (fun h60 => ?_) (fun h60 => ?_)
            · refine am_r_iconst (pc' := 90) rfl rfl ?_
              refine am_r_iret rfl rfl ?_
              first
              | (refine am_q2 ?_ (hqT _ hF rfl hM6 hO6); show _ = q_join (c (one p).2.1) _ _; rw [show c (one p).2.1 = 60 by omega]; exact q_j60t (by assumption))
              | (refine am_q2 ?_ (hqT _ hF rfl hM6 hO6); show _ = q_join (c (one p).2.1) _ _; rw [show c (one p).2.1 = 60 by omega]; exact q_j60f (by assumption))
              | (refine am_q2 ?_ (hqT _ hF rfl hM6 hO6); show _ = q_join (c (one p).2.1) _ _; rw [show c (one p).2.1 = 61 by omega]; exact q_j61t (by assumption))
              | (refine am_q2 ?_ (hqT _ hF rfl hM6 hO6); show _ = q_join (c (one p).2.1) _ _; rw [show c (one p).2.1 = 61 by omega]; exact q_j61f (by assumption))
              | (refine am_q2 ?_ (hqT _ hF rfl hM6 hO6); show _ = q_join (c (one p).2.1) _ _; rw [show c (one p).2.1 = 62 by omega]; exact q_j62t (by assumption))
              | (refine am_q2 ?_ (hqT _ hF rfl hM6 hO6); show _ = q_join (c (one p).2.1) _ _; rw [show c (one p).2.1 = 62 by omega]; exact q_j62f (by assumption))
              | exact hqF _ _ hF rfl hM6
            · refine am_r_goto (pc' := 85) rfl rfl ?_
              refine am_r_iconst (pc' := 86) rfl rfl ?_
              refine am_r_goto (pc' := 90) rfl rfl ?_
              refine am_r_iret rfl rfl ?_
              first
              | (refine am_q2 ?_ (hqT _ hF rfl hM6 hO6); show _ = q_join (c (one p).2.1) _ _; rw [show c (one p).2.1 = 60 by omega]; exact q_j60t (by assumption))
              | (refine am_q2 ?_ (hqT _ hF rfl hM6 hO6); show _ = q_join (c (one p).2.1) _ _; rw [show c (one p).2.1 = 60 by omega]; exact q_j60f (by assumption))
              | (refine am_q2 ?_ (hqT _ hF rfl hM6 hO6); show _ = q_join (c (one p).2.1) _ _; rw [show c (one p).2.1 = 61 by omega]; exact q_j61t (by assumption))
              | (refine am_q2 ?_ (hqT _ hF rfl hM6 hO6); show _ = q_join (c (one p).2.1) _ _; rw [show c (one p).2.1 = 61 by omega]; exact q_j61f (by assumption))
              | (refine am_q2 ?_ (hqT _ hF rfl hM6 hO6); show _ = q_join (c (one p).2.1) _ _; rw [show c (one p).2.1 = 62 by omega]; exact q_j62t (by assumption))
              | (refine am_q2 ?_ (hqT _ hF rfl hM6 hO6); show _ = q_join (c (one p).2.1) _ _; rw [show c (one p).2.1 = 62 by omega]; exact q_j62f (by assumption))
              | exact hqF _ _ hF rfl hM6
        · intro M6 x6 hf6 e6 hM6
          have hF := am_fq_tr hF hf6
          have e : q_cmp one c p = q_no (one ((one p).2.1 + 1)).2.1 := (by unfold q_cmp; rw [if_pos ⟨e4, by omega⟩, if_neg (by rw [e6]; decide)])
          rw [e] at hqF
          refine am_r_istore3 (pc' := 52) rfl rfl rfl ?_
          refine am_r_iload2 (pc' := 53) rfl rfl ?_
          refine am_r_iconst (pc' := 55) rfl rfl ?_
          refine am_r_icmp_ne (pt := 66) (pf := 58) rfl rfl rfl (fun h55 => ?_) (fun h55 => ?_)
          · refine am_r_iload2 (pc' := 67) rfl rfl ?_
            refine am_r_iconst (pc' := 69) rfl rfl ?_
            refine am_r_icmp_ne (pt := 80) (pf := 72) rfl rfl rfl (fun h69 => ?_) (fun h69 => ?_)
            · refine am_r_iload1 (pc' := 81) rfl rfl ?_
              refine am_r_iload3 (pc' := 82) rfl rfl ?_
              refine am_r_icmp_leR (pt := 89) (pf := 85) rfl rfl rfl (fun h82 => ?_) (fun h82 => ?_)
              · refine am_r_iconst (pc' := 90) rfl rfl ?_
                refine am_r_iret rfl rfl ?_
                first
                | (refine am_q2 ?_ (hqT _ hF rfl hM6 hO6); show _ = q_join (c (one p).2.1) _ _; rw [show c (one p).2.1 = 60 by omega]; exact q_j60t (by assumption))
                | (refine am_q2 ?_ (hqT _ hF rfl hM6 hO6); show _ = q_join (c (one p).2.1) _ _; rw [show c (one p).2.1 = 60 by omega]; exact q_j60f (by assumption))
                | (refine am_q2 ?_ (hqT _ hF rfl hM6 hO6); show _ = q_join (c (one p).2.1) _ _; rw [show c (one p).2.1 = 61 by omega]; exact q_j61t (by assumption))
                | (refine am_q2 ?_ (hqT _ hF rfl hM6 hO6); show _ = q_join (c (one p).2.1) _ _; rw [show c (one p).2.1 = 61 by omega]; exact q_j61f (by assumption))
                | (refine am_q2 ?_ (hqT _ hF rfl hM6 hO6); show _ = q_join (c (one p).2.1) _ _; rw [show c (one p).2.1 = 62 by omega]; exact q_j62t (by assumption))
                | (refine am_q2 ?_ (hqT _ hF rfl hM6 hO6); show _ = q_join (c (one p).2.1) _ _; rw [show c (one p).2.1 = 62 by omega]; exact q_j62f (by assumption))
                | exact hqF _ _ hF rfl hM6
              · refine am_r_iconst (pc' := 86) rfl rfl ?_
                refine am_r_goto (pc' := 90) rfl rfl ?_
                refine am_r_iret rfl rfl ?_
                first
                | (refine am_q2 ?_ (hqT _ hF rfl hM6 hO6); show _ = q_join (c (one p).2.1) _ _; rw [show c (one p).2.1 = 60 by omega]; exact q_j60t (by assumption))
                | (refine am_q2 ?_ (hqT _ hF rfl hM6 hO6); show _ = q_join (c (one p).2.1) _ _; rw [show c (one p).2.1 = 60 by omega]; exact q_j60f (by assumption))
                | (refine am_q2 ?_ (hqT _ hF rfl hM6 hO6); show _ = q_join (c (one p).2.1) _ _; rw [show c (one p).2.1 = 61 by omega]; exact q_j61t (by assumption))
                | (refine am_q2 ?_ (hqT _ hF rfl hM6 hO6); show _ = q_join (c (one p).2.1) _ _; rw [show c (one p).2.1 = 61 by omega]; exact q_j61f (by assumption))
                | (refine am_q2 ?_ (hqT _ hF rfl hM6 hO6); show _ = q_join (c (one p).2.1) _ _; rw [show c (one p).2.1 = 62 by omega]; exact q_j62t (by assumption))
                | (refine am_q2 ?_ (hqT _ hF rfl hM6 hO6); show _ = q_join (c (one p).2.1) _ _; rw [show c (one p).2.1 = 62 by omega]; exact q_j62f (by assumption))
                | exact hqF _ _ hF rfl hM6
            · refine am_r_iload1 (pc' := 73) rfl rfl ?_
              refine am_r_iload3 (pc' := 74) rfl rfl ?_
              refine am_r_icmp_neR (pt := 89) (pf := 77) rfl rfl rfl (fun h74 => ?_) (fun h74 => ?_)
              · refine am_r_iconst (pc' := 90) rfl rfl ?_
                refine am_r_iret rfl rfl ?_
                first
                | (refine am_q2 ?_ (hqT _ hF rfl hM6 hO6); show _ = q_join (c (one p).2.1) _ _; rw [show c (one p).2.1 = 60 by omega]; exact q_j60t (by assumption))
                | (refine am_q2 ?_ (hqT _ hF rfl hM6 hO6); show _ = q_join (c (one p).2.1) _ _; rw [show c (one p).2.1 = 60 by omega]; exact q_j60f (by assumption))
                | (refine am_q2 ?_ (hqT _ hF rfl hM6 hO6); show _ = q_join (c (one p).2.1) _ _; rw [show c (one p).2.1 = 61 by omega]; exact q_j61t (by assumption))
                | (refine am_q2 ?_ (hqT _ hF rfl hM6 hO6); show _ = q_join (c (one p).2.1) _ _; rw [show c (one p).2.1 = 61 by omega]; exact q_j61f (by assumption))
                | (refine am_q2 ?_ (hqT _ hF rfl hM6 hO6); show _ = q_join (c (one p).2.1) _ _; rw [show c (one p).2.1 = 62 by omega]; exact q_j62t (by assumption))
                | (refine am_q2 ?_ (hqT _ hF rfl hM6 hO6); show _ = q_join (c (one p).2.1) _ _; rw [show c (one p).2.1 = 62 by omega]; exact q_j62f (by assumption))
                | exact hqF _ _ hF rfl hM6
              · refine am_r_goto (pc' := 85) rfl rfl ?_
                refine am_r_iconst (pc' := 86) rfl rfl ?_
                refine am_r_goto (pc' := 90) rfl rfl ?_
                refine am_r_iret rfl rfl ?_
                first
                | (refine am_q2 ?_ (hqT _ hF rfl hM6 hO6); show _ = q_join (c (one p).2.1) _ _; rw [show c (one p).2.1 = 60 by omega]; exact q_j60t (by assumption))
                | (refine am_q2 ?_ (hqT _ hF rfl hM6 hO6); show _ = q_join (c (one p).2.1) _ _; rw [show c (one p).2.1 = 60 by omega]; exact q_j60f (by assumption))
                | (refine am_q2 ?_ (hqT _ hF rfl hM6 hO6); show _ = q_join (c (one p).2.1) _ _; rw [show c (one p).2.1 = 61 by omega]; exact q_j61t (by assumption))
                | (refine am_q2 ?_ (hqT _ hF rfl hM6 hO6); show _ = q_join (c (one p).2.1) _ _; rw [show c (one p).2.1 = 61 by omega]; exact q_j61f (by assumption))
                | (refine am_q2 ?_ (hqT _ hF rfl hM6 hO6); show _ = q_join (c (one p).2.1) _ _; rw [show c (one p).2.1 = 62 by omega]; exact q_j62t (by assumption))
                | (refine am_q2 ?_ (hqT _ hF rfl hM6 hO6); show _ = q_join (c (one p).2.1) _ _; rw [show c (one p).2.1 = 62 by omega]; exact q_j62f (by assumption))
                | exact hqF _ _ hF rfl hM6
          · refine am_r_iload1 (pc' := 59) rfl rfl ?_
            refine am_r_iload3 (pc' := 60) rfl rfl ?_
            refine am_r_icmp_geR (pt := 89) (pf := 63) rfl rfl rfl (fun h60 => ?_) (fun h60 => ?_)
            · refine am_r_iconst (pc' := 90) rfl rfl ?_
              refine am_r_iret rfl rfl ?_
              first
              | (refine am_q2 ?_ (hqT _ hF rfl hM6 hO6); show _ = q_join (c (one p).2.1) _ _; rw [show c (one p).2.1 = 60 by omega]; exact q_j60t (by assumption))
              | (refine am_q2 ?_ (hqT _ hF rfl hM6 hO6); show _ = q_join (c (one p).2.1) _ _; rw [show c (one p).2.1 = 60 by omega]; exact q_j60f (by assumption))
              | (refine am_q2 ?_ (hqT _ hF rfl hM6 hO6); show _ = q_join (c (one p).2.1) _ _; rw [show c (one p).2.1 = 61 by omega]; exact q_j61t (by assumption))
              | (refine am_q2 ?_ (hqT _ hF rfl hM6 hO6); show _ = q_join (c (one p).2.1) _ _; rw [show c (one p).2.1 = 61 by omega]; exact q_j61f (by assumption))
              | (refine am_q2 ?_ (hqT _ hF rfl hM6 hO6); show _ = q_join (c (one p).2.1) _ _; rw [show c (one p).2.1 = 62 by omega]; exact q_j62t (by assumption))
              | (refine am_q2 ?_ (hqT _ hF rfl hM6 hO6); show _ = q_join (c (one p).2.1) _ _; rw [show c (one p).2.1 = 62 by omega]; exact q_j62f (by assumption))
              | exact hqF _ _ hF rfl hM6
            · refine am_r_goto (pc' := 85) rfl rfl ?_
              refine am_r_iconst (pc' := 86) rfl rfl ?_
              refine am_r_goto (pc' := 90) rfl rfl ?_
              refine am_r_iret rfl rfl ?_
              first
              | (refine am_q2 ?_ (hqT _ hF rfl hM6 hO6); show _ = q_join (c (one p).2.1) _ _; rw [show c (one p).2.1 = 60 by omega]; exact q_j60t (by assumption))
              | (refine am_q2 ?_ (hqT _ hF rfl hM6 hO6); show _ = q_join (c (one p).2.1) _ _; rw [show c (one p).2.1 = 60 by omega]; exact q_j60f (by assumption))
              | (refine am_q2 ?_ (hqT _ hF rfl hM6 hO6); show _ = q_join (c (one p).2.1) _ _; rw [show c (one p).2.1 = 61 by omega]; exact q_j61t (by assumption))
              | (refine am_q2 ?_ (hqT _ hF rfl hM6 hO6); show _ = q_join (c (one p).2.1) _ _; rw [show c (one p).2.1 = 61 by omega]; exact q_j61f (by assumption))
              | (refine am_q2 ?_ (hqT _ hF rfl hM6 hO6); show _ = q_join (c (one p).2.1) _ _; rw [show c (one p).2.1 = 62 by omega]; exact q_j62t (by assumption))
              | (refine am_q2 ?_ (hqT _ hF rfl hM6 hO6); show _ = q_join (c (one p).2.1) _ _; rw [show c (one p).2.1 = 62 by omega]; exact q_j62f (by assumption))
              | exact hqF _ _ hF rfl hM6
      · refine am_r_iload2 (pc' := 24) rfl rfl ?_
        refine am_r_iconst (pc' := 26) rfl rfl ?_
        refine am_r_icmp_eq (pt := 37) (pf := 29) rfl rfl rfl (fun h26 => ?_) (fun h26 => ?_)
        · refine am_r_aload0 (pc' := 38) rfl rfl ?_
          refine am_r_dup (pc' := 39) rfl rfl rfl ?_
          refine am_r_getIv (f := 13) (pc' := 42) rfl rfl rfl (ms_p hM) ?_
          refine am_r_iconst (pc' := 43) rfl rfl ?_
          refine am_r_iadd (pc' := 44) rfl rfl ?_
          refine am_r_putI (f := 13) (pc' := 47) rfl rfl rfl (by decide) ?_
          have hF := am_fq_up (i := 13) (x := z_I ((one p).2.1 + 1)) hF (by omega)
          have hO := am_op_e (i := 13) (x := z_I ((one p).2.1 + 1)) hO (by omega)
          have hM := ms_inc hM (by omega)
          refine am_r_aload0 (pc' := 48) rfl rfl ?_
          refine am_r_invI0 (pc' := 51) rfl rfl rfl (Nat.le_of_ble_eq_true rfl) (hs (by omega) hM hO ?_ ?_)
          · intro M6 hf6 e6 hM6 hO6
            have hF := am_fq_tr hF hf6
            have e : q_cmp one c p = (true, (one ((one p).2.1 + 1)).2.1, (one p).2.2.1 ++ (one ((one p).2.1 + 1)).2.2.1 ++ [(c (one p).2.1, 0)], fun ν => q_join (c (one p).2.1) ((one p).2.2.2 ν) ((one ((one p).2.1 + 1)).2.2.2 ν)) := (by unfold q_cmp; rw [if_pos ⟨e4, by omega⟩, if_pos e6])
            rw [e] at hqT
            refine am_r_istore3 (pc' := 52) rfl rfl rfl ?_
            refine am_r_iload2 (pc' := 53) rfl rfl ?_
            refine am_r_iconst (pc' := 55) rfl rfl ?_
            refine am_r_icmp_ne (pt := 66) (pf := 58) rfl rfl rfl (fun h55 => ?_) (fun h55 => ?_)
            · refine am_r_iload2 (pc' := 67) rfl rfl ?_
              refine am_r_iconst (pc' := 69) rfl rfl ?_
              refine am_r_icmp_ne (pt := 80) (pf := 72) rfl rfl rfl (fun h69 => ?_) (fun h69 => ?_)
              · refine am_r_iload1 (pc' := 81) rfl rfl ?_
                refine am_r_iload3 (pc' := 82) rfl rfl ?_
                refine am_r_icmp_leR (pt := 89) (pf := 85) rfl rfl rfl (fun h82 => ?_) (fun h82 => ?_)
                · refine am_r_iconst (pc' := 90) rfl rfl ?_
                  refine am_r_iret rfl rfl ?_
                  first
                  | (refine am_q2 ?_ (hqT _ hF rfl hM6 hO6); show _ = q_join (c (one p).2.1) _ _; rw [show c (one p).2.1 = 60 by omega]; exact q_j60t (by assumption))
                  | (refine am_q2 ?_ (hqT _ hF rfl hM6 hO6); show _ = q_join (c (one p).2.1) _ _; rw [show c (one p).2.1 = 60 by omega]; exact q_j60f (by assumption))
                  | (refine am_q2 ?_ (hqT _ hF rfl hM6 hO6); show _ = q_join (c (one p).2.1) _ _; rw [show c (one p).2.1 = 61 by omega]; exact q_j61t (by assumption))
                  | (refine am_q2 ?_ (hqT _ hF rfl hM6 hO6); show _ = q_join (c (one p).2.1) _ _; rw [show c (one p).2.1 = 61 by omega]; exact q_j61f (by assumption))
                  | (refine am_q2 ?_ (hqT _ hF rfl hM6 hO6); show _ = q_join (c (one p).2.1) _ _; rw [show c (one p).2.1 = 62 by omega]; exact q_j62t (by assumption))
                  | (refine am_q2 ?_ (hqT _ hF rfl hM6 hO6); show _ = q_join (c (one p).2.1) _ _; rw [show c (one p).2.1 = 62 by omega]; exact q_j62f (by assumption))
                  | exact hqF _ _ hF rfl hM6
                · refine am_r_iconst (pc' := 86) rfl rfl ?_
                  refine am_r_goto (pc' := 90) rfl rfl ?_
                  refine am_r_iret rfl rfl ?_
                  first
                  | (refine am_q2 ?_ (hqT _ hF rfl hM6 hO6); show _ = q_join (c (one p).2.1) _ _; rw [show c (one p).2.1 = 60 by omega]; exact q_j60t (by assumption))
                  | (refine am_q2 ?_ (hqT _ hF rfl hM6 hO6); show _ = q_join (c (one p).2.1) _ _; rw [show c (one p).2.1 = 60 by omega]; exact q_j60f (by assumption))
                  | (refine am_q2 ?_ (hqT _ hF rfl hM6 hO6); show _ = q_join (c (one p).2.1) _ _; rw [show c (one p).2.1 = 61 by omega]; exact q_j61t (by assumption))
                  | (refine am_q2 ?_ (hqT _ hF rfl hM6 hO6); show _ = q_join (c (one p).2.1) _ _; rw [show c (one p).2.1 = 61 by omega]; exact q_j61f (by assumption))
                  | (refine am_q2 ?_ (hqT _ hF rfl hM6 hO6); show _ = q_join (c (one p).2.1) _ _; rw [show c (one p).2.1 = 62 by omega]; exact q_j62t (by assumption))
                  | (refine am_q2 ?_ (hqT _ hF rfl hM6 hO6); show _ = q_join (c (one p).2.1) _ _; rw [show c (one p).2.1 = 62 by omega]; exact q_j62f (by assumption))
                  | exact hqF _ _ hF rfl hM6
              · refine am_r_iload1 (pc' := 73) rfl rfl ?_
                refine am_r_iload3 (pc' := 74) rfl rfl ?_
                refine am_r_icmp_neR (pt := 89) (pf := 77) rfl rfl rfl (fun h74 => ?_) (fun h74 => ?_)
                · refine am_r_iconst (pc' := 90) rfl rfl ?_
                  refine am_r_iret rfl rfl ?_
                  first
                  | (refine am_q2 ?_ (hqT _ hF rfl hM6 hO6); show _ = q_join (c (one p).2.1) _ _; rw [show c (one p).2.1 = 60 by omega]; exact q_j60t (by assumption))
                  | (refine am_q2 ?_ (hqT _ hF rfl hM6 hO6); show _ = q_join (c (one p).2.1) _ _; rw [show c (one p).2.1 = 60 by omega]; exact q_j60f (by assumption))
                  | (refine am_q2 ?_ (hqT _ hF rfl hM6 hO6); show _ = q_join (c (one p).2.1) _ _; rw [show c (one p).2.1 = 61 by omega]; exact q_j61t (by assumption))
                  | (refine am_q2 ?_ (hqT _ hF rfl hM6 hO6); show _ = q_join (c (one p).2.1) _ _; rw [show c (one p).2.1 = 61 by omega]; exact q_j61f (by assumption))
                  | (refine am_q2 ?_ (hqT _ hF rfl hM6 hO6); show _ = q_join (c (one p).2.1) _ _; rw [show c (one p).2.1 = 62 by omega]; exact q_j62t (by assumption))
                  | (refine am_q2 ?_ (hqT _ hF rfl hM6 hO6); show _ = q_join (c (one p).2.1) _ _; rw [show c (one p).2.1 = 62 by omega]; exact q_j62f (by assumption))
                  | exact hqF _ _ hF rfl hM6
                · refine am_r_goto (pc' := 85) rfl rfl ?_
                  refine am_r_iconst (pc' := 86) rfl rfl ?_
                  refine am_r_goto (pc' := 90) rfl rfl ?_
                  refine am_r_iret rfl rfl ?_
                  first
                  | (refine am_q2 ?_ (hqT _ hF rfl hM6 hO6); show _ = q_join (c (one p).2.1) _ _; rw [show c (one p).2.1 = 60 by omega]; exact q_j60t (by assumption))
                  | (refine am_q2 ?_ (hqT _ hF rfl hM6 hO6); show _ = q_join (c (one p).2.1) _ _; rw [show c (one p).2.1 = 60 by omega]; exact q_j60f (by assumption))
                  | (refine am_q2 ?_ (hqT _ hF rfl hM6 hO6); show _ = q_join (c (one p).2.1) _ _; rw [show c (one p).2.1 = 61 by omega]; exact q_j61t (by assumption))
                  | (refine am_q2 ?_ (hqT _ hF rfl hM6 hO6); show _ = q_join (c (one p).2.1) _ _; rw [show c (one p).2.1 = 61 by omega]; exact q_j61f (by assumption))
                  | (refine am_q2 ?_ (hqT _ hF rfl hM6 hO6); show _ = q_join (c (one p).2.1) _ _; rw [show c (one p).2.1 = 62 by omega]; exact q_j62t (by assumption))
                  | (refine am_q2 ?_ (hqT _ hF rfl hM6 hO6); show _ = q_join (c (one p).2.1) _ _; rw [show c (one p).2.1 = 62 by omega]; exact q_j62f (by assumption))
                  | exact hqF _ _ hF rfl hM6
            · refine am_r_iload1 (pc' := 59) rfl rfl ?_
              refine am_r_iload3 (pc' := 60) rfl rfl ?_
              refine am_r_icmp_geR (pt := 89) (pf := 63) rfl rfl rfl (fun h60 => ?_) (fun h60 => ?_)
              · refine am_r_iconst (pc' := 90) rfl rfl ?_
                refine am_r_iret rfl rfl ?_
                first
                | (refine am_q2 ?_ (hqT _ hF rfl hM6 hO6); show _ = q_join (c (one p).2.1) _ _; rw [show c (one p).2.1 = 60 by omega]; exact q_j60t (by assumption))
                | (refine am_q2 ?_ (hqT _ hF rfl hM6 hO6); show _ = q_join (c (one p).2.1) _ _; rw [show c (one p).2.1 = 60 by omega]; exact q_j60f (by assumption))
                | (refine am_q2 ?_ (hqT _ hF rfl hM6 hO6); show _ = q_join (c (one p).2.1) _ _; rw [show c (one p).2.1 = 61 by omega]; exact q_j61t (by assumption))
                | (refine am_q2 ?_ (hqT _ hF rfl hM6 hO6); show _ = q_join (c (one p).2.1) _ _; rw [show c (one p).2.1 = 61 by omega]; exact q_j61f (by assumption))
                | (refine am_q2 ?_ (hqT _ hF rfl hM6 hO6); show _ = q_join (c (one p).2.1) _ _; rw [show c (one p).2.1 = 62 by omega]; exact q_j62t (by assumption))
                | (refine am_q2 ?_ (hqT _ hF rfl hM6 hO6); show _ = q_join (c (one p).2.1) _ _; rw [show c (one p).2.1 = 62 by omega]; exact q_j62f (by assumption))
                | exact hqF _ _ hF rfl hM6
              · refine am_r_goto (pc' := 85) rfl rfl ?_
                refine am_r_iconst (pc' := 86) rfl rfl ?_
                refine am_r_goto (pc' := 90) rfl rfl ?_
                refine am_r_iret rfl rfl ?_
                first
                | (refine am_q2 ?_ (hqT _ hF rfl hM6 hO6); show _ = q_join (c (one p).2.1) _ _; rw [show c (one p).2.1 = 60 by omega]; exact q_j60t (by assumption))
                | (refine am_q2 ?_ (hqT _ hF rfl hM6 hO6); show _ = q_join (c (one p).2.1) _ _; rw [show c (one p).2.1 = 60 by omega]; exact q_j60f (by assumption))
                | (refine am_q2 ?_ (hqT _ hF rfl hM6 hO6); show _ = q_join (c (one p).2.1) _ _; rw [show c (one p).2.1 = 61 by omega]; exact q_j61t (by assumption))
                | (refine am_q2 ?_ (hqT _ hF rfl hM6 hO6); show _ = q_join (c (one p).2.1) _ _; rw [show c (one p).2.1 = 61 by omega]; exact q_j61f (by assumption))
                | (refine am_q2 ?_ (hqT _ hF rfl hM6 hO6); show _ = q_join (c (one p).2.1) _ _; rw [show c (one p).2.1 = 62 by omega]; exact q_j62t (by assumption))
                | (refine am_q2 ?_ (hqT _ hF rfl hM6 hO6); show _ = q_join (c (one p).2.1) _ _; rw [show c (one p).2.1 = 62 by omega]; exact q_j62f (by assumption))
                | exact hqF _ _ hF rfl hM6
          · intro M6 x6 hf6 e6 hM6
            have hF := am_fq_tr hF hf6
            have e : q_cmp one c p = q_no (one ((one p).2.1 + 1)).2.1 := (by unfold q_cmp; rw [if_pos ⟨e4, by omega⟩, if_neg (by rw [e6]; decide)])
            rw [e] at hqF
            refine am_r_istore3 (pc' := 52) rfl rfl rfl ?_
            refine am_r_iload2 (pc' := 53) rfl rfl ?_
            refine am_r_iconst (pc' := 55) rfl rfl ?_
            refine am_r_icmp_ne (pt := 66) (pf := 58) rfl rfl rfl (fun h55 => ?_) (fun h55 => ?_)
            · refine am_r_iload2 (pc' := 67) rfl rfl ?_
              refine am_r_iconst (pc' := 69) rfl rfl ?_
              refine am_r_icmp_ne (pt := 80) (pf := 72) rfl rfl rfl (fun h69 => ?_) (fun h69 => ?_)
              · refine am_r_iload1 (pc' := 81) rfl rfl ?_
                refine am_r_iload3 (pc' := 82) rfl rfl ?_
                refine am_r_icmp_leR (pt := 89) (pf := 85) rfl rfl rfl (fun h82 => ?_) (fun h82 => ?_)
                · refine am_r_iconst (pc' := 90) rfl rfl ?_
                  refine am_r_iret rfl rfl ?_
                  first
                  | (refine am_q2 ?_ (hqT _ hF rfl hM6 hO6); show _ = q_join (c (one p).2.1) _ _; rw [show c (one p).2.1 = 60 by omega]; exact q_j60t (by assumption))
                  | (refine am_q2 ?_ (hqT _ hF rfl hM6 hO6); show _ = q_join (c (one p).2.1) _ _; rw [show c (one p).2.1 = 60 by omega]; exact q_j60f (by assumption))
                  | (refine am_q2 ?_ (hqT _ hF rfl hM6 hO6); show _ = q_join (c (one p).2.1) _ _; rw [show c (one p).2.1 = 61 by omega]; exact q_j61t (by assumption))
                  | (refine am_q2 ?_ (hqT _ hF rfl hM6 hO6); show _ = q_join (c (one p).2.1) _ _; rw [show c (one p).2.1 = 61 by omega]; exact q_j61f (by assumption))
                  | (refine am_q2 ?_ (hqT _ hF rfl hM6 hO6); show _ = q_join (c (one p).2.1) _ _; rw [show c (one p).2.1 = 62 by omega]; exact q_j62t (by assumption))
                  | (refine am_q2 ?_ (hqT _ hF rfl hM6 hO6); show _ = q_join (c (one p).2.1) _ _; rw [show c (one p).2.1 = 62 by omega]; exact q_j62f (by assumption))
                  | exact hqF _ _ hF rfl hM6
                · refine am_r_iconst (pc' := 86) rfl rfl ?_
                  refine am_r_goto (pc' := 90) rfl rfl ?_
                  refine am_r_iret rfl rfl ?_
                  first
                  | (refine am_q2 ?_ (hqT _ hF rfl hM6 hO6); show _ = q_join (c (one p).2.1) _ _; rw [show c (one p).2.1 = 60 by omega]; exact q_j60t (by assumption))
                  | (refine am_q2 ?_ (hqT _ hF rfl hM6 hO6); show _ = q_join (c (one p).2.1) _ _; rw [show c (one p).2.1 = 60 by omega]; exact q_j60f (by assumption))
                  | (refine am_q2 ?_ (hqT _ hF rfl hM6 hO6); show _ = q_join (c (one p).2.1) _ _; rw [show c (one p).2.1 = 61 by omega]; exact q_j61t (by assumption))
                  | (refine am_q2 ?_ (hqT _ hF rfl hM6 hO6); show _ = q_join (c (one p).2.1) _ _; rw [show c (one p).2.1 = 61 by omega]; exact q_j61f (by assumption))
                  | (refine am_q2 ?_ (hqT _ hF rfl hM6 hO6); show _ = q_join (c (one p).2.1) _ _; rw [show c (one p).2.1 = 62 by omega]; exact q_j62t (by assumption))
                  | (refine am_q2 ?_ (hqT _ hF rfl hM6 hO6); show _ = q_join (c (one p).2.1) _ _; rw [show c (one p).2.1 = 62 by omega]; exact q_j62f (by assumption))
                  | exact hqF _ _ hF rfl hM6
              · refine am_r_iload1 (pc' := 73) rfl rfl ?_
                refine am_r_iload3 (pc' := 74) rfl rfl ?_
                refine am_r_icmp_neR (pt := 89) (pf := 77) rfl rfl rfl (fun h74 => ?_) (fun h74 => ?_)
                · refine am_r_iconst (pc' := 90) rfl rfl ?_
                  refine am_r_iret rfl rfl ?_
                  first
                  | (refine am_q2 ?_ (hqT _ hF rfl hM6 hO6); show _ = q_join (c (one p).2.1) _ _; rw [show c (one p).2.1 = 60 by omega]; exact q_j60t (by assumption))
                  | (refine am_q2 ?_ (hqT _ hF rfl hM6 hO6); show _ = q_join (c (one p).2.1) _ _; rw [show c (one p).2.1 = 60 by omega]; exact q_j60f (by assumption))
                  | (refine am_q2 ?_ (hqT _ hF rfl hM6 hO6); show _ = q_join (c (one p).2.1) _ _; rw [show c (one p).2.1 = 61 by omega]; exact q_j61t (by assumption))
                  | (refine am_q2 ?_ (hqT _ hF rfl hM6 hO6); show _ = q_join (c (one p).2.1) _ _; rw [show c (one p).2.1 = 61 by omega]; exact q_j61f (by assumption))
                  | (refine am_q2 ?_ (hqT _ hF rfl hM6 hO6); show _ = q_join (c (one p).2.1) _ _; rw [show c (one p).2.1 = 62 by omega]; exact q_j62t (by assumption))
                  | (refine am_q2 ?_ (hqT _ hF rfl hM6 hO6); show _ = q_join (c (one p).2.1) _ _; rw [show c (one p).2.1 = 62 by omega]; exact q_j62f (by assumption))
                  | exact hqF _ _ hF rfl hM6
                · refine am_r_goto (pc' := 85) rfl rfl ?_
                  refine am_r_iconst (pc' := 86) rfl rfl ?_
                  refine am_r_goto (pc' := 90) rfl rfl ?_
                  refine am_r_iret rfl rfl ?_
                  first
                  | (refine am_q2 ?_ (hqT _ hF rfl hM6 hO6); show _ = q_join (c (one p).2.1) _ _; rw [show c (one p).2.1 = 60 by omega]; exact q_j60t (by assumption))
                  | (refine am_q2 ?_ (hqT _ hF rfl hM6 hO6); show _ = q_join (c (one p).2.1) _ _; rw [show c (one p).2.1 = 60 by omega]; exact q_j60f (by assumption))
                  | (refine am_q2 ?_ (hqT _ hF rfl hM6 hO6); show _ = q_join (c (one p).2.1) _ _; rw [show c (one p).2.1 = 61 by omega]; exact q_j61t (by assumption))
                  | (refine am_q2 ?_ (hqT _ hF rfl hM6 hO6); show _ = q_join (c (one p).2.1) _ _; rw [show c (one p).2.1 = 61 by omega]; exact q_j61f (by assumption))
                  | (refine am_q2 ?_ (hqT _ hF rfl hM6 hO6); show _ = q_join (c (one p).2.1) _ _; rw [show c (one p).2.1 = 62 by omega]; exact q_j62t (by assumption))
                  | (refine am_q2 ?_ (hqT _ hF rfl hM6 hO6); show _ = q_join (c (one p).2.1) _ _; rw [show c (one p).2.1 = 62 by omega]; exact q_j62f (by assumption))
                  | exact hqF _ _ hF rfl hM6
            · refine am_r_iload1 (pc' := 59) rfl rfl ?_
              refine am_r_iload3 (pc' := 60) rfl rfl ?_
              refine am_r_icmp_geR (pt := 89) (pf := 63) rfl rfl rfl (fun h60 => ?_) (fun h60 => ?_)
              · refine am_r_iconst (pc' := 90) rfl rfl ?_
                refine am_r_iret rfl rfl ?_
                first
                | (refine am_q2 ?_ (hqT _ hF rfl hM6 hO6); show _ = q_join (c (one p).2.1) _ _; rw [show c (one p).2.1 = 60 by omega]; exact q_j60t (by assumption))
                | (refine am_q2 ?_ (hqT _ hF rfl hM6 hO6); show _ = q_join (c (one p).2.1) _ _; rw [show c (one p).2.1 = 60 by omega]; exact q_j60f (by assumption))
                | (refine am_q2 ?_ (hqT _ hF rfl hM6 hO6); show _ = q_join (c (one p).2.1) _ _; rw [show c (one p).2.1 = 61 by omega]; exact q_j61t (by assumption))
                | (refine am_q2 ?_ (hqT _ hF rfl hM6 hO6); show _ = q_join (c (one p).2.1) _ _; rw [show c (one p).2.1 = 61 by omega]; exact q_j61f (by assumption))
                | (refine am_q2 ?_ (hqT _ hF rfl hM6 hO6); show _ = q_join (c (one p).2.1) _ _; rw [show c (one p).2.1 = 62 by omega]; exact q_j62t (by assumption))
                | (refine am_q2 ?_ (hqT _ hF rfl hM6 hO6); show _ = q_join (c (one p).2.1) _ _; rw [show c (one p).2.1 = 62 by omega]; exact q_j62f (by assumption))
                | exact hqF _ _ hF rfl hM6
              · refine am_r_goto (pc' := 85) rfl rfl ?_
                refine am_r_iconst (pc' := 86) rfl rfl ?_
                refine am_r_goto (pc' := 90) rfl rfl ?_
                refine am_r_iret rfl rfl ?_
                first
                | (refine am_q2 ?_ (hqT _ hF rfl hM6 hO6); show _ = q_join (c (one p).2.1) _ _; rw [show c (one p).2.1 = 60 by omega]; exact q_j60t (by assumption))
                | (refine am_q2 ?_ (hqT _ hF rfl hM6 hO6); show _ = q_join (c (one p).2.1) _ _; rw [show c (one p).2.1 = 60 by omega]; exact q_j60f (by assumption))
                | (refine am_q2 ?_ (hqT _ hF rfl hM6 hO6); show _ = q_join (c (one p).2.1) _ _; rw [show c (one p).2.1 = 61 by omega]; exact q_j61t (by assumption))
                | (refine am_q2 ?_ (hqT _ hF rfl hM6 hO6); show _ = q_join (c (one p).2.1) _ _; rw [show c (one p).2.1 = 61 by omega]; exact q_j61f (by assumption))
                | (refine am_q2 ?_ (hqT _ hF rfl hM6 hO6); show _ = q_join (c (one p).2.1) _ _; rw [show c (one p).2.1 = 62 by omega]; exact q_j62t (by assumption))
                | (refine am_q2 ?_ (hqT _ hF rfl hM6 hO6); show _ = q_join (c (one p).2.1) _ _; rw [show c (one p).2.1 = 62 by omega]; exact q_j62f (by assumption))
                | exact hqF _ _ hF rfl hM6
        · refine am_r_iload2 (pc' := 30) rfl rfl ?_
          refine am_r_iconst (pc' := 32) rfl rfl ?_
          refine am_r_icmp_eq (pt := 37) (pf := 35) rfl rfl rfl (fun h32 => ?_) (fun h32 => ?_)
          · refine am_r_aload0 (pc' := 38) rfl rfl ?_
            refine am_r_dup (pc' := 39) rfl rfl rfl ?_
            refine am_r_getIv (f := 13) (pc' := 42) rfl rfl rfl (ms_p hM) ?_
            refine am_r_iconst (pc' := 43) rfl rfl ?_
            refine am_r_iadd (pc' := 44) rfl rfl ?_
            refine am_r_putI (f := 13) (pc' := 47) rfl rfl rfl (by decide) ?_
            have hF := am_fq_up (i := 13) (x := z_I ((one p).2.1 + 1)) hF (by omega)
            have hO := am_op_e (i := 13) (x := z_I ((one p).2.1 + 1)) hO (by omega)
            have hM := ms_inc hM (by omega)
            refine am_r_aload0 (pc' := 48) rfl rfl ?_
            refine am_r_invI0 (pc' := 51) rfl rfl rfl (Nat.le_of_ble_eq_true rfl) (hs (by omega) hM hO ?_ ?_)
            · intro M6 hf6 e6 hM6 hO6
              have hF := am_fq_tr hF hf6
              have e : q_cmp one c p = (true, (one ((one p).2.1 + 1)).2.1, (one p).2.2.1 ++ (one ((one p).2.1 + 1)).2.2.1 ++ [(c (one p).2.1, 0)], fun ν => q_join (c (one p).2.1) ((one p).2.2.2 ν) ((one ((one p).2.1 + 1)).2.2.2 ν)) := (by unfold q_cmp; rw [if_pos ⟨e4, by omega⟩, if_pos e6])
              rw [e] at hqT
              refine am_r_istore3 (pc' := 52) rfl rfl rfl ?_
              refine am_r_iload2 (pc' := 53) rfl rfl ?_
              refine am_r_iconst (pc' := 55) rfl rfl ?_
              refine am_r_icmp_ne (pt := 66) (pf := 58) rfl rfl rfl (fun h55 => ?_) (fun h55 => ?_)
              · refine am_r_iload2 (pc' := 67) rfl rfl ?_
                refine am_r_iconst (pc' := 69) rfl rfl ?_
                refine am_r_icmp_ne (pt := 80) (pf := 72) rfl rfl rfl (fun h69 => ?_) (fun h69 => ?_)
                · refine am_r_iload1 (pc' := 81) rfl rfl ?_
                  refine am_r_iload3 (pc' := 82) rfl rfl ?_
                  refine am_r_icmp_leR (pt := 89) (pf := 85) rfl rfl rfl (fun h82 => ?_) (fun h82 => ?_)
                  · refine am_r_iconst (pc' := 90) rfl rfl ?_
                    refine am_r_iret rfl rfl ?_
                    first
                    | (refine am_q2 ?_ (hqT _ hF rfl hM6 hO6); show _ = q_join (c (one p).2.1) _ _; rw [show c (one p).2.1 = 60 by omega]; exact q_j60t (by assumption))
                    | (refine am_q2 ?_ (hqT _ hF rfl hM6 hO6); show _ = q_join (c (one p).2.1) _ _; rw [show c (one p).2.1 = 60 by omega]; exact q_j60f (by assumption))
                    | (refine am_q2 ?_ (hqT _ hF rfl hM6 hO6); show _ = q_join (c (one p).2.1) _ _; rw [show c (one p).2.1 = 61 by omega]; exact q_j61t (by assumption))
                    | (refine am_q2 ?_ (hqT _ hF rfl hM6 hO6); show _ = q_join (c (one p).2.1) _ _; rw [show c (one p).2.1 = 61 by omega]; exact q_j61f (by assumption))
                    | (refine am_q2 ?_ (hqT _ hF rfl hM6 hO6); show _ = q_join (c (one p).2.1) _ _; rw [show c (one p).2.1 = 62 by omega]; exact q_j62t (by assumption))
                    | (refine am_q2 ?_ (hqT _ hF rfl hM6 hO6); show _ = q_join (c (one p).2.1) _ _; rw [show c (one p).2.1 = 62 by omega]; exact q_j62f (by assumption))
                    | exact hqF _ _ hF rfl hM6
                  · refine am_r_iconst (pc' := 86) rfl rfl ?_
                    refine am_r_goto (pc' := 90) rfl rfl ?_
                    refine am_r_iret rfl rfl ?_
                    first
                    | (refine am_q2 ?_ (hqT _ hF rfl hM6 hO6); show _ = q_join (c (one p).2.1) _ _; rw [show c (one p).2.1 = 60 by omega]; exact q_j60t (by assumption))
                    | (refine am_q2 ?_ (hqT _ hF rfl hM6 hO6); show _ = q_join (c (one p).2.1) _ _; rw [show c (one p).2.1 = 60 by omega]; exact q_j60f (by assumption))
                    | (refine am_q2 ?_ (hqT _ hF rfl hM6 hO6); show _ = q_join (c (one p).2.1) _ _; rw [show c (one p).2.1 = 61 by omega]; exact q_j61t (by assumption))
                    | (refine am_q2 ?_ (hqT _ hF rfl hM6 hO6); show _ = q_join (c (one p).2.1) _ _; rw [show c (one p).2.1 = 61 by omega]; exact q_j61f (by assumption))
                    | (refine am_q2 ?_ (hqT _ hF rfl hM6 hO6); show _ = q_join (c (one p).2.1) _ _; rw [show c (one p).2.1 = 62 by omega]; exact q_j62t (by assumption))
                    | (refine am_q2 ?_ (hqT _ hF rfl hM6 hO6); show _ = q_join (c (one p).2.1) _ _; rw [show c (one p).2.1 = 62 by omega]; exact q_j62f (by assumption))
                    | exact hqF _ _ hF rfl hM6
                · refine am_r_iload1 (pc' := 73) rfl rfl ?_
                  refine am_r_iload3 (pc' := 74) rfl rfl ?_
                  refine am_r_icmp_neR (pt := 89) (pf := 77) rfl rfl rfl (fun h74 => ?_) (fun h74 => ?_)
                  · refine am_r_iconst (pc' := 90) rfl rfl ?_
                    refine am_r_iret rfl rfl ?_
                    first
                    | (refine am_q2 ?_ (hqT _ hF rfl hM6 hO6); show _ = q_join (c (one p).2.1) _ _; rw [show c (one p).2.1 = 60 by omega]; exact q_j60t (by assumption))
                    | (refine am_q2 ?_ (hqT _ hF rfl hM6 hO6); show _ = q_join (c (one p).2.1) _ _; rw [show c (one p).2.1 = 60 by omega]; exact q_j60f (by assumption))
                    | (refine am_q2 ?_ (hqT _ hF rfl hM6 hO6); show _ = q_join (c (one p).2.1) _ _; rw [show c (one p).2.1 = 61 by omega]; exact q_j61t (by assumption))
                    | (refine am_q2 ?_ (hqT _ hF rfl hM6 hO6); show _ = q_join (c (one p).2.1) _ _; rw [show c (one p).2.1 = 61 by omega]; exact q_j61f (by assumption))
                    | (refine am_q2 ?_ (hqT _ hF rfl hM6 hO6); show _ = q_join (c (one p).2.1) _ _; rw [show c (one p).2.1 = 62 by omega]; exact q_j62t (by assumption))
                    | (refine am_q2 ?_ (hqT _ hF rfl hM6 hO6); show _ = q_join (c (one p).2.1) _ _; rw [show c (one p).2.1 = 62 by omega]; exact q_j62f (by assumption))
                    | exact hqF _ _ hF rfl hM6
                  · refine am_r_goto (pc' := 85) rfl rfl ?_
                    refine am_r_iconst (pc' := 86) rfl rfl ?_
                    refine am_r_goto (pc' := 90) rfl rfl ?_
                    refine am_r_iret rfl rfl ?_
                    first
                    | (refine am_q2 ?_ (hqT _ hF rfl hM6 hO6); show _ = q_join (c (one p).2.1) _ _; rw [show c (one p).2.1 = 60 by omega]; exact q_j60t (by assumption))
                    | (refine am_q2 ?_ (hqT _ hF rfl hM6 hO6); show _ = q_join (c (one p).2.1) _ _; rw [show c (one p).2.1 = 60 by omega]; exact q_j60f (by assumption))
                    | (refine am_q2 ?_ (hqT _ hF rfl hM6 hO6); show _ = q_join (c (one p).2.1) _ _; rw [show c (one p).2.1 = 61 by omega]; exact q_j61t (by assumption))
                    | (refine am_q2 ?_ (hqT _ hF rfl hM6 hO6); show _ = q_join (c (one p).2.1) _ _; rw [show c (one p).2.1 = 61 by omega]; exact q_j61f (by assumption))
                    | (refine am_q2 ?_ (hqT _ hF rfl hM6 hO6); show _ = q_join (c (one p).2.1) _ _; rw [show c (one p).2.1 = 62 by omega]; exact q_j62t (by assumption))
                    | (refine am_q2 ?_ (hqT _ hF rfl hM6 hO6); show _ = q_join (c (one p).2.1) _ _; rw [show c (one p).2.1 = 62 by omega]; exact q_j62f (by assumption))
                    | exact hqF _ _ hF rfl hM6
              · refine am_r_iload1 (pc' := 59) rfl rfl ?_
                refine am_r_iload3 (pc' := 60) rfl rfl ?_
                refine am_r_icmp_geR (pt := 89) (pf := 63) rfl rfl rfl (fun h60 => ?_) (fun h60 => ?_)
                · refine am_r_iconst (pc' := 90) rfl rfl ?_
                  refine am_r_iret rfl rfl ?_
                  first
                  | (refine am_q2 ?_ (hqT _ hF rfl hM6 hO6); show _ = q_join (c (one p).2.1) _ _; rw [show c (one p).2.1 = 60 by omega]; exact q_j60t (by assumption))
                  | (refine am_q2 ?_ (hqT _ hF rfl hM6 hO6); show _ = q_join (c (one p).2.1) _ _; rw [show c (one p).2.1 = 60 by omega]; exact q_j60f (by assumption))
                  | (refine am_q2 ?_ (hqT _ hF rfl hM6 hO6); show _ = q_join (c (one p).2.1) _ _; rw [show c (one p).2.1 = 61 by omega]; exact q_j61t (by assumption))
                  | (refine am_q2 ?_ (hqT _ hF rfl hM6 hO6); show _ = q_join (c (one p).2.1) _ _; rw [show c (one p).2.1 = 61 by omega]; exact q_j61f (by assumption))
                  | (refine am_q2 ?_ (hqT _ hF rfl hM6 hO6); show _ = q_join (c (one p).2.1) _ _; rw [show c (one p).2.1 = 62 by omega]; exact q_j62t (by assumption))
                  | (refine am_q2 ?_ (hqT _ hF rfl hM6 hO6); show _ = q_join (c (one p).2.1) _ _; rw [show c (one p).2.1 = 62 by omega]; exact q_j62f (by assumption))
                  | exact hqF _ _ hF rfl hM6
                · refine am_r_goto (pc' := 85) rfl rfl ?_
                  refine am_r_iconst (pc' := 86) rfl rfl ?_
                  refine am_r_goto (pc' := 90) rfl rfl ?_
                  refine am_r_iret rfl rfl ?_
                  first
                  | (refine am_q2 ?_ (hqT _ hF rfl hM6 hO6); show _ = q_join (c (one p).2.1) _ _; rw [show c (one p).2.1 = 60 by omega]; exact q_j60t (by assumption))
                  | (refine am_q2 ?_ (hqT _ hF rfl hM6 hO6); show _ = q_join (c (one p).2.1) _ _; rw [show c (one p).2.1 = 60 by omega]; exact q_j60f (by assumption))
                  | (refine am_q2 ?_ (hqT _ hF rfl hM6 hO6); show _ = q_join (c (one p).2.1) _ _; rw [show c (one p).2.1 = 61 by omega]; exact q_j61t (by assumption))
                  | (refine am_q2 ?_ (hqT _ hF rfl hM6 hO6); show _ = q_join (c (one p).2.1) _ _; rw [show c (one p).2.1 = 61 by omega]; exact q_j61f (by assumption))
                  | (refine am_q2 ?_ (hqT _ hF rfl hM6 hO6); show _ = q_join (c (one p).2.1) _ _; rw [show c (one p).2.1 = 62 by omega]; exact q_j62t (by assumption))
                  | (refine am_q2 ?_ (hqT _ hF rfl hM6 hO6); show _ = q_join (c (one p).2.1) _ _; rw [show c (one p).2.1 = 62 by omega]; exact q_j62f (by assumption))
                  | exact hqF _ _ hF rfl hM6
            · intro M6 x6 hf6 e6 hM6
              have hF := am_fq_tr hF hf6
              have e : q_cmp one c p = q_no (one ((one p).2.1 + 1)).2.1 := (by unfold q_cmp; rw [if_pos ⟨e4, by omega⟩, if_neg (by rw [e6]; decide)])
              rw [e] at hqF
              refine am_r_istore3 (pc' := 52) rfl rfl rfl ?_
              refine am_r_iload2 (pc' := 53) rfl rfl ?_
              refine am_r_iconst (pc' := 55) rfl rfl ?_
              refine am_r_icmp_ne (pt := 66) (pf := 58) rfl rfl rfl (fun h55 => ?_) (fun h55 => ?_)
              · refine am_r_iload2 (pc' := 67) rfl rfl ?_
                refine am_r_iconst (pc' := 69) rfl rfl ?_
                refine am_r_icmp_ne (pt := 80) (pf := 72) rfl rfl rfl (fun h69 => ?_) (fun h69 => ?_)
                · refine am_r_iload1 (pc' := 81) rfl rfl ?_
                  refine am_r_iload3 (pc' := 82) rfl rfl ?_
                  refine am_r_icmp_leR (pt := 89) (pf := 85) rfl rfl rfl (fun h82 => ?_) (fun h82 => ?_)
                  · refine am_r_iconst (pc' := 90) rfl rfl ?_
                    refine am_r_iret rfl rfl ?_
                    first
                    | (refine am_q2 ?_ (hqT _ hF rfl hM6 hO6); show _ = q_join (c (one p).2.1) _ _; rw [show c (one p).2.1 = 60 by omega]; exact q_j60t (by assumption))
                    | (refine am_q2 ?_ (hqT _ hF rfl hM6 hO6); show _ = q_join (c (one p).2.1) _ _; rw [show c (one p).2.1 = 60 by omega]; exact q_j60f (by assumption))
                    | (refine am_q2 ?_ (hqT _ hF rfl hM6 hO6); show _ = q_join (c (one p).2.1) _ _; rw [show c (one p).2.1 = 61 by omega]; exact q_j61t (by assumption))
                    | (refine am_q2 ?_ (hqT _ hF rfl hM6 hO6); show _ = q_join (c (one p).2.1) _ _; rw [show c (one p).2.1 = 61 by omega]; exact q_j61f (by assumption))
                    | (refine am_q2 ?_ (hqT _ hF rfl hM6 hO6); show _ = q_join (c (one p).2.1) _ _; rw [show c (one p).2.1 = 62 by omega]; exact q_j62t (by assumption))
                    | (refine am_q2 ?_ (hqT _ hF rfl hM6 hO6); show _ = q_join (c (one p).2.1) _ _; rw [show c (one p).2.1 = 62 by omega]; exact q_j62f (by assumption))
                    | exact hqF _ _ hF rfl hM6
                  · refine am_r_iconst (pc' := 86) rfl rfl ?_
                    refine am_r_goto (pc' := 90) rfl rfl ?_
                    refine am_r_iret rfl rfl ?_
                    first
                    | (refine am_q2 ?_ (hqT _ hF rfl hM6 hO6); show _ = q_join (c (one p).2.1) _ _; rw [show c (one p).2.1 = 60 by omega]; exact q_j60t (by assumption))
                    | (refine am_q2 ?_ (hqT _ hF rfl hM6 hO6); show _ = q_join (c (one p).2.1) _ _; rw [show c (one p).2.1 = 60 by omega]; exact q_j60f (by assumption))
                    | (refine am_q2 ?_ (hqT _ hF rfl hM6 hO6); show _ = q_join (c (one p).2.1) _ _; rw [show c (one p).2.1 = 61 by omega]; exact q_j61t (by assumption))
                    | (refine am_q2 ?_ (hqT _ hF rfl hM6 hO6); show _ = q_join (c (one p).2.1) _ _; rw [show c (one p).2.1 = 61 by omega]; exact q_j61f (by assumption))
                    | (refine am_q2 ?_ (hqT _ hF rfl hM6 hO6); show _ = q_join (c (one p).2.1) _ _; rw [show c (one p).2.1 = 62 by omega]; exact q_j62t (by assumption))
                    | (refine am_q2 ?_ (hqT _ hF rfl hM6 hO6); show _ = q_join (c (one p).2.1) _ _; rw [show c (one p).2.1 = 62 by omega]; exact q_j62f (by assumption))
                    | exact hqF _ _ hF rfl hM6
                · refine am_r_iload1 (pc' := 73) rfl rfl ?_
                  refine am_r_iload3 (pc' := 74) rfl rfl ?_
                  refine am_r_icmp_neR (pt := 89) (pf := 77) rfl rfl rfl (fun h74 => ?_) (fun h74 => ?_)
                  · refine am_r_iconst (pc' := 90) rfl rfl ?_
                    refine am_r_iret rfl rfl ?_
                    first
                    | (refine am_q2 ?_ (hqT _ hF rfl hM6 hO6); show _ = q_join (c (one p).2.1) _ _; rw [show c (one p).2.1 = 60 by omega]; exact q_j60t (by assumption))
                    | (refine am_q2 ?_ (hqT _ hF rfl hM6 hO6); show _ = q_join (c (one p).2.1) _ _; rw [show c (one p).2.1 = 60 by omega]; exact q_j60f (by assumption))
                    | (refine am_q2 ?_ (hqT _ hF rfl hM6 hO6); show _ = q_join (c (one p).2.1) _ _; rw [show c (one p).2.1 = 61 by omega]; exact q_j61t (by assumption))
                    | (refine am_q2 ?_ (hqT _ hF rfl hM6 hO6); show _ = q_join (c (one p).2.1) _ _; rw [show c (one p).2.1 = 61 by omega]; exact q_j61f (by assumption))
                    | (refine am_q2 ?_ (hqT _ hF rfl hM6 hO6); show _ = q_join (c (one p).2.1) _ _; rw [show c (one p).2.1 = 62 by omega]; exact q_j62t (by assumption))
                    | (refine am_q2 ?_ (hqT _ hF rfl hM6 hO6); show _ = q_join (c (one p).2.1) _ _; rw [show c (one p).2.1 = 62 by omega]; exact q_j62f (by assumption))
                    | exact hqF _ _ hF rfl hM6
                  · refine am_r_goto (pc' := 85) rfl rfl ?_
                    refine am_r_iconst (pc' := 86) rfl rfl ?_
                    refine am_r_goto (pc' := 90) rfl rfl ?_
                    refine am_r_iret rfl rfl ?_
                    first
                    | (refine am_q2 ?_ (hqT _ hF rfl hM6 hO6); show _ = q_join (c (one p).2.1) _ _; rw [show c (one p).2.1 = 60 by omega]; exact q_j60t (by assumption))
                    | (refine am_q2 ?_ (hqT _ hF rfl hM6 hO6); show _ = q_join (c (one p).2.1) _ _; rw [show c (one p).2.1 = 60 by omega]; exact q_j60f (by assumption))
                    | (refine am_q2 ?_ (hqT _ hF rfl hM6 hO6); show _ = q_join (c (one p).2.1) _ _; rw [show c (one p).2.1 = 61 by omega]; exact q_j61t (by assumption))
                    | (refine am_q2 ?_ (hqT _ hF rfl hM6 hO6); show _ = q_join (c (one p).2.1) _ _; rw [show c (one p).2.1 = 61 by omega]; exact q_j61f (by assumption))
                    | (refine am_q2 ?_ (hqT _ hF rfl hM6 hO6); show _ = q_join (c (one p).2.1) _ _; rw [show c (one p).2.1 = 62 by omega]; exact q_j62t (by assumption))
                    | (refine am_q2 ?_ (hqT _ hF rfl hM6 hO6); show _ = q_join (c (one p).2.1) _ _; rw [show c (one p).2.1 = 62 by omega]; exact q_j62f (by assumption))
                    | exact hqF _ _ hF rfl hM6
              · refine am_r_iload1 (pc' := 59) rfl rfl ?_
                refine am_r_iload3 (pc' := 60) rfl rfl ?_
                refine am_r_icmp_geR (pt := 89) (pf := 63) rfl rfl rfl (fun h60 => ?_) (fun h60 => ?_)
                · refine am_r_iconst (pc' := 90) rfl rfl ?_
                  refine am_r_iret rfl rfl ?_
                  first
                  | (refine am_q2 ?_ (hqT _ hF rfl hM6 hO6); show _ = q_join (c (one p).2.1) _ _; rw [show c (one p).2.1 = 60 by omega]; exact q_j60t (by assumption))
                  | (refine am_q2 ?_ (hqT _ hF rfl hM6 hO6); show _ = q_join (c (one p).2.1) _ _; rw [show c (one p).2.1 = 60 by omega]; exact q_j60f (by assumption))
                  | (refine am_q2 ?_ (hqT _ hF rfl hM6 hO6); show _ = q_join (c (one p).2.1) _ _; rw [show c (one p).2.1 = 61 by omega]; exact q_j61t (by assumption))
                  | (refine am_q2 ?_ (hqT _ hF rfl hM6 hO6); show _ = q_join (c (one p).2.1) _ _; rw [show c (one p).2.1 = 61 by omega]; exact q_j61f (by assumption))
                  | (refine am_q2 ?_ (hqT _ hF rfl hM6 hO6); show _ = q_join (c (one p).2.1) _ _; rw [show c (one p).2.1 = 62 by omega]; exact q_j62t (by assumption))
                  | (refine am_q2 ?_ (hqT _ hF rfl hM6 hO6); show _ = q_join (c (one p).2.1) _ _; rw [show c (one p).2.1 = 62 by omega]; exact q_j62f (by assumption))
                  | exact hqF _ _ hF rfl hM6
                · refine am_r_goto (pc' := 85) rfl rfl ?_
                  refine am_r_iconst (pc' := 86) rfl rfl ?_
                  refine am_r_goto (pc' := 90) rfl rfl ?_
                  refine am_r_iret rfl rfl ?_
                  first
                  | (refine am_q2 ?_ (hqT _ hF rfl hM6 hO6); show _ = q_join (c (one p).2.1) _ _; rw [show c (one p).2.1 = 60 by omega]; exact q_j60t (by assumption))
                  | (refine am_q2 ?_ (hqT _ hF rfl hM6 hO6); show _ = q_join (c (one p).2.1) _ _; rw [show c (one p).2.1 = 60 by omega]; exact q_j60f (by assumption))
                  | (refine am_q2 ?_ (hqT _ hF rfl hM6 hO6); show _ = q_join (c (one p).2.1) _ _; rw [show c (one p).2.1 = 61 by omega]; exact q_j61t (by assumption))
                  | (refine am_q2 ?_ (hqT _ hF rfl hM6 hO6); show _ = q_join (c (one p).2.1) _ _; rw [show c (one p).2.1 = 61 by omega]; exact q_j61f (by assumption))
                  | (refine am_q2 ?_ (hqT _ hF rfl hM6 hO6); show _ = q_join (c (one p).2.1) _ _; rw [show c (one p).2.1 = 62 by omega]; exact q_j62t (by assumption))
                  | (refine am_q2 ?_ (hqT _ hF rfl hM6 hO6); show _ = q_join (c (one p).2.1) _ _; rw [show c (one p).2.1 = 62 by omega]; exact q_j62f (by assumption))
                  | exact hqF _ _ hF rfl hM6
          · refine am_r_iload1 (pc' := 36) rfl rfl ?_
            refine am_r_iret rfl rfl ?_
            first | (have e := hc0 (by omega); rw [e] at hqT; exact hqT _ hF e4 hM hO) | exact hqF _ _ hF e4 hM
  · intro M4 x4 hf4 e4 hM4
    have hM := hM4
    have hpb4 := ms_pb hM4
    have hF := am_fq_tr hF hf4
    have e : q_cmp one c p = one p := (by unfold q_cmp; rw [if_neg]; rw [e4]; rintro ⟨q, _⟩; exact absurd q (by decide))
    rw [e] at hqF
    refine am_r_istore1 (pc' := 5) rfl rfl rfl ?_
    refine am_r_aload0 (pc' := 6) rfl rfl ?_
    refine am_r_invI0 (pc' := 9) rfl rfl rfl (Nat.le_of_ble_eq_true rfl) (m_byteAt (by omega) hM ?_)
    refine am_r_istore2 (pc' := 10) rfl rfl rfl ?_
    refine am_r_aload0 (pc' := 11) rfl rfl ?_
    refine am_r_getIv (f := 15) (pc' := 14) rfl rfl rfl (ms_f hM) ?_
    refine am_r_if_ge (pt := 35) (pf := 17) rfl rfl rfl (fun h14 => ?_) (fun h14 => ?_)
    · refine am_r_iload1 (pc' := 36) rfl rfl ?_
      refine am_r_iret rfl rfl ?_
      first | (have e := hc0 (by omega); rw [e] at hqT; exact hqT _ hF e4 hM hO) | exact hqF _ _ hF e4 hM
    · exfalso; omega
theorem m_one {sL : Nat} {xs : Nat → Int32} (hc : q_C c n) : ∀ (m : Nat) (o : Int), o = 6 - m → 0 ≤ o → q_md sL xs c n ν (3 + 7 * m) 184 o (q_one c m) := by
  have hdg : ∀ (d : Nat) (M : Am_M) (Q : Int32 → Am_M → Prop) (p0 p1 v1 : Int), 1 ≤ d → ∀ (k : Nat) (kk v p : Int) (N : Am_M) (w1 : Value) (w2 : Int32), 1 ≤ kk ∧ kk + k = 4 ∧ 0 ≤ v ∧ (v + 1) * 10 ^ k ≤ 10000 → am_fq M N → MS N c n ν p (-1) → (∀ M', am_fq N M' → MS M' c n ν (q_num c k v p).2 (-1) → M'.1 53 16 = N.1 53 16 → Q (z_I (q_num c k v p).1) M') → am_rw sL xs d am_pX11_one 1 176 [.ref 53, w1, .int w2, .int (z_I v), .int (z_I kk)] [] N (am_pi Q) := by
    intro d M Q p0 p1 v1 hd k
    induction k with
    | zero =>
      intro kk v p N w1 w2 hk hF hM hq
      have h10 : (v + 1) * 10 ^ 0 = v + 1 := by simp
      refine am_r_iload4 (pc' := 178) rfl rfl ?_
      refine am_r_iconst (pc' := 179) rfl rfl ?_
      refine am_r_icmp_ge (pt := 229) (pf := 182) rfl rfl rfl (fun h179 => ?_) (fun h179 => ?_)
      · refine am_r_iload4 (pc' := 231) rfl rfl ?_
        refine am_r_if_ne (pt := 241) (pf := 234) rfl rfl rfl (fun h231 => ?_) (fun h231 => ?_)
        · refine am_r_iload3 (pc' := 242) rfl rfl ?_
          refine am_r_iret rfl rfl ?_
          exact hq _ (am_fq_rf _) hM rfl
        · exfalso; omega
      · exfalso; omega
    | succ k ih =>
      intro kk v p N w1 w2 hk hF hM hq
      have hcb := ms_cb hM
      have hpb := ms_pb hM
      have hnb := ms_nb hM
      have h10 : v + 1 ≤ (v + 1) * 10 ^ (k + 1) := by
        have h3 : 1 ≤ (10 : Int) ^ (k + 1) := by have := Int.pow_pos (n := 10) (m := k + 1) (by omega); omega
        have h4 : (v + 1) * 1 ≤ (v + 1) * 10 ^ (k + 1) := Int.mul_le_mul_of_nonneg_left h3 (by omega)
        omega
      have h11 : 48 ≤ c p → c p ≤ 57 → (v * 10 + c p - 48 + 1) * 10 ^ k ≤ (v + 1) * 10 ^ (k + 1) := fun a b => by
        rw [Int.pow_succ, Int.mul_comm (10 ^ k) 10, ← Int.mul_assoc]
        exact Int.mul_le_mul_of_nonneg_right (by omega) (Int.le_of_lt (Int.pow_pos (by omega)))
      refine am_r_iload4 (pc' := 178) rfl rfl ?_
      refine am_r_iconst (pc' := 179) rfl rfl ?_
      refine am_r_icmp_ge (pt := 229) (pf := 182) rfl rfl rfl (fun h179 => ?_) (fun h179 => ?_)
      · refine am_r_iload4 (pc' := 231) rfl rfl ?_
        refine am_r_if_ne (pt := 241) (pf := 234) rfl rfl rfl (fun h231 => ?_) (fun h231 => ?_)
        · refine am_r_iload3 (pc' := 242) rfl rfl ?_
          refine am_r_iret rfl rfl ?_
          rw [show q_num c (k + 1) v p = (v, p) from if_neg (by omega)] at hq
          exact hq _ (am_fq_rf _) hM rfl
        · exfalso; omega
      · refine am_r_aload0 (pc' := 183) rfl rfl ?_
        refine am_r_invI0 (pc' := 186) rfl rfl rfl (Nat.le_of_ble_eq_true rfl) (m_byteAt (by omega) hM ?_)
        refine am_r_iconst (pc' := 188) rfl rfl ?_
        refine am_r_icmp_lt (pt := 229) (pf := 191) rfl rfl rfl (fun h188 => ?_) (fun h188 => ?_)
        · refine am_r_iload4 (pc' := 231) rfl rfl ?_
          refine am_r_if_ne (pt := 241) (pf := 234) rfl rfl rfl (fun h231 => ?_) (fun h231 => ?_)
          · refine am_r_iload3 (pc' := 242) rfl rfl ?_
            refine am_r_iret rfl rfl ?_
            rw [show q_num c (k + 1) v p = (v, p) from if_neg (by omega)] at hq
            exact hq _ (am_fq_rf _) hM rfl
          · exfalso; omega
        · refine am_r_aload0 (pc' := 192) rfl rfl ?_
          refine am_r_invI0 (pc' := 195) rfl rfl rfl (Nat.le_of_ble_eq_true rfl) (m_byteAt (by omega) hM ?_)
          refine am_r_iconst (pc' := 197) rfl rfl ?_
          refine am_r_icmp_gt (pt := 229) (pf := 200) rfl rfl rfl (fun h197 => ?_) (fun h197 => ?_)
          · refine am_r_iload4 (pc' := 231) rfl rfl ?_
            refine am_r_if_ne (pt := 241) (pf := 234) rfl rfl rfl (fun h231 => ?_) (fun h231 => ?_)
            · refine am_r_iload3 (pc' := 242) rfl rfl ?_
              refine am_r_iret rfl rfl ?_
              rw [show q_num c (k + 1) v p = (v, p) from if_neg (by omega)] at hq
              exact hq _ (am_fq_rf _) hM rfl
            · exfalso; omega
          · refine am_r_iconst (pc' := 202) rfl rfl ?_
            refine am_r_iload3 (pc' := 203) rfl rfl ?_
            refine am_r_imul (pc' := 204) rfl rfl ?_
            refine am_r_aload0 (pc' := 205) rfl rfl ?_
            refine am_r_invI0 (pc' := 208) rfl rfl rfl (Nat.le_of_ble_eq_true rfl) (m_byteAt (by omega) hM ?_)
            refine am_r_iadd (pc' := 209) rfl rfl ?_
            refine am_r_iconst (pc' := 211) rfl rfl ?_
            refine am_r_isub (pc' := 212) rfl rfl ?_
            refine am_r_istore3 (pc' := 213) rfl rfl rfl ?_
            refine am_r_iinc4 (pc' := 216) rfl rfl rfl ?_
            refine am_r_aload0 (pc' := 217) rfl rfl ?_
            refine am_r_dup (pc' := 218) rfl rfl rfl ?_
            refine am_r_getIv (f := 13) (pc' := 221) rfl rfl rfl (ms_p hM) ?_
            refine am_r_iconst (pc' := 222) rfl rfl ?_
            refine am_r_iadd (pc' := 223) rfl rfl ?_
            refine am_r_putI (f := 13) (pc' := 226) rfl rfl rfl (by decide) ?_
            refine am_r_goto (pc' := 176) rfl rfl ?_
            rw [show 10 * v + q_by c n p - 48 = v * 10 + c p - 48 by omega]
            refine ih _ _ _ _ _ _ (by have := h11 (by omega) (by omega); omega) (am_fq_up hF (by omega)) (ms_inc hM (by omega)) ?_
            rw [show q_num c (k + 1) v p = q_num c k (v * 10 + c p - 48) (p + 1) from if_pos (by omega)] at hq
            exact fun M2 a1 a2 a3 => hq M2 (am_fq_tr (am_fq_up (am_fq_rf _) (by omega)) a1) a2 (by rw [a3, am_up_1 _ _ _ _ _ (by omega)])
  intro m
  induction m with
  | zero =>
    intro o ho ho0 d M Q p hd hM hO hqT hqF
    obtain ⟨d, rfl⟩ : ∃ e, d = e + 1 := ⟨d - 1, by omega⟩
    have hF := am_fq_rf M
    have hnb := ms_nb hM
    have hpb := ms_pb hM
    have hcb := ms_cb hM
    have hnm := q_nm_b (c p)
    have hq0 : q_nm (q_by c n p) = q_nm (c p) := by
      by_cases e : p < n
      · rw [(hcb.1 e).1]
      · rw [(hcb.2 (by omega)).1, (hcb.2 (by omega)).2]; rfl
    refine am_bi_of (P := am_pX11_one) (rt := 1) (nL := 5) (Nat.le_of_ble_eq_true rfl) rfl (Nat.le_of_ble_eq_true rfl) rfl rfl rfl ?_
    refine am_r_aload0 (pc' := 1) rfl rfl ?_
    refine am_r_getIv (f := 15) (pc' := 4) rfl rfl rfl (ms_f hM) ?_
    refine am_r_if_lt (pt := 9) (pf := 7) rfl rfl rfl (fun h4 => ?_) (fun h4 => ?_)
    · refine am_r_aload0 (pc' := 10) rfl rfl ?_
      refine am_r_invI0 (pc' := 13) rfl rfl rfl (Nat.le_of_ble_eq_true rfl) (m_byteAt (by omega) hM ?_)
      refine am_r_istore1 (pc' := 14) rfl rfl rfl ?_
      refine am_r_iload1 (pc' := 15) rfl rfl ?_
      refine am_r_iconst (pc' := 17) rfl rfl ?_
      refine am_r_icmp_eq (pt := 32) (pf := 20) rfl rfl rfl (fun h17 => ?_) (fun h17 => ?_)
      · refine am_r_aload0 (pc' := 33) rfl rfl ?_
        refine am_r_getIv (f := 16) (pc' := 36) rfl rfl rfl (hO) ?_
        refine am_r_iconst (pc' := 38) rfl rfl ?_
        refine am_r_icmp_ne (pt := 46) (pf := 41) rfl rfl rfl (fun h38 => ?_) (fun h38 => ?_)
        · exfalso; omega
        · refine am_r_aload0 (pc' := 42) rfl rfl ?_
          refine am_r_invI0 (pc' := 45) rfl rfl rfl (Nat.le_of_ble_eq_true rfl) (m_wrong0 (by omega) hM rfl ?_)
          · intro M8 hf8 hM8
            have hM := hM8
            have hF := am_fq_tr hF hf8
            refine am_r_iret rfl rfl ?_
            rw [q_one_f0 (by omega) (by omega)] at hqF
            exact hqF _ _ hF rfl hM
      · refine am_r_iload1 (pc' := 21) rfl rfl ?_
        refine am_r_iconst (pc' := 23) rfl rfl ?_
        refine am_r_icmp_eq (pt := 32) (pf := 26) rfl rfl rfl (fun h23 => ?_) (fun h23 => ?_)
        · refine am_r_aload0 (pc' := 33) rfl rfl ?_
          refine am_r_getIv (f := 16) (pc' := 36) rfl rfl rfl (hO) ?_
          refine am_r_iconst (pc' := 38) rfl rfl ?_
          refine am_r_icmp_ne (pt := 46) (pf := 41) rfl rfl rfl (fun h38 => ?_) (fun h38 => ?_)
          · exfalso; omega
          · refine am_r_aload0 (pc' := 42) rfl rfl ?_
            refine am_r_invI0 (pc' := 45) rfl rfl rfl (Nat.le_of_ble_eq_true rfl) (m_wrong0 (by omega) hM rfl ?_)
            · intro M8 hf8 hM8
              have hM := hM8
              have hF := am_fq_tr hF hf8
              refine am_r_iret rfl rfl ?_
              rw [q_one_f0 (by omega) (by omega)] at hqF
              exact hqF _ _ hF rfl hM
        · refine am_r_iload1 (pc' := 27) rfl rfl ?_
          refine am_r_iconst (pc' := 29) rfl rfl ?_
          refine am_r_icmp_ne (pt := 145) (pf := 32) rfl rfl rfl (fun h29 => ?_) (fun h29 => ?_)
          · refine am_r_iload1 (pc' := 146) rfl rfl ?_
            refine am_r_ivsI1 (pc' := 149) rfl rfl rfl (Nat.le_of_ble_eq_true rfl) (m_nameOf (by omega) (by omega) ?_)
            rw [hq0]
            refine am_r_istore2 (pc' := 150) rfl rfl rfl ?_
            refine am_r_iload2 (pc' := 151) rfl rfl ?_
            refine am_r_if_lt (pt := 171) (pf := 154) rfl rfl rfl (fun h151 => ?_) (fun h151 => ?_)
            · refine am_r_iconst (pc' := 172) rfl rfl ?_
              refine am_r_istore3 (pc' := 173) rfl rfl rfl ?_
              refine am_r_iconst (pc' := 174) rfl rfl ?_
              refine am_r_istore4 (pc' := 176) rfl rfl rfl ?_
              refine am_r_iload4 (pc' := 178) rfl rfl ?_
              refine am_r_iconst (pc' := 179) rfl rfl ?_
              refine am_r_icmp_ge (pt := 229) (pf := 182) rfl rfl rfl (fun h179 => ?_) (fun h179 => ?_)
              · refine am_r_iload4 (pc' := 231) rfl rfl ?_
                refine am_r_if_ne (pt := 241) (pf := 234) rfl rfl rfl (fun h231 => ?_) (fun h231 => ?_)
                · exfalso; omega
                · refine am_r_aload0 (pc' := 235) rfl rfl ?_
                  refine am_r_invI0 (pc' := 238) rfl rfl rfl (Nat.le_of_ble_eq_true rfl) (m_wrong0 (by omega) hM rfl ?_)
                  · intro M8 hf8 hM8
                    have hM := hM8
                    have hF := am_fq_tr hF hf8
                    refine am_r_goto (pc' := 242) rfl rfl ?_
                    refine am_r_iret rfl rfl ?_
                    rw [q_one_f 0 (by omega) (by omega) (by omega)] at hqF
                    exact hqF _ _ hF rfl hM
              · refine am_r_aload0 (pc' := 183) rfl rfl ?_
                refine am_r_invI0 (pc' := 186) rfl rfl rfl (Nat.le_of_ble_eq_true rfl) (m_byteAt (by omega) hM ?_)
                refine am_r_iconst (pc' := 188) rfl rfl ?_
                refine am_r_icmp_lt (pt := 229) (pf := 191) rfl rfl rfl (fun h188 => ?_) (fun h188 => ?_)
                · refine am_r_iload4 (pc' := 231) rfl rfl ?_
                  refine am_r_if_ne (pt := 241) (pf := 234) rfl rfl rfl (fun h231 => ?_) (fun h231 => ?_)
                  · exfalso; omega
                  · refine am_r_aload0 (pc' := 235) rfl rfl ?_
                    refine am_r_invI0 (pc' := 238) rfl rfl rfl (Nat.le_of_ble_eq_true rfl) (m_wrong0 (by omega) hM rfl ?_)
                    · intro M8 hf8 hM8
                      have hM := hM8
                      have hF := am_fq_tr hF hf8
                      refine am_r_goto (pc' := 242) rfl rfl ?_
                      refine am_r_iret rfl rfl ?_
                      rw [q_one_f 0 (by omega) (by omega) (by omega)] at hqF
                      exact hqF _ _ hF rfl hM
                · refine am_r_aload0 (pc' := 192) rfl rfl ?_
                  refine am_r_invI0 (pc' := 195) rfl rfl rfl (Nat.le_of_ble_eq_true rfl) (m_byteAt (by omega) hM ?_)
                  refine am_r_iconst (pc' := 197) rfl rfl ?_
                  refine am_r_icmp_gt (pt := 229) (pf := 200) rfl rfl rfl (fun h197 => ?_) (fun h197 => ?_)
                  · refine am_r_iload4 (pc' := 231) rfl rfl ?_
                    refine am_r_if_ne (pt := 241) (pf := 234) rfl rfl rfl (fun h231 => ?_) (fun h231 => ?_)
                    · exfalso; omega
                    · refine am_r_aload0 (pc' := 235) rfl rfl ?_
                      refine am_r_invI0 (pc' := 238) rfl rfl rfl (Nat.le_of_ble_eq_true rfl) (m_wrong0 (by omega) hM rfl ?_)
                      · intro M8 hf8 hM8
                        have hM := hM8
                        have hF := am_fq_tr hF hf8
                        refine am_r_goto (pc' := 242) rfl rfl ?_
                        refine am_r_iret rfl rfl ?_
                        rw [q_one_f 0 (by omega) (by omega) (by omega)] at hqF
                        exact hqF _ _ hF rfl hM
                  · refine am_r_iconst (pc' := 202) rfl rfl ?_
                    refine am_r_iload3 (pc' := 203) rfl rfl ?_
                    refine am_r_imul (pc' := 204) rfl rfl ?_
                    refine am_r_aload0 (pc' := 205) rfl rfl ?_
                    refine am_r_invI0 (pc' := 208) rfl rfl rfl (Nat.le_of_ble_eq_true rfl) (m_byteAt (by omega) hM ?_)
                    refine am_r_iadd (pc' := 209) rfl rfl ?_
                    refine am_r_iconst (pc' := 211) rfl rfl ?_
                    refine am_r_isub (pc' := 212) rfl rfl ?_
                    refine am_r_istore3 (pc' := 213) rfl rfl rfl ?_
                    refine am_r_iinc4 (pc' := 216) rfl rfl rfl ?_
                    refine am_r_aload0 (pc' := 217) rfl rfl ?_
                    refine am_r_dup (pc' := 218) rfl rfl rfl ?_
                    refine am_r_getIv (f := 13) (pc' := 221) rfl rfl rfl (ms_p hM) ?_
                    refine am_r_iconst (pc' := 222) rfl rfl ?_
                    refine am_r_iadd (pc' := 223) rfl rfl ?_
                    refine am_r_putI (f := 13) (pc' := 226) rfl rfl rfl (by decide) ?_
                    refine am_r_goto (pc' := 176) rfl rfl ?_
                    rw [show 10 * 0 + q_by c n p - 48 = 0 * 10 + c p - 48 by omega]
                    refine hdg d M Q 0 0 0 (by omega) 3 _ _ _ _ _ _ (by refine ⟨by omega, by omega, by omega, ?_⟩; have e3 : (10 : Int) ^ 3 = 1000 := (by decide); rw [e3]; omega) (am_fq_up hF (by omega)) (ms_inc hM (by omega)) ?_
                    intro M2 a1 a2 a3
                    have e : q_one c 0 p = _ := q_one_d 0 (by omega)
                    rw [e, show q_num c 4 0 p = q_num c 3 (0 * 10 + c p - 48) (p + 1) from if_pos (by omega)] at hqT
                    exact hqT M2 (am_fq_tr (am_fq_up hF (by omega)) a1) rfl a2 (by rw [a3, am_up_1 _ _ _ _ _ (by omega)]; exact hO)
            · refine am_r_aload0 (pc' := 155) rfl rfl ?_
              refine am_r_dup (pc' := 156) rfl rfl rfl ?_
              refine am_r_getIv (f := 13) (pc' := 159) rfl rfl rfl (ms_p hM) ?_
              refine am_r_iconst (pc' := 160) rfl rfl ?_
              refine am_r_iadd (pc' := 161) rfl rfl ?_
              refine am_r_putI (f := 13) (pc' := 164) rfl rfl rfl (by decide) ?_
              have hF := am_fq_up (i := 13) (x := z_I (p + 1)) hF (by omega)
              have hO := am_op_e (i := 13) (x := z_I (p + 1)) hO (by omega)
              have hM := ms_inc hM (by omega)
              refine am_r_aload0 (pc' := 165) rfl rfl ?_
              refine am_r_getR (t := 61) (pc' := 168) rfl rfl rfl ?_
              refine am_r_iload2 (pc' := 169) rfl rfl ?_
              refine am_r_iaZv (n := 6) (pc' := 170) rfl rfl rfl (by decide) (ms_v hM (by omega) (by omega)) ?_
              refine am_r_iret rfl rfl ?_
              rw [q_one_n 0 (by omega) (by omega)] at hqT
              exact hqT _ hF rfl hM hO
          · refine am_r_aload0 (pc' := 33) rfl rfl ?_
            refine am_r_getIv (f := 16) (pc' := 36) rfl rfl rfl (hO) ?_
            refine am_r_iconst (pc' := 38) rfl rfl ?_
            refine am_r_icmp_ne (pt := 46) (pf := 41) rfl rfl rfl (fun h38 => ?_) (fun h38 => ?_)
            · exfalso; omega
            · refine am_r_aload0 (pc' := 42) rfl rfl ?_
              refine am_r_invI0 (pc' := 45) rfl rfl rfl (Nat.le_of_ble_eq_true rfl) (m_wrong0 (by omega) hM rfl ?_)
              · intro M8 hf8 hM8
                have hM := hM8
                have hF := am_fq_tr hF hf8
                refine am_r_iret rfl rfl ?_
                rw [q_one_f0 (by omega) (by omega)] at hqF
                exact hqF _ _ hF rfl hM
    · refine am_r_iconst (pc' := 8) rfl rfl ?_
      refine am_r_iret rfl rfl ?_
      exfalso; omega
  | succ m ih =>
    have h0 := @ih (6 - m) rfl
    have hei : 0 ≤ (6 : Int) - m → q_md sL xs c n ν (3 + 7 * m + 5) 178 (6 - m) (q_ei (q_one c m) c) := fun q => by
      obtain ⟨g1, g2, g3, g4, _⟩ := q_ei_gd hc (q_one_gd hc m)
      exact m_either g4 (by omega) (m_both g3 (by omega) (m_compared g2 (by omega) (m_sums g1 (by omega) (m_product (q_one_gd hc m) (by omega) (h0 q)))))
    intro o ho ho0 d M Q p hd hM hO hqT hqF
    obtain ⟨d, rfl⟩ : ∃ e, d = e + 1 := ⟨d - 1, by omega⟩
    have hF := am_fq_rf M
    have hnb := ms_nb hM
    have hpb := ms_pb hM
    have hcb := ms_cb hM
    have hnm := q_nm_b (c p)
    have hq0 : q_nm (q_by c n p) = q_nm (c p) := by
      by_cases e : p < n
      · rw [(hcb.1 e).1]
      · rw [(hcb.2 (by omega)).1, (hcb.2 (by omega)).2]; rfl
    refine am_bi_of (P := am_pX11_one) (rt := 1) (nL := 5) (Nat.le_of_ble_eq_true rfl) rfl (Nat.le_of_ble_eq_true rfl) rfl rfl rfl ?_
    refine am_r_aload0 (pc' := 1) rfl rfl ?_
    refine am_r_getIv (f := 15) (pc' := 4) rfl rfl rfl (ms_f hM) ?_
    refine am_r_if_lt (pt := 9) (pf := 7) rfl rfl rfl (fun h4 => ?_) (fun h4 => ?_)
    · refine am_r_aload0 (pc' := 10) rfl rfl ?_
      refine am_r_invI0 (pc' := 13) rfl rfl rfl (Nat.le_of_ble_eq_true rfl) (m_byteAt (by omega) hM ?_)
      refine am_r_istore1 (pc' := 14) rfl rfl rfl ?_
      refine am_r_iload1 (pc' := 15) rfl rfl ?_
      refine am_r_iconst (pc' := 17) rfl rfl ?_
      refine am_r_icmp_eq (pt := 32) (pf := 20) rfl rfl rfl (fun h17 => ?_) (fun h17 => ?_)
      · refine am_r_aload0 (pc' := 33) rfl rfl ?_
        refine am_r_getIv (f := 16) (pc' := 36) rfl rfl rfl (hO) ?_
        refine am_r_iconst (pc' := 38) rfl rfl ?_
        refine am_r_icmp_ne (pt := 46) (pf := 41) rfl rfl rfl (fun h38 => ?_) (fun h38 => ?_)
        · refine am_r_aload0 (pc' := 47) rfl rfl ?_
          refine am_r_dup (pc' := 48) rfl rfl rfl ?_
          refine am_r_getIv (f := 16) (pc' := 51) rfl rfl rfl (hO) ?_
          refine am_r_iconst (pc' := 52) rfl rfl ?_
          refine am_r_iadd (pc' := 53) rfl rfl ?_
          refine am_r_putI (f := 16) (pc' := 56) rfl rfl rfl (by decide) ?_
          have hF := am_fq_up (i := 16) (x := z_I (o + 1)) hF (by omega)
          have hO : (am_upI M 53 16 (z_I (o + 1))).1 53 16 = z_I (o + 1) := by simp [am_upI]
          have hM := ms_op hM (z_I (o + 1))
          refine am_r_aload0 (pc' := 57) rfl rfl ?_
          refine am_r_dup (pc' := 58) rfl rfl rfl ?_
          refine am_r_getIv (f := 13) (pc' := 61) rfl rfl rfl (ms_p hM) ?_
          refine am_r_iconst (pc' := 62) rfl rfl ?_
          refine am_r_iadd (pc' := 63) rfl rfl ?_
          refine am_r_putI (f := 13) (pc' := 66) rfl rfl rfl (by decide) ?_
          have hF := am_fq_up (i := 13) (x := z_I (p + 1)) hF (by omega)
          have hO := am_op_e (i := 13) (x := z_I (p + 1)) hO (by omega)
          have hM := ms_inc hM (by omega)
          refine am_r_iload1 (pc' := 67) rfl rfl ?_
          refine am_r_iconst (pc' := 69) rfl rfl ?_
          refine am_r_icmp_ne (pt := 79) (pf := 72) rfl rfl rfl (fun h69 => ?_) (fun h69 => ?_)
          · refine am_r_aload0 (pc' := 80) rfl rfl ?_
            refine am_r_invI0 (pc' := 83) rfl rfl rfl (Nat.le_of_ble_eq_true rfl) (h0 (by omega) (by omega) hM (by rw [show (6 : Int) - m = o + 1 by omega]; exact hO) ?_ ?_)
            · intro M4 hf4 e4 hM4 hO4
              have hM := hM4
              have hO := hO4
              have hF := am_fq_tr hF hf4
              rw [q_one_t m (by omega), show q_turn (c p) (q_one c m (p + 1)) = (true, (q_one c m (p + 1)).2.1, (q_one c m (p + 1)).2.2.1 ++ [(if c p = 33 then 3 else 4, 0)], fun ν => if c p = 33 then (if (q_one c m (p + 1)).2.2.2 ν = 0 then z_I 1 else z_I 0) else -((q_one c m (p + 1)).2.2.2 ν)) from if_pos e4] at hqT
              refine am_r_istore2 (pc' := 84) rfl rfl rfl ?_
              refine am_r_iload1 (pc' := 85) rfl rfl ?_
              refine am_r_iconst (pc' := 87) rfl rfl ?_
              refine am_r_icmp_ne (pt := 104) (pf := 90) rfl rfl rfl (fun h87 => ?_) (fun h87 => ?_)
              · refine am_r_aload0 (pc' := 105) rfl rfl ?_
                refine am_r_dup (pc' := 106) rfl rfl rfl ?_
                refine am_r_getIv (f := 16) (pc' := 109) rfl rfl rfl (hO) ?_
                refine am_r_iconst (pc' := 110) rfl rfl ?_
                refine am_r_isub (pc' := 111) rfl rfl ?_
                rw [show (6 : Int) - m - 1 = o by omega]
                refine am_r_putI (f := 16) (pc' := 114) rfl rfl rfl (by decide) ?_
                have hF := am_fq_up (i := 16) (x := z_I (o)) hF (by omega)
                have hO := am_up_e M4 53 16 (z_I (o))
                have hM := ms_op hM (z_I (o))
                refine am_r_iload1 (pc' := 115) rfl rfl ?_
                refine am_r_iconst (pc' := 117) rfl rfl ?_
                refine am_r_icmp_ne (pt := 124) (pf := 120) rfl rfl rfl (fun h117 => ?_) (fun h117 => ?_)
                · refine am_r_iload1 (pc' := 125) rfl rfl ?_
                  refine am_r_iconst (pc' := 127) rfl rfl ?_
                  refine am_r_icmp_ne (pt := 135) (pf := 130) rfl rfl rfl (fun h127 => ?_) (fun h127 => ?_)
                  · refine am_r_iload2 (pc' := 136) rfl rfl ?_
                    refine am_r_if_neR (pt := 143) (pf := 139) rfl rfl rfl (fun h136 => ?_) (fun h136 => ?_)
                    · refine am_r_iconst (pc' := 144) rfl rfl ?_
                      refine am_r_iret rfl rfl ?_
                      first
                      | (exfalso; omega)
                      | (refine am_q2 ?_ (hqT _ hF rfl hM hO); show _ = if c p = 33 then _ else _; first | (rw [if_neg (by omega)]; done) | (rw [if_pos (by omega), if_neg (by assumption)]; done) | (rw [if_pos (by omega), if_pos (Classical.not_not.mp (by assumption))]; done))
                    · refine am_r_iconst (pc' := 140) rfl rfl ?_
                      refine am_r_goto (pc' := 144) rfl rfl ?_
                      refine am_r_iret rfl rfl ?_
                      first
                      | (exfalso; omega)
                      | (refine am_q2 ?_ (hqT _ hF rfl hM hO); show _ = if c p = 33 then _ else _; first | (rw [if_neg (by omega)]; done) | (rw [if_pos (by omega), if_neg (by assumption)]; done) | (rw [if_pos (by omega), if_pos (Classical.not_not.mp (by assumption))]; done))
                  · refine am_r_iload2 (pc' := 131) rfl rfl ?_
                    refine am_r_inegR (pc' := 132) rfl rfl ?_
                    refine am_r_goto (pc' := 144) rfl rfl ?_
                    refine am_r_iret rfl rfl ?_
                    first
                    | (exfalso; omega)
                    | (refine am_q2 ?_ (hqT _ hF rfl hM hO); show _ = if c p = 33 then _ else _; first | (rw [if_neg (by omega)]; done) | (rw [if_pos (by omega), if_neg (by assumption)]; done) | (rw [if_pos (by omega), if_pos (Classical.not_not.mp (by assumption))]; done))
                · refine am_r_iload2 (pc' := 121) rfl rfl ?_
                  refine am_r_goto (pc' := 144) rfl rfl ?_
                  refine am_r_iret rfl rfl ?_
                  first
                  | (exfalso; omega)
                  | (refine am_q2 ?_ (hqT _ hF rfl hM hO); show _ = if c p = 33 then _ else _; first | (rw [if_neg (by omega)]; done) | (rw [if_pos (by omega), if_neg (by assumption)]; done) | (rw [if_pos (by omega), if_pos (Classical.not_not.mp (by assumption))]; done))
              · exfalso; omega
            · intro M4 x4 hf4 e4 hM4
              have hM := hM4
              have hpb4 := ms_pb hM4
              have hF := am_fq_tr hF hf4
              rw [q_one_t m (by omega), show q_turn (c p) (q_one c m (p + 1)) = q_no (q_one c m (p + 1)).2.1 from if_neg (by rw [e4]; decide)] at hqF
              obtain ⟨o4, ho4, hO⟩ := z_of (M4.1 53 16)
              refine am_r_istore2 (pc' := 84) rfl rfl rfl ?_
              refine am_r_iload1 (pc' := 85) rfl rfl ?_
              refine am_r_iconst (pc' := 87) rfl rfl ?_
              refine am_r_icmp_ne (pt := 104) (pf := 90) rfl rfl rfl (fun h87 => ?_) (fun h87 => ?_)
              · refine am_r_aload0 (pc' := 105) rfl rfl ?_
                refine am_r_dup (pc' := 106) rfl rfl rfl ?_
                refine am_r_getIv (f := 16) (pc' := 109) rfl rfl rfl (hO) ?_
                refine am_r_iconst (pc' := 110) rfl rfl ?_
                refine am_r_isub (pc' := 111) rfl rfl ?_
                refine am_r_putI (f := 16) (pc' := 114) rfl rfl rfl (by decide) ?_
                have hF := am_fq_up (i := 16) (x := z_I (o4 - 1)) hF (by omega)
                have hO := am_up_e M4 53 16 (z_I (o4 - 1))
                have hM := ms_op hM (z_I (o4 - 1))
                refine am_r_iload1 (pc' := 115) rfl rfl ?_
                refine am_r_iconst (pc' := 117) rfl rfl ?_
                refine am_r_icmp_ne (pt := 124) (pf := 120) rfl rfl rfl (fun h117 => ?_) (fun h117 => ?_)
                · refine am_r_iload1 (pc' := 125) rfl rfl ?_
                  refine am_r_iconst (pc' := 127) rfl rfl ?_
                  refine am_r_icmp_ne (pt := 135) (pf := 130) rfl rfl rfl (fun h127 => ?_) (fun h127 => ?_)
                  · refine am_r_iload2 (pc' := 136) rfl rfl ?_
                    refine am_r_if_neR (pt := 143) (pf := 139) rfl rfl rfl (fun h136 => ?_) (fun h136 => ?_)
                    · refine am_r_iconst (pc' := 144) rfl rfl ?_
                      refine am_r_iret rfl rfl ?_
                      exact hqF _ _ hF rfl hM
                    · refine am_r_iconst (pc' := 140) rfl rfl ?_
                      refine am_r_goto (pc' := 144) rfl rfl ?_
                      refine am_r_iret rfl rfl ?_
                      exact hqF _ _ hF rfl hM
                  · refine am_r_iload2 (pc' := 131) rfl rfl ?_
                    refine am_r_inegR (pc' := 132) rfl rfl ?_
                    refine am_r_goto (pc' := 144) rfl rfl ?_
                    refine am_r_iret rfl rfl ?_
                    exact hqF _ _ hF rfl hM
                · refine am_r_iload2 (pc' := 121) rfl rfl ?_
                  refine am_r_goto (pc' := 144) rfl rfl ?_
                  refine am_r_iret rfl rfl ?_
                  exact hqF _ _ hF rfl hM
              · exfalso; omega
          · refine am_r_aload0 (pc' := 73) rfl rfl ?_
            refine am_r_invI0 (pc' := 76) rfl rfl rfl (Nat.le_of_ble_eq_true rfl) (hei (by omega) (by omega) hM (by rw [show (6 : Int) - m = o + 1 by omega]; exact hO) ?_ ?_)
            · intro M4 hf4 e4 hM4 hO4
              have hM := hM4
              have hO := hO4
              have hF := am_fq_tr hF hf4
              have hcb4 := ms_cb hM
              have hpb4 := ms_pb hM
              rw [q_one_c m (by omega)] at hqT hqF
              refine am_r_goto (pc' := 83) rfl rfl ?_
              refine am_r_istore2 (pc' := 84) rfl rfl rfl ?_
              refine am_r_iload1 (pc' := 85) rfl rfl ?_
              refine am_r_iconst (pc' := 87) rfl rfl ?_
              refine am_r_icmp_ne (pt := 104) (pf := 90) rfl rfl rfl (fun h87 => ?_) (fun h87 => ?_)
              · exfalso; omega
              · refine am_r_aload0 (pc' := 91) rfl rfl ?_
                refine am_r_iconst (pc' := 93) rfl rfl ?_
                refine am_r_invI1 (pc' := 96) rfl rfl rfl (Nat.le_of_ble_eq_true rfl) (m_takes (by omega) hM (by omega) hO ?_ ?_)
                · intro M2 hf2 e2 hM2 hO2
                  have hM := hM2
                  have hO := hO2
                  have hF := am_fq_tr hF hf2
                  rw [show q_close c (q_ei (q_one c m) c (p + 1)) = (true, (q_ei (q_one c m) c (p + 1)).2.1 + 1, (q_ei (q_one c m) c (p + 1)).2.2.1, (q_ei (q_one c m) c (p + 1)).2.2.2) from if_pos ⟨e4, e2⟩] at hqT
                  refine am_r_if_ne (pt := 104) (pf := 99) rfl rfl rfl (fun h96 => ?_) (fun h96 => by exfalso; omega)
                  refine am_r_aload0 (pc' := 105) rfl rfl ?_
                  refine am_r_dup (pc' := 106) rfl rfl rfl ?_
                  refine am_r_getIv (f := 16) (pc' := 109) rfl rfl rfl (hO) ?_
                  refine am_r_iconst (pc' := 110) rfl rfl ?_
                  refine am_r_isub (pc' := 111) rfl rfl ?_
                  rw [show (6 : Int) - m - 1 = o by omega]
                  refine am_r_putI (f := 16) (pc' := 114) rfl rfl rfl (by decide) ?_
                  have hF := am_fq_up (i := 16) (x := z_I (o)) hF (by omega)
                  have hO := am_up_e M2 53 16 (z_I (o))
                  have hM := ms_op hM (z_I (o))
                  refine am_r_iload1 (pc' := 115) rfl rfl ?_
                  refine am_r_iconst (pc' := 117) rfl rfl ?_
                  refine am_r_icmp_ne (pt := 124) (pf := 120) rfl rfl rfl (fun h117 => ?_) (fun h117 => ?_)
                  · refine am_r_iload1 (pc' := 125) rfl rfl ?_
                    refine am_r_iconst (pc' := 127) rfl rfl ?_
                    refine am_r_icmp_ne (pt := 135) (pf := 130) rfl rfl rfl (fun h127 => ?_) (fun h127 => ?_)
                    · refine am_r_iload2 (pc' := 136) rfl rfl ?_
                      refine am_r_if_neR (pt := 143) (pf := 139) rfl rfl rfl (fun h136 => ?_) (fun h136 => ?_)
                      · refine am_r_iconst (pc' := 144) rfl rfl ?_
                        refine am_r_iret rfl rfl ?_
                        first | (exfalso; omega) | exact hqT _ hF rfl hM hO
                      · refine am_r_iconst (pc' := 140) rfl rfl ?_
                        refine am_r_goto (pc' := 144) rfl rfl ?_
                        refine am_r_iret rfl rfl ?_
                        first | (exfalso; omega) | exact hqT _ hF rfl hM hO
                    · refine am_r_iload2 (pc' := 131) rfl rfl ?_
                      refine am_r_inegR (pc' := 132) rfl rfl ?_
                      refine am_r_goto (pc' := 144) rfl rfl ?_
                      refine am_r_iret rfl rfl ?_
                      first | (exfalso; omega) | exact hqT _ hF rfl hM hO
                  · refine am_r_iload2 (pc' := 121) rfl rfl ?_
                    refine am_r_goto (pc' := 144) rfl rfl ?_
                    refine am_r_iret rfl rfl ?_
                    first | (exfalso; omega) | exact hqT _ hF rfl hM hO
                · intro e2
                  rw [show q_close c (q_ei (q_one c m) c (p + 1)) = q_no (q_ei (q_one c m) c (p + 1)).2.1 from if_neg (fun q => e2 q.2)] at hqF
                  refine am_r_if_ne (pt := 104) (pf := 99) rfl rfl rfl (fun h96 => by exfalso; omega) (fun h96 => ?_)
                  refine am_r_aload0 (pc' := 100) rfl rfl ?_
                  refine am_r_invI0 (pc' := 103) rfl rfl rfl (Nat.le_of_ble_eq_true rfl) (m_wrong0 (by omega) hM rfl ?_)
                  · intro M8 hf8 hM8
                    have hM := hM8
                    have hF := am_fq_tr hF hf8
                    refine am_r_iret rfl rfl ?_
                    exact hqF _ _ hF rfl hM
            · intro M4 x4 hf4 e4 hM4
              have hM := hM4
              have hpb4 := ms_pb hM4
              have hF := am_fq_tr hF hf4
              rw [q_one_c m (by omega), show q_close c (q_ei (q_one c m) c (p + 1)) = q_no (q_ei (q_one c m) c (p + 1)).2.1 from if_neg (by rw [e4]; exact fun q => absurd q.1 (by decide))] at hqF
              refine am_r_goto (pc' := 83) rfl rfl ?_
              refine am_r_istore2 (pc' := 84) rfl rfl rfl ?_
              refine am_r_iload1 (pc' := 85) rfl rfl ?_
              refine am_r_iconst (pc' := 87) rfl rfl ?_
              refine am_r_icmp_ne (pt := 104) (pf := 90) rfl rfl rfl (fun h87 => ?_) (fun h87 => ?_)
              · exfalso; omega
              · refine am_r_aload0 (pc' := 91) rfl rfl ?_
                refine am_r_iconst (pc' := 93) rfl rfl ?_
                refine am_r_invI1 (pc' := 96) rfl rfl rfl (Nat.le_of_ble_eq_true rfl) (m_takesF (by omega) hM ?_)
                refine am_r_if_ne (pt := 104) (pf := 99) rfl rfl rfl (fun h96 => ?_) (fun h96 => ?_)
                · exfalso; omega
                · refine am_r_aload0 (pc' := 100) rfl rfl ?_
                  refine am_r_invI0 (pc' := 103) rfl rfl rfl (Nat.le_of_ble_eq_true rfl) (m_wrong1 (by omega) hM ?_)
                  · intro M8 hf8 hM8
                    have hM := hM8
                    have hF := am_fq_tr hF hf8
                    refine am_r_iret rfl rfl ?_
                    exact hqF _ _ hF rfl hM
        · refine am_r_aload0 (pc' := 42) rfl rfl ?_
          refine am_r_invI0 (pc' := 45) rfl rfl rfl (Nat.le_of_ble_eq_true rfl) (m_wrong0 (by omega) hM rfl ?_)
          · intro M8 hf8 hM8
            have hM := hM8
            have hF := am_fq_tr hF hf8
            refine am_r_iret rfl rfl ?_
            exfalso; omega
      · refine am_r_iload1 (pc' := 21) rfl rfl ?_
        refine am_r_iconst (pc' := 23) rfl rfl ?_
        refine am_r_icmp_eq (pt := 32) (pf := 26) rfl rfl rfl (fun h23 => ?_) (fun h23 => ?_)
        · refine am_r_aload0 (pc' := 33) rfl rfl ?_
          refine am_r_getIv (f := 16) (pc' := 36) rfl rfl rfl (hO) ?_
          refine am_r_iconst (pc' := 38) rfl rfl ?_
          refine am_r_icmp_ne (pt := 46) (pf := 41) rfl rfl rfl (fun h38 => ?_) (fun h38 => ?_)
          · refine am_r_aload0 (pc' := 47) rfl rfl ?_
            refine am_r_dup (pc' := 48) rfl rfl rfl ?_
            refine am_r_getIv (f := 16) (pc' := 51) rfl rfl rfl (hO) ?_
            refine am_r_iconst (pc' := 52) rfl rfl ?_
            refine am_r_iadd (pc' := 53) rfl rfl ?_
            refine am_r_putI (f := 16) (pc' := 56) rfl rfl rfl (by decide) ?_
            have hF := am_fq_up (i := 16) (x := z_I (o + 1)) hF (by omega)
            have hO : (am_upI M 53 16 (z_I (o + 1))).1 53 16 = z_I (o + 1) := by simp [am_upI]
            have hM := ms_op hM (z_I (o + 1))
            refine am_r_aload0 (pc' := 57) rfl rfl ?_
            refine am_r_dup (pc' := 58) rfl rfl rfl ?_
            refine am_r_getIv (f := 13) (pc' := 61) rfl rfl rfl (ms_p hM) ?_
            refine am_r_iconst (pc' := 62) rfl rfl ?_
            refine am_r_iadd (pc' := 63) rfl rfl ?_
            refine am_r_putI (f := 13) (pc' := 66) rfl rfl rfl (by decide) ?_
            have hF := am_fq_up (i := 13) (x := z_I (p + 1)) hF (by omega)
            have hO := am_op_e (i := 13) (x := z_I (p + 1)) hO (by omega)
            have hM := ms_inc hM (by omega)
            refine am_r_iload1 (pc' := 67) rfl rfl ?_
            refine am_r_iconst (pc' := 69) rfl rfl ?_
            refine am_r_icmp_ne (pt := 79) (pf := 72) rfl rfl rfl (fun h69 => ?_) (fun h69 => ?_)
            · refine am_r_aload0 (pc' := 80) rfl rfl ?_
              refine am_r_invI0 (pc' := 83) rfl rfl rfl (Nat.le_of_ble_eq_true rfl) (h0 (by omega) (by omega) hM (by rw [show (6 : Int) - m = o + 1 by omega]; exact hO) ?_ ?_)
              · intro M4 hf4 e4 hM4 hO4
                have hM := hM4
                have hO := hO4
                have hF := am_fq_tr hF hf4
                rw [q_one_t m (by omega), show q_turn (c p) (q_one c m (p + 1)) = (true, (q_one c m (p + 1)).2.1, (q_one c m (p + 1)).2.2.1 ++ [(if c p = 33 then 3 else 4, 0)], fun ν => if c p = 33 then (if (q_one c m (p + 1)).2.2.2 ν = 0 then z_I 1 else z_I 0) else -((q_one c m (p + 1)).2.2.2 ν)) from if_pos e4] at hqT
                refine am_r_istore2 (pc' := 84) rfl rfl rfl ?_
                refine am_r_iload1 (pc' := 85) rfl rfl ?_
                refine am_r_iconst (pc' := 87) rfl rfl ?_
                refine am_r_icmp_ne (pt := 104) (pf := 90) rfl rfl rfl (fun h87 => ?_) (fun h87 => ?_)
                · refine am_r_aload0 (pc' := 105) rfl rfl ?_
                  refine am_r_dup (pc' := 106) rfl rfl rfl ?_
                  refine am_r_getIv (f := 16) (pc' := 109) rfl rfl rfl (hO) ?_
                  refine am_r_iconst (pc' := 110) rfl rfl ?_
                  refine am_r_isub (pc' := 111) rfl rfl ?_
                  rw [show (6 : Int) - m - 1 = o by omega]
                  refine am_r_putI (f := 16) (pc' := 114) rfl rfl rfl (by decide) ?_
                  have hF := am_fq_up (i := 16) (x := z_I (o)) hF (by omega)
                  have hO := am_up_e M4 53 16 (z_I (o))
                  have hM := ms_op hM (z_I (o))
                  refine am_r_iload1 (pc' := 115) rfl rfl ?_
                  refine am_r_iconst (pc' := 117) rfl rfl ?_
                  refine am_r_icmp_ne (pt := 124) (pf := 120) rfl rfl rfl (fun h117 => ?_) (fun h117 => ?_)
                  · refine am_r_iload1 (pc' := 125) rfl rfl ?_
                    refine am_r_iconst (pc' := 127) rfl rfl ?_
                    refine am_r_icmp_ne (pt := 135) (pf := 130) rfl rfl rfl (fun h127 => ?_) (fun h127 => ?_)
                    · refine am_r_iload2 (pc' := 136) rfl rfl ?_
                      refine am_r_if_neR (pt := 143) (pf := 139) rfl rfl rfl (fun h136 => ?_) (fun h136 => ?_)
                      · refine am_r_iconst (pc' := 144) rfl rfl ?_
                        refine am_r_iret rfl rfl ?_
                        first
                        | (exfalso; omega)
                        | (refine am_q2 ?_ (hqT _ hF rfl hM hO); show _ = if c p = 33 then _ else _; first | (rw [if_neg (by omega)]; done) | (rw [if_pos (by omega), if_neg (by assumption)]; done) | (rw [if_pos (by omega), if_pos (Classical.not_not.mp (by assumption))]; done))
                      · refine am_r_iconst (pc' := 140) rfl rfl ?_
                        refine am_r_goto (pc' := 144) rfl rfl ?_
                        refine am_r_iret rfl rfl ?_
                        first
                        | (exfalso; omega)
                        | (refine am_q2 ?_ (hqT _ hF rfl hM hO); show _ = if c p = 33 then _ else _; first | (rw [if_neg (by omega)]; done) | (rw [if_pos (by omega), if_neg (by assumption)]; done) | (rw [if_pos (by omega), if_pos (Classical.not_not.mp (by assumption))]; done))
                    · refine am_r_iload2 (pc' := 131) rfl rfl ?_
                      refine am_r_inegR (pc' := 132) rfl rfl ?_
                      refine am_r_goto (pc' := 144) rfl rfl ?_
                      refine am_r_iret rfl rfl ?_
                      first
                      | (exfalso; omega)
                      | (refine am_q2 ?_ (hqT _ hF rfl hM hO); show _ = if c p = 33 then _ else _; first | (rw [if_neg (by omega)]; done) | (rw [if_pos (by omega), if_neg (by assumption)]; done) | (rw [if_pos (by omega), if_pos (Classical.not_not.mp (by assumption))]; done))
                  · refine am_r_iload2 (pc' := 121) rfl rfl ?_
                    refine am_r_goto (pc' := 144) rfl rfl ?_
                    refine am_r_iret rfl rfl ?_
                    first
                    | (exfalso; omega)
                    | (refine am_q2 ?_ (hqT _ hF rfl hM hO); show _ = if c p = 33 then _ else _; first | (rw [if_neg (by omega)]; done) | (rw [if_pos (by omega), if_neg (by assumption)]; done) | (rw [if_pos (by omega), if_pos (Classical.not_not.mp (by assumption))]; done))
                · exfalso; omega
              · intro M4 x4 hf4 e4 hM4
                have hM := hM4
                have hpb4 := ms_pb hM4
                have hF := am_fq_tr hF hf4
                rw [q_one_t m (by omega), show q_turn (c p) (q_one c m (p + 1)) = q_no (q_one c m (p + 1)).2.1 from if_neg (by rw [e4]; decide)] at hqF
                obtain ⟨o4, ho4, hO⟩ := z_of (M4.1 53 16)
                refine am_r_istore2 (pc' := 84) rfl rfl rfl ?_
                refine am_r_iload1 (pc' := 85) rfl rfl ?_
                refine am_r_iconst (pc' := 87) rfl rfl ?_
                refine am_r_icmp_ne (pt := 104) (pf := 90) rfl rfl rfl (fun h87 => ?_) (fun h87 => ?_)
                · refine am_r_aload0 (pc' := 105) rfl rfl ?_
                  refine am_r_dup (pc' := 106) rfl rfl rfl ?_
                  refine am_r_getIv (f := 16) (pc' := 109) rfl rfl rfl (hO) ?_
                  refine am_r_iconst (pc' := 110) rfl rfl ?_
                  refine am_r_isub (pc' := 111) rfl rfl ?_
                  refine am_r_putI (f := 16) (pc' := 114) rfl rfl rfl (by decide) ?_
                  have hF := am_fq_up (i := 16) (x := z_I (o4 - 1)) hF (by omega)
                  have hO := am_up_e M4 53 16 (z_I (o4 - 1))
                  have hM := ms_op hM (z_I (o4 - 1))
                  refine am_r_iload1 (pc' := 115) rfl rfl ?_
                  refine am_r_iconst (pc' := 117) rfl rfl ?_
                  refine am_r_icmp_ne (pt := 124) (pf := 120) rfl rfl rfl (fun h117 => ?_) (fun h117 => ?_)
                  · refine am_r_iload1 (pc' := 125) rfl rfl ?_
                    refine am_r_iconst (pc' := 127) rfl rfl ?_
                    refine am_r_icmp_ne (pt := 135) (pf := 130) rfl rfl rfl (fun h127 => ?_) (fun h127 => ?_)
                    · refine am_r_iload2 (pc' := 136) rfl rfl ?_
                      refine am_r_if_neR (pt := 143) (pf := 139) rfl rfl rfl (fun h136 => ?_) (fun h136 => ?_)
                      · refine am_r_iconst (pc' := 144) rfl rfl ?_
                        refine am_r_iret rfl rfl ?_
                        exact hqF _ _ hF rfl hM
                      · refine am_r_iconst (pc' := 140) rfl rfl ?_
                        refine am_r_goto (pc' := 144) rfl rfl ?_
                        refine am_r_iret rfl rfl ?_
                        exact hqF _ _ hF rfl hM
                    · refine am_r_iload2 (pc' := 131) rfl rfl ?_
                      refine am_r_inegR (pc' := 132) rfl rfl ?_
                      refine am_r_goto (pc' := 144) rfl rfl ?_
                      refine am_r_iret rfl rfl ?_
                      exact hqF _ _ hF rfl hM
                  · refine am_r_iload2 (pc' := 121) rfl rfl ?_
                    refine am_r_goto (pc' := 144) rfl rfl ?_
                    refine am_r_iret rfl rfl ?_
                    exact hqF _ _ hF rfl hM
                · exfalso; omega
            · refine am_r_aload0 (pc' := 73) rfl rfl ?_
              refine am_r_invI0 (pc' := 76) rfl rfl rfl (Nat.le_of_ble_eq_true rfl) (hei (by omega) (by omega) hM (by rw [show (6 : Int) - m = o + 1 by omega]; exact hO) ?_ ?_)
              · intro M4 hf4 e4 hM4 hO4
                have hM := hM4
                have hO := hO4
                have hF := am_fq_tr hF hf4
                have hcb4 := ms_cb hM
                have hpb4 := ms_pb hM
                rw [q_one_c m (by omega)] at hqT hqF
                refine am_r_goto (pc' := 83) rfl rfl ?_
                refine am_r_istore2 (pc' := 84) rfl rfl rfl ?_
                refine am_r_iload1 (pc' := 85) rfl rfl ?_
                refine am_r_iconst (pc' := 87) rfl rfl ?_
                refine am_r_icmp_ne (pt := 104) (pf := 90) rfl rfl rfl (fun h87 => ?_) (fun h87 => ?_)
                · exfalso; omega
                · refine am_r_aload0 (pc' := 91) rfl rfl ?_
                  refine am_r_iconst (pc' := 93) rfl rfl ?_
                  refine am_r_invI1 (pc' := 96) rfl rfl rfl (Nat.le_of_ble_eq_true rfl) (m_takes (by omega) hM (by omega) hO ?_ ?_)
                  · intro M2 hf2 e2 hM2 hO2
                    have hM := hM2
                    have hO := hO2
                    have hF := am_fq_tr hF hf2
                    rw [show q_close c (q_ei (q_one c m) c (p + 1)) = (true, (q_ei (q_one c m) c (p + 1)).2.1 + 1, (q_ei (q_one c m) c (p + 1)).2.2.1, (q_ei (q_one c m) c (p + 1)).2.2.2) from if_pos ⟨e4, e2⟩] at hqT
                    refine am_r_if_ne (pt := 104) (pf := 99) rfl rfl rfl (fun h96 => ?_) (fun h96 => by exfalso; omega)
                    refine am_r_aload0 (pc' := 105) rfl rfl ?_
                    refine am_r_dup (pc' := 106) rfl rfl rfl ?_
                    refine am_r_getIv (f := 16) (pc' := 109) rfl rfl rfl (hO) ?_
                    refine am_r_iconst (pc' := 110) rfl rfl ?_
                    refine am_r_isub (pc' := 111) rfl rfl ?_
                    rw [show (6 : Int) - m - 1 = o by omega]
                    refine am_r_putI (f := 16) (pc' := 114) rfl rfl rfl (by decide) ?_
                    have hF := am_fq_up (i := 16) (x := z_I (o)) hF (by omega)
                    have hO := am_up_e M2 53 16 (z_I (o))
                    have hM := ms_op hM (z_I (o))
                    refine am_r_iload1 (pc' := 115) rfl rfl ?_
                    refine am_r_iconst (pc' := 117) rfl rfl ?_
                    refine am_r_icmp_ne (pt := 124) (pf := 120) rfl rfl rfl (fun h117 => ?_) (fun h117 => ?_)
                    · refine am_r_iload1 (pc' := 125) rfl rfl ?_
                      refine am_r_iconst (pc' := 127) rfl rfl ?_
                      refine am_r_icmp_ne (pt := 135) (pf := 130) rfl rfl rfl (fun h127 => ?_) (fun h127 => ?_)
                      · refine am_r_iload2 (pc' := 136) rfl rfl ?_
                        refine am_r_if_neR (pt := 143) (pf := 139) rfl rfl rfl (fun h136 => ?_) (fun h136 => ?_)
                        · refine am_r_iconst (pc' := 144) rfl rfl ?_
                          refine am_r_iret rfl rfl ?_
                          first | (exfalso; omega) | exact hqT _ hF rfl hM hO
                        · refine am_r_iconst (pc' := 140) rfl rfl ?_
                          refine am_r_goto (pc' := 144) rfl rfl ?_
                          refine am_r_iret rfl rfl ?_
                          first | (exfalso; omega) | exact hqT _ hF rfl hM hO
                      · refine am_r_iload2 (pc' := 131) rfl rfl ?_
                        refine am_r_inegR (pc' := 132) rfl rfl ?_
                        refine am_r_goto (pc' := 144) rfl rfl ?_
                        refine am_r_iret rfl rfl ?_
                        first | (exfalso; omega) | exact hqT _ hF rfl hM hO
                    · refine am_r_iload2 (pc' := 121) rfl rfl ?_
                      refine am_r_goto (pc' := 144) rfl rfl ?_
                      refine am_r_iret rfl rfl ?_
                      first | (exfalso; omega) | exact hqT _ hF rfl hM hO
                  · intro e2
                    rw [show q_close c (q_ei (q_one c m) c (p + 1)) = q_no (q_ei (q_one c m) c (p + 1)).2.1 from if_neg (fun q => e2 q.2)] at hqF
                    refine am_r_if_ne (pt := 104) (pf := 99) rfl rfl rfl (fun h96 => by exfalso; omega) (fun h96 => ?_)
                    refine am_r_aload0 (pc' := 100) rfl rfl ?_
                    refine am_r_invI0 (pc' := 103) rfl rfl rfl (Nat.le_of_ble_eq_true rfl) (m_wrong0 (by omega) hM rfl ?_)
                    · intro M8 hf8 hM8
                      have hM := hM8
                      have hF := am_fq_tr hF hf8
                      refine am_r_iret rfl rfl ?_
                      exact hqF _ _ hF rfl hM
              · intro M4 x4 hf4 e4 hM4
                have hM := hM4
                have hpb4 := ms_pb hM4
                have hF := am_fq_tr hF hf4
                rw [q_one_c m (by omega), show q_close c (q_ei (q_one c m) c (p + 1)) = q_no (q_ei (q_one c m) c (p + 1)).2.1 from if_neg (by rw [e4]; exact fun q => absurd q.1 (by decide))] at hqF
                refine am_r_goto (pc' := 83) rfl rfl ?_
                refine am_r_istore2 (pc' := 84) rfl rfl rfl ?_
                refine am_r_iload1 (pc' := 85) rfl rfl ?_
                refine am_r_iconst (pc' := 87) rfl rfl ?_
                refine am_r_icmp_ne (pt := 104) (pf := 90) rfl rfl rfl (fun h87 => ?_) (fun h87 => ?_)
                · exfalso; omega
                · refine am_r_aload0 (pc' := 91) rfl rfl ?_
                  refine am_r_iconst (pc' := 93) rfl rfl ?_
                  refine am_r_invI1 (pc' := 96) rfl rfl rfl (Nat.le_of_ble_eq_true rfl) (m_takesF (by omega) hM ?_)
                  refine am_r_if_ne (pt := 104) (pf := 99) rfl rfl rfl (fun h96 => ?_) (fun h96 => ?_)
                  · exfalso; omega
                  · refine am_r_aload0 (pc' := 100) rfl rfl ?_
                    refine am_r_invI0 (pc' := 103) rfl rfl rfl (Nat.le_of_ble_eq_true rfl) (m_wrong1 (by omega) hM ?_)
                    · intro M8 hf8 hM8
                      have hM := hM8
                      have hF := am_fq_tr hF hf8
                      refine am_r_iret rfl rfl ?_
                      exact hqF _ _ hF rfl hM
          · refine am_r_aload0 (pc' := 42) rfl rfl ?_
            refine am_r_invI0 (pc' := 45) rfl rfl rfl (Nat.le_of_ble_eq_true rfl) (m_wrong0 (by omega) hM rfl ?_)
            · intro M8 hf8 hM8
              have hM := hM8
              have hF := am_fq_tr hF hf8
              refine am_r_iret rfl rfl ?_
              exfalso; omega
        · refine am_r_iload1 (pc' := 27) rfl rfl ?_
          refine am_r_iconst (pc' := 29) rfl rfl ?_
          refine am_r_icmp_ne (pt := 145) (pf := 32) rfl rfl rfl (fun h29 => ?_) (fun h29 => ?_)
          · refine am_r_iload1 (pc' := 146) rfl rfl ?_
            refine am_r_ivsI1 (pc' := 149) rfl rfl rfl (Nat.le_of_ble_eq_true rfl) (m_nameOf (by omega) (by omega) ?_)
            rw [hq0]
            refine am_r_istore2 (pc' := 150) rfl rfl rfl ?_
            refine am_r_iload2 (pc' := 151) rfl rfl ?_
            refine am_r_if_lt (pt := 171) (pf := 154) rfl rfl rfl (fun h151 => ?_) (fun h151 => ?_)
            · refine am_r_iconst (pc' := 172) rfl rfl ?_
              refine am_r_istore3 (pc' := 173) rfl rfl rfl ?_
              refine am_r_iconst (pc' := 174) rfl rfl ?_
              refine am_r_istore4 (pc' := 176) rfl rfl rfl ?_
              refine am_r_iload4 (pc' := 178) rfl rfl ?_
              refine am_r_iconst (pc' := 179) rfl rfl ?_
              refine am_r_icmp_ge (pt := 229) (pf := 182) rfl rfl rfl (fun h179 => ?_) (fun h179 => ?_)
              · refine am_r_iload4 (pc' := 231) rfl rfl ?_
                refine am_r_if_ne (pt := 241) (pf := 234) rfl rfl rfl (fun h231 => ?_) (fun h231 => ?_)
                · exfalso; omega
                · refine am_r_aload0 (pc' := 235) rfl rfl ?_
                  refine am_r_invI0 (pc' := 238) rfl rfl rfl (Nat.le_of_ble_eq_true rfl) (m_wrong0 (by omega) hM rfl ?_)
                  · intro M8 hf8 hM8
                    have hM := hM8
                    have hF := am_fq_tr hF hf8
                    refine am_r_goto (pc' := 242) rfl rfl ?_
                    refine am_r_iret rfl rfl ?_
                    rw [q_one_f (m + 1) (by omega) (by omega) (by omega)] at hqF
                    exact hqF _ _ hF rfl hM
              · refine am_r_aload0 (pc' := 183) rfl rfl ?_
                refine am_r_invI0 (pc' := 186) rfl rfl rfl (Nat.le_of_ble_eq_true rfl) (m_byteAt (by omega) hM ?_)
                refine am_r_iconst (pc' := 188) rfl rfl ?_
                refine am_r_icmp_lt (pt := 229) (pf := 191) rfl rfl rfl (fun h188 => ?_) (fun h188 => ?_)
                · refine am_r_iload4 (pc' := 231) rfl rfl ?_
                  refine am_r_if_ne (pt := 241) (pf := 234) rfl rfl rfl (fun h231 => ?_) (fun h231 => ?_)
                  · exfalso; omega
                  · refine am_r_aload0 (pc' := 235) rfl rfl ?_
                    refine am_r_invI0 (pc' := 238) rfl rfl rfl (Nat.le_of_ble_eq_true rfl) (m_wrong0 (by omega) hM rfl ?_)
                    · intro M8 hf8 hM8
                      have hM := hM8
                      have hF := am_fq_tr hF hf8
                      refine am_r_goto (pc' := 242) rfl rfl ?_
                      refine am_r_iret rfl rfl ?_
                      rw [q_one_f (m + 1) (by omega) (by omega) (by omega)] at hqF
                      exact hqF _ _ hF rfl hM
                · refine am_r_aload0 (pc' := 192) rfl rfl ?_
                  refine am_r_invI0 (pc' := 195) rfl rfl rfl (Nat.le_of_ble_eq_true rfl) (m_byteAt (by omega) hM ?_)
                  refine am_r_iconst (pc' := 197) rfl rfl ?_
                  refine am_r_icmp_gt (pt := 229) (pf := 200) rfl rfl rfl (fun h197 => ?_) (fun h197 => ?_)
                  · refine am_r_iload4 (pc' := 231) rfl rfl ?_
                    refine am_r_if_ne (pt := 241) (pf := 234) rfl rfl rfl (fun h231 => ?_) (fun h231 => ?_)
                    · exfalso; omega
                    · refine am_r_aload0 (pc' := 235) rfl rfl ?_
                      refine am_r_invI0 (pc' := 238) rfl rfl rfl (Nat.le_of_ble_eq_true rfl) (m_wrong0 (by omega) hM rfl ?_)
                      · intro M8 hf8 hM8
                        have hM := hM8
                        have hF := am_fq_tr hF hf8
                        refine am_r_goto (pc' := 242) rfl rfl ?_
                        refine am_r_iret rfl rfl ?_
                        rw [q_one_f (m + 1) (by omega) (by omega) (by omega)] at hqF
                        exact hqF _ _ hF rfl hM
                  · refine am_r_iconst (pc' := 202) rfl rfl ?_
                    refine am_r_iload3 (pc' := 203) rfl rfl ?_
                    refine am_r_imul (pc' := 204) rfl rfl ?_
                    refine am_r_aload0 (pc' := 205) rfl rfl ?_
                    refine am_r_invI0 (pc' := 208) rfl rfl rfl (Nat.le_of_ble_eq_true rfl) (m_byteAt (by omega) hM ?_)
                    refine am_r_iadd (pc' := 209) rfl rfl ?_
                    refine am_r_iconst (pc' := 211) rfl rfl ?_
                    refine am_r_isub (pc' := 212) rfl rfl ?_
                    refine am_r_istore3 (pc' := 213) rfl rfl rfl ?_
                    refine am_r_iinc4 (pc' := 216) rfl rfl rfl ?_
                    refine am_r_aload0 (pc' := 217) rfl rfl ?_
                    refine am_r_dup (pc' := 218) rfl rfl rfl ?_
                    refine am_r_getIv (f := 13) (pc' := 221) rfl rfl rfl (ms_p hM) ?_
                    refine am_r_iconst (pc' := 222) rfl rfl ?_
                    refine am_r_iadd (pc' := 223) rfl rfl ?_
                    refine am_r_putI (f := 13) (pc' := 226) rfl rfl rfl (by decide) ?_
                    refine am_r_goto (pc' := 176) rfl rfl ?_
                    rw [show 10 * 0 + q_by c n p - 48 = 0 * 10 + c p - 48 by omega]
                    refine hdg d M Q 0 0 0 (by omega) 3 _ _ _ _ _ _ (by refine ⟨by omega, by omega, by omega, ?_⟩; have e3 : (10 : Int) ^ 3 = 1000 := (by decide); rw [e3]; omega) (am_fq_up hF (by omega)) (ms_inc hM (by omega)) ?_
                    intro M2 a1 a2 a3
                    have e : q_one c (m + 1) p = _ := q_one_d (m + 1) (by omega)
                    rw [e, show q_num c 4 0 p = q_num c 3 (0 * 10 + c p - 48) (p + 1) from if_pos (by omega)] at hqT
                    exact hqT M2 (am_fq_tr (am_fq_up hF (by omega)) a1) rfl a2 (by rw [a3, am_up_1 _ _ _ _ _ (by omega)]; exact hO)
            · refine am_r_aload0 (pc' := 155) rfl rfl ?_
              refine am_r_dup (pc' := 156) rfl rfl rfl ?_
              refine am_r_getIv (f := 13) (pc' := 159) rfl rfl rfl (ms_p hM) ?_
              refine am_r_iconst (pc' := 160) rfl rfl ?_
              refine am_r_iadd (pc' := 161) rfl rfl ?_
              refine am_r_putI (f := 13) (pc' := 164) rfl rfl rfl (by decide) ?_
              have hF := am_fq_up (i := 13) (x := z_I (p + 1)) hF (by omega)
              have hO := am_op_e (i := 13) (x := z_I (p + 1)) hO (by omega)
              have hM := ms_inc hM (by omega)
              refine am_r_aload0 (pc' := 165) rfl rfl ?_
              refine am_r_getR (t := 61) (pc' := 168) rfl rfl rfl ?_
              refine am_r_iload2 (pc' := 169) rfl rfl ?_
              refine am_r_iaZv (n := 6) (pc' := 170) rfl rfl rfl (by decide) (ms_v hM (by omega) (by omega)) ?_
              refine am_r_iret rfl rfl ?_
              rw [q_one_n (m + 1) (by omega) (by omega)] at hqT
              exact hqT _ hF rfl hM hO
          · refine am_r_aload0 (pc' := 33) rfl rfl ?_
            refine am_r_getIv (f := 16) (pc' := 36) rfl rfl rfl (hO) ?_
            refine am_r_iconst (pc' := 38) rfl rfl ?_
            refine am_r_icmp_ne (pt := 46) (pf := 41) rfl rfl rfl (fun h38 => ?_) (fun h38 => ?_)
            · refine am_r_aload0 (pc' := 47) rfl rfl ?_
              refine am_r_dup (pc' := 48) rfl rfl rfl ?_
              refine am_r_getIv (f := 16) (pc' := 51) rfl rfl rfl (hO) ?_
              refine am_r_iconst (pc' := 52) rfl rfl ?_
              refine am_r_iadd (pc' := 53) rfl rfl ?_
              refine am_r_putI (f := 16) (pc' := 56) rfl rfl rfl (by decide) ?_
              have hF := am_fq_up (i := 16) (x := z_I (o + 1)) hF (by omega)
              have hO : (am_upI M 53 16 (z_I (o + 1))).1 53 16 = z_I (o + 1) := by simp [am_upI]
              have hM := ms_op hM (z_I (o + 1))
              refine am_r_aload0 (pc' := 57) rfl rfl ?_
              refine am_r_dup (pc' := 58) rfl rfl rfl ?_
              refine am_r_getIv (f := 13) (pc' := 61) rfl rfl rfl (ms_p hM) ?_
              refine am_r_iconst (pc' := 62) rfl rfl ?_
              refine am_r_iadd (pc' := 63) rfl rfl ?_
              refine am_r_putI (f := 13) (pc' := 66) rfl rfl rfl (by decide) ?_
              have hF := am_fq_up (i := 13) (x := z_I (p + 1)) hF (by omega)
              have hO := am_op_e (i := 13) (x := z_I (p + 1)) hO (by omega)
              have hM := ms_inc hM (by omega)
              refine am_r_iload1 (pc' := 67) rfl rfl ?_
              refine am_r_iconst (pc' := 69) rfl rfl ?_
              refine am_r_icmp_ne (pt := 79) (pf := 72) rfl rfl rfl (fun h69 => ?_) (fun h69 => ?_)
              · refine am_r_aload0 (pc' := 80) rfl rfl ?_
                refine am_r_invI0 (pc' := 83) rfl rfl rfl (Nat.le_of_ble_eq_true rfl) (h0 (by omega) (by omega) hM (by rw [show (6 : Int) - m = o + 1 by omega]; exact hO) ?_ ?_)
                · intro M4 hf4 e4 hM4 hO4
                  have hM := hM4
                  have hO := hO4
                  have hF := am_fq_tr hF hf4
                  rw [q_one_t m (by omega), show q_turn (c p) (q_one c m (p + 1)) = (true, (q_one c m (p + 1)).2.1, (q_one c m (p + 1)).2.2.1 ++ [(if c p = 33 then 3 else 4, 0)], fun ν => if c p = 33 then (if (q_one c m (p + 1)).2.2.2 ν = 0 then z_I 1 else z_I 0) else -((q_one c m (p + 1)).2.2.2 ν)) from if_pos e4] at hqT
                  refine am_r_istore2 (pc' := 84) rfl rfl rfl ?_
                  refine am_r_iload1 (pc' := 85) rfl rfl ?_
                  refine am_r_iconst (pc' := 87) rfl rfl ?_
                  refine am_r_icmp_ne (pt := 104) (pf := 90) rfl rfl rfl (fun h87 => ?_) (fun h87 => ?_)
                  · refine am_r_aload0 (pc' := 105) rfl rfl ?_
                    refine am_r_dup (pc' := 106) rfl rfl rfl ?_
                    refine am_r_getIv (f := 16) (pc' := 109) rfl rfl rfl (hO) ?_
                    refine am_r_iconst (pc' := 110) rfl rfl ?_
                    refine am_r_isub (pc' := 111) rfl rfl ?_
                    rw [show (6 : Int) - m - 1 = o by omega]
                    refine am_r_putI (f := 16) (pc' := 114) rfl rfl rfl (by decide) ?_
                    have hF := am_fq_up (i := 16) (x := z_I (o)) hF (by omega)
                    have hO := am_up_e M4 53 16 (z_I (o))
                    have hM := ms_op hM (z_I (o))
                    refine am_r_iload1 (pc' := 115) rfl rfl ?_
                    refine am_r_iconst (pc' := 117) rfl rfl ?_
                    refine am_r_icmp_ne (pt := 124) (pf := 120) rfl rfl rfl (fun h117 => ?_) (fun h117 => ?_)
                    · refine am_r_iload1 (pc' := 125) rfl rfl ?_
                      refine am_r_iconst (pc' := 127) rfl rfl ?_
                      refine am_r_icmp_ne (pt := 135) (pf := 130) rfl rfl rfl (fun h127 => ?_) (fun h127 => ?_)
                      · refine am_r_iload2 (pc' := 136) rfl rfl ?_
                        refine am_r_if_neR (pt := 143) (pf := 139) rfl rfl rfl (fun h136 => ?_) (fun h136 => ?_)
                        · refine am_r_iconst (pc' := 144) rfl rfl ?_
                          refine am_r_iret rfl rfl ?_
                          first
                          | (exfalso; omega)
                          | (refine am_q2 ?_ (hqT _ hF rfl hM hO); show _ = if c p = 33 then _ else _; first | (rw [if_neg (by omega)]; done) | (rw [if_pos (by omega), if_neg (by assumption)]; done) | (rw [if_pos (by omega), if_pos (Classical.not_not.mp (by assumption))]; done))
                        · refine am_r_iconst (pc' := 140) rfl rfl ?_
                          refine am_r_goto (pc' := 144) rfl rfl ?_
                          refine am_r_iret rfl rfl ?_
                          first
                          | (exfalso; omega)
                          | (refine am_q2 ?_ (hqT _ hF rfl hM hO); show _ = if c p = 33 then _ else _; first | (rw [if_neg (by omega)]; done) | (rw [if_pos (by omega), if_neg (by assumption)]; done) | (rw [if_pos (by omega), if_pos (Classical.not_not.mp (by assumption))]; done))
                      · refine am_r_iload2 (pc' := 131) rfl rfl ?_
                        refine am_r_inegR (pc' := 132) rfl rfl ?_
                        refine am_r_goto (pc' := 144) rfl rfl ?_
                        refine am_r_iret rfl rfl ?_
                        first
                        | (exfalso; omega)
                        | (refine am_q2 ?_ (hqT _ hF rfl hM hO); show _ = if c p = 33 then _ else _; first | (rw [if_neg (by omega)]; done) | (rw [if_pos (by omega), if_neg (by assumption)]; done) | (rw [if_pos (by omega), if_pos (Classical.not_not.mp (by assumption))]; done))
                    · refine am_r_iload2 (pc' := 121) rfl rfl ?_
                      refine am_r_goto (pc' := 144) rfl rfl ?_
                      refine am_r_iret rfl rfl ?_
                      first
                      | (exfalso; omega)
                      | (refine am_q2 ?_ (hqT _ hF rfl hM hO); show _ = if c p = 33 then _ else _; first | (rw [if_neg (by omega)]; done) | (rw [if_pos (by omega), if_neg (by assumption)]; done) | (rw [if_pos (by omega), if_pos (Classical.not_not.mp (by assumption))]; done))
                  · exfalso; omega
                · intro M4 x4 hf4 e4 hM4
                  have hM := hM4
                  have hpb4 := ms_pb hM4
                  have hF := am_fq_tr hF hf4
                  rw [q_one_t m (by omega), show q_turn (c p) (q_one c m (p + 1)) = q_no (q_one c m (p + 1)).2.1 from if_neg (by rw [e4]; decide)] at hqF
                  obtain ⟨o4, ho4, hO⟩ := z_of (M4.1 53 16)
                  refine am_r_istore2 (pc' := 84) rfl rfl rfl ?_
                  refine am_r_iload1 (pc' := 85) rfl rfl ?_
                  refine am_r_iconst (pc' := 87) rfl rfl ?_
                  refine am_r_icmp_ne (pt := 104) (pf := 90) rfl rfl rfl (fun h87 => ?_) (fun h87 => ?_)
                  · refine am_r_aload0 (pc' := 105) rfl rfl ?_
                    refine am_r_dup (pc' := 106) rfl rfl rfl ?_
                    refine am_r_getIv (f := 16) (pc' := 109) rfl rfl rfl (hO) ?_
                    refine am_r_iconst (pc' := 110) rfl rfl ?_
                    refine am_r_isub (pc' := 111) rfl rfl ?_
                    refine am_r_putI (f := 16) (pc' := 114) rfl rfl rfl (by decide) ?_
                    have hF := am_fq_up (i := 16) (x := z_I (o4 - 1)) hF (by omega)
                    have hO := am_up_e M4 53 16 (z_I (o4 - 1))
                    have hM := ms_op hM (z_I (o4 - 1))
                    refine am_r_iload1 (pc' := 115) rfl rfl ?_
                    refine am_r_iconst (pc' := 117) rfl rfl ?_
                    refine am_r_icmp_ne (pt := 124) (pf := 120) rfl rfl rfl (fun h117 => ?_) (fun h117 => ?_)
                    · refine am_r_iload1 (pc' := 125) rfl rfl ?_
                      refine am_r_iconst (pc' := 127) rfl rfl ?_
                      refine am_r_icmp_ne (pt := 135) (pf := 130) rfl rfl rfl (fun h127 => ?_) (fun h127 => ?_)
                      · refine am_r_iload2 (pc' := 136) rfl rfl ?_
                        refine am_r_if_neR (pt := 143) (pf := 139) rfl rfl rfl (fun h136 => ?_) (fun h136 => ?_)
                        · refine am_r_iconst (pc' := 144) rfl rfl ?_
                          refine am_r_iret rfl rfl ?_
                          exact hqF _ _ hF rfl hM
                        · refine am_r_iconst (pc' := 140) rfl rfl ?_
                          refine am_r_goto (pc' := 144) rfl rfl ?_
                          refine am_r_iret rfl rfl ?_
                          exact hqF _ _ hF rfl hM
                      · refine am_r_iload2 (pc' := 131) rfl rfl ?_
                        refine am_r_inegR (pc' := 132) rfl rfl ?_
                        refine am_r_goto (pc' := 144) rfl rfl ?_
                        refine am_r_iret rfl rfl ?_
                        exact hqF _ _ hF rfl hM
                    · refine am_r_iload2 (pc' := 121) rfl rfl ?_
                      refine am_r_goto (pc' := 144) rfl rfl ?_
                      refine am_r_iret rfl rfl ?_
                      exact hqF _ _ hF rfl hM
                  · exfalso; omega
              · refine am_r_aload0 (pc' := 73) rfl rfl ?_
                refine am_r_invI0 (pc' := 76) rfl rfl rfl (Nat.le_of_ble_eq_true rfl) (hei (by omega) (by omega) hM (by rw [show (6 : Int) - m = o + 1 by omega]; exact hO) ?_ ?_)
                · intro M4 hf4 e4 hM4 hO4
                  have hM := hM4
                  have hO := hO4
                  have hF := am_fq_tr hF hf4
                  have hcb4 := ms_cb hM
                  have hpb4 := ms_pb hM
                  rw [q_one_c m (by omega)] at hqT hqF
                  refine am_r_goto (pc' := 83) rfl rfl ?_
                  refine am_r_istore2 (pc' := 84) rfl rfl rfl ?_
                  refine am_r_iload1 (pc' := 85) rfl rfl ?_
                  refine am_r_iconst (pc' := 87) rfl rfl ?_
                  refine am_r_icmp_ne (pt := 104) (pf := 90) rfl rfl rfl (fun h87 => ?_) (fun h87 => ?_)
                  · exfalso; omega
                  · refine am_r_aload0 (pc' := 91) rfl rfl ?_
                    refine am_r_iconst (pc' := 93) rfl rfl ?_
                    refine am_r_invI1 (pc' := 96) rfl rfl rfl (Nat.le_of_ble_eq_true rfl) (m_takes (by omega) hM (by omega) hO ?_ ?_)
                    · intro M2 hf2 e2 hM2 hO2
                      have hM := hM2
                      have hO := hO2
                      have hF := am_fq_tr hF hf2
                      rw [show q_close c (q_ei (q_one c m) c (p + 1)) = (true, (q_ei (q_one c m) c (p + 1)).2.1 + 1, (q_ei (q_one c m) c (p + 1)).2.2.1, (q_ei (q_one c m) c (p + 1)).2.2.2) from if_pos ⟨e4, e2⟩] at hqT
                      refine am_r_if_ne (pt := 104) (pf := 99) rfl rfl rfl (fun h96 => ?_) (fun h96 => by exfalso; omega)
                      refine am_r_aload0 (pc' := 105) rfl rfl ?_
                      refine am_r_dup (pc' := 106) rfl rfl rfl ?_
                      refine am_r_getIv (f := 16) (pc' := 109) rfl rfl rfl (hO) ?_
                      refine am_r_iconst (pc' := 110) rfl rfl ?_
                      refine am_r_isub (pc' := 111) rfl rfl ?_
                      rw [show (6 : Int) - m - 1 = o by omega]
                      refine am_r_putI (f := 16) (pc' := 114) rfl rfl rfl (by decide) ?_
                      have hF := am_fq_up (i := 16) (x := z_I (o)) hF (by omega)
                      have hO := am_up_e M2 53 16 (z_I (o))
                      have hM := ms_op hM (z_I (o))
                      refine am_r_iload1 (pc' := 115) rfl rfl ?_
                      refine am_r_iconst (pc' := 117) rfl rfl ?_
                      refine am_r_icmp_ne (pt := 124) (pf := 120) rfl rfl rfl (fun h117 => ?_) (fun h117 => ?_)
                      · refine am_r_iload1 (pc' := 125) rfl rfl ?_
                        refine am_r_iconst (pc' := 127) rfl rfl ?_
                        refine am_r_icmp_ne (pt := 135) (pf := 130) rfl rfl rfl (fun h127 => ?_) (fun h127 => ?_)
                        · refine am_r_iload2 (pc' := 136) rfl rfl ?_
                          refine am_r_if_neR (pt := 143) (pf := 139) rfl rfl rfl (fun h136 => ?_) (fun h136 => ?_)
                          · refine am_r_iconst (pc' := 144) rfl rfl ?_
                            refine am_r_iret rfl rfl ?_
                            first | (exfalso; omega) | exact hqT _ hF rfl hM hO
                          · refine am_r_iconst (pc' := 140) rfl rfl ?_
                            refine am_r_goto (pc' := 144) rfl rfl ?_
                            refine am_r_iret rfl rfl ?_
                            first | (exfalso; omega) | exact hqT _ hF rfl hM hO
                        · refine am_r_iload2 (pc' := 131) rfl rfl ?_
                          refine am_r_inegR (pc' := 132) rfl rfl ?_
                          refine am_r_goto (pc' := 144) rfl rfl ?_
                          refine am_r_iret rfl rfl ?_
                          first | (exfalso; omega) | exact hqT _ hF rfl hM hO
                      · refine am_r_iload2 (pc' := 121) rfl rfl ?_
                        refine am_r_goto (pc' := 144) rfl rfl ?_
                        refine am_r_iret rfl rfl ?_
                        first | (exfalso; omega) | exact hqT _ hF rfl hM hO
                    · intro e2
                      rw [show q_close c (q_ei (q_one c m) c (p + 1)) = q_no (q_ei (q_one c m) c (p + 1)).2.1 from if_neg (fun q => e2 q.2)] at hqF
                      refine am_r_if_ne (pt := 104) (pf := 99) rfl rfl rfl (fun h96 => by exfalso; omega) (fun h96 => ?_)
                      refine am_r_aload0 (pc' := 100) rfl rfl ?_
                      refine am_r_invI0 (pc' := 103) rfl rfl rfl (Nat.le_of_ble_eq_true rfl) (m_wrong0 (by omega) hM rfl ?_)
                      · intro M8 hf8 hM8
                        have hM := hM8
                        have hF := am_fq_tr hF hf8
                        refine am_r_iret rfl rfl ?_
                        exact hqF _ _ hF rfl hM
                · intro M4 x4 hf4 e4 hM4
                  have hM := hM4
                  have hpb4 := ms_pb hM4
                  have hF := am_fq_tr hF hf4
                  rw [q_one_c m (by omega), show q_close c (q_ei (q_one c m) c (p + 1)) = q_no (q_ei (q_one c m) c (p + 1)).2.1 from if_neg (by rw [e4]; exact fun q => absurd q.1 (by decide))] at hqF
                  refine am_r_goto (pc' := 83) rfl rfl ?_
                  refine am_r_istore2 (pc' := 84) rfl rfl rfl ?_
                  refine am_r_iload1 (pc' := 85) rfl rfl ?_
                  refine am_r_iconst (pc' := 87) rfl rfl ?_
                  refine am_r_icmp_ne (pt := 104) (pf := 90) rfl rfl rfl (fun h87 => ?_) (fun h87 => ?_)
                  · exfalso; omega
                  · refine am_r_aload0 (pc' := 91) rfl rfl ?_
                    refine am_r_iconst (pc' := 93) rfl rfl ?_
                    refine am_r_invI1 (pc' := 96) rfl rfl rfl (Nat.le_of_ble_eq_true rfl) (m_takesF (by omega) hM ?_)
                    refine am_r_if_ne (pt := 104) (pf := 99) rfl rfl rfl (fun h96 => ?_) (fun h96 => ?_)
                    · exfalso; omega
                    · refine am_r_aload0 (pc' := 100) rfl rfl ?_
                      refine am_r_invI0 (pc' := 103) rfl rfl rfl (Nat.le_of_ble_eq_true rfl) (m_wrong1 (by omega) hM ?_)
                      · intro M8 hf8 hM8
                        have hM := hM8
                        have hF := am_fq_tr hF hf8
                        refine am_r_iret rfl rfl ?_
                        exact hqF _ _ hF rfl hM
            · refine am_r_aload0 (pc' := 42) rfl rfl ?_
              refine am_r_invI0 (pc' := 45) rfl rfl rfl (Nat.le_of_ble_eq_true rfl) (m_wrong0 (by omega) hM rfl ?_)
              · intro M8 hf8 hM8
                have hM := hM8
                have hF := am_fq_tr hF hf8
                refine am_r_iret rfl rfl ?_
                exfalso; omega
    · refine am_r_iconst (pc' := 8) rfl rfl ?_
      refine am_r_iret rfl rfl ?_
      exfalso; omega
