/-! THE LAW, what it asks, 12 and on -/
def am_pLc12 : Am_p := [(630, 1, .aload 1, .aload 1, 0), (631, 1, .aload 0, .aload 0, 0), (632, 1, .iload 3, .iload 3, 0), (633, 1, .iconst 1, .iconst 1, 0), (634, 1, .iadd, .iadd, 0), (635, 1, .iaload, .iaload, 0), (636, 1, .aload 0, .aload 0, 0), (637, 1, .iload 3, .iload 3, 0), (638, 1, .iconst 2, .iconst 2, 0), (639, 1, .iadd, .iadd, 0), (640, 1, .iaload, .iaload, 0), (641, 3, .invokevirtual 119, .invokevirtual 119, 0), (644, 1, .aload 2, .aload 2, 0), (645, 1, .aload 0, .aload 0, 0), (646, 1, .iload 3, .iload 3, 0), (647, 1, .iconst 1, .iconst 1, 0), (648, 1, .iadd, .iadd, 0), (649, 1, .iaload, .iaload, 0), (650, 1, .aload 0, .aload 0, 0), (651, 1, .iload 3, .iload 3, 0), (652, 1, .iconst 2, .iconst 2, 0), (653, 1, .iadd, .iadd, 0), (654, 1, .iaload, .iaload, 0), (655, 3, .invokevirtual 202, .invokevirtual 202, 0), (658, 3, .if_icmp .eq 1753, .if_icmp .eq 1753, 0), (661, 1, .iconst 0, .iconst 0, 0), (662, 1, .ireturn, .ireturn, 0)]
theorem lw_c12 {sL : Nat} {xs : Nat → Int32} {d : Nat} {M : Am_M} {P : Am_p} {Q : Option Value → Am_M → Prop} (hd : 60 ≤ d) (hP : ∀ pc r, am_lk am_pLc12 pc = some r → am_lk P pc = some r) (hL3 : sL ≤ 3072) {i : Int} (hi : 0 ≤ i ∧ i + 6 ≤ sL) (hI : Inv M) (hq : ∀ M', Inv M' → am_rw sL xs d P 2 1753 [.ref 900, .ref 0, .ref 53, .int (z_I i)] [] M' Q) : am_rw sL xs d P 2 630 [.ref 900, .ref 0, .ref 53, .int (z_I i)] [] M Q := by
  obtain ⟨σ, χ, c, t, η, ε, δ, κ, m, l, ⟨hX, hL, hT, hH, hK, hD, hO⟩, hg0, hN, hl⟩ := hI
  obtain ⟨a1, h1, e1⟩ := z_of (xs (i + 1).toNat)
  obtain ⟨a2, h2, e2⟩ := z_of (xs (i + 2).toNat)
  refine am_r_aload1 (pc' := 631) (hP _ _ rfl) rfl ?_
  refine am_r_aload0 (pc' := 632) (hP _ _ rfl) rfl ?_
  refine am_r_iload3 (pc' := 633) (hP _ _ rfl) rfl ?_
  refine am_r_iconst (pc' := 634) (hP _ _ rfl) rfl ?_
  refine am_r_iadd (pc' := 635) (hP _ _ rfl) rfl ?_
  refine am_r_iaSv (pc' := 636) (hP _ _ rfl) rfl hL3 e1 ?_
  refine am_r_aload0 (pc' := 637) (hP _ _ rfl) rfl ?_
  refine am_r_iload3 (pc' := 638) (hP _ _ rfl) rfl ?_
  refine am_r_iconst (pc' := 639) (hP _ _ rfl) rfl ?_
  refine am_r_iadd (pc' := 640) (hP _ _ rfl) rfl ?_
  refine am_r_iaSv (pc' := 641) (hP _ _ rfl) rfl hL3 e2 ?_
  refine am_r_invI2 (pc' := 644) (hP _ _ rfl) rfl rfl (Nat.le_of_ble_eq_true rfl) (c_mood (by omega) hX (by omega) (by omega) ?_)
  · obtain ⟨gX, gL, gT, gH, gK, gD, gO⟩ := hg0
    refine am_r_aload2 (pc' := 645) (hP _ _ rfl) rfl ?_
    refine am_r_aload0 (pc' := 646) (hP _ _ rfl) rfl ?_
    refine am_r_iload3 (pc' := 647) (hP _ _ rfl) rfl ?_
    refine am_r_iconst (pc' := 648) (hP _ _ rfl) rfl ?_
    refine am_r_iadd (pc' := 649) (hP _ _ rfl) rfl ?_
    refine am_r_iaSv (pc' := 650) (hP _ _ rfl) rfl hL3 e1 ?_
    refine am_r_aload0 (pc' := 651) (hP _ _ rfl) rfl ?_
    refine am_r_iload3 (pc' := 652) (hP _ _ rfl) rfl ?_
    refine am_r_iconst (pc' := 653) (hP _ _ rfl) rfl ?_
    refine am_r_iadd (pc' := 654) (hP _ _ rfl) rfl ?_
    refine am_r_iaSv (pc' := 655) (hP _ _ rfl) rfl hL3 e2 ?_
    refine am_r_invI2 (pc' := 658) (hP _ _ rfl) rfl rfl (Nat.le_of_ble_eq_true rfl) (m_mood (by omega) gX (by omega) (by omega) ?_)
    · have hG := mi_mk gX gL gT gH gK gD gO
      refine am_r_eqs (pt := 1753) (hP _ _ rfl) rfl ?_
      exact hq _ (inv_mk (ci_mk hX hL hT hH hK hD hO) hG hN hl)
def am_pLc13 : Am_p := [(663, 1, .aload 1, .aload 1, 0), (664, 1, .aload 0, .aload 0, 0), (665, 1, .iload 3, .iload 3, 0), (666, 1, .iconst 1, .iconst 1, 0), (667, 1, .iadd, .iadd, 0), (668, 1, .iaload, .iaload, 0), (669, 1, .aload 0, .aload 0, 0), (670, 1, .iload 3, .iload 3, 0), (671, 1, .iconst 2, .iconst 2, 0), (672, 1, .iadd, .iadd, 0), (673, 1, .iaload, .iaload, 0), (674, 1, .aload 0, .aload 0, 0), (675, 1, .iload 3, .iload 3, 0), (676, 1, .iconst 3, .iconst 3, 0), (677, 1, .iadd, .iadd, 0), (678, 1, .iaload, .iaload, 0), (679, 3, .invokevirtual 120, .invokevirtual 120, 0), (682, 1, .aload 2, .aload 2, 0), (683, 1, .aload 0, .aload 0, 0), (684, 1, .iload 3, .iload 3, 0), (685, 1, .iconst 1, .iconst 1, 0), (686, 1, .iadd, .iadd, 0), (687, 1, .iaload, .iaload, 0), (688, 1, .aload 0, .aload 0, 0), (689, 1, .iload 3, .iload 3, 0), (690, 1, .iconst 2, .iconst 2, 0), (691, 1, .iadd, .iadd, 0), (692, 1, .iaload, .iaload, 0), (693, 1, .aload 0, .aload 0, 0), (694, 1, .iload 3, .iload 3, 0), (695, 1, .iconst 3, .iconst 3, 0), (696, 1, .iadd, .iadd, 0), (697, 1, .iaload, .iaload, 0), (698, 3, .invokevirtual 203, .invokevirtual 203, 0), (701, 3, .if_icmp .eq 1753, .if_icmp .eq 1753, 0), (704, 1, .iconst 0, .iconst 0, 0), (705, 1, .ireturn, .ireturn, 0)]
theorem lw_c13 {sL : Nat} {xs : Nat → Int32} {d : Nat} {M : Am_M} {P : Am_p} {Q : Option Value → Am_M → Prop} (hd : 60 ≤ d) (hP : ∀ pc r, am_lk am_pLc13 pc = some r → am_lk P pc = some r) (hL3 : sL ≤ 3072) {i : Int} (hi : 0 ≤ i ∧ i + 6 ≤ sL) (hI : Inv M) (hq : ∀ M', Inv M' → am_rw sL xs d P 2 1753 [.ref 900, .ref 0, .ref 53, .int (z_I i)] [] M' Q) : am_rw sL xs d P 2 663 [.ref 900, .ref 0, .ref 53, .int (z_I i)] [] M Q := by
  obtain ⟨σ, χ, c, t, η, ε, δ, κ, m, l, ⟨hX, hL, hT, hH, hK, hD, hO⟩, hg0, hN, hl⟩ := hI
  obtain ⟨a1, h1, e1⟩ := z_of (xs (i + 1).toNat)
  obtain ⟨a2, h2, e2⟩ := z_of (xs (i + 2).toNat)
  obtain ⟨a3, h3, e3⟩ := z_of (xs (i + 3).toNat)
  refine am_r_aload1 (pc' := 664) (hP _ _ rfl) rfl ?_
  refine am_r_aload0 (pc' := 665) (hP _ _ rfl) rfl ?_
  refine am_r_iload3 (pc' := 666) (hP _ _ rfl) rfl ?_
  refine am_r_iconst (pc' := 667) (hP _ _ rfl) rfl ?_
  refine am_r_iadd (pc' := 668) (hP _ _ rfl) rfl ?_
  refine am_r_iaSv (pc' := 669) (hP _ _ rfl) rfl hL3 e1 ?_
  refine am_r_aload0 (pc' := 670) (hP _ _ rfl) rfl ?_
  refine am_r_iload3 (pc' := 671) (hP _ _ rfl) rfl ?_
  refine am_r_iconst (pc' := 672) (hP _ _ rfl) rfl ?_
  refine am_r_iadd (pc' := 673) (hP _ _ rfl) rfl ?_
  refine am_r_iaSv (pc' := 674) (hP _ _ rfl) rfl hL3 e2 ?_
  refine am_r_aload0 (pc' := 675) (hP _ _ rfl) rfl ?_
  refine am_r_iload3 (pc' := 676) (hP _ _ rfl) rfl ?_
  refine am_r_iconst (pc' := 677) (hP _ _ rfl) rfl ?_
  refine am_r_iadd (pc' := 678) (hP _ _ rfl) rfl ?_
  refine am_r_iaSv (pc' := 679) (hP _ _ rfl) rfl hL3 e3 ?_
  refine am_r_invI3 (pc' := 682) (hP _ _ rfl) rfl rfl (Nat.le_of_ble_eq_true rfl) (c_best (by omega) hX (by omega) (by omega) (by omega) ?_)
  · obtain ⟨gX, gL, gT, gH, gK, gD, gO⟩ := hg0
    refine am_r_aload2 (pc' := 683) (hP _ _ rfl) rfl ?_
    refine am_r_aload0 (pc' := 684) (hP _ _ rfl) rfl ?_
    refine am_r_iload3 (pc' := 685) (hP _ _ rfl) rfl ?_
    refine am_r_iconst (pc' := 686) (hP _ _ rfl) rfl ?_
    refine am_r_iadd (pc' := 687) (hP _ _ rfl) rfl ?_
    refine am_r_iaSv (pc' := 688) (hP _ _ rfl) rfl hL3 e1 ?_
    refine am_r_aload0 (pc' := 689) (hP _ _ rfl) rfl ?_
    refine am_r_iload3 (pc' := 690) (hP _ _ rfl) rfl ?_
    refine am_r_iconst (pc' := 691) (hP _ _ rfl) rfl ?_
    refine am_r_iadd (pc' := 692) (hP _ _ rfl) rfl ?_
    refine am_r_iaSv (pc' := 693) (hP _ _ rfl) rfl hL3 e2 ?_
    refine am_r_aload0 (pc' := 694) (hP _ _ rfl) rfl ?_
    refine am_r_iload3 (pc' := 695) (hP _ _ rfl) rfl ?_
    refine am_r_iconst (pc' := 696) (hP _ _ rfl) rfl ?_
    refine am_r_iadd (pc' := 697) (hP _ _ rfl) rfl ?_
    refine am_r_iaSv (pc' := 698) (hP _ _ rfl) rfl hL3 e3 ?_
    refine am_r_invI3 (pc' := 701) (hP _ _ rfl) rfl rfl (Nat.le_of_ble_eq_true rfl) (m_best (by omega) gX (by omega) (by omega) (by omega) ?_)
    · have hG := mi_mk gX gL gT gH gK gD gO
      refine am_r_eqs (pt := 1753) (hP _ _ rfl) rfl ?_
      exact hq _ (inv_mk (ci_mk hX hL hT hH hK hD hO) hG hN hl)
def am_pLc14 : Am_p := [(706, 1, .aload 1, .aload 1, 0), (707, 1, .aload 0, .aload 0, 0), (708, 1, .iload 3, .iload 3, 0), (709, 1, .iconst 1, .iconst 1, 0), (710, 1, .iadd, .iadd, 0), (711, 1, .iaload, .iaload, 0), (712, 1, .aload 0, .aload 0, 0), (713, 1, .iload 3, .iload 3, 0), (714, 1, .iconst 2, .iconst 2, 0), (715, 1, .iadd, .iadd, 0), (716, 1, .iaload, .iaload, 0), (717, 1, .aload 0, .aload 0, 0), (718, 1, .iload 3, .iload 3, 0), (719, 1, .iconst 3, .iconst 3, 0), (720, 1, .iadd, .iadd, 0), (721, 1, .iaload, .iaload, 0), (722, 3, .invokevirtual 121, .invokevirtual 121, 0), (725, 1, .aload 2, .aload 2, 0), (726, 1, .aload 0, .aload 0, 0), (727, 1, .iload 3, .iload 3, 0), (728, 1, .iconst 1, .iconst 1, 0), (729, 1, .iadd, .iadd, 0), (730, 1, .iaload, .iaload, 0), (731, 1, .aload 0, .aload 0, 0), (732, 1, .iload 3, .iload 3, 0), (733, 1, .iconst 2, .iconst 2, 0), (734, 1, .iadd, .iadd, 0), (735, 1, .iaload, .iaload, 0), (736, 1, .aload 0, .aload 0, 0), (737, 1, .iload 3, .iload 3, 0), (738, 1, .iconst 3, .iconst 3, 0), (739, 1, .iadd, .iadd, 0), (740, 1, .iaload, .iaload, 0), (741, 3, .invokevirtual 205, .invokevirtual 205, 0), (744, 3, .if_icmp .eq 1753, .if_icmp .eq 1753, 0), (747, 1, .iconst 0, .iconst 0, 0), (748, 1, .ireturn, .ireturn, 0)]
theorem lw_c14 {sL : Nat} {xs : Nat → Int32} {d : Nat} {M : Am_M} {P : Am_p} {Q : Option Value → Am_M → Prop} (hd : 60 ≤ d) (hP : ∀ pc r, am_lk am_pLc14 pc = some r → am_lk P pc = some r) (hL3 : sL ≤ 3072) {i : Int} (hi : 0 ≤ i ∧ i + 6 ≤ sL) (hI : Inv M) (hq : ∀ M', Inv M' → am_rw sL xs d P 2 1753 [.ref 900, .ref 0, .ref 53, .int (z_I i)] [] M' Q) : am_rw sL xs d P 2 706 [.ref 900, .ref 0, .ref 53, .int (z_I i)] [] M Q := by
  obtain ⟨σ, χ, c, t, η, ε, δ, κ, m, l, ⟨hX, hL, hT, hH, hK, hD, hO⟩, hg0, hN, hl⟩ := hI
  obtain ⟨a1, h1, e1⟩ := z_of (xs (i + 1).toNat)
  obtain ⟨a2, h2, e2⟩ := z_of (xs (i + 2).toNat)
  obtain ⟨a3, h3, e3⟩ := z_of (xs (i + 3).toNat)
  refine am_r_aload1 (pc' := 707) (hP _ _ rfl) rfl ?_
  refine am_r_aload0 (pc' := 708) (hP _ _ rfl) rfl ?_
  refine am_r_iload3 (pc' := 709) (hP _ _ rfl) rfl ?_
  refine am_r_iconst (pc' := 710) (hP _ _ rfl) rfl ?_
  refine am_r_iadd (pc' := 711) (hP _ _ rfl) rfl ?_
  refine am_r_iaSv (pc' := 712) (hP _ _ rfl) rfl hL3 e1 ?_
  refine am_r_aload0 (pc' := 713) (hP _ _ rfl) rfl ?_
  refine am_r_iload3 (pc' := 714) (hP _ _ rfl) rfl ?_
  refine am_r_iconst (pc' := 715) (hP _ _ rfl) rfl ?_
  refine am_r_iadd (pc' := 716) (hP _ _ rfl) rfl ?_
  refine am_r_iaSv (pc' := 717) (hP _ _ rfl) rfl hL3 e2 ?_
  refine am_r_aload0 (pc' := 718) (hP _ _ rfl) rfl ?_
  refine am_r_iload3 (pc' := 719) (hP _ _ rfl) rfl ?_
  refine am_r_iconst (pc' := 720) (hP _ _ rfl) rfl ?_
  refine am_r_iadd (pc' := 721) (hP _ _ rfl) rfl ?_
  refine am_r_iaSv (pc' := 722) (hP _ _ rfl) rfl hL3 e3 ?_
  refine am_r_invI3 (pc' := 725) (hP _ _ rfl) rfl rfl (Nat.le_of_ble_eq_true rfl) (c_sign (by omega) hX (by omega) (by omega) (by omega) ?_)
  · obtain ⟨gX, gL, gT, gH, gK, gD, gO⟩ := hg0
    refine am_r_aload2 (pc' := 726) (hP _ _ rfl) rfl ?_
    refine am_r_aload0 (pc' := 727) (hP _ _ rfl) rfl ?_
    refine am_r_iload3 (pc' := 728) (hP _ _ rfl) rfl ?_
    refine am_r_iconst (pc' := 729) (hP _ _ rfl) rfl ?_
    refine am_r_iadd (pc' := 730) (hP _ _ rfl) rfl ?_
    refine am_r_iaSv (pc' := 731) (hP _ _ rfl) rfl hL3 e1 ?_
    refine am_r_aload0 (pc' := 732) (hP _ _ rfl) rfl ?_
    refine am_r_iload3 (pc' := 733) (hP _ _ rfl) rfl ?_
    refine am_r_iconst (pc' := 734) (hP _ _ rfl) rfl ?_
    refine am_r_iadd (pc' := 735) (hP _ _ rfl) rfl ?_
    refine am_r_iaSv (pc' := 736) (hP _ _ rfl) rfl hL3 e2 ?_
    refine am_r_aload0 (pc' := 737) (hP _ _ rfl) rfl ?_
    refine am_r_iload3 (pc' := 738) (hP _ _ rfl) rfl ?_
    refine am_r_iconst (pc' := 739) (hP _ _ rfl) rfl ?_
    refine am_r_iadd (pc' := 740) (hP _ _ rfl) rfl ?_
    refine am_r_iaSv (pc' := 741) (hP _ _ rfl) rfl hL3 e3 ?_
    refine am_r_invI3 (pc' := 744) (hP _ _ rfl) rfl rfl (Nat.le_of_ble_eq_true rfl) (m_sign (by omega) gX (by omega) (by omega) (by omega) ?_)
    · have hG := mi_mk gX gL gT gH gK gD gO
      rw [r_sign_e hX.1]
      refine am_r_eqs (pt := 1753) (hP _ _ rfl) rfl ?_
      exact hq _ (inv_mk (ci_mk hX hL hT hH hK hD hO) hG hN hl)
def am_pLc15 : Am_p := [(749, 1, .aload 1, .aload 1, 0), (750, 1, .aload 0, .aload 0, 0), (751, 1, .iload 3, .iload 3, 0), (752, 1, .iconst 1, .iconst 1, 0), (753, 1, .iadd, .iadd, 0), (754, 1, .iaload, .iaload, 0), (755, 1, .aload 0, .aload 0, 0), (756, 1, .iload 3, .iload 3, 0), (757, 1, .iconst 2, .iconst 2, 0), (758, 1, .iadd, .iadd, 0), (759, 1, .iaload, .iaload, 0), (760, 3, .invokevirtual 122, .invokevirtual 122, 0), (763, 1, .aload 2, .aload 2, 0), (764, 1, .aload 0, .aload 0, 0), (765, 1, .iload 3, .iload 3, 0), (766, 1, .iconst 1, .iconst 1, 0), (767, 1, .iadd, .iadd, 0), (768, 1, .iaload, .iaload, 0), (769, 1, .aload 0, .aload 0, 0), (770, 1, .iload 3, .iload 3, 0), (771, 1, .iconst 2, .iconst 2, 0), (772, 1, .iadd, .iadd, 0), (773, 1, .iaload, .iaload, 0), (774, 3, .invokevirtual 207, .invokevirtual 207, 0), (777, 3, .if_icmp .eq 1753, .if_icmp .eq 1753, 0), (780, 1, .iconst 0, .iconst 0, 0), (781, 1, .ireturn, .ireturn, 0)]
theorem lw_c15 {sL : Nat} {xs : Nat → Int32} {d : Nat} {M : Am_M} {P : Am_p} {Q : Option Value → Am_M → Prop} (hd : 60 ≤ d) (hP : ∀ pc r, am_lk am_pLc15 pc = some r → am_lk P pc = some r) (hL3 : sL ≤ 3072) {i : Int} (hi : 0 ≤ i ∧ i + 6 ≤ sL) (hI : Inv M) (hq : ∀ M', Inv M' → am_rw sL xs d P 2 1753 [.ref 900, .ref 0, .ref 53, .int (z_I i)] [] M' Q) : am_rw sL xs d P 2 749 [.ref 900, .ref 0, .ref 53, .int (z_I i)] [] M Q := by
  obtain ⟨σ, χ, c, t, η, ε, δ, κ, m, l, ⟨hX, hL, hT, hH, hK, hD, hO⟩, hg0, hN, hl⟩ := hI
  obtain ⟨a1, h1, e1⟩ := z_of (xs (i + 1).toNat)
  obtain ⟨a2, h2, e2⟩ := z_of (xs (i + 2).toNat)
  refine am_r_aload1 (pc' := 750) (hP _ _ rfl) rfl ?_
  refine am_r_aload0 (pc' := 751) (hP _ _ rfl) rfl ?_
  refine am_r_iload3 (pc' := 752) (hP _ _ rfl) rfl ?_
  refine am_r_iconst (pc' := 753) (hP _ _ rfl) rfl ?_
  refine am_r_iadd (pc' := 754) (hP _ _ rfl) rfl ?_
  refine am_r_iaSv (pc' := 755) (hP _ _ rfl) rfl hL3 e1 ?_
  refine am_r_aload0 (pc' := 756) (hP _ _ rfl) rfl ?_
  refine am_r_iload3 (pc' := 757) (hP _ _ rfl) rfl ?_
  refine am_r_iconst (pc' := 758) (hP _ _ rfl) rfl ?_
  refine am_r_iadd (pc' := 759) (hP _ _ rfl) rfl ?_
  refine am_r_iaSv (pc' := 760) (hP _ _ rfl) rfl hL3 e2 ?_
  refine am_r_invI2 (pc' := 763) (hP _ _ rfl) rfl rfl (Nat.le_of_ble_eq_true rfl) (c_nudge (by omega) hX (by omega) (by omega) ?_)
  · obtain ⟨gX, gL, gT, gH, gK, gD, gO⟩ := hg0
    refine am_r_aload2 (pc' := 764) (hP _ _ rfl) rfl ?_
    refine am_r_aload0 (pc' := 765) (hP _ _ rfl) rfl ?_
    refine am_r_iload3 (pc' := 766) (hP _ _ rfl) rfl ?_
    refine am_r_iconst (pc' := 767) (hP _ _ rfl) rfl ?_
    refine am_r_iadd (pc' := 768) (hP _ _ rfl) rfl ?_
    refine am_r_iaSv (pc' := 769) (hP _ _ rfl) rfl hL3 e1 ?_
    refine am_r_aload0 (pc' := 770) (hP _ _ rfl) rfl ?_
    refine am_r_iload3 (pc' := 771) (hP _ _ rfl) rfl ?_
    refine am_r_iconst (pc' := 772) (hP _ _ rfl) rfl ?_
    refine am_r_iadd (pc' := 773) (hP _ _ rfl) rfl ?_
    refine am_r_iaSv (pc' := 774) (hP _ _ rfl) rfl hL3 e2 ?_
    refine am_r_invI2 (pc' := 777) (hP _ _ rfl) rfl rfl (Nat.le_of_ble_eq_true rfl) (m_nudge (by omega) gX (by omega) (by omega) ?_)
    · have hG := mi_mk gX gL gT gH gK gD gO
      rw [r_nudge_e hX.1]
      refine am_r_eqs (pt := 1753) (hP _ _ rfl) rfl ?_
      exact hq _ (inv_mk (ci_mk hX hL hT hH hK hD hO) hG hN hl)
def am_pLc16 : Am_p := [(782, 1, .aload 1, .aload 1, 0), (783, 1, .aload 0, .aload 0, 0), (784, 1, .iload 3, .iload 3, 0), (785, 1, .iconst 1, .iconst 1, 0), (786, 1, .iadd, .iadd, 0), (787, 1, .iaload, .iaload, 0), (788, 1, .aload 0, .aload 0, 0), (789, 1, .iload 3, .iload 3, 0), (790, 1, .iconst 2, .iconst 2, 0), (791, 1, .iadd, .iadd, 0), (792, 1, .iaload, .iaload, 0), (793, 1, .aload 0, .aload 0, 0), (794, 1, .iload 3, .iload 3, 0), (795, 1, .iconst 3, .iconst 3, 0), (796, 1, .iadd, .iadd, 0), (797, 1, .iaload, .iaload, 0), (798, 3, .invokevirtual 123, .invokevirtual 123, 0), (801, 1, .aload 2, .aload 2, 0), (802, 1, .aload 0, .aload 0, 0), (803, 1, .iload 3, .iload 3, 0), (804, 1, .iconst 1, .iconst 1, 0), (805, 1, .iadd, .iadd, 0), (806, 1, .iaload, .iaload, 0), (807, 1, .aload 0, .aload 0, 0), (808, 1, .iload 3, .iload 3, 0), (809, 1, .iconst 2, .iconst 2, 0), (810, 1, .iadd, .iadd, 0), (811, 1, .iaload, .iaload, 0), (812, 1, .aload 0, .aload 0, 0), (813, 1, .iload 3, .iload 3, 0), (814, 1, .iconst 3, .iconst 3, 0), (815, 1, .iadd, .iadd, 0), (816, 1, .iaload, .iaload, 0), (817, 3, .invokevirtual 208, .invokevirtual 208, 0), (820, 3, .if_icmp .eq 1753, .if_icmp .eq 1753, 0), (823, 1, .iconst 0, .iconst 0, 0), (824, 1, .ireturn, .ireturn, 0)]
theorem lw_c16 {sL : Nat} {xs : Nat → Int32} {d : Nat} {M : Am_M} {P : Am_p} {Q : Option Value → Am_M → Prop} (hd : 60 ≤ d) (hP : ∀ pc r, am_lk am_pLc16 pc = some r → am_lk P pc = some r) (hL3 : sL ≤ 3072) {i : Int} (hi : 0 ≤ i ∧ i + 6 ≤ sL) (hI : Inv M) (hq : ∀ M', Inv M' → am_rw sL xs d P 2 1753 [.ref 900, .ref 0, .ref 53, .int (z_I i)] [] M' Q) : am_rw sL xs d P 2 782 [.ref 900, .ref 0, .ref 53, .int (z_I i)] [] M Q := by
  obtain ⟨σ, χ, c, t, η, ε, δ, κ, m, l, ⟨hX, hL, hT, hH, hK, hD, hO⟩, hg0, hN, hl⟩ := hI
  obtain ⟨a1, h1, e1⟩ := z_of (xs (i + 1).toNat)
  obtain ⟨a2, h2, e2⟩ := z_of (xs (i + 2).toNat)
  obtain ⟨a3, h3, e3⟩ := z_of (xs (i + 3).toNat)
  refine am_r_aload1 (pc' := 783) (hP _ _ rfl) rfl ?_
  refine am_r_aload0 (pc' := 784) (hP _ _ rfl) rfl ?_
  refine am_r_iload3 (pc' := 785) (hP _ _ rfl) rfl ?_
  refine am_r_iconst (pc' := 786) (hP _ _ rfl) rfl ?_
  refine am_r_iadd (pc' := 787) (hP _ _ rfl) rfl ?_
  refine am_r_iaSv (pc' := 788) (hP _ _ rfl) rfl hL3 e1 ?_
  refine am_r_aload0 (pc' := 789) (hP _ _ rfl) rfl ?_
  refine am_r_iload3 (pc' := 790) (hP _ _ rfl) rfl ?_
  refine am_r_iconst (pc' := 791) (hP _ _ rfl) rfl ?_
  refine am_r_iadd (pc' := 792) (hP _ _ rfl) rfl ?_
  refine am_r_iaSv (pc' := 793) (hP _ _ rfl) rfl hL3 e2 ?_
  refine am_r_aload0 (pc' := 794) (hP _ _ rfl) rfl ?_
  refine am_r_iload3 (pc' := 795) (hP _ _ rfl) rfl ?_
  refine am_r_iconst (pc' := 796) (hP _ _ rfl) rfl ?_
  refine am_r_iadd (pc' := 797) (hP _ _ rfl) rfl ?_
  refine am_r_iaSv (pc' := 798) (hP _ _ rfl) rfl hL3 e3 ?_
  refine am_r_invI3 (pc' := 801) (hP _ _ rfl) rfl rfl (Nat.le_of_ble_eq_true rfl) (c_never (by omega) hX (by omega) (by omega) (by omega) ?_)
  · obtain ⟨gX, gL, gT, gH, gK, gD, gO⟩ := hg0
    refine am_r_aload2 (pc' := 802) (hP _ _ rfl) rfl ?_
    refine am_r_aload0 (pc' := 803) (hP _ _ rfl) rfl ?_
    refine am_r_iload3 (pc' := 804) (hP _ _ rfl) rfl ?_
    refine am_r_iconst (pc' := 805) (hP _ _ rfl) rfl ?_
    refine am_r_iadd (pc' := 806) (hP _ _ rfl) rfl ?_
    refine am_r_iaSv (pc' := 807) (hP _ _ rfl) rfl hL3 e1 ?_
    refine am_r_aload0 (pc' := 808) (hP _ _ rfl) rfl ?_
    refine am_r_iload3 (pc' := 809) (hP _ _ rfl) rfl ?_
    refine am_r_iconst (pc' := 810) (hP _ _ rfl) rfl ?_
    refine am_r_iadd (pc' := 811) (hP _ _ rfl) rfl ?_
    refine am_r_iaSv (pc' := 812) (hP _ _ rfl) rfl hL3 e2 ?_
    refine am_r_aload0 (pc' := 813) (hP _ _ rfl) rfl ?_
    refine am_r_iload3 (pc' := 814) (hP _ _ rfl) rfl ?_
    refine am_r_iconst (pc' := 815) (hP _ _ rfl) rfl ?_
    refine am_r_iadd (pc' := 816) (hP _ _ rfl) rfl ?_
    refine am_r_iaSv (pc' := 817) (hP _ _ rfl) rfl hL3 e3 ?_
    refine am_r_invI3 (pc' := 820) (hP _ _ rfl) rfl rfl (Nat.le_of_ble_eq_true rfl) (m_never (by omega) gX (by omega) (by omega) (by omega) ?_)
    · have hG := mi_mk gX gL gT gH gK gD gO
      refine am_r_eqs (pt := 1753) (hP _ _ rfl) rfl ?_
      exact hq _ (inv_mk (ci_mk hX hL hT hH hK hD hO) hG hN hl)
def am_pLc17 : Am_p := [(825, 1, .aload 1, .aload 1, 0), (826, 1, .aload 0, .aload 0, 0), (827, 1, .iload 3, .iload 3, 0), (828, 1, .iconst 1, .iconst 1, 0), (829, 1, .iadd, .iadd, 0), (830, 1, .iaload, .iaload, 0), (831, 3, .invokevirtual 124, .invokevirtual 124, 0), (834, 1, .aload 2, .aload 2, 0), (835, 1, .aload 0, .aload 0, 0), (836, 1, .iload 3, .iload 3, 0), (837, 1, .iconst 1, .iconst 1, 0), (838, 1, .iadd, .iadd, 0), (839, 1, .iaload, .iaload, 0), (840, 3, .invokevirtual 210, .invokevirtual 210, 0), (843, 3, .if_icmp .eq 1753, .if_icmp .eq 1753, 0), (846, 1, .iconst 0, .iconst 0, 0), (847, 1, .ireturn, .ireturn, 0)]
theorem lw_c17 {sL : Nat} {xs : Nat → Int32} {d : Nat} {M : Am_M} {P : Am_p} {Q : Option Value → Am_M → Prop} (hd : 60 ≤ d) (hP : ∀ pc r, am_lk am_pLc17 pc = some r → am_lk P pc = some r) (hL3 : sL ≤ 3072) {i : Int} (hi : 0 ≤ i ∧ i + 6 ≤ sL) (hI : Inv M) (hq : ∀ M', Inv M' → am_rw sL xs d P 2 1753 [.ref 900, .ref 0, .ref 53, .int (z_I i)] [] M' Q) : am_rw sL xs d P 2 825 [.ref 900, .ref 0, .ref 53, .int (z_I i)] [] M Q := by
  obtain ⟨σ, χ, c, t, η, ε, δ, κ, m, l, ⟨hX, hL, hT, hH, hK, hD, hO⟩, hg0, hN, hl⟩ := hI
  obtain ⟨a1, h1, e1⟩ := z_of (xs (i + 1).toNat)
  refine am_r_aload1 (pc' := 826) (hP _ _ rfl) rfl ?_
  refine am_r_aload0 (pc' := 827) (hP _ _ rfl) rfl ?_
  refine am_r_iload3 (pc' := 828) (hP _ _ rfl) rfl ?_
  refine am_r_iconst (pc' := 829) (hP _ _ rfl) rfl ?_
  refine am_r_iadd (pc' := 830) (hP _ _ rfl) rfl ?_
  refine am_r_iaSv (pc' := 831) (hP _ _ rfl) rfl hL3 e1 ?_
  refine am_r_invI1 (pc' := 834) (hP _ _ rfl) rfl rfl (Nat.le_of_ble_eq_true rfl) (c_scene (by omega) hX (by omega) ?_)
  · obtain ⟨gX, gL, gT, gH, gK, gD, gO⟩ := hg0
    refine am_r_aload2 (pc' := 835) (hP _ _ rfl) rfl ?_
    refine am_r_aload0 (pc' := 836) (hP _ _ rfl) rfl ?_
    refine am_r_iload3 (pc' := 837) (hP _ _ rfl) rfl ?_
    refine am_r_iconst (pc' := 838) (hP _ _ rfl) rfl ?_
    refine am_r_iadd (pc' := 839) (hP _ _ rfl) rfl ?_
    refine am_r_iaSv (pc' := 840) (hP _ _ rfl) rfl hL3 e1 ?_
    refine am_r_invI1 (pc' := 843) (hP _ _ rfl) rfl rfl (Nat.le_of_ble_eq_true rfl) (m_scene (by omega) gX (by omega) ?_)
    · have hG := mi_mk gX gL gT gH gK gD gO
      refine am_r_eqs (pt := 1753) (hP _ _ rfl) rfl ?_
      exact hq _ (inv_mk (ci_mk hX hL hT hH hK hD hO) hG hN hl)
def am_pLc18 : Am_p := [(848, 1, .aload 1, .aload 1, 0), (849, 1, .aload 0, .aload 0, 0), (850, 1, .iload 3, .iload 3, 0), (851, 1, .iconst 1, .iconst 1, 0), (852, 1, .iadd, .iadd, 0), (853, 1, .iaload, .iaload, 0), (854, 1, .aload 0, .aload 0, 0), (855, 1, .iload 3, .iload 3, 0), (856, 1, .iconst 2, .iconst 2, 0), (857, 1, .iadd, .iadd, 0), (858, 1, .iaload, .iaload, 0), (859, 3, .invokevirtual 125, .invokevirtual 125, 0), (862, 1, .aload 2, .aload 2, 0), (863, 1, .aload 0, .aload 0, 0), (864, 1, .iload 3, .iload 3, 0), (865, 1, .iconst 1, .iconst 1, 0), (866, 1, .iadd, .iadd, 0), (867, 1, .iaload, .iaload, 0), (868, 1, .aload 0, .aload 0, 0), (869, 1, .iload 3, .iload 3, 0), (870, 1, .iconst 2, .iconst 2, 0), (871, 1, .iadd, .iadd, 0), (872, 1, .iaload, .iaload, 0), (873, 3, .invokevirtual 219, .invokevirtual 219, 0), (876, 3, .if_icmp .eq 1753, .if_icmp .eq 1753, 0), (879, 1, .iconst 0, .iconst 0, 0), (880, 1, .ireturn, .ireturn, 0)]
theorem lw_c18 {sL : Nat} {xs : Nat → Int32} {d : Nat} {M : Am_M} {P : Am_p} {Q : Option Value → Am_M → Prop} (hd : 60 ≤ d) (hP : ∀ pc r, am_lk am_pLc18 pc = some r → am_lk P pc = some r) (hL3 : sL ≤ 3072) {i : Int} (hi : 0 ≤ i ∧ i + 6 ≤ sL) (hI : Inv M) (hq : ∀ M', Inv M' → am_rw sL xs d P 2 1753 [.ref 900, .ref 0, .ref 53, .int (z_I i)] [] M' Q) : am_rw sL xs d P 2 848 [.ref 900, .ref 0, .ref 53, .int (z_I i)] [] M Q := by
  obtain ⟨σ, χ, c, t, η, ε, δ, κ, m, l, ⟨hX, hL, hT, hH, hK, hD, hO⟩, hg0, hN, hl⟩ := hI
  obtain ⟨a1, h1, e1⟩ := z_of (xs (i + 1).toNat)
  obtain ⟨a2, h2, e2⟩ := z_of (xs (i + 2).toNat)
  refine am_r_aload1 (pc' := 849) (hP _ _ rfl) rfl ?_
  refine am_r_aload0 (pc' := 850) (hP _ _ rfl) rfl ?_
  refine am_r_iload3 (pc' := 851) (hP _ _ rfl) rfl ?_
  refine am_r_iconst (pc' := 852) (hP _ _ rfl) rfl ?_
  refine am_r_iadd (pc' := 853) (hP _ _ rfl) rfl ?_
  refine am_r_iaSv (pc' := 854) (hP _ _ rfl) rfl hL3 e1 ?_
  refine am_r_aload0 (pc' := 855) (hP _ _ rfl) rfl ?_
  refine am_r_iload3 (pc' := 856) (hP _ _ rfl) rfl ?_
  refine am_r_iconst (pc' := 857) (hP _ _ rfl) rfl ?_
  refine am_r_iadd (pc' := 858) (hP _ _ rfl) rfl ?_
  refine am_r_iaSv (pc' := 859) (hP _ _ rfl) rfl hL3 e2 ?_
  refine am_r_invI2 (pc' := 862) (hP _ _ rfl) rfl rfl (Nat.le_of_ble_eq_true rfl) (c_later (by omega) hX hL (by omega) (by omega) ?_)
  · intro M1 f1
    have hC := ci_mk (sx_k2 hX (fun k a b => (f1 k (by omega)).1)) (cl_cg hL (f1 19 (by omega)).1 (f1 20 (by omega)).1 (f1 21 (by omega)).1) (tb_k hT (f1 15 (by omega)).1 (f1 16 (by omega)).1) (hx_cg hH (fun k a b => (f1 k (by omega)))) (kx_cg hK (fun k a b => (f1 k (by omega)).1)) (dx_cg hD (f1 31 (by omega)).1 (f1 32 (by omega)).1) (ok_cg hO (f1 50 (by omega)).1 (f1 51 (by omega)).1 (f1 52 (by omega)).1)
    obtain ⟨gX, gL, gT, gH, gK, gD, gO⟩ := mi_keep hg0 (fun k hk => (f1 k (by omega)))
    refine am_r_aload2 (pc' := 863) (hP _ _ rfl) rfl ?_
    refine am_r_aload0 (pc' := 864) (hP _ _ rfl) rfl ?_
    refine am_r_iload3 (pc' := 865) (hP _ _ rfl) rfl ?_
    refine am_r_iconst (pc' := 866) (hP _ _ rfl) rfl ?_
    refine am_r_iadd (pc' := 867) (hP _ _ rfl) rfl ?_
    refine am_r_iaSv (pc' := 868) (hP _ _ rfl) rfl hL3 e1 ?_
    refine am_r_aload0 (pc' := 869) (hP _ _ rfl) rfl ?_
    refine am_r_iload3 (pc' := 870) (hP _ _ rfl) rfl ?_
    refine am_r_iconst (pc' := 871) (hP _ _ rfl) rfl ?_
    refine am_r_iadd (pc' := 872) (hP _ _ rfl) rfl ?_
    refine am_r_iaSv (pc' := 873) (hP _ _ rfl) rfl hL3 e2 ?_
    refine am_r_invI2 (pc' := 876) (hP _ _ rfl) rfl rfl (Nat.le_of_ble_eq_true rfl) (m_later (by omega) gX gL (by omega) (by omega) ?_)
    · intro M2 f2
      have hG := mi_mk (sm_k gX (fun k i q => (f2.1 k i (by omega) (by omega)))) (lm_k gL (fun k i q => (f2.1 k i (by omega) (by omega)))) (tm_k gT (fun k i q => (f2.1 k i (by omega) (by omega)))) (hm_k2 gH (fun k i q => (f2.1 k i (by omega) (by omega))) (by rw [f2.2])) (km_k gK (fun k i q => (f2.1 k i (by omega) (by omega)))) (dm_k gD (fun k i q => (f2.1 k i (by omega) (by omega)))) (qm_k2 gO (fun k i q => (f2.1 k i (by omega) (by omega))))
      have hC2 := ci_keep hC (fun k hk => ⟨funext fun i => (f2.1 k i (by omega) (by omega)), by rw [f2.2]⟩)
      refine am_r_eqs (pt := 1753) (hP _ _ rfl) rfl ?_
      exact hq _ (inv_mk hC2 hG hN hl)
def am_pLc19 : Am_p := [(881, 1, .aload 1, .aload 1, 0), (882, 1, .aload 0, .aload 0, 0), (883, 1, .iload 3, .iload 3, 0), (884, 1, .iconst 1, .iconst 1, 0), (885, 1, .iadd, .iadd, 0), (886, 1, .iaload, .iaload, 0), (887, 1, .aload 0, .aload 0, 0), (888, 1, .iload 3, .iload 3, 0), (889, 1, .iconst 2, .iconst 2, 0), (890, 1, .iadd, .iadd, 0), (891, 1, .iaload, .iaload, 0), (892, 3, .invokevirtual 126, .invokevirtual 126, 0), (895, 1, .aload 2, .aload 2, 0), (896, 1, .aload 0, .aload 0, 0), (897, 1, .iload 3, .iload 3, 0), (898, 1, .iconst 1, .iconst 1, 0), (899, 1, .iadd, .iadd, 0), (900, 1, .iaload, .iaload, 0), (901, 1, .aload 0, .aload 0, 0), (902, 1, .iload 3, .iload 3, 0), (903, 1, .iconst 2, .iconst 2, 0), (904, 1, .iadd, .iadd, 0), (905, 1, .iaload, .iaload, 0), (906, 3, .invokevirtual 220, .invokevirtual 220, 0), (909, 3, .if_icmp .eq 1753, .if_icmp .eq 1753, 0), (912, 1, .iconst 0, .iconst 0, 0), (913, 1, .ireturn, .ireturn, 0)]
theorem lw_c19 {sL : Nat} {xs : Nat → Int32} {d : Nat} {M : Am_M} {P : Am_p} {Q : Option Value → Am_M → Prop} (hd : 60 ≤ d) (hP : ∀ pc r, am_lk am_pLc19 pc = some r → am_lk P pc = some r) (hL3 : sL ≤ 3072) {i : Int} (hi : 0 ≤ i ∧ i + 6 ≤ sL) (hI : Inv M) (hq : ∀ M', Inv M' → am_rw sL xs d P 2 1753 [.ref 900, .ref 0, .ref 53, .int (z_I i)] [] M' Q) : am_rw sL xs d P 2 881 [.ref 900, .ref 0, .ref 53, .int (z_I i)] [] M Q := by
  obtain ⟨σ, χ, c, t, η, ε, δ, κ, m, l, ⟨hX, hL, hT, hH, hK, hD, hO⟩, hg0, hN, hl⟩ := hI
  obtain ⟨a1, h1, e1⟩ := z_of (xs (i + 1).toNat)
  obtain ⟨a2, h2, e2⟩ := z_of (xs (i + 2).toNat)
  refine am_r_aload1 (pc' := 882) (hP _ _ rfl) rfl ?_
  refine am_r_aload0 (pc' := 883) (hP _ _ rfl) rfl ?_
  refine am_r_iload3 (pc' := 884) (hP _ _ rfl) rfl ?_
  refine am_r_iconst (pc' := 885) (hP _ _ rfl) rfl ?_
  refine am_r_iadd (pc' := 886) (hP _ _ rfl) rfl ?_
  refine am_r_iaSv (pc' := 887) (hP _ _ rfl) rfl hL3 e1 ?_
  refine am_r_aload0 (pc' := 888) (hP _ _ rfl) rfl ?_
  refine am_r_iload3 (pc' := 889) (hP _ _ rfl) rfl ?_
  refine am_r_iconst (pc' := 890) (hP _ _ rfl) rfl ?_
  refine am_r_iadd (pc' := 891) (hP _ _ rfl) rfl ?_
  refine am_r_iaSv (pc' := 892) (hP _ _ rfl) rfl hL3 e2 ?_
  refine am_r_invI2 (pc' := 895) (hP _ _ rfl) rfl rfl (Nat.le_of_ble_eq_true rfl) (c_pushes (by omega) hX hL (by omega) (by omega) ?_)
  · intro M1 f1
    have hC := ci_mk (sx_k2 hX (fun k a b => (f1 k (by omega)).1)) (cl_cg hL (f1 19 (by omega)).1 (f1 20 (by omega)).1 (f1 21 (by omega)).1) (tb_k hT (f1 15 (by omega)).1 (f1 16 (by omega)).1) (hx_cg hH (fun k a b => (f1 k (by omega)))) (kx_cg hK (fun k a b => (f1 k (by omega)).1)) (dx_cg hD (f1 31 (by omega)).1 (f1 32 (by omega)).1) (ok_cg hO (f1 50 (by omega)).1 (f1 51 (by omega)).1 (f1 52 (by omega)).1)
    obtain ⟨gX, gL, gT, gH, gK, gD, gO⟩ := mi_keep hg0 (fun k hk => (f1 k (by omega)))
    refine am_r_aload2 (pc' := 896) (hP _ _ rfl) rfl ?_
    refine am_r_aload0 (pc' := 897) (hP _ _ rfl) rfl ?_
    refine am_r_iload3 (pc' := 898) (hP _ _ rfl) rfl ?_
    refine am_r_iconst (pc' := 899) (hP _ _ rfl) rfl ?_
    refine am_r_iadd (pc' := 900) (hP _ _ rfl) rfl ?_
    refine am_r_iaSv (pc' := 901) (hP _ _ rfl) rfl hL3 e1 ?_
    refine am_r_aload0 (pc' := 902) (hP _ _ rfl) rfl ?_
    refine am_r_iload3 (pc' := 903) (hP _ _ rfl) rfl ?_
    refine am_r_iconst (pc' := 904) (hP _ _ rfl) rfl ?_
    refine am_r_iadd (pc' := 905) (hP _ _ rfl) rfl ?_
    refine am_r_iaSv (pc' := 906) (hP _ _ rfl) rfl hL3 e2 ?_
    refine am_r_invI2 (pc' := 909) (hP _ _ rfl) rfl rfl (Nat.le_of_ble_eq_true rfl) (m_pushes (by omega) gX gL (by omega) (by omega) ?_)
    · intro M2 f2
      have hG := mi_mk (sm_k gX (fun k i q => (f2.1 k i (by omega) (by omega)))) (lm_k gL (fun k i q => (f2.1 k i (by omega) (by omega)))) (tm_k gT (fun k i q => (f2.1 k i (by omega) (by omega)))) (hm_k2 gH (fun k i q => (f2.1 k i (by omega) (by omega))) (by rw [f2.2])) (km_k gK (fun k i q => (f2.1 k i (by omega) (by omega)))) (dm_k gD (fun k i q => (f2.1 k i (by omega) (by omega)))) (qm_k2 gO (fun k i q => (f2.1 k i (by omega) (by omega))))
      have hC2 := ci_keep hC (fun k hk => ⟨funext fun i => (f2.1 k i (by omega) (by omega)), by rw [f2.2]⟩)
      refine am_r_eqs (pt := 1753) (hP _ _ rfl) rfl ?_
      exact hq _ (inv_mk hC2 hG hN hl)
def am_pLc20 : Am_p := [(914, 1, .aload 1, .aload 1, 0), (915, 1, .aload 0, .aload 0, 0), (916, 1, .iload 3, .iload 3, 0), (917, 1, .iconst 1, .iconst 1, 0), (918, 1, .iadd, .iadd, 0), (919, 1, .iaload, .iaload, 0), (920, 1, .aload 0, .aload 0, 0), (921, 1, .iload 3, .iload 3, 0), (922, 1, .iconst 2, .iconst 2, 0), (923, 1, .iadd, .iadd, 0), (924, 1, .iaload, .iaload, 0), (925, 3, .invokevirtual 127, .invokevirtual 127, 0), (928, 1, .aload 2, .aload 2, 0), (929, 1, .aload 0, .aload 0, 0), (930, 1, .iload 3, .iload 3, 0), (931, 1, .iconst 1, .iconst 1, 0), (932, 1, .iadd, .iadd, 0), (933, 1, .iaload, .iaload, 0), (934, 1, .aload 0, .aload 0, 0), (935, 1, .iload 3, .iload 3, 0), (936, 1, .iconst 2, .iconst 2, 0), (937, 1, .iadd, .iadd, 0), (938, 1, .iaload, .iaload, 0), (939, 3, .invokevirtual 221, .invokevirtual 221, 0), (942, 3, .if_icmp .eq 1753, .if_icmp .eq 1753, 0), (945, 1, .iconst 0, .iconst 0, 0), (946, 1, .ireturn, .ireturn, 0)]
theorem lw_c20 {sL : Nat} {xs : Nat → Int32} {d : Nat} {M : Am_M} {P : Am_p} {Q : Option Value → Am_M → Prop} (hd : 60 ≤ d) (hP : ∀ pc r, am_lk am_pLc20 pc = some r → am_lk P pc = some r) (hL3 : sL ≤ 3072) {i : Int} (hi : 0 ≤ i ∧ i + 6 ≤ sL) (hI : Inv M) (hq : ∀ M', Inv M' → am_rw sL xs d P 2 1753 [.ref 900, .ref 0, .ref 53, .int (z_I i)] [] M' Q) : am_rw sL xs d P 2 914 [.ref 900, .ref 0, .ref 53, .int (z_I i)] [] M Q := by
  obtain ⟨σ, χ, c, t, η, ε, δ, κ, m, l, ⟨hX, hL, hT, hH, hK, hD, hO⟩, hg0, hN, hl⟩ := hI
  obtain ⟨a1, h1, e1⟩ := z_of (xs (i + 1).toNat)
  obtain ⟨a2, h2, e2⟩ := z_of (xs (i + 2).toNat)
  refine am_r_aload1 (pc' := 915) (hP _ _ rfl) rfl ?_
  refine am_r_aload0 (pc' := 916) (hP _ _ rfl) rfl ?_
  refine am_r_iload3 (pc' := 917) (hP _ _ rfl) rfl ?_
  refine am_r_iconst (pc' := 918) (hP _ _ rfl) rfl ?_
  refine am_r_iadd (pc' := 919) (hP _ _ rfl) rfl ?_
  refine am_r_iaSv (pc' := 920) (hP _ _ rfl) rfl hL3 e1 ?_
  refine am_r_aload0 (pc' := 921) (hP _ _ rfl) rfl ?_
  refine am_r_iload3 (pc' := 922) (hP _ _ rfl) rfl ?_
  refine am_r_iconst (pc' := 923) (hP _ _ rfl) rfl ?_
  refine am_r_iadd (pc' := 924) (hP _ _ rfl) rfl ?_
  refine am_r_iaSv (pc' := 925) (hP _ _ rfl) rfl hL3 e2 ?_
  refine am_r_invI2 (pc' := 928) (hP _ _ rfl) rfl rfl (Nat.le_of_ble_eq_true rfl) (c_met (by omega) hX hL (by omega) (by omega) ?_)
  · intro M1 f1
    have hC := ci_mk (sx_k2 hX (fun k a b => (f1 k (by omega)).1)) (cl_cg hL (f1 19 (by omega)).1 (f1 20 (by omega)).1 (f1 21 (by omega)).1) (tb_k hT (f1 15 (by omega)).1 (f1 16 (by omega)).1) (hx_cg hH (fun k a b => (f1 k (by omega)))) (kx_cg hK (fun k a b => (f1 k (by omega)).1)) (dx_cg hD (f1 31 (by omega)).1 (f1 32 (by omega)).1) (ok_cg hO (f1 50 (by omega)).1 (f1 51 (by omega)).1 (f1 52 (by omega)).1)
    obtain ⟨gX, gL, gT, gH, gK, gD, gO⟩ := mi_keep hg0 (fun k hk => (f1 k (by omega)))
    refine am_r_aload2 (pc' := 929) (hP _ _ rfl) rfl ?_
    refine am_r_aload0 (pc' := 930) (hP _ _ rfl) rfl ?_
    refine am_r_iload3 (pc' := 931) (hP _ _ rfl) rfl ?_
    refine am_r_iconst (pc' := 932) (hP _ _ rfl) rfl ?_
    refine am_r_iadd (pc' := 933) (hP _ _ rfl) rfl ?_
    refine am_r_iaSv (pc' := 934) (hP _ _ rfl) rfl hL3 e1 ?_
    refine am_r_aload0 (pc' := 935) (hP _ _ rfl) rfl ?_
    refine am_r_iload3 (pc' := 936) (hP _ _ rfl) rfl ?_
    refine am_r_iconst (pc' := 937) (hP _ _ rfl) rfl ?_
    refine am_r_iadd (pc' := 938) (hP _ _ rfl) rfl ?_
    refine am_r_iaSv (pc' := 939) (hP _ _ rfl) rfl hL3 e2 ?_
    refine am_r_invI2 (pc' := 942) (hP _ _ rfl) rfl rfl (Nat.le_of_ble_eq_true rfl) (m_met (by omega) gX gL (by omega) (by omega) ?_)
    · intro M2 f2
      have hG := mi_mk (sm_k gX (fun k i q => (f2.1 k i (by omega) (by omega)))) (lm_k gL (fun k i q => (f2.1 k i (by omega) (by omega)))) (tm_k gT (fun k i q => (f2.1 k i (by omega) (by omega)))) (hm_k2 gH (fun k i q => (f2.1 k i (by omega) (by omega))) (by rw [f2.2])) (km_k gK (fun k i q => (f2.1 k i (by omega) (by omega)))) (dm_k gD (fun k i q => (f2.1 k i (by omega) (by omega)))) (qm_k2 gO (fun k i q => (f2.1 k i (by omega) (by omega))))
      have hC2 := ci_keep hC (fun k hk => ⟨funext fun i => (f2.1 k i (by omega) (by omega)), by rw [f2.2]⟩)
      refine am_r_eqs (pt := 1753) (hP _ _ rfl) rfl ?_
      exact hq _ (inv_mk hC2 hG hN hl)
def am_pLc21 : Am_p := [(947, 1, .aload 1, .aload 1, 0), (948, 1, .aload 0, .aload 0, 0), (949, 1, .iload 3, .iload 3, 0), (950, 1, .iconst 1, .iconst 1, 0), (951, 1, .iadd, .iadd, 0), (952, 1, .iaload, .iaload, 0), (953, 3, .invokevirtual 128, .invokevirtual 128, 0), (956, 1, .aload 2, .aload 2, 0), (957, 1, .aload 0, .aload 0, 0), (958, 1, .iload 3, .iload 3, 0), (959, 1, .iconst 1, .iconst 1, 0), (960, 1, .iadd, .iadd, 0), (961, 1, .iaload, .iaload, 0), (962, 3, .invokevirtual 223, .invokevirtual 223, 0), (965, 3, .if_icmp .eq 1753, .if_icmp .eq 1753, 0), (968, 1, .iconst 0, .iconst 0, 0), (969, 1, .ireturn, .ireturn, 0)]
theorem lw_c21 {sL : Nat} {xs : Nat → Int32} {d : Nat} {M : Am_M} {P : Am_p} {Q : Option Value → Am_M → Prop} (hd : 60 ≤ d) (hP : ∀ pc r, am_lk am_pLc21 pc = some r → am_lk P pc = some r) (hL3 : sL ≤ 3072) {i : Int} (hi : 0 ≤ i ∧ i + 6 ≤ sL) (hI : Inv M) (hq : ∀ M', Inv M' → am_rw sL xs d P 2 1753 [.ref 900, .ref 0, .ref 53, .int (z_I i)] [] M' Q) : am_rw sL xs d P 2 947 [.ref 900, .ref 0, .ref 53, .int (z_I i)] [] M Q := by
  obtain ⟨σ, χ, c, t, η, ε, δ, κ, m, l, ⟨hX, hL, hT, hH, hK, hD, hO⟩, hg0, hN, hl⟩ := hI
  obtain ⟨a1, h1, e1⟩ := z_of (xs (i + 1).toNat)
  refine am_r_aload1 (pc' := 948) (hP _ _ rfl) rfl ?_
  refine am_r_aload0 (pc' := 949) (hP _ _ rfl) rfl ?_
  refine am_r_iload3 (pc' := 950) (hP _ _ rfl) rfl ?_
  refine am_r_iconst (pc' := 951) (hP _ _ rfl) rfl ?_
  refine am_r_iadd (pc' := 952) (hP _ _ rfl) rfl ?_
  refine am_r_iaSv (pc' := 953) (hP _ _ rfl) rfl hL3 e1 ?_
  refine am_r_invI1 (pc' := 956) (hP _ _ rfl) rfl rfl (Nat.le_of_ble_eq_true rfl) (c_again (by omega) hX hL (by omega) ?_)
  · intro M1 f1
    have hC := ci_mk (sx_k2 hX (fun k a b => (f1 k (by omega)).1)) (cl_cg hL (f1 19 (by omega)).1 (f1 20 (by omega)).1 (f1 21 (by omega)).1) (tb_k hT (f1 15 (by omega)).1 (f1 16 (by omega)).1) (hx_cg hH (fun k a b => (f1 k (by omega)))) (kx_cg hK (fun k a b => (f1 k (by omega)).1)) (dx_cg hD (f1 31 (by omega)).1 (f1 32 (by omega)).1) (ok_cg hO (f1 50 (by omega)).1 (f1 51 (by omega)).1 (f1 52 (by omega)).1)
    obtain ⟨gX, gL, gT, gH, gK, gD, gO⟩ := mi_keep hg0 (fun k hk => (f1 k (by omega)))
    refine am_r_aload2 (pc' := 957) (hP _ _ rfl) rfl ?_
    refine am_r_aload0 (pc' := 958) (hP _ _ rfl) rfl ?_
    refine am_r_iload3 (pc' := 959) (hP _ _ rfl) rfl ?_
    refine am_r_iconst (pc' := 960) (hP _ _ rfl) rfl ?_
    refine am_r_iadd (pc' := 961) (hP _ _ rfl) rfl ?_
    refine am_r_iaSv (pc' := 962) (hP _ _ rfl) rfl hL3 e1 ?_
    refine am_r_invI1 (pc' := 965) (hP _ _ rfl) rfl rfl (Nat.le_of_ble_eq_true rfl) (m_again (by omega) gX gL (by omega) ?_)
    · intro M2 f2
      have hG := mi_mk (sm_k gX (fun k i q => (f2.1 k i (by omega) (by omega)))) (lm_k gL (fun k i q => (f2.1 k i (by omega) (by omega)))) (tm_k gT (fun k i q => (f2.1 k i (by omega) (by omega)))) (hm_k2 gH (fun k i q => (f2.1 k i (by omega) (by omega))) (by rw [f2.2])) (km_k gK (fun k i q => (f2.1 k i (by omega) (by omega)))) (dm_k gD (fun k i q => (f2.1 k i (by omega) (by omega)))) (qm_k2 gO (fun k i q => (f2.1 k i (by omega) (by omega))))
      have hC2 := ci_keep hC (fun k hk => ⟨funext fun i => (f2.1 k i (by omega) (by omega)), by rw [f2.2]⟩)
      refine am_r_eqs (pt := 1753) (hP _ _ rfl) rfl ?_
      exact hq _ (inv_mk hC2 hG hN hl)
def am_pLc22 : Am_p := [(970, 1, .aload 1, .aload 1, 0), (971, 1, .aload 0, .aload 0, 0), (972, 1, .iload 3, .iload 3, 0), (973, 1, .iconst 1, .iconst 1, 0), (974, 1, .iadd, .iadd, 0), (975, 1, .iaload, .iaload, 0), (976, 1, .aload 0, .aload 0, 0), (977, 1, .iload 3, .iload 3, 0), (978, 1, .iconst 2, .iconst 2, 0), (979, 1, .iadd, .iadd, 0), (980, 1, .iaload, .iaload, 0), (981, 3, .invokevirtual 129, .invokevirtual 129, 0), (984, 1, .aload 2, .aload 2, 0), (985, 1, .aload 0, .aload 0, 0), (986, 1, .iload 3, .iload 3, 0), (987, 1, .iconst 1, .iconst 1, 0), (988, 1, .iadd, .iadd, 0), (989, 1, .iaload, .iaload, 0), (990, 1, .aload 0, .aload 0, 0), (991, 1, .iload 3, .iload 3, 0), (992, 1, .iconst 2, .iconst 2, 0), (993, 1, .iadd, .iadd, 0), (994, 1, .iaload, .iaload, 0), (995, 3, .invokevirtual 226, .invokevirtual 226, 0), (998, 3, .if_icmp .eq 1753, .if_icmp .eq 1753, 0), (1001, 1, .iconst 0, .iconst 0, 0), (1002, 1, .ireturn, .ireturn, 0)]
theorem lw_c22 {sL : Nat} {xs : Nat → Int32} {d : Nat} {M : Am_M} {P : Am_p} {Q : Option Value → Am_M → Prop} (hd : 60 ≤ d) (hP : ∀ pc r, am_lk am_pLc22 pc = some r → am_lk P pc = some r) (hL3 : sL ≤ 3072) {i : Int} (hi : 0 ≤ i ∧ i + 6 ≤ sL) (hI : Inv M) (hq : ∀ M', Inv M' → am_rw sL xs d P 2 1753 [.ref 900, .ref 0, .ref 53, .int (z_I i)] [] M' Q) : am_rw sL xs d P 2 970 [.ref 900, .ref 0, .ref 53, .int (z_I i)] [] M Q := by
  obtain ⟨σ, χ, c, t, η, ε, δ, κ, m, l, ⟨hX, hL, hT, hH, hK, hD, hO⟩, hg0, hN, hl⟩ := hI
  obtain ⟨a1, h1, e1⟩ := z_of (xs (i + 1).toNat)
  obtain ⟨a2, h2, e2⟩ := z_of (xs (i + 2).toNat)
  refine am_r_aload1 (pc' := 971) (hP _ _ rfl) rfl ?_
  refine am_r_aload0 (pc' := 972) (hP _ _ rfl) rfl ?_
  refine am_r_iload3 (pc' := 973) (hP _ _ rfl) rfl ?_
  refine am_r_iconst (pc' := 974) (hP _ _ rfl) rfl ?_
  refine am_r_iadd (pc' := 975) (hP _ _ rfl) rfl ?_
  refine am_r_iaSv (pc' := 976) (hP _ _ rfl) rfl hL3 e1 ?_
  refine am_r_aload0 (pc' := 977) (hP _ _ rfl) rfl ?_
  refine am_r_iload3 (pc' := 978) (hP _ _ rfl) rfl ?_
  refine am_r_iconst (pc' := 979) (hP _ _ rfl) rfl ?_
  refine am_r_iadd (pc' := 980) (hP _ _ rfl) rfl ?_
  refine am_r_iaSv (pc' := 981) (hP _ _ rfl) rfl hL3 e2 ?_
  refine am_r_invI2 (pc' := 984) (hP _ _ rfl) rfl rfl (Nat.le_of_ble_eq_true rfl) (c_judge (by omega) hX hL hH (by omega) (by omega) ?_)
  · intro M1 f1
    have hC := ci_mk (sx_k2 hX (fun k a b => (f1 k (by omega)).1)) (cl_cg hL (f1 19 (by omega)).1 (f1 20 (by omega)).1 (f1 21 (by omega)).1) (tb_k hT (f1 15 (by omega)).1 (f1 16 (by omega)).1) (hx_cg hH (fun k a b => (f1 k (by omega)))) (kx_cg hK (fun k a b => (f1 k (by omega)).1)) (dx_cg hD (f1 31 (by omega)).1 (f1 32 (by omega)).1) (ok_cg hO (f1 50 (by omega)).1 (f1 51 (by omega)).1 (f1 52 (by omega)).1)
    obtain ⟨gX, gL, gT, gH, gK, gD, gO⟩ := mi_keep hg0 (fun k hk => (f1 k (by omega)))
    refine am_r_aload2 (pc' := 985) (hP _ _ rfl) rfl ?_
    refine am_r_aload0 (pc' := 986) (hP _ _ rfl) rfl ?_
    refine am_r_iload3 (pc' := 987) (hP _ _ rfl) rfl ?_
    refine am_r_iconst (pc' := 988) (hP _ _ rfl) rfl ?_
    refine am_r_iadd (pc' := 989) (hP _ _ rfl) rfl ?_
    refine am_r_iaSv (pc' := 990) (hP _ _ rfl) rfl hL3 e1 ?_
    refine am_r_aload0 (pc' := 991) (hP _ _ rfl) rfl ?_
    refine am_r_iload3 (pc' := 992) (hP _ _ rfl) rfl ?_
    refine am_r_iconst (pc' := 993) (hP _ _ rfl) rfl ?_
    refine am_r_iadd (pc' := 994) (hP _ _ rfl) rfl ?_
    refine am_r_iaSv (pc' := 995) (hP _ _ rfl) rfl hL3 e2 ?_
    refine am_r_invI2 (pc' := 998) (hP _ _ rfl) rfl rfl (Nat.le_of_ble_eq_true rfl) (m_judge (by omega) gX gL gH (by omega) (by omega) ?_)
    · intro M2 f2
      have hG := mi_mk (sm_k gX (fun k i q => (f2.1 k i (by omega) (by omega)))) (lm_k gL (fun k i q => (f2.1 k i (by omega) (by omega)))) (tm_k gT (fun k i q => (f2.1 k i (by omega) (by omega)))) (hm_k2 gH (fun k i q => (f2.1 k i (by omega) (by omega))) (by rw [f2.2])) (km_k gK (fun k i q => (f2.1 k i (by omega) (by omega)))) (dm_k gD (fun k i q => (f2.1 k i (by omega) (by omega)))) (qm_k2 gO (fun k i q => (f2.1 k i (by omega) (by omega))))
      have hC2 := ci_keep hC (fun k hk => ⟨funext fun i => (f2.1 k i (by omega) (by omega)), by rw [f2.2]⟩)
      refine am_r_eqs (pt := 1753) (hP _ _ rfl) rfl ?_
      exact hq _ (inv_mk hC2 hG hN hl)
def am_pLc23 : Am_p := [(1003, 1, .aload 1, .aload 1, 0), (1004, 1, .aload 0, .aload 0, 0), (1005, 1, .iload 3, .iload 3, 0), (1006, 1, .iconst 1, .iconst 1, 0), (1007, 1, .iadd, .iadd, 0), (1008, 1, .iaload, .iaload, 0), (1009, 1, .aload 0, .aload 0, 0), (1010, 1, .iload 3, .iload 3, 0), (1011, 1, .iconst 2, .iconst 2, 0), (1012, 1, .iadd, .iadd, 0), (1013, 1, .iaload, .iaload, 0), (1014, 1, .aload 0, .aload 0, 0), (1015, 1, .iload 3, .iload 3, 0), (1016, 1, .iconst 3, .iconst 3, 0), (1017, 1, .iadd, .iadd, 0), (1018, 1, .iaload, .iaload, 0), (1019, 1, .aload 0, .aload 0, 0), (1020, 1, .iload 3, .iload 3, 0), (1021, 1, .iconst 4, .iconst 4, 0), (1022, 1, .iadd, .iadd, 0), (1023, 1, .iaload, .iaload, 0), (1024, 3, .invokevirtual 130, .invokevirtual 130, 0), (1027, 1, .aload 2, .aload 2, 0), (1028, 1, .aload 0, .aload 0, 0), (1029, 1, .iload 3, .iload 3, 0), (1030, 1, .iconst 1, .iconst 1, 0), (1031, 1, .iadd, .iadd, 0), (1032, 1, .iaload, .iaload, 0), (1033, 1, .aload 0, .aload 0, 0), (1034, 1, .iload 3, .iload 3, 0), (1035, 1, .iconst 2, .iconst 2, 0), (1036, 1, .iadd, .iadd, 0), (1037, 1, .iaload, .iaload, 0), (1038, 1, .aload 0, .aload 0, 0), (1039, 1, .iload 3, .iload 3, 0), (1040, 1, .iconst 3, .iconst 3, 0), (1041, 1, .iadd, .iadd, 0), (1042, 1, .iaload, .iaload, 0), (1043, 1, .aload 0, .aload 0, 0), (1044, 1, .iload 3, .iload 3, 0), (1045, 1, .iconst 4, .iconst 4, 0), (1046, 1, .iadd, .iadd, 0), (1047, 1, .iaload, .iaload, 0), (1048, 3, .invokevirtual 227, .invokevirtual 227, 0), (1051, 3, .if_icmp .eq 1753, .if_icmp .eq 1753, 0), (1054, 1, .iconst 0, .iconst 0, 0), (1055, 1, .ireturn, .ireturn, 0)]
theorem lw_c23 {sL : Nat} {xs : Nat → Int32} {d : Nat} {M : Am_M} {P : Am_p} {Q : Option Value → Am_M → Prop} (hd : 60 ≤ d) (hP : ∀ pc r, am_lk am_pLc23 pc = some r → am_lk P pc = some r) (hL3 : sL ≤ 3072) {i : Int} (hi : 0 ≤ i ∧ i + 6 ≤ sL) (hI : Inv M) (hq : ∀ M', Inv M' → am_rw sL xs d P 2 1753 [.ref 900, .ref 0, .ref 53, .int (z_I i)] [] M' Q) : am_rw sL xs d P 2 1003 [.ref 900, .ref 0, .ref 53, .int (z_I i)] [] M Q := by
  obtain ⟨σ, χ, c, t, η, ε, δ, κ, m, l, ⟨hX, hL, hT, hH, hK, hD, hO⟩, hg0, hN, hl⟩ := hI
  obtain ⟨a1, h1, e1⟩ := z_of (xs (i + 1).toNat)
  obtain ⟨a2, h2, e2⟩ := z_of (xs (i + 2).toNat)
  obtain ⟨a3, h3, e3⟩ := z_of (xs (i + 3).toNat)
  obtain ⟨a4, h4, e4⟩ := z_of (xs (i + 4).toNat)
  refine am_r_aload1 (pc' := 1004) (hP _ _ rfl) rfl ?_
  refine am_r_aload0 (pc' := 1005) (hP _ _ rfl) rfl ?_
  refine am_r_iload3 (pc' := 1006) (hP _ _ rfl) rfl ?_
  refine am_r_iconst (pc' := 1007) (hP _ _ rfl) rfl ?_
  refine am_r_iadd (pc' := 1008) (hP _ _ rfl) rfl ?_
  refine am_r_iaSv (pc' := 1009) (hP _ _ rfl) rfl hL3 e1 ?_
  refine am_r_aload0 (pc' := 1010) (hP _ _ rfl) rfl ?_
  refine am_r_iload3 (pc' := 1011) (hP _ _ rfl) rfl ?_
  refine am_r_iconst (pc' := 1012) (hP _ _ rfl) rfl ?_
  refine am_r_iadd (pc' := 1013) (hP _ _ rfl) rfl ?_
  refine am_r_iaSv (pc' := 1014) (hP _ _ rfl) rfl hL3 e2 ?_
  refine am_r_aload0 (pc' := 1015) (hP _ _ rfl) rfl ?_
  refine am_r_iload3 (pc' := 1016) (hP _ _ rfl) rfl ?_
  refine am_r_iconst (pc' := 1017) (hP _ _ rfl) rfl ?_
  refine am_r_iadd (pc' := 1018) (hP _ _ rfl) rfl ?_
  refine am_r_iaSv (pc' := 1019) (hP _ _ rfl) rfl hL3 e3 ?_
  refine am_r_aload0 (pc' := 1020) (hP _ _ rfl) rfl ?_
  refine am_r_iload3 (pc' := 1021) (hP _ _ rfl) rfl ?_
  refine am_r_iconst (pc' := 1022) (hP _ _ rfl) rfl ?_
  refine am_r_iadd (pc' := 1023) (hP _ _ rfl) rfl ?_
  refine am_r_iaSv (pc' := 1024) (hP _ _ rfl) rfl hL3 e4 ?_
  refine am_r_invI4 (pc' := 1027) (hP _ _ rfl) rfl rfl (Nat.le_of_ble_eq_true rfl) (c_liking (by omega) hX hL hH (by omega) (by omega) (by omega) (by omega) ?_)
  · intro M1 f1 xX
    have hC := ci_mk xX (cl_cg hL (f1 19 (by omega) (by omega)).1 (f1 20 (by omega) (by omega)).1 (f1 21 (by omega) (by omega)).1) (tb_k hT (f1 15 (by omega) (by omega)).1 (f1 16 (by omega) (by omega)).1) (hx_cg hH (fun k a b => (f1 k (by omega) (by omega)))) (kx_cg hK (fun k a b => (f1 k (by omega) (by omega)).1)) (dx_cg hD (f1 31 (by omega) (by omega)).1 (f1 32 (by omega) (by omega)).1) (ok_cg hO (f1 50 (by omega) (by omega)).1 (f1 51 (by omega) (by omega)).1 (f1 52 (by omega) (by omega)).1)
    obtain ⟨gX, gL, gT, gH, gK, gD, gO⟩ := mi_keep hg0 (fun k hk => (f1 k (by omega) (by omega)))
    refine am_r_aload2 (pc' := 1028) (hP _ _ rfl) rfl ?_
    refine am_r_aload0 (pc' := 1029) (hP _ _ rfl) rfl ?_
    refine am_r_iload3 (pc' := 1030) (hP _ _ rfl) rfl ?_
    refine am_r_iconst (pc' := 1031) (hP _ _ rfl) rfl ?_
    refine am_r_iadd (pc' := 1032) (hP _ _ rfl) rfl ?_
    refine am_r_iaSv (pc' := 1033) (hP _ _ rfl) rfl hL3 e1 ?_
    refine am_r_aload0 (pc' := 1034) (hP _ _ rfl) rfl ?_
    refine am_r_iload3 (pc' := 1035) (hP _ _ rfl) rfl ?_
    refine am_r_iconst (pc' := 1036) (hP _ _ rfl) rfl ?_
    refine am_r_iadd (pc' := 1037) (hP _ _ rfl) rfl ?_
    refine am_r_iaSv (pc' := 1038) (hP _ _ rfl) rfl hL3 e2 ?_
    refine am_r_aload0 (pc' := 1039) (hP _ _ rfl) rfl ?_
    refine am_r_iload3 (pc' := 1040) (hP _ _ rfl) rfl ?_
    refine am_r_iconst (pc' := 1041) (hP _ _ rfl) rfl ?_
    refine am_r_iadd (pc' := 1042) (hP _ _ rfl) rfl ?_
    refine am_r_iaSv (pc' := 1043) (hP _ _ rfl) rfl hL3 e3 ?_
    refine am_r_aload0 (pc' := 1044) (hP _ _ rfl) rfl ?_
    refine am_r_iload3 (pc' := 1045) (hP _ _ rfl) rfl ?_
    refine am_r_iconst (pc' := 1046) (hP _ _ rfl) rfl ?_
    refine am_r_iadd (pc' := 1047) (hP _ _ rfl) rfl ?_
    refine am_r_iaSv (pc' := 1048) (hP _ _ rfl) rfl hL3 e4 ?_
    refine am_r_invI4 (pc' := 1051) (hP _ _ rfl) rfl rfl (Nat.le_of_ble_eq_true rfl) (m_liking (by omega) gX gL gH (by omega) (by omega) (by omega) (by omega) ?_)
    · intro M2 f2 yX
      have hG := mi_mk yX (lm_k gL (fun k i q => (f2.1 k i (by omega) (by omega) (by omega)))) (tm_k gT (fun k i q => (f2.1 k i (by omega) (by omega) (by omega)))) (hm_k2 gH (fun k i q => (f2.1 k i (by omega) (by omega) (by omega))) (by rw [f2.2])) (km_k gK (fun k i q => (f2.1 k i (by omega) (by omega) (by omega)))) (dm_k gD (fun k i q => (f2.1 k i (by omega) (by omega) (by omega)))) (qm_k2 gO (fun k i q => (f2.1 k i (by omega) (by omega) (by omega))))
      have hC2 := ci_keep hC (fun k hk => ⟨funext fun i => (f2.1 k i (by omega) (by omega) (by omega)), by rw [f2.2]⟩)
      refine am_r_eqs (pt := 1753) (hP _ _ rfl) rfl ?_
      exact hq _ (inv_mk hC2 hG hN hl)
