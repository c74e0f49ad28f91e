/-! THE LAW, what it asks, 0 and on -/
def am_pLc0 : Am_p := [(232, 1, .aload 1, .aload 1, 0), (233, 1, .aload 0, .aload 0, 0), (234, 1, .iload 3, .iload 3, 0), (235, 1, .iconst 1, .iconst 1, 0), (236, 1, .iadd, .iadd, 0), (237, 1, .iaload, .iaload, 0), (238, 1, .aload 0, .aload 0, 0), (239, 1, .iload 3, .iload 3, 0), (240, 1, .iconst 2, .iconst 2, 0), (241, 1, .iadd, .iadd, 0), (242, 1, .iaload, .iaload, 0), (243, 3, .invokevirtual 107, .invokevirtual 107, 0), (246, 1, .aload 2, .aload 2, 0), (247, 1, .aload 0, .aload 0, 0), (248, 1, .iload 3, .iload 3, 0), (249, 1, .iconst 1, .iconst 1, 0), (250, 1, .iadd, .iadd, 0), (251, 1, .iaload, .iaload, 0), (252, 1, .aload 0, .aload 0, 0), (253, 1, .iload 3, .iload 3, 0), (254, 1, .iconst 2, .iconst 2, 0), (255, 1, .iadd, .iadd, 0), (256, 1, .iaload, .iaload, 0), (257, 3, .invokevirtual 168, .invokevirtual 168, 0), (260, 3, .if_icmp .eq 1753, .if_icmp .eq 1753, 0), (263, 1, .iconst 0, .iconst 0, 0), (264, 1, .ireturn, .ireturn, 0)]
theorem lw_c0 {sL : Nat} {xs : Nat → Int32} {d : Nat} {M : Am_M} {P : Am_p} {Q : Option Value → Am_M → Prop} (hd : 60 ≤ d) (hP : ∀ pc r, am_lk am_pLc0 pc = some r → am_lk P pc = some r) (hL3 : sL ≤ 3072) {i : Int} (hi : 0 ≤ i ∧ i + 6 ≤ sL) (hI : Inv M) (hq : ∀ M', Inv M' → am_rw sL xs d P 2 1753 [.ref 900, .ref 0, .ref 53, .int (z_I i)] [] M' Q) : am_rw sL xs d P 2 232 [.ref 900, .ref 0, .ref 53, .int (z_I i)] [] M Q := by
  obtain ⟨σ, χ, c, t, η, ε, δ, κ, m, l, ⟨hX, hL, hT, hH, hK, hD, hO⟩, hg0, hN, hl⟩ := hI
  obtain ⟨a1, h1, e1⟩ := z_of (xs (i + 1).toNat)
  obtain ⟨a2, h2, e2⟩ := z_of (xs (i + 2).toNat)
  refine am_r_aload1 (pc' := 233) (hP _ _ rfl) rfl ?_
  refine am_r_aload0 (pc' := 234) (hP _ _ rfl) rfl ?_
  refine am_r_iload3 (pc' := 235) (hP _ _ rfl) rfl ?_
  refine am_r_iconst (pc' := 236) (hP _ _ rfl) rfl ?_
  refine am_r_iadd (pc' := 237) (hP _ _ rfl) rfl ?_
  refine am_r_iaSv (pc' := 238) (hP _ _ rfl) rfl hL3 e1 ?_
  refine am_r_aload0 (pc' := 239) (hP _ _ rfl) rfl ?_
  refine am_r_iload3 (pc' := 240) (hP _ _ rfl) rfl ?_
  refine am_r_iconst (pc' := 241) (hP _ _ rfl) rfl ?_
  refine am_r_iadd (pc' := 242) (hP _ _ rfl) rfl ?_
  refine am_r_iaSv (pc' := 243) (hP _ _ rfl) rfl hL3 e2 ?_
  refine am_r_invI2 (pc' := 246) (hP _ _ rfl) rfl rfl (Nat.le_of_ble_eq_true rfl) (c_orb (by omega) hX (by omega) (by omega) ?_)
  · intro M1 f1 xX
    have hC := ci_mk xX (cl_cg hL (f1 19 (by omega)).1 (f1 20 (by omega)).1 (f1 21 (by omega)).1) (tb_k hT (f1 15 (by omega)).1 (f1 16 (by omega)).1) (hx_cg hH (fun k a b => (f1 k (by omega)))) (kx_sg (kx_cg hK (fun k a b => (f1 k (by omega)).1)) su_orb.1 su_orb.2) (dx_sg (dx_cg hD (f1 31 (by omega)).1 (f1 32 (by omega)).1) su_orb.1 su_orb.2) (ok_cg hO (f1 50 (by omega)).1 (f1 51 (by omega)).1 (f1 52 (by omega)).1)
    obtain ⟨gX, gL, gT, gH, gK, gD, gO⟩ := mi_keep hg0 (fun k hk => (f1 k (by omega)))
    refine am_r_aload2 (pc' := 247) (hP _ _ rfl) rfl ?_
    refine am_r_aload0 (pc' := 248) (hP _ _ rfl) rfl ?_
    refine am_r_iload3 (pc' := 249) (hP _ _ rfl) rfl ?_
    refine am_r_iconst (pc' := 250) (hP _ _ rfl) rfl ?_
    refine am_r_iadd (pc' := 251) (hP _ _ rfl) rfl ?_
    refine am_r_iaSv (pc' := 252) (hP _ _ rfl) rfl hL3 e1 ?_
    refine am_r_aload0 (pc' := 253) (hP _ _ rfl) rfl ?_
    refine am_r_iload3 (pc' := 254) (hP _ _ rfl) rfl ?_
    refine am_r_iconst (pc' := 255) (hP _ _ rfl) rfl ?_
    refine am_r_iadd (pc' := 256) (hP _ _ rfl) rfl ?_
    refine am_r_iaSv (pc' := 257) (hP _ _ rfl) rfl hL3 e2 ?_
    refine am_r_invI2 (pc' := 260) (hP _ _ rfl) rfl rfl (Nat.le_of_ble_eq_true rfl) (m_orb (by omega) gX (by omega) (by omega) ?_)
    · intro M2 f2 yX
      have hG := mi_mk yX (lm_k gL (fun k i q => (f2.1 k i (by omega) (by omega) (by omega)))) (tm_k gT (fun k i q => (f2.1 k i (by omega) (by omega) (by omega)))) (hm_k2 gH (fun k i q => (f2.1 k i (by omega) (by omega) (by omega))) (by rw [f2.2])) (km_sg (km_k gK (fun k i q => (f2.1 k i (by omega) (by omega) (by omega)))) su_orb.1 su_orb.2) (dm_sg (dm_k gD (fun k i q => (f2.1 k i (by omega) (by omega) (by omega)))) su_orb.1 su_orb.2) (qm_k2 gO (fun k i q => (f2.1 k i (by omega) (by omega) (by omega))))
      have hC2 := ci_keep hC (fun k hk => ⟨funext fun i => (f2.1 k i (by omega) (by omega) (by omega)), by rw [f2.2]⟩)
      refine am_r_eqs (pt := 1753) (hP _ _ rfl) rfl ?_
      exact hq _ (inv_mk hC2 hG hN hl)
def am_pLc1 : Am_p := [(265, 1, .aload 1, .aload 1, 0), (266, 1, .aload 0, .aload 0, 0), (267, 1, .iload 3, .iload 3, 0), (268, 1, .iconst 1, .iconst 1, 0), (269, 1, .iadd, .iadd, 0), (270, 1, .iaload, .iaload, 0), (271, 1, .aload 0, .aload 0, 0), (272, 1, .iload 3, .iload 3, 0), (273, 1, .iconst 2, .iconst 2, 0), (274, 1, .iadd, .iadd, 0), (275, 1, .iaload, .iaload, 0), (276, 1, .aload 0, .aload 0, 0), (277, 1, .iload 3, .iload 3, 0), (278, 1, .iconst 3, .iconst 3, 0), (279, 1, .iadd, .iadd, 0), (280, 1, .iaload, .iaload, 0), (281, 3, .invokevirtual 108, .invokevirtual 108, 0), (284, 1, .aload 2, .aload 2, 0), (285, 1, .aload 0, .aload 0, 0), (286, 1, .iload 3, .iload 3, 0), (287, 1, .iconst 1, .iconst 1, 0), (288, 1, .iadd, .iadd, 0), (289, 1, .iaload, .iaload, 0), (290, 1, .aload 0, .aload 0, 0), (291, 1, .iload 3, .iload 3, 0), (292, 1, .iconst 2, .iconst 2, 0), (293, 1, .iadd, .iadd, 0), (294, 1, .iaload, .iaload, 0), (295, 1, .aload 0, .aload 0, 0), (296, 1, .iload 3, .iload 3, 0), (297, 1, .iconst 3, .iconst 3, 0), (298, 1, .iadd, .iadd, 0), (299, 1, .iaload, .iaload, 0), (300, 3, .invokevirtual 169, .invokevirtual 169, 0), (303, 3, .if_icmp .eq 1753, .if_icmp .eq 1753, 0), (306, 1, .iconst 0, .iconst 0, 0), (307, 1, .ireturn, .ireturn, 0)]
theorem lw_c1 {sL : Nat} {xs : Nat → Int32} {d : Nat} {M : Am_M} {P : Am_p} {Q : Option Value → Am_M → Prop} (hd : 60 ≤ d) (hP : ∀ pc r, am_lk am_pLc1 pc = some r → am_lk P pc = some r) (hL3 : sL ≤ 3072) {i : Int} (hi : 0 ≤ i ∧ i + 6 ≤ sL) (hI : Inv M) (hq : ∀ M', Inv M' → am_rw sL xs d P 2 1753 [.ref 900, .ref 0, .ref 53, .int (z_I i)] [] M' Q) : am_rw sL xs d P 2 265 [.ref 900, .ref 0, .ref 53, .int (z_I i)] [] M Q := by
  obtain ⟨σ, χ, c, t, η, ε, δ, κ, m, l, ⟨hX, hL, hT, hH, hK, hD, hO⟩, hg0, hN, hl⟩ := hI
  obtain ⟨a1, h1, e1⟩ := z_of (xs (i + 1).toNat)
  obtain ⟨a2, h2, e2⟩ := z_of (xs (i + 2).toNat)
  obtain ⟨a3, h3, e3⟩ := z_of (xs (i + 3).toNat)
  refine am_r_aload1 (pc' := 266) (hP _ _ rfl) rfl ?_
  refine am_r_aload0 (pc' := 267) (hP _ _ rfl) rfl ?_
  refine am_r_iload3 (pc' := 268) (hP _ _ rfl) rfl ?_
  refine am_r_iconst (pc' := 269) (hP _ _ rfl) rfl ?_
  refine am_r_iadd (pc' := 270) (hP _ _ rfl) rfl ?_
  refine am_r_iaSv (pc' := 271) (hP _ _ rfl) rfl hL3 e1 ?_
  refine am_r_aload0 (pc' := 272) (hP _ _ rfl) rfl ?_
  refine am_r_iload3 (pc' := 273) (hP _ _ rfl) rfl ?_
  refine am_r_iconst (pc' := 274) (hP _ _ rfl) rfl ?_
  refine am_r_iadd (pc' := 275) (hP _ _ rfl) rfl ?_
  refine am_r_iaSv (pc' := 276) (hP _ _ rfl) rfl hL3 e2 ?_
  refine am_r_aload0 (pc' := 277) (hP _ _ rfl) rfl ?_
  refine am_r_iload3 (pc' := 278) (hP _ _ rfl) rfl ?_
  refine am_r_iconst (pc' := 279) (hP _ _ rfl) rfl ?_
  refine am_r_iadd (pc' := 280) (hP _ _ rfl) rfl ?_
  refine am_r_iaSv (pc' := 281) (hP _ _ rfl) rfl hL3 e3 ?_
  refine am_r_invI3 (pc' := 284) (hP _ _ rfl) rfl rfl (Nat.le_of_ble_eq_true rfl) (c_orbs (by omega) hX hH (by omega) (by omega) (by omega) ?_)
  · intro M1 f1 xX
    have hC := ci_mk xX (cl_cg hL (f1 19 (by omega)).1 (f1 20 (by omega)).1 (f1 21 (by omega)).1) (tb_k hT (f1 15 (by omega)).1 (f1 16 (by omega)).1) (hx_cg hH (fun k a b => (f1 k (by omega)))) (kx_sg (kx_cg hK (fun k a b => (f1 k (by omega)).1)) su_orbs.1 su_orbs.2) (dx_sg (dx_cg hD (f1 31 (by omega)).1 (f1 32 (by omega)).1) su_orbs.1 su_orbs.2) (ok_cg hO (f1 50 (by omega)).1 (f1 51 (by omega)).1 (f1 52 (by omega)).1)
    obtain ⟨gX, gL, gT, gH, gK, gD, gO⟩ := mi_keep hg0 (fun k hk => (f1 k (by omega)))
    refine am_r_aload2 (pc' := 285) (hP _ _ rfl) rfl ?_
    refine am_r_aload0 (pc' := 286) (hP _ _ rfl) rfl ?_
    refine am_r_iload3 (pc' := 287) (hP _ _ rfl) rfl ?_
    refine am_r_iconst (pc' := 288) (hP _ _ rfl) rfl ?_
    refine am_r_iadd (pc' := 289) (hP _ _ rfl) rfl ?_
    refine am_r_iaSv (pc' := 290) (hP _ _ rfl) rfl hL3 e1 ?_
    refine am_r_aload0 (pc' := 291) (hP _ _ rfl) rfl ?_
    refine am_r_iload3 (pc' := 292) (hP _ _ rfl) rfl ?_
    refine am_r_iconst (pc' := 293) (hP _ _ rfl) rfl ?_
    refine am_r_iadd (pc' := 294) (hP _ _ rfl) rfl ?_
    refine am_r_iaSv (pc' := 295) (hP _ _ rfl) rfl hL3 e2 ?_
    refine am_r_aload0 (pc' := 296) (hP _ _ rfl) rfl ?_
    refine am_r_iload3 (pc' := 297) (hP _ _ rfl) rfl ?_
    refine am_r_iconst (pc' := 298) (hP _ _ rfl) rfl ?_
    refine am_r_iadd (pc' := 299) (hP _ _ rfl) rfl ?_
    refine am_r_iaSv (pc' := 300) (hP _ _ rfl) rfl hL3 e3 ?_
    refine am_r_invI3 (pc' := 303) (hP _ _ rfl) rfl rfl (Nat.le_of_ble_eq_true rfl) (m_orbs (by omega) gX gH (by omega) (by omega) (by omega) ?_)
    · intro M2 f2 yX
      have hG := mi_mk yX (lm_k gL (fun k i q => (f2.1 k i (by omega) (by omega) (by omega)))) (tm_k gT (fun k i q => (f2.1 k i (by omega) (by omega) (by omega)))) (hm_k2 gH (fun k i q => (f2.1 k i (by omega) (by omega) (by omega))) (by rw [f2.2])) (km_sg (km_k gK (fun k i q => (f2.1 k i (by omega) (by omega) (by omega)))) su_orbs.1 su_orbs.2) (dm_sg (dm_k gD (fun k i q => (f2.1 k i (by omega) (by omega) (by omega)))) su_orbs.1 su_orbs.2) (qm_k2 gO (fun k i q => (f2.1 k i (by omega) (by omega) (by omega))))
      have hC2 := ci_keep hC (fun k hk => ⟨funext fun i => (f2.1 k i (by omega) (by omega) (by omega)), by rw [f2.2]⟩)
      refine am_r_eqs (pt := 1753) (hP _ _ rfl) rfl ?_
      exact hq _ (inv_mk hC2 hG hN hl)
def am_pLc2 : Am_p := [(308, 1, .aload 1, .aload 1, 0), (309, 1, .aload 0, .aload 0, 0), (310, 1, .iload 3, .iload 3, 0), (311, 1, .iconst 1, .iconst 1, 0), (312, 1, .iadd, .iadd, 0), (313, 1, .iaload, .iaload, 0), (314, 1, .aload 0, .aload 0, 0), (315, 1, .iload 3, .iload 3, 0), (316, 1, .iconst 2, .iconst 2, 0), (317, 1, .iadd, .iadd, 0), (318, 1, .iaload, .iaload, 0), (319, 1, .aload 0, .aload 0, 0), (320, 1, .iload 3, .iload 3, 0), (321, 1, .iconst 3, .iconst 3, 0), (322, 1, .iadd, .iadd, 0), (323, 1, .iaload, .iaload, 0), (324, 3, .invokevirtual 109, .invokevirtual 109, 0), (327, 1, .aload 2, .aload 2, 0), (328, 1, .aload 0, .aload 0, 0), (329, 1, .iload 3, .iload 3, 0), (330, 1, .iconst 1, .iconst 1, 0), (331, 1, .iadd, .iadd, 0), (332, 1, .iaload, .iaload, 0), (333, 1, .aload 0, .aload 0, 0), (334, 1, .iload 3, .iload 3, 0), (335, 1, .iconst 2, .iconst 2, 0), (336, 1, .iadd, .iadd, 0), (337, 1, .iaload, .iaload, 0), (338, 1, .aload 0, .aload 0, 0), (339, 1, .iload 3, .iload 3, 0), (340, 1, .iconst 3, .iconst 3, 0), (341, 1, .iadd, .iadd, 0), (342, 1, .iaload, .iaload, 0), (343, 3, .invokevirtual 172, .invokevirtual 172, 0), (346, 3, .if_icmp .eq 1753, .if_icmp .eq 1753, 0), (349, 1, .iconst 0, .iconst 0, 0), (350, 1, .ireturn, .ireturn, 0)]
theorem lw_c2 {sL : Nat} {xs : Nat → Int32} {d : Nat} {M : Am_M} {P : Am_p} {Q : Option Value → Am_M → Prop} (hd : 60 ≤ d) (hP : ∀ pc r, am_lk am_pLc2 pc = some r → am_lk P pc = some r) (hL3 : sL ≤ 3072) {i : Int} (hi : 0 ≤ i ∧ i + 6 ≤ sL) (hI : Inv M) (hq : ∀ M', Inv M' → am_rw sL xs d P 2 1753 [.ref 900, .ref 0, .ref 53, .int (z_I i)] [] M' Q) : am_rw sL xs d P 2 308 [.ref 900, .ref 0, .ref 53, .int (z_I i)] [] M Q := by
  obtain ⟨σ, χ, c, t, η, ε, δ, κ, m, l, ⟨hX, hL, hT, hH, hK, hD, hO⟩, hg0, hN, hl⟩ := hI
  obtain ⟨a1, h1, e1⟩ := z_of (xs (i + 1).toNat)
  obtain ⟨a2, h2, e2⟩ := z_of (xs (i + 2).toNat)
  obtain ⟨a3, h3, e3⟩ := z_of (xs (i + 3).toNat)
  refine am_r_aload1 (pc' := 309) (hP _ _ rfl) rfl ?_
  refine am_r_aload0 (pc' := 310) (hP _ _ rfl) rfl ?_
  refine am_r_iload3 (pc' := 311) (hP _ _ rfl) rfl ?_
  refine am_r_iconst (pc' := 312) (hP _ _ rfl) rfl ?_
  refine am_r_iadd (pc' := 313) (hP _ _ rfl) rfl ?_
  refine am_r_iaSv (pc' := 314) (hP _ _ rfl) rfl hL3 e1 ?_
  refine am_r_aload0 (pc' := 315) (hP _ _ rfl) rfl ?_
  refine am_r_iload3 (pc' := 316) (hP _ _ rfl) rfl ?_
  refine am_r_iconst (pc' := 317) (hP _ _ rfl) rfl ?_
  refine am_r_iadd (pc' := 318) (hP _ _ rfl) rfl ?_
  refine am_r_iaSv (pc' := 319) (hP _ _ rfl) rfl hL3 e2 ?_
  refine am_r_aload0 (pc' := 320) (hP _ _ rfl) rfl ?_
  refine am_r_iload3 (pc' := 321) (hP _ _ rfl) rfl ?_
  refine am_r_iconst (pc' := 322) (hP _ _ rfl) rfl ?_
  refine am_r_iadd (pc' := 323) (hP _ _ rfl) rfl ?_
  refine am_r_iaSv (pc' := 324) (hP _ _ rfl) rfl hL3 e3 ?_
  refine am_r_invI3 (pc' := 327) (hP _ _ rfl) rfl rfl (Nat.le_of_ble_eq_true rfl) (c_mend (by omega) hX hK (by omega) (by omega) (by omega) ?_)
  · intro M1 f1 xX xK
    have hC := ci_mk xX (cl_cg hL (f1 19 (by omega) (by omega)).1 (f1 20 (by omega) (by omega)).1 (f1 21 (by omega) (by omega)).1) (tb_k hT (f1 15 (by omega) (by omega)).1 (f1 16 (by omega) (by omega)).1) (hx_cg hH (fun k a b => (f1 k (by omega) (by omega)))) xK (dx_sg (dx_cg hD (f1 31 (by omega) (by omega)).1 (f1 32 (by omega) (by omega)).1) su_mend.1 su_mend.2) (ok_cg hO (f1 50 (by omega) (by omega)).1 (f1 51 (by omega) (by omega)).1 (f1 52 (by omega) (by omega)).1)
    obtain ⟨gX, gL, gT, gH, gK, gD, gO⟩ := mi_keep hg0 (fun k hk => (f1 k (by omega) (by omega)))
    refine am_r_aload2 (pc' := 328) (hP _ _ rfl) rfl ?_
    refine am_r_aload0 (pc' := 329) (hP _ _ rfl) rfl ?_
    refine am_r_iload3 (pc' := 330) (hP _ _ rfl) rfl ?_
    refine am_r_iconst (pc' := 331) (hP _ _ rfl) rfl ?_
    refine am_r_iadd (pc' := 332) (hP _ _ rfl) rfl ?_
    refine am_r_iaSv (pc' := 333) (hP _ _ rfl) rfl hL3 e1 ?_
    refine am_r_aload0 (pc' := 334) (hP _ _ rfl) rfl ?_
    refine am_r_iload3 (pc' := 335) (hP _ _ rfl) rfl ?_
    refine am_r_iconst (pc' := 336) (hP _ _ rfl) rfl ?_
    refine am_r_iadd (pc' := 337) (hP _ _ rfl) rfl ?_
    refine am_r_iaSv (pc' := 338) (hP _ _ rfl) rfl hL3 e2 ?_
    refine am_r_aload0 (pc' := 339) (hP _ _ rfl) rfl ?_
    refine am_r_iload3 (pc' := 340) (hP _ _ rfl) rfl ?_
    refine am_r_iconst (pc' := 341) (hP _ _ rfl) rfl ?_
    refine am_r_iadd (pc' := 342) (hP _ _ rfl) rfl ?_
    refine am_r_iaSv (pc' := 343) (hP _ _ rfl) rfl hL3 e3 ?_
    refine am_r_invI3 (pc' := 346) (hP _ _ rfl) rfl rfl (Nat.le_of_ble_eq_true rfl) (m_mend (by omega) gX gK (by omega) (by omega) (by omega) ?_)
    · intro M2 f2 yX yK
      have hG := mi_mk yX (lm_k gL (fun k i q => (f2.1 k i (by omega) (by omega)))) (tm_k gT (fun k i q => (f2.1 k i (by omega) (by omega)))) (hm_k2 gH (fun k i q => (f2.1 k i (by omega) (by omega))) (by rw [f2.2])) yK (dm_sg (dm_k gD (fun k i q => (f2.1 k i (by omega) (by omega)))) su_mend.1 su_mend.2) (qm_k2 gO (fun k i q => (f2.1 k i (by omega) (by omega))))
      have hC2 := ci_keep hC (fun k hk => ⟨funext fun i => (f2.1 k i (by omega) (by omega)), by rw [f2.2]⟩)
      refine am_r_eqs (pt := 1753) (hP _ _ rfl) rfl ?_
      exact hq _ (inv_mk hC2 hG hN hl)
def am_pLc3 : Am_p := [(351, 1, .aload 1, .aload 1, 0), (352, 1, .aload 0, .aload 0, 0), (353, 1, .iload 3, .iload 3, 0), (354, 1, .iconst 1, .iconst 1, 0), (355, 1, .iadd, .iadd, 0), (356, 1, .iaload, .iaload, 0), (357, 1, .aload 0, .aload 0, 0), (358, 1, .iload 3, .iload 3, 0), (359, 1, .iconst 2, .iconst 2, 0), (360, 1, .iadd, .iadd, 0), (361, 1, .iaload, .iaload, 0), (362, 3, .invokevirtual 110, .invokevirtual 110, 0), (365, 1, .aload 2, .aload 2, 0), (366, 1, .aload 0, .aload 0, 0), (367, 1, .iload 3, .iload 3, 0), (368, 1, .iconst 1, .iconst 1, 0), (369, 1, .iadd, .iadd, 0), (370, 1, .iaload, .iaload, 0), (371, 1, .aload 0, .aload 0, 0), (372, 1, .iload 3, .iload 3, 0), (373, 1, .iconst 2, .iconst 2, 0), (374, 1, .iadd, .iadd, 0), (375, 1, .iaload, .iaload, 0), (376, 3, .invokevirtual 173, .invokevirtual 173, 0), (379, 3, .if_icmp .eq 1753, .if_icmp .eq 1753, 0), (382, 1, .iconst 0, .iconst 0, 0), (383, 1, .ireturn, .ireturn, 0)]
theorem lw_c3 {sL : Nat} {xs : Nat → Int32} {d : Nat} {M : Am_M} {P : Am_p} {Q : Option Value → Am_M → Prop} (hd : 60 ≤ d) (hP : ∀ pc r, am_lk am_pLc3 pc = some r → am_lk P pc = some r) (hL3 : sL ≤ 3072) {i : Int} (hi : 0 ≤ i ∧ i + 6 ≤ sL) (hI : Inv M) (hq : ∀ M', Inv M' → am_rw sL xs d P 2 1753 [.ref 900, .ref 0, .ref 53, .int (z_I i)] [] M' Q) : am_rw sL xs d P 2 351 [.ref 900, .ref 0, .ref 53, .int (z_I i)] [] M Q := by
  obtain ⟨σ, χ, c, t, η, ε, δ, κ, m, l, ⟨hX, hL, hT, hH, hK, hD, hO⟩, hg0, hN, hl⟩ := hI
  obtain ⟨a1, h1, e1⟩ := z_of (xs (i + 1).toNat)
  obtain ⟨a2, h2, e2⟩ := z_of (xs (i + 2).toNat)
  refine am_r_aload1 (pc' := 352) (hP _ _ rfl) rfl ?_
  refine am_r_aload0 (pc' := 353) (hP _ _ rfl) rfl ?_
  refine am_r_iload3 (pc' := 354) (hP _ _ rfl) rfl ?_
  refine am_r_iconst (pc' := 355) (hP _ _ rfl) rfl ?_
  refine am_r_iadd (pc' := 356) (hP _ _ rfl) rfl ?_
  refine am_r_iaSv (pc' := 357) (hP _ _ rfl) rfl hL3 e1 ?_
  refine am_r_aload0 (pc' := 358) (hP _ _ rfl) rfl ?_
  refine am_r_iload3 (pc' := 359) (hP _ _ rfl) rfl ?_
  refine am_r_iconst (pc' := 360) (hP _ _ rfl) rfl ?_
  refine am_r_iadd (pc' := 361) (hP _ _ rfl) rfl ?_
  refine am_r_iaSv (pc' := 362) (hP _ _ rfl) rfl hL3 e2 ?_
  refine am_r_invI2 (pc' := 365) (hP _ _ rfl) rfl rfl (Nat.le_of_ble_eq_true rfl) (c_of (by omega) hX (by omega) (by omega) ?_)
  · obtain ⟨gX, gL, gT, gH, gK, gD, gO⟩ := hg0
    refine am_r_aload2 (pc' := 366) (hP _ _ rfl) rfl ?_
    refine am_r_aload0 (pc' := 367) (hP _ _ rfl) rfl ?_
    refine am_r_iload3 (pc' := 368) (hP _ _ rfl) rfl ?_
    refine am_r_iconst (pc' := 369) (hP _ _ rfl) rfl ?_
    refine am_r_iadd (pc' := 370) (hP _ _ rfl) rfl ?_
    refine am_r_iaSv (pc' := 371) (hP _ _ rfl) rfl hL3 e1 ?_
    refine am_r_aload0 (pc' := 372) (hP _ _ rfl) rfl ?_
    refine am_r_iload3 (pc' := 373) (hP _ _ rfl) rfl ?_
    refine am_r_iconst (pc' := 374) (hP _ _ rfl) rfl ?_
    refine am_r_iadd (pc' := 375) (hP _ _ rfl) rfl ?_
    refine am_r_iaSv (pc' := 376) (hP _ _ rfl) rfl hL3 e2 ?_
    refine am_r_invI2 (pc' := 379) (hP _ _ rfl) rfl rfl (Nat.le_of_ble_eq_true rfl) (m_of (by omega) gX (by omega) (by omega) ?_)
    · have hG := mi_mk gX gL gT gH gK gD gO
      refine am_r_eqs (pt := 1753) (hP _ _ rfl) rfl ?_
      exact hq _ (inv_mk (ci_mk hX hL hT hH hK hD hO) hG hN hl)
def am_pLc4 : Am_p := [(384, 1, .aload 1, .aload 1, 0), (385, 1, .aload 0, .aload 0, 0), (386, 1, .iload 3, .iload 3, 0), (387, 1, .iconst 1, .iconst 1, 0), (388, 1, .iadd, .iadd, 0), (389, 1, .iaload, .iaload, 0), (390, 3, .invokevirtual 111, .invokevirtual 111, 0), (393, 1, .aload 2, .aload 2, 0), (394, 1, .aload 0, .aload 0, 0), (395, 1, .iload 3, .iload 3, 0), (396, 1, .iconst 1, .iconst 1, 0), (397, 1, .iadd, .iadd, 0), (398, 1, .iaload, .iaload, 0), (399, 3, .invokevirtual 174, .invokevirtual 174, 0), (402, 3, .if_icmp .eq 1753, .if_icmp .eq 1753, 0), (405, 1, .iconst 0, .iconst 0, 0), (406, 1, .ireturn, .ireturn, 0)]
theorem lw_c4 {sL : Nat} {xs : Nat → Int32} {d : Nat} {M : Am_M} {P : Am_p} {Q : Option Value → Am_M → Prop} (hd : 60 ≤ d) (hP : ∀ pc r, am_lk am_pLc4 pc = some r → am_lk P pc = some r) (hL3 : sL ≤ 3072) {i : Int} (hi : 0 ≤ i ∧ i + 6 ≤ sL) (hI : Inv M) (hq : ∀ M', Inv M' → am_rw sL xs d P 2 1753 [.ref 900, .ref 0, .ref 53, .int (z_I i)] [] M' Q) : am_rw sL xs d P 2 384 [.ref 900, .ref 0, .ref 53, .int (z_I i)] [] M Q := by
  obtain ⟨σ, χ, c, t, η, ε, δ, κ, m, l, ⟨hX, hL, hT, hH, hK, hD, hO⟩, hg0, hN, hl⟩ := hI
  obtain ⟨a1, h1, e1⟩ := z_of (xs (i + 1).toNat)
  refine am_r_aload1 (pc' := 385) (hP _ _ rfl) rfl ?_
  refine am_r_aload0 (pc' := 386) (hP _ _ rfl) rfl ?_
  refine am_r_iload3 (pc' := 387) (hP _ _ rfl) rfl ?_
  refine am_r_iconst (pc' := 388) (hP _ _ rfl) rfl ?_
  refine am_r_iadd (pc' := 389) (hP _ _ rfl) rfl ?_
  refine am_r_iaSv (pc' := 390) (hP _ _ rfl) rfl hL3 e1 ?_
  refine am_r_invI1 (pc' := 393) (hP _ _ rfl) rfl rfl (Nat.le_of_ble_eq_true rfl) (c_feed (by omega) hT (by omega) ?_)
  · intro M1 f1 xT
    have hC := ci_mk (sx_k2 hX (fun k a b => (f1 k (by omega)).1)) (cl_cg hL (f1 19 (by omega)).1 (f1 20 (by omega)).1 (f1 21 (by omega)).1) xT (hx_cg hH (fun k a b => (f1 k (by omega)))) (kx_cg hK (fun k a b => (f1 k (by omega)).1)) (dx_cg hD (f1 31 (by omega)).1 (f1 32 (by omega)).1) (ok_cg hO (f1 50 (by omega)).1 (f1 51 (by omega)).1 (f1 52 (by omega)).1)
    obtain ⟨gX, gL, gT, gH, gK, gD, gO⟩ := mi_keep hg0 (fun k hk => (f1 k (by omega)))
    refine am_r_aload2 (pc' := 394) (hP _ _ rfl) rfl ?_
    refine am_r_aload0 (pc' := 395) (hP _ _ rfl) rfl ?_
    refine am_r_iload3 (pc' := 396) (hP _ _ rfl) rfl ?_
    refine am_r_iconst (pc' := 397) (hP _ _ rfl) rfl ?_
    refine am_r_iadd (pc' := 398) (hP _ _ rfl) rfl ?_
    refine am_r_iaSv (pc' := 399) (hP _ _ rfl) rfl hL3 e1 ?_
    refine am_r_invI1 (pc' := 402) (hP _ _ rfl) rfl rfl (Nat.le_of_ble_eq_true rfl) (m_feed (by omega) gT (by omega) ?_)
    · intro M2 f2 yT
      have hG := mi_mk (sm_k gX (fun k i q => (f2.1 k i (by omega) (by omega)))) (lm_k gL (fun k i q => (f2.1 k i (by omega) (by omega)))) yT (hm_k2 gH (fun k i q => (f2.1 k i (by omega) (by omega))) (by rw [f2.2])) (km_k gK (fun k i q => (f2.1 k i (by omega) (by omega)))) (dm_k gD (fun k i q => (f2.1 k i (by omega) (by omega)))) (qm_k2 gO (fun k i q => (f2.1 k i (by omega) (by omega))))
      have hC2 := ci_keep hC (fun k hk => ⟨funext fun i => (f2.1 k i (by omega) (by omega)), by rw [f2.2]⟩)
      refine am_r_eqs (pt := 1753) (hP _ _ rfl) rfl ?_
      exact hq _ (inv_mk hC2 hG hN hl)
def am_pLc5 : Am_p := [(407, 1, .aload 1, .aload 1, 0), (408, 3, .invokevirtual 112, .invokevirtual 112, 0), (411, 1, .aload 2, .aload 2, 0), (412, 3, .invokevirtual 186, .invokevirtual 186, 0), (415, 3, .if_icmp .eq 1753, .if_icmp .eq 1753, 0), (418, 1, .iconst 0, .iconst 0, 0), (419, 1, .ireturn, .ireturn, 0)]
theorem lw_c5 {sL : Nat} {xs : Nat → Int32} {d : Nat} {M : Am_M} {P : Am_p} {Q : Option Value → Am_M → Prop} (hd : 60 ≤ d) (hP : ∀ pc r, am_lk am_pLc5 pc = some r → am_lk P pc = some r) (hL3 : sL ≤ 3072) {i : Int} (hi : 0 ≤ i ∧ i + 6 ≤ sL) (hI : Inv M) (hq : ∀ M', Inv M' → am_rw sL xs d P 2 1753 [.ref 900, .ref 0, .ref 53, .int (z_I i)] [] M' Q) : am_rw sL xs d P 2 407 [.ref 900, .ref 0, .ref 53, .int (z_I i)] [] M Q := by
  obtain ⟨σ, χ, c, t, η, ε, δ, κ, m, l, ⟨hX, hL, hT, hH, hK, hD, hO⟩, hg0, hN, hl⟩ := hI
  refine am_r_aload1 (pc' := 408) (hP _ _ rfl) rfl ?_
  refine am_r_invI0 (pc' := 411) (hP _ _ rfl) rfl rfl (Nat.le_of_ble_eq_true rfl) (c_law (by omega) hT ?_ ?_)
  · intro M1 f1 xg x15 xL
    have hC := ci_mk (sx_k2 hX (fun k a b => (f1 k (by omega)).1)) xL (tb_0 x15) (hx_cg hH (fun k a b => (f1 k (by omega)))) (kx_cg hK (fun k a b => (f1 k (by omega)).1)) (dx_cg hD (f1 31 (by omega)).1 (f1 32 (by omega)).1) (ok_cg hO (f1 50 (by omega)).1 (f1 51 (by omega)).1 (f1 52 (by omega)).1)
    obtain ⟨gX, gL, gT, gH, gK, gD, gO⟩ := mi_keep hg0 (fun k hk => (f1 k (by omega)))
    refine am_r_aload2 (pc' := 412) (hP _ _ rfl) rfl ?_
    refine am_r_invI0 (pc' := 415) (hP _ _ rfl) rfl rfl (Nat.le_of_ble_eq_true rfl) (m_law (by omega) gT ?_ ?_)
    · intro M2 f2 yg y9 yL
      have hG := mi_mk (sm_k gX (fun k i q => (f2.1 k i (by omega) (by omega)))) yL (tm_0 y9) (hm_k2 gH (fun k i q => (f2.1 k i (by omega) (by omega))) (by rw [f2.2])) (km_k gK (fun k i q => (f2.1 k i (by omega) (by omega)))) (dm_k gD (fun k i q => (f2.1 k i (by omega) (by omega)))) (qm_k2 gO (fun k i q => (f2.1 k i (by omega) (by omega))))
      have hC2 := ci_keep hC (fun k hk => ⟨funext fun i => (f2.1 k i (by omega) (by omega)), by rw [f2.2]⟩)
      refine am_r_eqs (pt := 1753) (hP _ _ rfl) rfl ?_
      exact hq _ (inv_mk hC2 hG hN hl)
    · intro M2 f2 yg y9 y11 y60
      have hG := mi_mk (sm_k gX (fun k i q => (f2.1 k i (by omega) (by omega)))) (lm_cg gL y11 (fun i => congrFun y60 i)) (tm_0 y9) (hm_k2 gH (fun k i q => (f2.1 k i (by omega) (by omega))) (by rw [f2.2])) (km_k gK (fun k i q => (f2.1 k i (by omega) (by omega)))) (dm_k gD (fun k i q => (f2.1 k i (by omega) (by omega)))) (qm_k2 gO (fun k i q => (f2.1 k i (by omega) (by omega))))
      have hC2 := ci_keep hC (fun k hk => ⟨funext fun i => (f2.1 k i (by omega) (by omega)), by rw [f2.2]⟩)
      exact absurd (xg.symm.trans yg) (by decide)
  · intro M1 f1 xg x15
    have hC := ci_mk (sx_k2 hX (fun k a b => (f1 k (by omega)).1)) (cl_cg hL (f1 19 (by omega)).1 (f1 20 (by omega)).1 (f1 21 (by omega)).1) (tb_0 x15) (hx_cg hH (fun k a b => (f1 k (by omega)))) (kx_cg hK (fun k a b => (f1 k (by omega)).1)) (dx_cg hD (f1 31 (by omega)).1 (f1 32 (by omega)).1) (ok_cg hO (f1 50 (by omega)).1 (f1 51 (by omega)).1 (f1 52 (by omega)).1)
    obtain ⟨gX, gL, gT, gH, gK, gD, gO⟩ := mi_keep hg0 (fun k hk => (f1 k (by omega)))
    refine am_r_aload2 (pc' := 412) (hP _ _ rfl) rfl ?_
    refine am_r_invI0 (pc' := 415) (hP _ _ rfl) rfl rfl (Nat.le_of_ble_eq_true rfl) (m_law (by omega) gT ?_ ?_)
    · intro M2 f2 yg y9 yL
      have hG := mi_mk (sm_k gX (fun k i q => (f2.1 k i (by omega) (by omega)))) yL (tm_0 y9) (hm_k2 gH (fun k i q => (f2.1 k i (by omega) (by omega))) (by rw [f2.2])) (km_k gK (fun k i q => (f2.1 k i (by omega) (by omega)))) (dm_k gD (fun k i q => (f2.1 k i (by omega) (by omega)))) (qm_k2 gO (fun k i q => (f2.1 k i (by omega) (by omega))))
      have hC2 := ci_keep hC (fun k hk => ⟨funext fun i => (f2.1 k i (by omega) (by omega)), by rw [f2.2]⟩)
      exact absurd (xg.symm.trans yg) (by decide)
    · intro M2 f2 yg y9 y11 y60
      have hG := mi_mk (sm_k gX (fun k i q => (f2.1 k i (by omega) (by omega)))) (lm_cg gL y11 (fun i => congrFun y60 i)) (tm_0 y9) (hm_k2 gH (fun k i q => (f2.1 k i (by omega) (by omega))) (by rw [f2.2])) (km_k gK (fun k i q => (f2.1 k i (by omega) (by omega)))) (dm_k gD (fun k i q => (f2.1 k i (by omega) (by omega)))) (qm_k2 gO (fun k i q => (f2.1 k i (by omega) (by omega))))
      have hC2 := ci_keep hC (fun k hk => ⟨funext fun i => (f2.1 k i (by omega) (by omega)), by rw [f2.2]⟩)
      refine am_r_eqs (pt := 1753) (hP _ _ rfl) rfl ?_
      exact hq _ (inv_mk hC2 hG hN hl)
def am_pLc6 : Am_p := [(420, 1, .aload 1, .aload 1, 0), (421, 1, .aload 0, .aload 0, 0), (422, 1, .iload 3, .iload 3, 0), (423, 1, .iconst 1, .iconst 1, 0), (424, 1, .iadd, .iadd, 0), (425, 1, .iaload, .iaload, 0), (426, 1, .aload 0, .aload 0, 0), (427, 1, .iload 3, .iload 3, 0), (428, 1, .iconst 2, .iconst 2, 0), (429, 1, .iadd, .iadd, 0), (430, 1, .iaload, .iaload, 0), (431, 1, .aload 0, .aload 0, 0), (432, 1, .iload 3, .iload 3, 0), (433, 1, .iconst 3, .iconst 3, 0), (434, 1, .iadd, .iadd, 0), (435, 1, .iaload, .iaload, 0), (436, 3, .invokevirtual 113, .invokevirtual 113, 0), (439, 1, .aload 2, .aload 2, 0), (440, 1, .aload 0, .aload 0, 0), (441, 1, .iload 3, .iload 3, 0), (442, 1, .iconst 1, .iconst 1, 0), (443, 1, .iadd, .iadd, 0), (444, 1, .iaload, .iaload, 0), (445, 1, .aload 0, .aload 0, 0), (446, 1, .iload 3, .iload 3, 0), (447, 1, .iconst 2, .iconst 2, 0), (448, 1, .iadd, .iadd, 0), (449, 1, .iaload, .iaload, 0), (450, 1, .aload 0, .aload 0, 0), (451, 1, .iload 3, .iload 3, 0), (452, 1, .iconst 3, .iconst 3, 0), (453, 1, .iadd, .iadd, 0), (454, 1, .iaload, .iaload, 0), (455, 3, .invokevirtual 193, .invokevirtual 193, 0), (458, 3, .if_icmp .eq 1753, .if_icmp .eq 1753, 0), (461, 1, .iconst 0, .iconst 0, 0), (462, 1, .ireturn, .ireturn, 0)]
theorem lw_c6 {sL : Nat} {xs : Nat → Int32} {d : Nat} {M : Am_M} {P : Am_p} {Q : Option Value → Am_M → Prop} (hd : 60 ≤ d) (hP : ∀ pc r, am_lk am_pLc6 pc = some r → am_lk P pc = some r) (hL3 : sL ≤ 3072) {i : Int} (hi : 0 ≤ i ∧ i + 6 ≤ sL) (hI : Inv M) (hq : ∀ M', Inv M' → am_rw sL xs d P 2 1753 [.ref 900, .ref 0, .ref 53, .int (z_I i)] [] M' Q) : am_rw sL xs d P 2 420 [.ref 900, .ref 0, .ref 53, .int (z_I i)] [] M Q := by
  obtain ⟨σ, χ, c, t, η, ε, δ, κ, m, l, ⟨hX, hL, hT, hH, hK, hD, hO⟩, hg0, hN, hl⟩ := hI
  obtain ⟨a1, h1, e1⟩ := z_of (xs (i + 1).toNat)
  obtain ⟨a2, h2, e2⟩ := z_of (xs (i + 2).toNat)
  obtain ⟨a3, h3, e3⟩ := z_of (xs (i + 3).toNat)
  refine am_r_aload1 (pc' := 421) (hP _ _ rfl) rfl ?_
  refine am_r_aload0 (pc' := 422) (hP _ _ rfl) rfl ?_
  refine am_r_iload3 (pc' := 423) (hP _ _ rfl) rfl ?_
  refine am_r_iconst (pc' := 424) (hP _ _ rfl) rfl ?_
  refine am_r_iadd (pc' := 425) (hP _ _ rfl) rfl ?_
  refine am_r_iaSv (pc' := 426) (hP _ _ rfl) rfl hL3 e1 ?_
  refine am_r_aload0 (pc' := 427) (hP _ _ rfl) rfl ?_
  refine am_r_iload3 (pc' := 428) (hP _ _ rfl) rfl ?_
  refine am_r_iconst (pc' := 429) (hP _ _ rfl) rfl ?_
  refine am_r_iadd (pc' := 430) (hP _ _ rfl) rfl ?_
  refine am_r_iaSv (pc' := 431) (hP _ _ rfl) rfl hL3 e2 ?_
  refine am_r_aload0 (pc' := 432) (hP _ _ rfl) rfl ?_
  refine am_r_iload3 (pc' := 433) (hP _ _ rfl) rfl ?_
  refine am_r_iconst (pc' := 434) (hP _ _ rfl) rfl ?_
  refine am_r_iadd (pc' := 435) (hP _ _ rfl) rfl ?_
  refine am_r_iaSv (pc' := 436) (hP _ _ rfl) rfl hL3 e3 ?_
  refine am_r_invI3 (pc' := 439) (hP _ _ rfl) rfl rfl (Nat.le_of_ble_eq_true rfl) (c_at (by omega) hX (by omega) (by omega) (by omega) ?_)
  · obtain ⟨gX, gL, gT, gH, gK, gD, gO⟩ := hg0
    refine am_r_aload2 (pc' := 440) (hP _ _ rfl) rfl ?_
    refine am_r_aload0 (pc' := 441) (hP _ _ rfl) rfl ?_
    refine am_r_iload3 (pc' := 442) (hP _ _ rfl) rfl ?_
    refine am_r_iconst (pc' := 443) (hP _ _ rfl) rfl ?_
    refine am_r_iadd (pc' := 444) (hP _ _ rfl) rfl ?_
    refine am_r_iaSv (pc' := 445) (hP _ _ rfl) rfl hL3 e1 ?_
    refine am_r_aload0 (pc' := 446) (hP _ _ rfl) rfl ?_
    refine am_r_iload3 (pc' := 447) (hP _ _ rfl) rfl ?_
    refine am_r_iconst (pc' := 448) (hP _ _ rfl) rfl ?_
    refine am_r_iadd (pc' := 449) (hP _ _ rfl) rfl ?_
    refine am_r_iaSv (pc' := 450) (hP _ _ rfl) rfl hL3 e2 ?_
    refine am_r_aload0 (pc' := 451) (hP _ _ rfl) rfl ?_
    refine am_r_iload3 (pc' := 452) (hP _ _ rfl) rfl ?_
    refine am_r_iconst (pc' := 453) (hP _ _ rfl) rfl ?_
    refine am_r_iadd (pc' := 454) (hP _ _ rfl) rfl ?_
    refine am_r_iaSv (pc' := 455) (hP _ _ rfl) rfl hL3 e3 ?_
    refine am_r_invI3 (pc' := 458) (hP _ _ rfl) rfl rfl (Nat.le_of_ble_eq_true rfl) (m_at (by omega) gX (by omega) (by omega) (by omega) ?_)
    · have hG := mi_mk gX gL gT gH gK gD gO
      refine am_r_eqs (pt := 1753) (hP _ _ rfl) rfl ?_
      exact hq _ (inv_mk (ci_mk hX hL hT hH hK hD hO) hG hN hl)
def am_pLc7 : Am_p := [(463, 1, .aload 1, .aload 1, 0), (464, 1, .aload 0, .aload 0, 0), (465, 1, .iload 3, .iload 3, 0), (466, 1, .iconst 1, .iconst 1, 0), (467, 1, .iadd, .iadd, 0), (468, 1, .iaload, .iaload, 0), (469, 1, .aload 0, .aload 0, 0), (470, 1, .iload 3, .iload 3, 0), (471, 1, .iconst 2, .iconst 2, 0), (472, 1, .iadd, .iadd, 0), (473, 1, .iaload, .iaload, 0), (474, 1, .aload 0, .aload 0, 0), (475, 1, .iload 3, .iload 3, 0), (476, 1, .iconst 3, .iconst 3, 0), (477, 1, .iadd, .iadd, 0), (478, 1, .iaload, .iaload, 0), (479, 3, .invokevirtual 114, .invokevirtual 114, 0), (482, 1, .aload 2, .aload 2, 0), (483, 1, .aload 0, .aload 0, 0), (484, 1, .iload 3, .iload 3, 0), (485, 1, .iconst 1, .iconst 1, 0), (486, 1, .iadd, .iadd, 0), (487, 1, .iaload, .iaload, 0), (488, 1, .aload 0, .aload 0, 0), (489, 1, .iload 3, .iload 3, 0), (490, 1, .iconst 2, .iconst 2, 0), (491, 1, .iadd, .iadd, 0), (492, 1, .iaload, .iaload, 0), (493, 1, .aload 0, .aload 0, 0), (494, 1, .iload 3, .iload 3, 0), (495, 1, .iconst 3, .iconst 3, 0), (496, 1, .iadd, .iadd, 0), (497, 1, .iaload, .iaload, 0), (498, 3, .invokevirtual 194, .invokevirtual 194, 0), (501, 3, .if_icmp .eq 1753, .if_icmp .eq 1753, 0), (504, 1, .iconst 0, .iconst 0, 0), (505, 1, .ireturn, .ireturn, 0)]
theorem lw_c7 {sL : Nat} {xs : Nat → Int32} {d : Nat} {M : Am_M} {P : Am_p} {Q : Option Value → Am_M → Prop} (hd : 60 ≤ d) (hP : ∀ pc r, am_lk am_pLc7 pc = some r → am_lk P pc = some r) (hL3 : sL ≤ 3072) {i : Int} (hi : 0 ≤ i ∧ i + 6 ≤ sL) (hI : Inv M) (hq : ∀ M', Inv M' → am_rw sL xs d P 2 1753 [.ref 900, .ref 0, .ref 53, .int (z_I i)] [] M' Q) : am_rw sL xs d P 2 463 [.ref 900, .ref 0, .ref 53, .int (z_I i)] [] M Q := by
  obtain ⟨σ, χ, c, t, η, ε, δ, κ, m, l, ⟨hX, hL, hT, hH, hK, hD, hO⟩, hg0, hN, hl⟩ := hI
  obtain ⟨a1, h1, e1⟩ := z_of (xs (i + 1).toNat)
  obtain ⟨a2, h2, e2⟩ := z_of (xs (i + 2).toNat)
  obtain ⟨a3, h3, e3⟩ := z_of (xs (i + 3).toNat)
  refine am_r_aload1 (pc' := 464) (hP _ _ rfl) rfl ?_
  refine am_r_aload0 (pc' := 465) (hP _ _ rfl) rfl ?_
  refine am_r_iload3 (pc' := 466) (hP _ _ rfl) rfl ?_
  refine am_r_iconst (pc' := 467) (hP _ _ rfl) rfl ?_
  refine am_r_iadd (pc' := 468) (hP _ _ rfl) rfl ?_
  refine am_r_iaSv (pc' := 469) (hP _ _ rfl) rfl hL3 e1 ?_
  refine am_r_aload0 (pc' := 470) (hP _ _ rfl) rfl ?_
  refine am_r_iload3 (pc' := 471) (hP _ _ rfl) rfl ?_
  refine am_r_iconst (pc' := 472) (hP _ _ rfl) rfl ?_
  refine am_r_iadd (pc' := 473) (hP _ _ rfl) rfl ?_
  refine am_r_iaSv (pc' := 474) (hP _ _ rfl) rfl hL3 e2 ?_
  refine am_r_aload0 (pc' := 475) (hP _ _ rfl) rfl ?_
  refine am_r_iload3 (pc' := 476) (hP _ _ rfl) rfl ?_
  refine am_r_iconst (pc' := 477) (hP _ _ rfl) rfl ?_
  refine am_r_iadd (pc' := 478) (hP _ _ rfl) rfl ?_
  refine am_r_iaSv (pc' := 479) (hP _ _ rfl) rfl hL3 e3 ?_
  refine am_r_invI3 (pc' := 482) (hP _ _ rfl) rfl rfl (Nat.le_of_ble_eq_true rfl) (c_apart (by omega) hX (by omega) (by omega) (by omega) ?_)
  · obtain ⟨gX, gL, gT, gH, gK, gD, gO⟩ := hg0
    refine am_r_aload2 (pc' := 483) (hP _ _ rfl) rfl ?_
    refine am_r_aload0 (pc' := 484) (hP _ _ rfl) rfl ?_
    refine am_r_iload3 (pc' := 485) (hP _ _ rfl) rfl ?_
    refine am_r_iconst (pc' := 486) (hP _ _ rfl) rfl ?_
    refine am_r_iadd (pc' := 487) (hP _ _ rfl) rfl ?_
    refine am_r_iaSv (pc' := 488) (hP _ _ rfl) rfl hL3 e1 ?_
    refine am_r_aload0 (pc' := 489) (hP _ _ rfl) rfl ?_
    refine am_r_iload3 (pc' := 490) (hP _ _ rfl) rfl ?_
    refine am_r_iconst (pc' := 491) (hP _ _ rfl) rfl ?_
    refine am_r_iadd (pc' := 492) (hP _ _ rfl) rfl ?_
    refine am_r_iaSv (pc' := 493) (hP _ _ rfl) rfl hL3 e2 ?_
    refine am_r_aload0 (pc' := 494) (hP _ _ rfl) rfl ?_
    refine am_r_iload3 (pc' := 495) (hP _ _ rfl) rfl ?_
    refine am_r_iconst (pc' := 496) (hP _ _ rfl) rfl ?_
    refine am_r_iadd (pc' := 497) (hP _ _ rfl) rfl ?_
    refine am_r_iaSv (pc' := 498) (hP _ _ rfl) rfl hL3 e3 ?_
    refine am_r_invI3 (pc' := 501) (hP _ _ rfl) rfl rfl (Nat.le_of_ble_eq_true rfl) (m_apart (by omega) gX (by omega) (by omega) (by omega) ?_)
    · have hG := mi_mk gX gL gT gH gK gD gO
      refine am_r_eqs (pt := 1753) (hP _ _ rfl) rfl ?_
      exact hq _ (inv_mk (ci_mk hX hL hT hH hK hD hO) hG hN hl)
def am_pLc8 : Am_p := [(506, 1, .aload 1, .aload 1, 0), (507, 1, .aload 0, .aload 0, 0), (508, 1, .iload 3, .iload 3, 0), (509, 1, .iconst 1, .iconst 1, 0), (510, 1, .iadd, .iadd, 0), (511, 1, .iaload, .iaload, 0), (512, 1, .aload 0, .aload 0, 0), (513, 1, .iload 3, .iload 3, 0), (514, 1, .iconst 2, .iconst 2, 0), (515, 1, .iadd, .iadd, 0), (516, 1, .iaload, .iaload, 0), (517, 3, .invokevirtual 115, .invokevirtual 115, 0), (520, 1, .aload 2, .aload 2, 0), (521, 1, .aload 0, .aload 0, 0), (522, 1, .iload 3, .iload 3, 0), (523, 1, .iconst 1, .iconst 1, 0), (524, 1, .iadd, .iadd, 0), (525, 1, .iaload, .iaload, 0), (526, 1, .aload 0, .aload 0, 0), (527, 1, .iload 3, .iload 3, 0), (528, 1, .iconst 2, .iconst 2, 0), (529, 1, .iadd, .iadd, 0), (530, 1, .iaload, .iaload, 0), (531, 3, .invokevirtual 195, .invokevirtual 195, 0), (534, 3, .if_icmp .eq 1753, .if_icmp .eq 1753, 0), (537, 1, .iconst 0, .iconst 0, 0), (538, 1, .ireturn, .ireturn, 0)]
theorem lw_c8 {sL : Nat} {xs : Nat → Int32} {d : Nat} {M : Am_M} {P : Am_p} {Q : Option Value → Am_M → Prop} (hd : 60 ≤ d) (hP : ∀ pc r, am_lk am_pLc8 pc = some r → am_lk P pc = some r) (hL3 : sL ≤ 3072) {i : Int} (hi : 0 ≤ i ∧ i + 6 ≤ sL) (hI : Inv M) (hq : ∀ M', Inv M' → am_rw sL xs d P 2 1753 [.ref 900, .ref 0, .ref 53, .int (z_I i)] [] M' Q) : am_rw sL xs d P 2 506 [.ref 900, .ref 0, .ref 53, .int (z_I i)] [] M Q := by
  obtain ⟨σ, χ, c, t, η, ε, δ, κ, m, l, ⟨hX, hL, hT, hH, hK, hD, hO⟩, hg0, hN, hl⟩ := hI
  obtain ⟨a1, h1, e1⟩ := z_of (xs (i + 1).toNat)
  obtain ⟨a2, h2, e2⟩ := z_of (xs (i + 2).toNat)
  refine am_r_aload1 (pc' := 507) (hP _ _ rfl) rfl ?_
  refine am_r_aload0 (pc' := 508) (hP _ _ rfl) rfl ?_
  refine am_r_iload3 (pc' := 509) (hP _ _ rfl) rfl ?_
  refine am_r_iconst (pc' := 510) (hP _ _ rfl) rfl ?_
  refine am_r_iadd (pc' := 511) (hP _ _ rfl) rfl ?_
  refine am_r_iaSv (pc' := 512) (hP _ _ rfl) rfl hL3 e1 ?_
  refine am_r_aload0 (pc' := 513) (hP _ _ rfl) rfl ?_
  refine am_r_iload3 (pc' := 514) (hP _ _ rfl) rfl ?_
  refine am_r_iconst (pc' := 515) (hP _ _ rfl) rfl ?_
  refine am_r_iadd (pc' := 516) (hP _ _ rfl) rfl ?_
  refine am_r_iaSv (pc' := 517) (hP _ _ rfl) rfl hL3 e2 ?_
  refine am_r_invI2 (pc' := 520) (hP _ _ rfl) rfl rfl (Nat.le_of_ble_eq_true rfl) (c_meets (by omega) hX (by omega) (by omega) ?_)
  · obtain ⟨gX, gL, gT, gH, gK, gD, gO⟩ := hg0
    refine am_r_aload2 (pc' := 521) (hP _ _ rfl) rfl ?_
    refine am_r_aload0 (pc' := 522) (hP _ _ rfl) rfl ?_
    refine am_r_iload3 (pc' := 523) (hP _ _ rfl) rfl ?_
    refine am_r_iconst (pc' := 524) (hP _ _ rfl) rfl ?_
    refine am_r_iadd (pc' := 525) (hP _ _ rfl) rfl ?_
    refine am_r_iaSv (pc' := 526) (hP _ _ rfl) rfl hL3 e1 ?_
    refine am_r_aload0 (pc' := 527) (hP _ _ rfl) rfl ?_
    refine am_r_iload3 (pc' := 528) (hP _ _ rfl) rfl ?_
    refine am_r_iconst (pc' := 529) (hP _ _ rfl) rfl ?_
    refine am_r_iadd (pc' := 530) (hP _ _ rfl) rfl ?_
    refine am_r_iaSv (pc' := 531) (hP _ _ rfl) rfl hL3 e2 ?_
    refine am_r_invI2 (pc' := 534) (hP _ _ rfl) rfl rfl (Nat.le_of_ble_eq_true rfl) (m_meets (by omega) gX (by omega) (by omega) ?_)
    · have hG := mi_mk gX gL gT gH gK gD gO
      rw [r_meets_e hX.1]
      refine am_r_eqs (pt := 1753) (hP _ _ rfl) rfl ?_
      exact hq _ (inv_mk (ci_mk hX hL hT hH hK hD hO) hG hN hl)
def am_pLc9 : Am_p := [(539, 1, .aload 1, .aload 1, 0), (540, 1, .aload 0, .aload 0, 0), (541, 1, .iload 3, .iload 3, 0), (542, 1, .iconst 1, .iconst 1, 0), (543, 1, .iadd, .iadd, 0), (544, 1, .iaload, .iaload, 0), (545, 1, .aload 0, .aload 0, 0), (546, 1, .iload 3, .iload 3, 0), (547, 1, .iconst 2, .iconst 2, 0), (548, 1, .iadd, .iadd, 0), (549, 1, .iaload, .iaload, 0), (550, 1, .aload 0, .aload 0, 0), (551, 1, .iload 3, .iload 3, 0), (552, 1, .iconst 3, .iconst 3, 0), (553, 1, .iadd, .iadd, 0), (554, 1, .iaload, .iaload, 0), (555, 3, .invokevirtual 116, .invokevirtual 116, 0), (558, 1, .aload 2, .aload 2, 0), (559, 1, .aload 0, .aload 0, 0), (560, 1, .iload 3, .iload 3, 0), (561, 1, .iconst 1, .iconst 1, 0), (562, 1, .iadd, .iadd, 0), (563, 1, .iaload, .iaload, 0), (564, 1, .aload 0, .aload 0, 0), (565, 1, .iload 3, .iload 3, 0), (566, 1, .iconst 2, .iconst 2, 0), (567, 1, .iadd, .iadd, 0), (568, 1, .iaload, .iaload, 0), (569, 1, .aload 0, .aload 0, 0), (570, 1, .iload 3, .iload 3, 0), (571, 1, .iconst 3, .iconst 3, 0), (572, 1, .iadd, .iadd, 0), (573, 1, .iaload, .iaload, 0), (574, 3, .invokevirtual 196, .invokevirtual 196, 0), (577, 3, .if_icmp .eq 1753, .if_icmp .eq 1753, 0), (580, 1, .iconst 0, .iconst 0, 0), (581, 1, .ireturn, .ireturn, 0)]
theorem lw_c9 {sL : Nat} {xs : Nat → Int32} {d : Nat} {M : Am_M} {P : Am_p} {Q : Option Value → Am_M → Prop} (hd : 60 ≤ d) (hP : ∀ pc r, am_lk am_pLc9 pc = some r → am_lk P pc = some r) (hL3 : sL ≤ 3072) {i : Int} (hi : 0 ≤ i ∧ i + 6 ≤ sL) (hI : Inv M) (hq : ∀ M', Inv M' → am_rw sL xs d P 2 1753 [.ref 900, .ref 0, .ref 53, .int (z_I i)] [] M' Q) : am_rw sL xs d P 2 539 [.ref 900, .ref 0, .ref 53, .int (z_I i)] [] M Q := by
  obtain ⟨σ, χ, c, t, η, ε, δ, κ, m, l, ⟨hX, hL, hT, hH, hK, hD, hO⟩, hg0, hN, hl⟩ := hI
  obtain ⟨a1, h1, e1⟩ := z_of (xs (i + 1).toNat)
  obtain ⟨a2, h2, e2⟩ := z_of (xs (i + 2).toNat)
  obtain ⟨a3, h3, e3⟩ := z_of (xs (i + 3).toNat)
  refine am_r_aload1 (pc' := 540) (hP _ _ rfl) rfl ?_
  refine am_r_aload0 (pc' := 541) (hP _ _ rfl) rfl ?_
  refine am_r_iload3 (pc' := 542) (hP _ _ rfl) rfl ?_
  refine am_r_iconst (pc' := 543) (hP _ _ rfl) rfl ?_
  refine am_r_iadd (pc' := 544) (hP _ _ rfl) rfl ?_
  refine am_r_iaSv (pc' := 545) (hP _ _ rfl) rfl hL3 e1 ?_
  refine am_r_aload0 (pc' := 546) (hP _ _ rfl) rfl ?_
  refine am_r_iload3 (pc' := 547) (hP _ _ rfl) rfl ?_
  refine am_r_iconst (pc' := 548) (hP _ _ rfl) rfl ?_
  refine am_r_iadd (pc' := 549) (hP _ _ rfl) rfl ?_
  refine am_r_iaSv (pc' := 550) (hP _ _ rfl) rfl hL3 e2 ?_
  refine am_r_aload0 (pc' := 551) (hP _ _ rfl) rfl ?_
  refine am_r_iload3 (pc' := 552) (hP _ _ rfl) rfl ?_
  refine am_r_iconst (pc' := 553) (hP _ _ rfl) rfl ?_
  refine am_r_iadd (pc' := 554) (hP _ _ rfl) rfl ?_
  refine am_r_iaSv (pc' := 555) (hP _ _ rfl) rfl hL3 e3 ?_
  refine am_r_invI3 (pc' := 558) (hP _ _ rfl) rfl rfl (Nat.le_of_ble_eq_true rfl) (c_often (by omega) hX (by omega) (by omega) (by omega) ?_)
  · obtain ⟨gX, gL, gT, gH, gK, gD, gO⟩ := hg0
    refine am_r_aload2 (pc' := 559) (hP _ _ rfl) rfl ?_
    refine am_r_aload0 (pc' := 560) (hP _ _ rfl) rfl ?_
    refine am_r_iload3 (pc' := 561) (hP _ _ rfl) rfl ?_
    refine am_r_iconst (pc' := 562) (hP _ _ rfl) rfl ?_
    refine am_r_iadd (pc' := 563) (hP _ _ rfl) rfl ?_
    refine am_r_iaSv (pc' := 564) (hP _ _ rfl) rfl hL3 e1 ?_
    refine am_r_aload0 (pc' := 565) (hP _ _ rfl) rfl ?_
    refine am_r_iload3 (pc' := 566) (hP _ _ rfl) rfl ?_
    refine am_r_iconst (pc' := 567) (hP _ _ rfl) rfl ?_
    refine am_r_iadd (pc' := 568) (hP _ _ rfl) rfl ?_
    refine am_r_iaSv (pc' := 569) (hP _ _ rfl) rfl hL3 e2 ?_
    refine am_r_aload0 (pc' := 570) (hP _ _ rfl) rfl ?_
    refine am_r_iload3 (pc' := 571) (hP _ _ rfl) rfl ?_
    refine am_r_iconst (pc' := 572) (hP _ _ rfl) rfl ?_
    refine am_r_iadd (pc' := 573) (hP _ _ rfl) rfl ?_
    refine am_r_iaSv (pc' := 574) (hP _ _ rfl) rfl hL3 e3 ?_
    refine am_r_invI3 (pc' := 577) (hP _ _ rfl) rfl rfl (Nat.le_of_ble_eq_true rfl) (m_often (by omega) gX (by omega) (by omega) (by omega) ?_)
    · have hG := mi_mk gX gL gT gH gK gD gO
      refine am_r_eqs (pt := 1753) (hP _ _ rfl) rfl ?_
      exact hq _ (inv_mk (ci_mk hX hL hT hH hK hD hO) hG hN hl)
def am_pLc10 : Am_p := [(582, 1, .aload 1, .aload 1, 0), (583, 1, .aload 0, .aload 0, 0), (584, 1, .iload 3, .iload 3, 0), (585, 1, .iconst 1, .iconst 1, 0), (586, 1, .iadd, .iadd, 0), (587, 1, .iaload, .iaload, 0), (588, 3, .invokevirtual 117, .invokevirtual 117, 0), (591, 1, .aload 2, .aload 2, 0), (592, 1, .aload 0, .aload 0, 0), (593, 1, .iload 3, .iload 3, 0), (594, 1, .iconst 1, .iconst 1, 0), (595, 1, .iadd, .iadd, 0), (596, 1, .iaload, .iaload, 0), (597, 3, .invokevirtual 199, .invokevirtual 199, 0), (600, 1, .lcmp, .lcmp, 0), (601, 3, .ifCond .eq 1753, .ifCond .eq 1753, 0), (604, 1, .iconst 0, .iconst 0, 0), (605, 1, .ireturn, .ireturn, 0)]
theorem lw_c10 {sL : Nat} {xs : Nat → Int32} {d : Nat} {M : Am_M} {P : Am_p} {Q : Option Value → Am_M → Prop} (hd : 60 ≤ d) (hP : ∀ pc r, am_lk am_pLc10 pc = some r → am_lk P pc = some r) (hL3 : sL ≤ 3072) {i : Int} (hi : 0 ≤ i ∧ i + 6 ≤ sL) (hI : Inv M) (hq : ∀ M', Inv M' → am_rw sL xs d P 2 1753 [.ref 900, .ref 0, .ref 53, .int (z_I i)] [] M' Q) : am_rw sL xs d P 2 582 [.ref 900, .ref 0, .ref 53, .int (z_I i)] [] M Q := by
  obtain ⟨σ, χ, c, t, η, ε, δ, κ, m, l, ⟨hX, hL, hT, hH, hK, hD, hO⟩, hg0, hN, hl⟩ := hI
  obtain ⟨a1, h1, e1⟩ := z_of (xs (i + 1).toNat)
  refine am_r_aload1 (pc' := 583) (hP _ _ rfl) rfl ?_
  refine am_r_aload0 (pc' := 584) (hP _ _ rfl) rfl ?_
  refine am_r_iload3 (pc' := 585) (hP _ _ rfl) rfl ?_
  refine am_r_iconst (pc' := 586) (hP _ _ rfl) rfl ?_
  refine am_r_iadd (pc' := 587) (hP _ _ rfl) rfl ?_
  refine am_r_iaSv (pc' := 588) (hP _ _ rfl) rfl hL3 e1 ?_
  refine am_r_invL1 (pc' := 591) (hP _ _ rfl) rfl rfl (Nat.le_of_ble_eq_true rfl) (c_together (by omega) hX (by omega) ?_)
  · obtain ⟨gX, gL, gT, gH, gK, gD, gO⟩ := hg0
    refine am_r_aload2 (pc' := 592) (hP _ _ rfl) rfl ?_
    refine am_r_aload0 (pc' := 593) (hP _ _ rfl) rfl ?_
    refine am_r_iload3 (pc' := 594) (hP _ _ rfl) rfl ?_
    refine am_r_iconst (pc' := 595) (hP _ _ rfl) rfl ?_
    refine am_r_iadd (pc' := 596) (hP _ _ rfl) rfl ?_
    refine am_r_iaSv (pc' := 597) (hP _ _ rfl) rfl hL3 e1 ?_
    refine am_r_invL1 (pc' := 600) (hP _ _ rfl) rfl rfl (Nat.le_of_ble_eq_true rfl) (m_together (by omega) gX (by omega) ?_)
    · have hG := mi_mk gX gL gT gH gK gD gO
      refine am_r_lcs (pc' := 601) (hP _ _ rfl) rfl ?_
      refine am_r_ifz (pt := 1753) (hP _ _ rfl) rfl ?_
      exact hq _ (inv_mk (ci_mk hX hL hT hH hK hD hO) hG hN hl)
def am_pLc11 : Am_p := [(606, 1, .aload 1, .aload 1, 0), (607, 1, .aload 0, .aload 0, 0), (608, 1, .iload 3, .iload 3, 0), (609, 1, .iconst 1, .iconst 1, 0), (610, 1, .iadd, .iadd, 0), (611, 1, .iaload, .iaload, 0), (612, 3, .invokevirtual 118, .invokevirtual 118, 0), (615, 1, .aload 2, .aload 2, 0), (616, 1, .aload 0, .aload 0, 0), (617, 1, .iload 3, .iload 3, 0), (618, 1, .iconst 1, .iconst 1, 0), (619, 1, .iadd, .iadd, 0), (620, 1, .iaload, .iaload, 0), (621, 3, .invokevirtual 200, .invokevirtual 200, 0), (624, 1, .lcmp, .lcmp, 0), (625, 3, .ifCond .eq 1753, .ifCond .eq 1753, 0), (628, 1, .iconst 0, .iconst 0, 0), (629, 1, .ireturn, .ireturn, 0)]
theorem lw_c11 {sL : Nat} {xs : Nat → Int32} {d : Nat} {M : Am_M} {P : Am_p} {Q : Option Value → Am_M → Prop} (hd : 60 ≤ d) (hP : ∀ pc r, am_lk am_pLc11 pc = some r → am_lk P pc = some r) (hL3 : sL ≤ 3072) {i : Int} (hi : 0 ≤ i ∧ i + 6 ≤ sL) (hI : Inv M) (hq : ∀ M', Inv M' → am_rw sL xs d P 2 1753 [.ref 900, .ref 0, .ref 53, .int (z_I i)] [] M' Q) : am_rw sL xs d P 2 606 [.ref 900, .ref 0, .ref 53, .int (z_I i)] [] M Q := by
  obtain ⟨σ, χ, c, t, η, ε, δ, κ, m, l, ⟨hX, hL, hT, hH, hK, hD, hO⟩, hg0, hN, hl⟩ := hI
  obtain ⟨a1, h1, e1⟩ := z_of (xs (i + 1).toNat)
  refine am_r_aload1 (pc' := 607) (hP _ _ rfl) rfl ?_
  refine am_r_aload0 (pc' := 608) (hP _ _ rfl) rfl ?_
  refine am_r_iload3 (pc' := 609) (hP _ _ rfl) rfl ?_
  refine am_r_iconst (pc' := 610) (hP _ _ rfl) rfl ?_
  refine am_r_iadd (pc' := 611) (hP _ _ rfl) rfl ?_
  refine am_r_iaSv (pc' := 612) (hP _ _ rfl) rfl hL3 e1 ?_
  refine am_r_invL1 (pc' := 615) (hP _ _ rfl) rfl rfl (Nat.le_of_ble_eq_true rfl) (c_start (by omega) hX (by omega) ?_)
  · obtain ⟨gX, gL, gT, gH, gK, gD, gO⟩ := hg0
    refine am_r_aload2 (pc' := 616) (hP _ _ rfl) rfl ?_
    refine am_r_aload0 (pc' := 617) (hP _ _ rfl) rfl ?_
    refine am_r_iload3 (pc' := 618) (hP _ _ rfl) rfl ?_
    refine am_r_iconst (pc' := 619) (hP _ _ rfl) rfl ?_
    refine am_r_iadd (pc' := 620) (hP _ _ rfl) rfl ?_
    refine am_r_iaSv (pc' := 621) (hP _ _ rfl) rfl hL3 e1 ?_
    refine am_r_invL1 (pc' := 624) (hP _ _ rfl) rfl rfl (Nat.le_of_ble_eq_true rfl) (m_start (by omega) gX (by omega) ?_)
    · have hG := mi_mk gX gL gT gH gK gD gO
      refine am_r_lcs (pc' := 625) (hP _ _ rfl) rfl ?_
      refine am_r_ifz (pt := 1753) (hP _ _ rfl) rfl ?_
      exact hq _ (inv_mk (ci_mk hX hL hT hH hK hD hO) hG hN hl)
