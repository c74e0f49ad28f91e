/-! THE LAW, what it asks, 36 and on -/
def am_pLc36 : Am_p := [(1362, 1, .aload 1, .aload 1, 0), (1363, 1, .aload 0, .aload 0, 0), (1364, 1, .iload 3, .iload 3, 0), (1365, 1, .iconst 1, .iconst 1, 0), (1366, 1, .iadd, .iadd, 0), (1367, 1, .iaload, .iaload, 0), (1368, 3, .invokevirtual 143, .invokevirtual 143, 0), (1371, 1, .aload 2, .aload 2, 0), (1372, 1, .aload 0, .aload 0, 0), (1373, 1, .iload 3, .iload 3, 0), (1374, 1, .iconst 1, .iconst 1, 0), (1375, 1, .iadd, .iadd, 0), (1376, 1, .iaload, .iaload, 0), (1377, 3, .invokevirtual 241, .invokevirtual 241, 0), (1380, 3, .if_icmp .eq 1753, .if_icmp .eq 1753, 0), (1383, 1, .iconst 0, .iconst 0, 0), (1384, 1, .ireturn, .ireturn, 0)]
theorem lw_c36 {sL : Nat} {xs : Nat → Int32} {d : Nat} {M : Am_M} {P : Am_p} {Q : Option Value → Am_M → Prop} (hd : 60 ≤ d) (hP : ∀ pc r, am_lk am_pLc36 pc = some r → am_lk P pc = some r) (hL3 : sL ≤ 3072) {i : Int} (hi : 0 ≤ i ∧ i + 6 ≤ sL) (hI : Inv M) (hq : ∀ M', Inv M' → am_rw sL xs d P 2 1753 [.ref 900, .ref 0, .ref 53, .int (z_I i)] [] M' Q) : am_rw sL xs d P 2 1362 [.ref 900, .ref 0, .ref 53, .int (z_I i)] [] M Q := by
  obtain ⟨σ, χ, c, t, η, ε, δ, κ, m, l, ⟨hX, hL, hT, hH, hK, hD, hO⟩, hg0, hN, hl⟩ := hI
  obtain ⟨a1, h1, e1⟩ := z_of (xs (i + 1).toNat)
  refine am_r_aload1 (pc' := 1363) (hP _ _ rfl) rfl ?_
  refine am_r_aload0 (pc' := 1364) (hP _ _ rfl) rfl ?_
  refine am_r_iload3 (pc' := 1365) (hP _ _ rfl) rfl ?_
  refine am_r_iconst (pc' := 1366) (hP _ _ rfl) rfl ?_
  refine am_r_iadd (pc' := 1367) (hP _ _ rfl) rfl ?_
  refine am_r_iaSv (pc' := 1368) (hP _ _ rfl) rfl hL3 e1 ?_
  refine am_r_invI1 (pc' := 1371) (hP _ _ rfl) rfl rfl (Nat.le_of_ble_eq_true rfl) (c_body (by omega) hO (by omega) ?_)
  · intro M1 f1 xO
    have hC := ci_mk (sx_k2 hX (fun k a b => (f1 k (by omega)).1)) (cl_cg hL (f1 19 (by omega)).1 (f1 20 (by omega)).1 (f1 21 (by omega)).1) (tb_k hT (f1 15 (by omega)).1 (f1 16 (by omega)).1) (hx_cg hH (fun k a b => (f1 k (by omega)))) (kx_cg hK (fun k a b => (f1 k (by omega)).1)) (dx_cg hD (f1 31 (by omega)).1 (f1 32 (by omega)).1) xO
    obtain ⟨gX, gL, gT, gH, gK, gD, gO⟩ := mi_keep hg0 (fun k hk => (f1 k (by omega)))
    refine am_r_aload2 (pc' := 1372) (hP _ _ rfl) rfl ?_
    refine am_r_aload0 (pc' := 1373) (hP _ _ rfl) rfl ?_
    refine am_r_iload3 (pc' := 1374) (hP _ _ rfl) rfl ?_
    refine am_r_iconst (pc' := 1375) (hP _ _ rfl) rfl ?_
    refine am_r_iadd (pc' := 1376) (hP _ _ rfl) rfl ?_
    refine am_r_iaSv (pc' := 1377) (hP _ _ rfl) rfl hL3 e1 ?_
    refine am_r_invI1 (pc' := 1380) (hP _ _ rfl) rfl rfl (Nat.le_of_ble_eq_true rfl) (m_body2 (by omega) gO (by omega) ?_)
    · intro M2 f2 yO
      have hG := mi_mk (sm_k gX (fun k i q => (f2.1 k i (by omega) (by omega)))) (lm_k gL (fun k i q => (f2.1 k i (by omega) (by omega)))) (tm_k gT (fun k i q => (f2.1 k i (by omega) (by omega)))) (hm_k2 gH (fun k i q => (f2.1 k i (by omega) (by omega))) (by rw [f2.2])) (km_k gK (fun k i q => (f2.1 k i (by omega) (by omega)))) (dm_k gD (fun k i q => (f2.1 k i (by omega) (by omega)))) yO
      have hC2 := ci_keep hC (fun k hk => ⟨funext fun i => (f2.1 k i (by omega) (by omega)), by rw [f2.2]⟩)
      refine am_r_eqs (pt := 1753) (hP _ _ rfl) rfl ?_
      exact hq _ (inv_mk hC2 hG (ho_body hN) hl)
def am_pLc37 : Am_p := [(1385, 1, .aload 1, .aload 1, 0), (1386, 1, .aload 0, .aload 0, 0), (1387, 1, .iload 3, .iload 3, 0), (1388, 1, .iconst 1, .iconst 1, 0), (1389, 1, .iadd, .iadd, 0), (1390, 1, .iaload, .iaload, 0), (1391, 1, .aload 0, .aload 0, 0), (1392, 1, .iload 3, .iload 3, 0), (1393, 1, .iconst 2, .iconst 2, 0), (1394, 1, .iadd, .iadd, 0), (1395, 1, .iaload, .iaload, 0), (1396, 1, .aload 0, .aload 0, 0), (1397, 1, .iload 3, .iload 3, 0), (1398, 1, .iconst 3, .iconst 3, 0), (1399, 1, .iadd, .iadd, 0), (1400, 1, .iaload, .iaload, 0), (1401, 3, .invokevirtual 144, .invokevirtual 144, 0), (1404, 1, .aload 2, .aload 2, 0), (1405, 1, .aload 0, .aload 0, 0), (1406, 1, .iload 3, .iload 3, 0), (1407, 1, .iconst 1, .iconst 1, 0), (1408, 1, .iadd, .iadd, 0), (1409, 1, .iaload, .iaload, 0), (1410, 1, .aload 0, .aload 0, 0), (1411, 1, .iload 3, .iload 3, 0), (1412, 1, .iconst 2, .iconst 2, 0), (1413, 1, .iadd, .iadd, 0), (1414, 1, .iaload, .iaload, 0), (1415, 1, .aload 0, .aload 0, 0), (1416, 1, .iload 3, .iload 3, 0), (1417, 1, .iconst 3, .iconst 3, 0), (1418, 1, .iadd, .iadd, 0), (1419, 1, .iaload, .iaload, 0), (1420, 3, .invokevirtual 248, .invokevirtual 248, 0), (1423, 3, .if_icmp .eq 1753, .if_icmp .eq 1753, 0), (1426, 1, .iconst 0, .iconst 0, 0), (1427, 1, .ireturn, .ireturn, 0)]
theorem lw_c37 {sL : Nat} {xs : Nat → Int32} {d : Nat} {M : Am_M} {P : Am_p} {Q : Option Value → Am_M → Prop} (hd : 60 ≤ d) (hP : ∀ pc r, am_lk am_pLc37 pc = some r → am_lk P pc = some r) (hL3 : sL ≤ 3072) {i : Int} (hi : 0 ≤ i ∧ i + 6 ≤ sL) (hI : Inv M) (hq : ∀ M', Inv M' → am_rw sL xs d P 2 1753 [.ref 900, .ref 0, .ref 53, .int (z_I i)] [] M' Q) : am_rw sL xs d P 2 1385 [.ref 900, .ref 0, .ref 53, .int (z_I i)] [] M Q := by
  obtain ⟨σ, χ, c, t, η, ε, δ, κ, m, l, ⟨hX, hL, hT, hH, hK, hD, hO⟩, hg0, hN, hl⟩ := hI
  obtain ⟨a1, h1, e1⟩ := z_of (xs (i + 1).toNat)
  obtain ⟨a2, h2, e2⟩ := z_of (xs (i + 2).toNat)
  obtain ⟨a3, h3, e3⟩ := z_of (xs (i + 3).toNat)
  refine am_r_aload1 (pc' := 1386) (hP _ _ rfl) rfl ?_
  refine am_r_aload0 (pc' := 1387) (hP _ _ rfl) rfl ?_
  refine am_r_iload3 (pc' := 1388) (hP _ _ rfl) rfl ?_
  refine am_r_iconst (pc' := 1389) (hP _ _ rfl) rfl ?_
  refine am_r_iadd (pc' := 1390) (hP _ _ rfl) rfl ?_
  refine am_r_iaSv (pc' := 1391) (hP _ _ rfl) rfl hL3 e1 ?_
  refine am_r_aload0 (pc' := 1392) (hP _ _ rfl) rfl ?_
  refine am_r_iload3 (pc' := 1393) (hP _ _ rfl) rfl ?_
  refine am_r_iconst (pc' := 1394) (hP _ _ rfl) rfl ?_
  refine am_r_iadd (pc' := 1395) (hP _ _ rfl) rfl ?_
  refine am_r_iaSv (pc' := 1396) (hP _ _ rfl) rfl hL3 e2 ?_
  refine am_r_aload0 (pc' := 1397) (hP _ _ rfl) rfl ?_
  refine am_r_iload3 (pc' := 1398) (hP _ _ rfl) rfl ?_
  refine am_r_iconst (pc' := 1399) (hP _ _ rfl) rfl ?_
  refine am_r_iadd (pc' := 1400) (hP _ _ rfl) rfl ?_
  refine am_r_iaSv (pc' := 1401) (hP _ _ rfl) rfl hL3 e3 ?_
  refine am_r_invI3 (pc' := 1404) (hP _ _ rfl) rfl rfl (Nat.le_of_ble_eq_true rfl) (c_act (by omega) hO (by omega) (by omega) ?_)
  · intro M1 f1 xO
    have hC := ci_mk (sx_k2 hX (fun k a b => (f1 k (by omega)).1)) (cl_cg hL (f1 19 (by omega)).1 (f1 20 (by omega)).1 (f1 21 (by omega)).1) (tb_k hT (f1 15 (by omega)).1 (f1 16 (by omega)).1) (hx_cg hH (fun k a b => (f1 k (by omega)))) (kx_cg hK (fun k a b => (f1 k (by omega)).1)) (dx_cg hD (f1 31 (by omega)).1 (f1 32 (by omega)).1) xO
    obtain ⟨gX, gL, gT, gH, gK, gD, gO⟩ := mi_keep hg0 (fun k hk => (f1 k (by omega)))
    refine am_r_aload2 (pc' := 1405) (hP _ _ rfl) rfl ?_
    refine am_r_aload0 (pc' := 1406) (hP _ _ rfl) rfl ?_
    refine am_r_iload3 (pc' := 1407) (hP _ _ rfl) rfl ?_
    refine am_r_iconst (pc' := 1408) (hP _ _ rfl) rfl ?_
    refine am_r_iadd (pc' := 1409) (hP _ _ rfl) rfl ?_
    refine am_r_iaSv (pc' := 1410) (hP _ _ rfl) rfl hL3 e1 ?_
    refine am_r_aload0 (pc' := 1411) (hP _ _ rfl) rfl ?_
    refine am_r_iload3 (pc' := 1412) (hP _ _ rfl) rfl ?_
    refine am_r_iconst (pc' := 1413) (hP _ _ rfl) rfl ?_
    refine am_r_iadd (pc' := 1414) (hP _ _ rfl) rfl ?_
    refine am_r_iaSv (pc' := 1415) (hP _ _ rfl) rfl hL3 e2 ?_
    refine am_r_aload0 (pc' := 1416) (hP _ _ rfl) rfl ?_
    refine am_r_iload3 (pc' := 1417) (hP _ _ rfl) rfl ?_
    refine am_r_iconst (pc' := 1418) (hP _ _ rfl) rfl ?_
    refine am_r_iadd (pc' := 1419) (hP _ _ rfl) rfl ?_
    refine am_r_iaSv (pc' := 1420) (hP _ _ rfl) rfl hL3 e3 ?_
    refine am_r_invI3 (pc' := 1423) (hP _ _ rfl) rfl rfl (Nat.le_of_ble_eq_true rfl) (m_act2 (by omega) gO (by omega) (by omega) ?_)
    · intro M2 f2 yO
      have hG := mi_mk (sm_k gX (fun k i q => (f2.1 k i (by omega) (by omega)))) (lm_k gL (fun k i q => (f2.1 k i (by omega) (by omega)))) (tm_k gT (fun k i q => (f2.1 k i (by omega) (by omega)))) (hm_k2 gH (fun k i q => (f2.1 k i (by omega) (by omega))) (by rw [f2.2])) (km_k gK (fun k i q => (f2.1 k i (by omega) (by omega)))) (dm_k gD (fun k i q => (f2.1 k i (by omega) (by omega)))) yO
      have hC2 := ci_keep hC (fun k hk => ⟨funext fun i => (f2.1 k i (by omega) (by omega)), by rw [f2.2]⟩)
      refine am_r_eqs (pt := 1753) (hP _ _ rfl) rfl ?_
      exact hq _ (inv_mk hC2 hG hN t_act_l)
def am_pLc38 : Am_p := [(1428, 1, .aload 1, .aload 1, 0), (1429, 1, .aload 0, .aload 0, 0), (1430, 1, .iload 3, .iload 3, 0), (1431, 1, .iconst 1, .iconst 1, 0), (1432, 1, .iadd, .iadd, 0), (1433, 1, .iaload, .iaload, 0), (1434, 3, .invokevirtual 145, .invokevirtual 145, 0), (1437, 1, .aload 2, .aload 2, 0), (1438, 1, .aload 0, .aload 0, 0), (1439, 1, .iload 3, .iload 3, 0), (1440, 1, .iconst 1, .iconst 1, 0), (1441, 1, .iadd, .iadd, 0), (1442, 1, .iaload, .iaload, 0), (1443, 3, .invokevirtual 249, .invokevirtual 249, 0), (1446, 3, .if_icmp .eq 1753, .if_icmp .eq 1753, 0), (1449, 1, .iconst 0, .iconst 0, 0), (1450, 1, .ireturn, .ireturn, 0)]
theorem lw_c38 {sL : Nat} {xs : Nat → Int32} {d : Nat} {M : Am_M} {P : Am_p} {Q : Option Value → Am_M → Prop} (hd : 60 ≤ d) (hP : ∀ pc r, am_lk am_pLc38 pc = some r → am_lk P pc = some r) (hL3 : sL ≤ 3072) {i : Int} (hi : 0 ≤ i ∧ i + 6 ≤ sL) (hI : Inv M) (hq : ∀ M', Inv M' → am_rw sL xs d P 2 1753 [.ref 900, .ref 0, .ref 53, .int (z_I i)] [] M' Q) : am_rw sL xs d P 2 1428 [.ref 900, .ref 0, .ref 53, .int (z_I i)] [] M Q := by
  obtain ⟨σ, χ, c, t, η, ε, δ, κ, m, l, ⟨hX, hL, hT, hH, hK, hD, hO⟩, hg0, hN, hl⟩ := hI
  obtain ⟨a1, h1, e1⟩ := z_of (xs (i + 1).toNat)
  refine am_r_aload1 (pc' := 1429) (hP _ _ rfl) rfl ?_
  refine am_r_aload0 (pc' := 1430) (hP _ _ rfl) rfl ?_
  refine am_r_iload3 (pc' := 1431) (hP _ _ rfl) rfl ?_
  refine am_r_iconst (pc' := 1432) (hP _ _ rfl) rfl ?_
  refine am_r_iadd (pc' := 1433) (hP _ _ rfl) rfl ?_
  refine am_r_iaSv (pc' := 1434) (hP _ _ rfl) rfl hL3 e1 ?_
  refine am_r_invI1 (pc' := 1437) (hP _ _ rfl) rfl rfl (Nat.le_of_ble_eq_true rfl) (c_trace (by omega) hO hl (by omega) ?_)
  · obtain ⟨gX, gL, gT, gH, gK, gD, gO⟩ := hg0
    refine am_r_aload2 (pc' := 1438) (hP _ _ rfl) rfl ?_
    refine am_r_aload0 (pc' := 1439) (hP _ _ rfl) rfl ?_
    refine am_r_iload3 (pc' := 1440) (hP _ _ rfl) rfl ?_
    refine am_r_iconst (pc' := 1441) (hP _ _ rfl) rfl ?_
    refine am_r_iadd (pc' := 1442) (hP _ _ rfl) rfl ?_
    refine am_r_iaSv (pc' := 1443) (hP _ _ rfl) rfl hL3 e1 ?_
    refine am_r_invI1 (pc' := 1446) (hP _ _ rfl) rfl rfl (Nat.le_of_ble_eq_true rfl) (m_trace (by omega) gO hl (by omega) ?_)
    · have hG := mi_mk gX gL gT gH gK gD gO
      refine am_r_eqs (pt := 1753) (hP _ _ rfl) rfl ?_
      exact hq _ (inv_mk (ci_mk hX hL hT hH hK hD hO) hG hN hl)
def am_pLc39 : Am_p := [(1451, 1, .aload 1, .aload 1, 0), (1452, 1, .aload 0, .aload 0, 0), (1453, 1, .iload 3, .iload 3, 0), (1454, 1, .iconst 1, .iconst 1, 0), (1455, 1, .iadd, .iadd, 0), (1456, 1, .iaload, .iaload, 0), (1457, 1, .aload 0, .aload 0, 0), (1458, 1, .iload 3, .iload 3, 0), (1459, 1, .iconst 2, .iconst 2, 0), (1460, 1, .iadd, .iadd, 0), (1461, 1, .iaload, .iaload, 0), (1462, 3, .invokevirtual 146, .invokevirtual 146, 0), (1465, 1, .aload 2, .aload 2, 0), (1466, 1, .aload 0, .aload 0, 0), (1467, 1, .iload 3, .iload 3, 0), (1468, 1, .iconst 1, .iconst 1, 0), (1469, 1, .iadd, .iadd, 0), (1470, 1, .iaload, .iaload, 0), (1471, 1, .aload 0, .aload 0, 0), (1472, 1, .iload 3, .iload 3, 0), (1473, 1, .iconst 2, .iconst 2, 0), (1474, 1, .iadd, .iadd, 0), (1475, 1, .iaload, .iaload, 0), (1476, 3, .invokevirtual 251, .invokevirtual 251, 0), (1479, 3, .if_icmp .eq 1753, .if_icmp .eq 1753, 0), (1482, 1, .iconst 0, .iconst 0, 0), (1483, 1, .ireturn, .ireturn, 0)]
theorem lw_c39 {sL : Nat} {xs : Nat → Int32} {d : Nat} {M : Am_M} {P : Am_p} {Q : Option Value → Am_M → Prop} (hd : 60 ≤ d) (hP : ∀ pc r, am_lk am_pLc39 pc = some r → am_lk P pc = some r) (hL3 : sL ≤ 3072) {i : Int} (hi : 0 ≤ i ∧ i + 6 ≤ sL) (hI : Inv M) (hq : ∀ M', Inv M' → am_rw sL xs d P 2 1753 [.ref 900, .ref 0, .ref 53, .int (z_I i)] [] M' Q) : am_rw sL xs d P 2 1451 [.ref 900, .ref 0, .ref 53, .int (z_I i)] [] M Q := by
  obtain ⟨σ, χ, c, t, η, ε, δ, κ, m, l, ⟨hX, hL, hT, hH, hK, hD, hO⟩, hg0, hN, hl⟩ := hI
  obtain ⟨a1, h1, e1⟩ := z_of (xs (i + 1).toNat)
  obtain ⟨a2, h2, e2⟩ := z_of (xs (i + 2).toNat)
  refine am_r_aload1 (pc' := 1452) (hP _ _ rfl) rfl ?_
  refine am_r_aload0 (pc' := 1453) (hP _ _ rfl) rfl ?_
  refine am_r_iload3 (pc' := 1454) (hP _ _ rfl) rfl ?_
  refine am_r_iconst (pc' := 1455) (hP _ _ rfl) rfl ?_
  refine am_r_iadd (pc' := 1456) (hP _ _ rfl) rfl ?_
  refine am_r_iaSv (pc' := 1457) (hP _ _ rfl) rfl hL3 e1 ?_
  refine am_r_aload0 (pc' := 1458) (hP _ _ rfl) rfl ?_
  refine am_r_iload3 (pc' := 1459) (hP _ _ rfl) rfl ?_
  refine am_r_iconst (pc' := 1460) (hP _ _ rfl) rfl ?_
  refine am_r_iadd (pc' := 1461) (hP _ _ rfl) rfl ?_
  refine am_r_iaSv (pc' := 1462) (hP _ _ rfl) rfl hL3 e2 ?_
  refine am_r_invI2 (pc' := 1465) (hP _ _ rfl) rfl rfl (Nat.le_of_ble_eq_true rfl) (c_keep (by omega) hH hO (by omega) (by omega) ?_)
  · intro M1 f1 xH
    have hC := ci_mk (sx_k2 hX (fun k a b => (f1 k (by omega)).1)) (cl_cg hL (f1 19 (by omega)).1 (f1 20 (by omega)).1 (f1 21 (by omega)).1) (tb_k hT (f1 15 (by omega)).1 (f1 16 (by omega)).1) xH (kx_cg hK (fun k a b => (f1 k (by omega)).1)) (dx_cg hD (f1 31 (by omega)).1 (f1 32 (by omega)).1) (ok_cg hO (f1 50 (by omega)).1 (f1 51 (by omega)).1 (f1 52 (by omega)).1)
    obtain ⟨gX, gL, gT, gH, gK, gD, gO⟩ := mi_keep hg0 (fun k hk => (f1 k (by omega)))
    refine am_r_aload2 (pc' := 1466) (hP _ _ rfl) rfl ?_
    refine am_r_aload0 (pc' := 1467) (hP _ _ rfl) rfl ?_
    refine am_r_iload3 (pc' := 1468) (hP _ _ rfl) rfl ?_
    refine am_r_iconst (pc' := 1469) (hP _ _ rfl) rfl ?_
    refine am_r_iadd (pc' := 1470) (hP _ _ rfl) rfl ?_
    refine am_r_iaSv (pc' := 1471) (hP _ _ rfl) rfl hL3 e1 ?_
    refine am_r_aload0 (pc' := 1472) (hP _ _ rfl) rfl ?_
    refine am_r_iload3 (pc' := 1473) (hP _ _ rfl) rfl ?_
    refine am_r_iconst (pc' := 1474) (hP _ _ rfl) rfl ?_
    refine am_r_iadd (pc' := 1475) (hP _ _ rfl) rfl ?_
    refine am_r_iaSv (pc' := 1476) (hP _ _ rfl) rfl hL3 e2 ?_
    refine am_r_invI2 (pc' := 1479) (hP _ _ rfl) rfl rfl (Nat.le_of_ble_eq_true rfl) (m_keep (by omega) gH gO (by omega) (by omega) ?_)
    · intro M2 f2 yH
      have hG := mi_mk (sm_k gX (fun k i q => (congrFun (f2 k (by omega)).1 i))) (lm_k gL (fun k i q => (congrFun (f2 k (by omega)).1 i))) (tm_k gT (fun k i q => (congrFun (f2 k (by omega)).1 i))) yH (km_k gK (fun k i q => (congrFun (f2 k (by omega)).1 i))) (dm_k gD (fun k i q => (congrFun (f2 k (by omega)).1 i))) (qm_k2 gO (fun k i q => (congrFun (f2 k (by omega)).1 i)))
      have hC2 := ci_keep hC (fun k hk => f2 k (by omega))
      refine am_r_eqs (pt := 1753) (hP _ _ rfl) rfl ?_
      exact hq _ (inv_mk hC2 hG (ho_keep hN (ok_nb hO).1) hl)
def am_pLc40 : Am_p := [(1484, 1, .aload 1, .aload 1, 0), (1485, 1, .aload 0, .aload 0, 0), (1486, 1, .iload 3, .iload 3, 0), (1487, 1, .iconst 1, .iconst 1, 0), (1488, 1, .iadd, .iadd, 0), (1489, 1, .iaload, .iaload, 0), (1490, 1, .aload 0, .aload 0, 0), (1491, 1, .iload 3, .iload 3, 0), (1492, 1, .iconst 2, .iconst 2, 0), (1493, 1, .iadd, .iadd, 0), (1494, 1, .iaload, .iaload, 0), (1495, 1, .aload 0, .aload 0, 0), (1496, 1, .iload 3, .iload 3, 0), (1497, 1, .iconst 3, .iconst 3, 0), (1498, 1, .iadd, .iadd, 0), (1499, 1, .iaload, .iaload, 0), (1500, 3, .invokevirtual 147, .invokevirtual 147, 0), (1503, 1, .aload 2, .aload 2, 0), (1504, 1, .aload 0, .aload 0, 0), (1505, 1, .iload 3, .iload 3, 0), (1506, 1, .iconst 1, .iconst 1, 0), (1507, 1, .iadd, .iadd, 0), (1508, 1, .iaload, .iaload, 0), (1509, 1, .aload 0, .aload 0, 0), (1510, 1, .iload 3, .iload 3, 0), (1511, 1, .iconst 2, .iconst 2, 0), (1512, 1, .iadd, .iadd, 0), (1513, 1, .iaload, .iaload, 0), (1514, 1, .aload 0, .aload 0, 0), (1515, 1, .iload 3, .iload 3, 0), (1516, 1, .iconst 3, .iconst 3, 0), (1517, 1, .iadd, .iadd, 0), (1518, 1, .iaload, .iaload, 0), (1519, 3, .invokevirtual 252, .invokevirtual 252, 0), (1522, 3, .if_icmp .eq 1753, .if_icmp .eq 1753, 0), (1525, 1, .iconst 0, .iconst 0, 0), (1526, 1, .ireturn, .ireturn, 0)]
theorem lw_c40 {sL : Nat} {xs : Nat → Int32} {d : Nat} {M : Am_M} {P : Am_p} {Q : Option Value → Am_M → Prop} (hd : 60 ≤ d) (hP : ∀ pc r, am_lk am_pLc40 pc = some r → am_lk P pc = some r) (hL3 : sL ≤ 3072) {i : Int} (hi : 0 ≤ i ∧ i + 6 ≤ sL) (hI : Inv M) (hq : ∀ M', Inv M' → am_rw sL xs d P 2 1753 [.ref 900, .ref 0, .ref 53, .int (z_I i)] [] M' Q) : am_rw sL xs d P 2 1484 [.ref 900, .ref 0, .ref 53, .int (z_I i)] [] M Q := by
  obtain ⟨σ, χ, c, t, η, ε, δ, κ, m, l, ⟨hX, hL, hT, hH, hK, hD, hO⟩, hg0, hN, hl⟩ := hI
  obtain ⟨a1, h1, e1⟩ := z_of (xs (i + 1).toNat)
  obtain ⟨a2, h2, e2⟩ := z_of (xs (i + 2).toNat)
  obtain ⟨a3, h3, e3⟩ := z_of (xs (i + 3).toNat)
  refine am_r_aload1 (pc' := 1485) (hP _ _ rfl) rfl ?_
  refine am_r_aload0 (pc' := 1486) (hP _ _ rfl) rfl ?_
  refine am_r_iload3 (pc' := 1487) (hP _ _ rfl) rfl ?_
  refine am_r_iconst (pc' := 1488) (hP _ _ rfl) rfl ?_
  refine am_r_iadd (pc' := 1489) (hP _ _ rfl) rfl ?_
  refine am_r_iaSv (pc' := 1490) (hP _ _ rfl) rfl hL3 e1 ?_
  refine am_r_aload0 (pc' := 1491) (hP _ _ rfl) rfl ?_
  refine am_r_iload3 (pc' := 1492) (hP _ _ rfl) rfl ?_
  refine am_r_iconst (pc' := 1493) (hP _ _ rfl) rfl ?_
  refine am_r_iadd (pc' := 1494) (hP _ _ rfl) rfl ?_
  refine am_r_iaSv (pc' := 1495) (hP _ _ rfl) rfl hL3 e2 ?_
  refine am_r_aload0 (pc' := 1496) (hP _ _ rfl) rfl ?_
  refine am_r_iload3 (pc' := 1497) (hP _ _ rfl) rfl ?_
  refine am_r_iconst (pc' := 1498) (hP _ _ rfl) rfl ?_
  refine am_r_iadd (pc' := 1499) (hP _ _ rfl) rfl ?_
  refine am_r_iaSv (pc' := 1500) (hP _ _ rfl) rfl hL3 e3 ?_
  refine am_r_invI3 (pc' := 1503) (hP _ _ rfl) rfl rfl (Nat.le_of_ble_eq_true rfl) (c_row (by omega) hH (by omega) (by omega) (by omega) ?_)
  · intro M1 f1 xH
    have hC := ci_mk (sx_k2 hX (fun k a b => (f1 k (by omega)).1)) (cl_cg hL (f1 19 (by omega)).1 (f1 20 (by omega)).1 (f1 21 (by omega)).1) (tb_k hT (f1 15 (by omega)).1 (f1 16 (by omega)).1) xH (kx_cg hK (fun k a b => (f1 k (by omega)).1)) (dx_cg hD (f1 31 (by omega)).1 (f1 32 (by omega)).1) (ok_cg hO (f1 50 (by omega)).1 (f1 51 (by omega)).1 (f1 52 (by omega)).1)
    obtain ⟨gX, gL, gT, gH, gK, gD, gO⟩ := mi_keep hg0 (fun k hk => (f1 k (by omega)))
    refine am_r_aload2 (pc' := 1504) (hP _ _ rfl) rfl ?_
    refine am_r_aload0 (pc' := 1505) (hP _ _ rfl) rfl ?_
    refine am_r_iload3 (pc' := 1506) (hP _ _ rfl) rfl ?_
    refine am_r_iconst (pc' := 1507) (hP _ _ rfl) rfl ?_
    refine am_r_iadd (pc' := 1508) (hP _ _ rfl) rfl ?_
    refine am_r_iaSv (pc' := 1509) (hP _ _ rfl) rfl hL3 e1 ?_
    refine am_r_aload0 (pc' := 1510) (hP _ _ rfl) rfl ?_
    refine am_r_iload3 (pc' := 1511) (hP _ _ rfl) rfl ?_
    refine am_r_iconst (pc' := 1512) (hP _ _ rfl) rfl ?_
    refine am_r_iadd (pc' := 1513) (hP _ _ rfl) rfl ?_
    refine am_r_iaSv (pc' := 1514) (hP _ _ rfl) rfl hL3 e2 ?_
    refine am_r_aload0 (pc' := 1515) (hP _ _ rfl) rfl ?_
    refine am_r_iload3 (pc' := 1516) (hP _ _ rfl) rfl ?_
    refine am_r_iconst (pc' := 1517) (hP _ _ rfl) rfl ?_
    refine am_r_iadd (pc' := 1518) (hP _ _ rfl) rfl ?_
    refine am_r_iaSv (pc' := 1519) (hP _ _ rfl) rfl hL3 e3 ?_
    refine am_r_invI3 (pc' := 1522) (hP _ _ rfl) rfl rfl (Nat.le_of_ble_eq_true rfl) (m_row (by omega) gH (by omega) (by omega) (by omega) ?_)
    · intro M2 f2 yH
      have hG := mi_mk (sm_k gX (fun k i q => (congrFun (f2 k (by omega)).1 i))) (lm_k gL (fun k i q => (congrFun (f2 k (by omega)).1 i))) (tm_k gT (fun k i q => (congrFun (f2 k (by omega)).1 i))) yH (km_k gK (fun k i q => (congrFun (f2 k (by omega)).1 i))) (dm_k gD (fun k i q => (congrFun (f2 k (by omega)).1 i))) (qm_k2 gO (fun k i q => (congrFun (f2 k (by omega)).1 i)))
      have hC2 := ci_keep hC (fun k hk => f2 k (by omega))
      refine am_r_eqs (pt := 1753) (hP _ _ rfl) rfl ?_
      exact hq _ (inv_mk hC2 hG (ho_row hN) hl)
def am_pLc41 : Am_p := [(1527, 1, .aload 1, .aload 1, 0), (1528, 1, .aload 0, .aload 0, 0), (1529, 1, .iload 3, .iload 3, 0), (1530, 1, .iconst 1, .iconst 1, 0), (1531, 1, .iadd, .iadd, 0), (1532, 1, .iaload, .iaload, 0), (1533, 1, .aload 0, .aload 0, 0), (1534, 1, .iload 3, .iload 3, 0), (1535, 1, .iconst 2, .iconst 2, 0), (1536, 1, .iadd, .iadd, 0), (1537, 1, .iaload, .iaload, 0), (1538, 1, .aload 0, .aload 0, 0), (1539, 1, .iload 3, .iload 3, 0), (1540, 1, .iconst 3, .iconst 3, 0), (1541, 1, .iadd, .iadd, 0), (1542, 1, .iaload, .iaload, 0), (1543, 1, .i2l, .i2l, 0), (1544, 2, .iconst 32, .iconst 32, 0), (1546, 1, .lshl, .lshl, 0), (1547, 1, .aload 0, .aload 0, 0), (1548, 1, .iload 3, .iload 3, 0), (1549, 1, .iconst 4, .iconst 4, 0), (1550, 1, .iadd, .iadd, 0), (1551, 1, .iaload, .iaload, 0), (1552, 1, .i2l, .i2l, 0), (1553, 3, .ldc2_w 4294967295, .ldc2_w 4294967295, 0), (1556, 1, .land, .land, 0), (1557, 1, .lor, .lor, 0), (1558, 3, .invokevirtual 148, .invokevirtual 148, 0), (1561, 1, .aload 2, .aload 2, 0), (1562, 1, .aload 0, .aload 0, 0), (1563, 1, .iload 3, .iload 3, 0), (1564, 1, .iconst 1, .iconst 1, 0), (1565, 1, .iadd, .iadd, 0), (1566, 1, .iaload, .iaload, 0), (1567, 1, .aload 0, .aload 0, 0), (1568, 1, .iload 3, .iload 3, 0), (1569, 1, .iconst 2, .iconst 2, 0), (1570, 1, .iadd, .iadd, 0), (1571, 1, .iaload, .iaload, 0), (1572, 1, .aload 0, .aload 0, 0), (1573, 1, .iload 3, .iload 3, 0), (1574, 1, .iconst 3, .iconst 3, 0), (1575, 1, .iadd, .iadd, 0), (1576, 1, .iaload, .iaload, 0), (1577, 1, .i2l, .i2l, 0), (1578, 2, .iconst 32, .iconst 32, 0), (1580, 1, .lshl, .lshl, 0), (1581, 1, .aload 0, .aload 0, 0), (1582, 1, .iload 3, .iload 3, 0), (1583, 1, .iconst 4, .iconst 4, 0), (1584, 1, .iadd, .iadd, 0), (1585, 1, .iaload, .iaload, 0), (1586, 1, .i2l, .i2l, 0), (1587, 3, .ldc2_w 4294967295, .ldc2_w 4294967295, 0), (1590, 1, .land, .land, 0), (1591, 1, .lor, .lor, 0), (1592, 3, .invokevirtual 255, .invokevirtual 255, 0), (1595, 3, .if_icmp .eq 1753, .if_icmp .eq 1753, 0), (1598, 1, .iconst 0, .iconst 0, 0), (1599, 1, .ireturn, .ireturn, 0)]
theorem lw_c41 {sL : Nat} {xs : Nat → Int32} {d : Nat} {M : Am_M} {P : Am_p} {Q : Option Value → Am_M → Prop} (hd : 60 ≤ d) (hP : ∀ pc r, am_lk am_pLc41 pc = some r → am_lk P pc = some r) (hL3 : sL ≤ 3072) {i : Int} (hi : 0 ≤ i ∧ i + 6 ≤ sL) (hI : Inv M) (hq : ∀ M', Inv M' → am_rw sL xs d P 2 1753 [.ref 900, .ref 0, .ref 53, .int (z_I i)] [] M' Q) : am_rw sL xs d P 2 1527 [.ref 900, .ref 0, .ref 53, .int (z_I i)] [] M Q := by
  obtain ⟨σ, χ, c, t, η, ε, δ, κ, m, l, ⟨hX, hL, hT, hH, hK, hD, hO⟩, hg0, hN, hl⟩ := hI
  obtain ⟨a1, h1, e1⟩ := z_of (xs (i + 1).toNat)
  obtain ⟨a2, h2, e2⟩ := z_of (xs (i + 2).toNat)
  obtain ⟨a3, h3, e3⟩ := z_of (xs (i + 3).toNat)
  obtain ⟨a4, h4, e4⟩ := z_of (xs (i + 4).toNat)
  obtain ⟨v, hv, ev⟩ := z_ofL ((z_I a3).toInt64 <<< ((z_I 32).toInt64 &&& 63) ||| (z_I a4).toInt64 &&& z_L 4294967295)
  refine am_r_aload1 (pc' := 1528) (hP _ _ rfl) rfl ?_
  refine am_r_aload0 (pc' := 1529) (hP _ _ rfl) rfl ?_
  refine am_r_iload3 (pc' := 1530) (hP _ _ rfl) rfl ?_
  refine am_r_iconst (pc' := 1531) (hP _ _ rfl) rfl ?_
  refine am_r_iadd (pc' := 1532) (hP _ _ rfl) rfl ?_
  refine am_r_iaSv (pc' := 1533) (hP _ _ rfl) rfl hL3 e1 ?_
  refine am_r_aload0 (pc' := 1534) (hP _ _ rfl) rfl ?_
  refine am_r_iload3 (pc' := 1535) (hP _ _ rfl) rfl ?_
  refine am_r_iconst (pc' := 1536) (hP _ _ rfl) rfl ?_
  refine am_r_iadd (pc' := 1537) (hP _ _ rfl) rfl ?_
  refine am_r_iaSv (pc' := 1538) (hP _ _ rfl) rfl hL3 e2 ?_
  refine am_r_aload0 (pc' := 1539) (hP _ _ rfl) rfl ?_
  refine am_r_iload3 (pc' := 1540) (hP _ _ rfl) rfl ?_
  refine am_r_iconst (pc' := 1541) (hP _ _ rfl) rfl ?_
  refine am_r_iadd (pc' := 1542) (hP _ _ rfl) rfl ?_
  refine am_r_iaSv (pc' := 1543) (hP _ _ rfl) rfl hL3 e3 ?_
  refine am_r_i2lR (pc' := 1544) (hP _ _ rfl) rfl ?_
  refine am_r_iconst (pc' := 1546) (hP _ _ rfl) rfl ?_
  refine am_r_lshl (pc' := 1547) (hP _ _ rfl) rfl ?_
  refine am_r_aload0 (pc' := 1548) (hP _ _ rfl) rfl ?_
  refine am_r_iload3 (pc' := 1549) (hP _ _ rfl) rfl ?_
  refine am_r_iconst (pc' := 1550) (hP _ _ rfl) rfl ?_
  refine am_r_iadd (pc' := 1551) (hP _ _ rfl) rfl ?_
  refine am_r_iaSv (pc' := 1552) (hP _ _ rfl) rfl hL3 e4 ?_
  refine am_r_i2lR (pc' := 1553) (hP _ _ rfl) rfl ?_
  refine am_r_lconst (z := 4294967295) (pc' := 1556) (hP _ _ rfl) rfl rfl ?_
  refine am_r_landR (pc' := 1557) (hP _ _ rfl) rfl ?_
  refine am_r_lorR (pc' := 1558) (hP _ _ rfl) rfl ?_
  rw [ev]
  refine am_r_invI3 (pc' := 1561) (hP _ _ rfl) rfl rfl (Nat.le_of_ble_eq_true rfl) (c_put (by omega) hH (by omega) (by omega) hv ?_)
  · intro M1 f1 xH
    have hC := ci_mk (sx_k2 hX (fun k a b => (f1 k (by omega)).1)) (cl_cg hL (f1 19 (by omega)).1 (f1 20 (by omega)).1 (f1 21 (by omega)).1) (tb_k hT (f1 15 (by omega)).1 (f1 16 (by omega)).1) xH (kx_cg hK (fun k a b => (f1 k (by omega)).1)) (dx_cg hD (f1 31 (by omega)).1 (f1 32 (by omega)).1) (ok_cg hO (f1 50 (by omega)).1 (f1 51 (by omega)).1 (f1 52 (by omega)).1)
    obtain ⟨gX, gL, gT, gH, gK, gD, gO⟩ := mi_keep hg0 (fun k hk => (f1 k (by omega)))
    refine am_r_aload2 (pc' := 1562) (hP _ _ rfl) rfl ?_
    refine am_r_aload0 (pc' := 1563) (hP _ _ rfl) rfl ?_
    refine am_r_iload3 (pc' := 1564) (hP _ _ rfl) rfl ?_
    refine am_r_iconst (pc' := 1565) (hP _ _ rfl) rfl ?_
    refine am_r_iadd (pc' := 1566) (hP _ _ rfl) rfl ?_
    refine am_r_iaSv (pc' := 1567) (hP _ _ rfl) rfl hL3 e1 ?_
    refine am_r_aload0 (pc' := 1568) (hP _ _ rfl) rfl ?_
    refine am_r_iload3 (pc' := 1569) (hP _ _ rfl) rfl ?_
    refine am_r_iconst (pc' := 1570) (hP _ _ rfl) rfl ?_
    refine am_r_iadd (pc' := 1571) (hP _ _ rfl) rfl ?_
    refine am_r_iaSv (pc' := 1572) (hP _ _ rfl) rfl hL3 e2 ?_
    refine am_r_aload0 (pc' := 1573) (hP _ _ rfl) rfl ?_
    refine am_r_iload3 (pc' := 1574) (hP _ _ rfl) rfl ?_
    refine am_r_iconst (pc' := 1575) (hP _ _ rfl) rfl ?_
    refine am_r_iadd (pc' := 1576) (hP _ _ rfl) rfl ?_
    refine am_r_iaSv (pc' := 1577) (hP _ _ rfl) rfl hL3 e3 ?_
    refine am_r_i2lR (pc' := 1578) (hP _ _ rfl) rfl ?_
    refine am_r_iconst (pc' := 1580) (hP _ _ rfl) rfl ?_
    refine am_r_lshl (pc' := 1581) (hP _ _ rfl) rfl ?_
    refine am_r_aload0 (pc' := 1582) (hP _ _ rfl) rfl ?_
    refine am_r_iload3 (pc' := 1583) (hP _ _ rfl) rfl ?_
    refine am_r_iconst (pc' := 1584) (hP _ _ rfl) rfl ?_
    refine am_r_iadd (pc' := 1585) (hP _ _ rfl) rfl ?_
    refine am_r_iaSv (pc' := 1586) (hP _ _ rfl) rfl hL3 e4 ?_
    refine am_r_i2lR (pc' := 1587) (hP _ _ rfl) rfl ?_
    refine am_r_lconst (z := 4294967295) (pc' := 1590) (hP _ _ rfl) rfl rfl ?_
    refine am_r_landR (pc' := 1591) (hP _ _ rfl) rfl ?_
    refine am_r_lorR (pc' := 1592) (hP _ _ rfl) rfl ?_
    rw [ev]
    refine am_r_invI3 (pc' := 1595) (hP _ _ rfl) rfl rfl (Nat.le_of_ble_eq_true rfl) (m_put (by omega) gH (by omega) (by omega) hv ?_)
    · intro M2 f2 yH
      have hG := mi_mk (sm_k gX (fun k i q => (congrFun (f2 k (by omega)).1 i))) (lm_k gL (fun k i q => (congrFun (f2 k (by omega)).1 i))) (tm_k gT (fun k i q => (congrFun (f2 k (by omega)).1 i))) yH (km_k gK (fun k i q => (congrFun (f2 k (by omega)).1 i))) (dm_k gD (fun k i q => (congrFun (f2 k (by omega)).1 i))) (qm_k2 gO (fun k i q => (congrFun (f2 k (by omega)).1 i)))
      have hC2 := ci_keep hC (fun k hk => f2 k (by omega))
      refine am_r_eqs (pt := 1753) (hP _ _ rfl) rfl ?_
      exact hq _ (inv_mk hC2 hG (ho_put hN) hl)
def am_pLc42 : Am_p := [(1600, 1, .aload 1, .aload 1, 0), (1601, 1, .aload 0, .aload 0, 0), (1602, 1, .iload 3, .iload 3, 0), (1603, 1, .iconst 1, .iconst 1, 0), (1604, 1, .iadd, .iadd, 0), (1605, 1, .iaload, .iaload, 0), (1606, 1, .aload 0, .aload 0, 0), (1607, 1, .iload 3, .iload 3, 0), (1608, 1, .iconst 2, .iconst 2, 0), (1609, 1, .iadd, .iadd, 0), (1610, 1, .iaload, .iaload, 0), (1611, 3, .invokevirtual 149, .invokevirtual 149, 0), (1614, 1, .aload 2, .aload 2, 0), (1615, 1, .aload 0, .aload 0, 0), (1616, 1, .iload 3, .iload 3, 0), (1617, 1, .iconst 1, .iconst 1, 0), (1618, 1, .iadd, .iadd, 0), (1619, 1, .iaload, .iaload, 0), (1620, 1, .aload 0, .aload 0, 0), (1621, 1, .iload 3, .iload 3, 0), (1622, 1, .iconst 2, .iconst 2, 0), (1623, 1, .iadd, .iadd, 0), (1624, 1, .iaload, .iaload, 0), (1625, 3, .invokevirtual 256, .invokevirtual 256, 0), (1628, 1, .lcmp, .lcmp, 0), (1629, 3, .ifCond .eq 1753, .ifCond .eq 1753, 0), (1632, 1, .iconst 0, .iconst 0, 0), (1633, 1, .ireturn, .ireturn, 0)]
theorem lw_c42 {sL : Nat} {xs : Nat → Int32} {d : Nat} {M : Am_M} {P : Am_p} {Q : Option Value → Am_M → Prop} (hd : 60 ≤ d) (hP : ∀ pc r, am_lk am_pLc42 pc = some r → am_lk P pc = some r) (hL3 : sL ≤ 3072) {i : Int} (hi : 0 ≤ i ∧ i + 6 ≤ sL) (hI : Inv M) (hq : ∀ M', Inv M' → am_rw sL xs d P 2 1753 [.ref 900, .ref 0, .ref 53, .int (z_I i)] [] M' Q) : am_rw sL xs d P 2 1600 [.ref 900, .ref 0, .ref 53, .int (z_I i)] [] M Q := by
  obtain ⟨σ, χ, c, t, η, ε, δ, κ, m, l, ⟨hX, hL, hT, hH, hK, hD, hO⟩, hg0, hN, hl⟩ := hI
  obtain ⟨a1, h1, e1⟩ := z_of (xs (i + 1).toNat)
  obtain ⟨a2, h2, e2⟩ := z_of (xs (i + 2).toNat)
  refine am_r_aload1 (pc' := 1601) (hP _ _ rfl) rfl ?_
  refine am_r_aload0 (pc' := 1602) (hP _ _ rfl) rfl ?_
  refine am_r_iload3 (pc' := 1603) (hP _ _ rfl) rfl ?_
  refine am_r_iconst (pc' := 1604) (hP _ _ rfl) rfl ?_
  refine am_r_iadd (pc' := 1605) (hP _ _ rfl) rfl ?_
  refine am_r_iaSv (pc' := 1606) (hP _ _ rfl) rfl hL3 e1 ?_
  refine am_r_aload0 (pc' := 1607) (hP _ _ rfl) rfl ?_
  refine am_r_iload3 (pc' := 1608) (hP _ _ rfl) rfl ?_
  refine am_r_iconst (pc' := 1609) (hP _ _ rfl) rfl ?_
  refine am_r_iadd (pc' := 1610) (hP _ _ rfl) rfl ?_
  refine am_r_iaSv (pc' := 1611) (hP _ _ rfl) rfl hL3 e2 ?_
  refine am_r_invL2 (pc' := 1614) (hP _ _ rfl) rfl rfl (Nat.le_of_ble_eq_true rfl) (c_element (by omega) hH (by omega) (by omega) ?_)
  · obtain ⟨gX, gL, gT, gH, gK, gD, gO⟩ := hg0
    refine am_r_aload2 (pc' := 1615) (hP _ _ rfl) rfl ?_
    refine am_r_aload0 (pc' := 1616) (hP _ _ rfl) rfl ?_
    refine am_r_iload3 (pc' := 1617) (hP _ _ rfl) rfl ?_
    refine am_r_iconst (pc' := 1618) (hP _ _ rfl) rfl ?_
    refine am_r_iadd (pc' := 1619) (hP _ _ rfl) rfl ?_
    refine am_r_iaSv (pc' := 1620) (hP _ _ rfl) rfl hL3 e1 ?_
    refine am_r_aload0 (pc' := 1621) (hP _ _ rfl) rfl ?_
    refine am_r_iload3 (pc' := 1622) (hP _ _ rfl) rfl ?_
    refine am_r_iconst (pc' := 1623) (hP _ _ rfl) rfl ?_
    refine am_r_iadd (pc' := 1624) (hP _ _ rfl) rfl ?_
    refine am_r_iaSv (pc' := 1625) (hP _ _ rfl) rfl hL3 e2 ?_
    refine am_r_invL2 (pc' := 1628) (hP _ _ rfl) rfl rfl (Nat.le_of_ble_eq_true rfl) (m_element (by omega) gH (by omega) (by omega) ?_)
    · have hG := mi_mk gX gL gT gH gK gD gO
      refine am_r_lcs (pc' := 1629) (hP _ _ rfl) rfl ?_
      refine am_r_ifz (pt := 1753) (hP _ _ rfl) rfl ?_
      exact hq _ (inv_mk (ci_mk hX hL hT hH hK hD hO) hG hN hl)
def am_pLc43 : Am_p := [(1634, 1, .aload 1, .aload 1, 0), (1635, 1, .aload 0, .aload 0, 0), (1636, 1, .iload 3, .iload 3, 0), (1637, 1, .iconst 1, .iconst 1, 0), (1638, 1, .iadd, .iadd, 0), (1639, 1, .iaload, .iaload, 0), (1640, 1, .aload 0, .aload 0, 0), (1641, 1, .iload 3, .iload 3, 0), (1642, 1, .iconst 2, .iconst 2, 0), (1643, 1, .iadd, .iadd, 0), (1644, 1, .iaload, .iaload, 0), (1645, 1, .aload 0, .aload 0, 0), (1646, 1, .iload 3, .iload 3, 0), (1647, 1, .iconst 3, .iconst 3, 0), (1648, 1, .iadd, .iadd, 0), (1649, 1, .iaload, .iaload, 0), (1650, 1, .aload 0, .aload 0, 0), (1651, 1, .iload 3, .iload 3, 0), (1652, 1, .iconst 4, .iconst 4, 0), (1653, 1, .iadd, .iadd, 0), (1654, 1, .iaload, .iaload, 0), (1655, 1, .aload 0, .aload 0, 0), (1656, 1, .iload 3, .iload 3, 0), (1657, 1, .iconst 5, .iconst 5, 0), (1658, 1, .iadd, .iadd, 0), (1659, 1, .iaload, .iaload, 0), (1660, 3, .invokevirtual 150, .invokevirtual 150, 0), (1663, 1, .aload 2, .aload 2, 0), (1664, 1, .aload 0, .aload 0, 0), (1665, 1, .iload 3, .iload 3, 0), (1666, 1, .iconst 1, .iconst 1, 0), (1667, 1, .iadd, .iadd, 0), (1668, 1, .iaload, .iaload, 0), (1669, 1, .aload 0, .aload 0, 0), (1670, 1, .iload 3, .iload 3, 0), (1671, 1, .iconst 2, .iconst 2, 0), (1672, 1, .iadd, .iadd, 0), (1673, 1, .iaload, .iaload, 0), (1674, 1, .aload 0, .aload 0, 0), (1675, 1, .iload 3, .iload 3, 0), (1676, 1, .iconst 3, .iconst 3, 0), (1677, 1, .iadd, .iadd, 0), (1678, 1, .iaload, .iaload, 0), (1679, 1, .aload 0, .aload 0, 0), (1680, 1, .iload 3, .iload 3, 0), (1681, 1, .iconst 4, .iconst 4, 0), (1682, 1, .iadd, .iadd, 0), (1683, 1, .iaload, .iaload, 0), (1684, 1, .aload 0, .aload 0, 0), (1685, 1, .iload 3, .iload 3, 0), (1686, 1, .iconst 5, .iconst 5, 0), (1687, 1, .iadd, .iadd, 0), (1688, 1, .iaload, .iaload, 0), (1689, 3, .invokevirtual 257, .invokevirtual 257, 0), (1692, 3, .if_icmp .eq 1753, .if_icmp .eq 1753, 0), (1695, 1, .iconst 0, .iconst 0, 0), (1696, 1, .ireturn, .ireturn, 0)]
theorem lw_c43 {sL : Nat} {xs : Nat → Int32} {d : Nat} {M : Am_M} {P : Am_p} {Q : Option Value → Am_M → Prop} (hd : 60 ≤ d) (hP : ∀ pc r, am_lk am_pLc43 pc = some r → am_lk P pc = some r) (hL3 : sL ≤ 3072) {i : Int} (hi : 0 ≤ i ∧ i + 6 ≤ sL) (hI : Inv M) (hq : ∀ M', Inv M' → am_rw sL xs d P 2 1753 [.ref 900, .ref 0, .ref 53, .int (z_I i)] [] M' Q) : am_rw sL xs d P 2 1634 [.ref 900, .ref 0, .ref 53, .int (z_I i)] [] M Q := by
  obtain ⟨σ, χ, c, t, η, ε, δ, κ, m, l, ⟨hX, hL, hT, hH, hK, hD, hO⟩, hg0, hN, hl⟩ := hI
  obtain ⟨a1, h1, e1⟩ := z_of (xs (i + 1).toNat)
  obtain ⟨a2, h2, e2⟩ := z_of (xs (i + 2).toNat)
  obtain ⟨a3, h3, e3⟩ := z_of (xs (i + 3).toNat)
  obtain ⟨a4, h4, e4⟩ := z_of (xs (i + 4).toNat)
  obtain ⟨a5, h5, e5⟩ := z_of (xs (i + 5).toNat)
  refine am_r_aload1 (pc' := 1635) (hP _ _ rfl) rfl ?_
  refine am_r_aload0 (pc' := 1636) (hP _ _ rfl) rfl ?_
  refine am_r_iload3 (pc' := 1637) (hP _ _ rfl) rfl ?_
  refine am_r_iconst (pc' := 1638) (hP _ _ rfl) rfl ?_
  refine am_r_iadd (pc' := 1639) (hP _ _ rfl) rfl ?_
  refine am_r_iaSv (pc' := 1640) (hP _ _ rfl) rfl hL3 e1 ?_
  refine am_r_aload0 (pc' := 1641) (hP _ _ rfl) rfl ?_
  refine am_r_iload3 (pc' := 1642) (hP _ _ rfl) rfl ?_
  refine am_r_iconst (pc' := 1643) (hP _ _ rfl) rfl ?_
  refine am_r_iadd (pc' := 1644) (hP _ _ rfl) rfl ?_
  refine am_r_iaSv (pc' := 1645) (hP _ _ rfl) rfl hL3 e2 ?_
  refine am_r_aload0 (pc' := 1646) (hP _ _ rfl) rfl ?_
  refine am_r_iload3 (pc' := 1647) (hP _ _ rfl) rfl ?_
  refine am_r_iconst (pc' := 1648) (hP _ _ rfl) rfl ?_
  refine am_r_iadd (pc' := 1649) (hP _ _ rfl) rfl ?_
  refine am_r_iaSv (pc' := 1650) (hP _ _ rfl) rfl hL3 e3 ?_
  refine am_r_aload0 (pc' := 1651) (hP _ _ rfl) rfl ?_
  refine am_r_iload3 (pc' := 1652) (hP _ _ rfl) rfl ?_
  refine am_r_iconst (pc' := 1653) (hP _ _ rfl) rfl ?_
  refine am_r_iadd (pc' := 1654) (hP _ _ rfl) rfl ?_
  refine am_r_iaSv (pc' := 1655) (hP _ _ rfl) rfl hL3 e4 ?_
  refine am_r_aload0 (pc' := 1656) (hP _ _ rfl) rfl ?_
  refine am_r_iload3 (pc' := 1657) (hP _ _ rfl) rfl ?_
  refine am_r_iconst (pc' := 1658) (hP _ _ rfl) rfl ?_
  refine am_r_iadd (pc' := 1659) (hP _ _ rfl) rfl ?_
  refine am_r_iaSv (pc' := 1660) (hP _ _ rfl) rfl hL3 e5 ?_
  refine am_r_invI5 (pc' := 1663) (hP _ _ rfl) rfl rfl (Nat.le_of_ble_eq_true rfl) (c_shift (by omega) hH (by omega) (by omega) (by omega) (by omega) (by omega) ?_)
  · intro M1 f1 xH
    have hC := ci_mk (sx_k2 hX (fun k a b => (f1 k (by omega)).1)) (cl_cg hL (f1 19 (by omega)).1 (f1 20 (by omega)).1 (f1 21 (by omega)).1) (tb_k hT (f1 15 (by omega)).1 (f1 16 (by omega)).1) xH (kx_cg hK (fun k a b => (f1 k (by omega)).1)) (dx_cg hD (f1 31 (by omega)).1 (f1 32 (by omega)).1) (ok_cg hO (f1 50 (by omega)).1 (f1 51 (by omega)).1 (f1 52 (by omega)).1)
    obtain ⟨gX, gL, gT, gH, gK, gD, gO⟩ := mi_keep hg0 (fun k hk => (f1 k (by omega)))
    refine am_r_aload2 (pc' := 1664) (hP _ _ rfl) rfl ?_
    refine am_r_aload0 (pc' := 1665) (hP _ _ rfl) rfl ?_
    refine am_r_iload3 (pc' := 1666) (hP _ _ rfl) rfl ?_
    refine am_r_iconst (pc' := 1667) (hP _ _ rfl) rfl ?_
    refine am_r_iadd (pc' := 1668) (hP _ _ rfl) rfl ?_
    refine am_r_iaSv (pc' := 1669) (hP _ _ rfl) rfl hL3 e1 ?_
    refine am_r_aload0 (pc' := 1670) (hP _ _ rfl) rfl ?_
    refine am_r_iload3 (pc' := 1671) (hP _ _ rfl) rfl ?_
    refine am_r_iconst (pc' := 1672) (hP _ _ rfl) rfl ?_
    refine am_r_iadd (pc' := 1673) (hP _ _ rfl) rfl ?_
    refine am_r_iaSv (pc' := 1674) (hP _ _ rfl) rfl hL3 e2 ?_
    refine am_r_aload0 (pc' := 1675) (hP _ _ rfl) rfl ?_
    refine am_r_iload3 (pc' := 1676) (hP _ _ rfl) rfl ?_
    refine am_r_iconst (pc' := 1677) (hP _ _ rfl) rfl ?_
    refine am_r_iadd (pc' := 1678) (hP _ _ rfl) rfl ?_
    refine am_r_iaSv (pc' := 1679) (hP _ _ rfl) rfl hL3 e3 ?_
    refine am_r_aload0 (pc' := 1680) (hP _ _ rfl) rfl ?_
    refine am_r_iload3 (pc' := 1681) (hP _ _ rfl) rfl ?_
    refine am_r_iconst (pc' := 1682) (hP _ _ rfl) rfl ?_
    refine am_r_iadd (pc' := 1683) (hP _ _ rfl) rfl ?_
    refine am_r_iaSv (pc' := 1684) (hP _ _ rfl) rfl hL3 e4 ?_
    refine am_r_aload0 (pc' := 1685) (hP _ _ rfl) rfl ?_
    refine am_r_iload3 (pc' := 1686) (hP _ _ rfl) rfl ?_
    refine am_r_iconst (pc' := 1687) (hP _ _ rfl) rfl ?_
    refine am_r_iadd (pc' := 1688) (hP _ _ rfl) rfl ?_
    refine am_r_iaSv (pc' := 1689) (hP _ _ rfl) rfl hL3 e5 ?_
    refine am_r_invI5 (pc' := 1692) (hP _ _ rfl) rfl rfl (Nat.le_of_ble_eq_true rfl) (m_shift (by omega) gH (by omega) (by omega) (by omega) (by omega) (by omega) ?_)
    · intro M2 f2 yH
      have hG := mi_mk (sm_k gX (fun k i q => (congrFun (f2 k (by omega)).1 i))) (lm_k gL (fun k i q => (congrFun (f2 k (by omega)).1 i))) (tm_k gT (fun k i q => (congrFun (f2 k (by omega)).1 i))) yH (km_k gK (fun k i q => (congrFun (f2 k (by omega)).1 i))) (dm_k gD (fun k i q => (congrFun (f2 k (by omega)).1 i))) (qm_k2 gO (fun k i q => (congrFun (f2 k (by omega)).1 i)))
      have hC2 := ci_keep hC (fun k hk => f2 k (by omega))
      refine am_r_eqs (pt := 1753) (hP _ _ rfl) rfl ?_
      exact hq _ (inv_mk hC2 hG (ho_shift hN) hl)
def am_pLc44 : Am_p := [(1697, 1, .aload 1, .aload 1, 0), (1698, 1, .aload 0, .aload 0, 0), (1699, 1, .iload 3, .iload 3, 0), (1700, 1, .iconst 1, .iconst 1, 0), (1701, 1, .iadd, .iadd, 0), (1702, 1, .iaload, .iaload, 0), (1703, 1, .aload 0, .aload 0, 0), (1704, 1, .iload 3, .iload 3, 0), (1705, 1, .iconst 2, .iconst 2, 0), (1706, 1, .iadd, .iadd, 0), (1707, 1, .iaload, .iaload, 0), (1708, 3, .invokevirtual 151, .invokevirtual 151, 0), (1711, 1, .aload 2, .aload 2, 0), (1712, 1, .aload 0, .aload 0, 0), (1713, 1, .iload 3, .iload 3, 0), (1714, 1, .iconst 1, .iconst 1, 0), (1715, 1, .iadd, .iadd, 0), (1716, 1, .iaload, .iaload, 0), (1717, 1, .aload 0, .aload 0, 0), (1718, 1, .iload 3, .iload 3, 0), (1719, 1, .iconst 2, .iconst 2, 0), (1720, 1, .iadd, .iadd, 0), (1721, 1, .iaload, .iaload, 0), (1722, 3, .invokevirtual 258, .invokevirtual 258, 0), (1725, 3, .if_icmp .eq 1753, .if_icmp .eq 1753, 0), (1728, 1, .iconst 0, .iconst 0, 0), (1729, 1, .ireturn, .ireturn, 0)]
theorem lw_c44 {sL : Nat} {xs : Nat → Int32} {d : Nat} {M : Am_M} {P : Am_p} {Q : Option Value → Am_M → Prop} (hd : 60 ≤ d) (hP : ∀ pc r, am_lk am_pLc44 pc = some r → am_lk P pc = some r) (hL3 : sL ≤ 3072) {i : Int} (hi : 0 ≤ i ∧ i + 6 ≤ sL) (hI : Inv M) (hq : ∀ M', Inv M' → am_rw sL xs d P 2 1753 [.ref 900, .ref 0, .ref 53, .int (z_I i)] [] M' Q) : am_rw sL xs d P 2 1697 [.ref 900, .ref 0, .ref 53, .int (z_I i)] [] M Q := by
  obtain ⟨σ, χ, c, t, η, ε, δ, κ, m, l, ⟨hX, hL, hT, hH, hK, hD, hO⟩, hg0, hN, hl⟩ := hI
  obtain ⟨a1, h1, e1⟩ := z_of (xs (i + 1).toNat)
  obtain ⟨a2, h2, e2⟩ := z_of (xs (i + 2).toNat)
  refine am_r_aload1 (pc' := 1698) (hP _ _ rfl) rfl ?_
  refine am_r_aload0 (pc' := 1699) (hP _ _ rfl) rfl ?_
  refine am_r_iload3 (pc' := 1700) (hP _ _ rfl) rfl ?_
  refine am_r_iconst (pc' := 1701) (hP _ _ rfl) rfl ?_
  refine am_r_iadd (pc' := 1702) (hP _ _ rfl) rfl ?_
  refine am_r_iaSv (pc' := 1703) (hP _ _ rfl) rfl hL3 e1 ?_
  refine am_r_aload0 (pc' := 1704) (hP _ _ rfl) rfl ?_
  refine am_r_iload3 (pc' := 1705) (hP _ _ rfl) rfl ?_
  refine am_r_iconst (pc' := 1706) (hP _ _ rfl) rfl ?_
  refine am_r_iadd (pc' := 1707) (hP _ _ rfl) rfl ?_
  refine am_r_iaSv (pc' := 1708) (hP _ _ rfl) rfl hL3 e2 ?_
  refine am_r_invI2 (pc' := 1711) (hP _ _ rfl) rfl rfl (Nat.le_of_ble_eq_true rfl) (c_taken (by omega) hH hO hN (by omega) (by omega) ?_)
  · obtain ⟨gX, gL, gT, gH, gK, gD, gO⟩ := hg0
    refine am_r_aload2 (pc' := 1712) (hP _ _ rfl) rfl ?_
    refine am_r_aload0 (pc' := 1713) (hP _ _ rfl) rfl ?_
    refine am_r_iload3 (pc' := 1714) (hP _ _ rfl) rfl ?_
    refine am_r_iconst (pc' := 1715) (hP _ _ rfl) rfl ?_
    refine am_r_iadd (pc' := 1716) (hP _ _ rfl) rfl ?_
    refine am_r_iaSv (pc' := 1717) (hP _ _ rfl) rfl hL3 e1 ?_
    refine am_r_aload0 (pc' := 1718) (hP _ _ rfl) rfl ?_
    refine am_r_iload3 (pc' := 1719) (hP _ _ rfl) rfl ?_
    refine am_r_iconst (pc' := 1720) (hP _ _ rfl) rfl ?_
    refine am_r_iadd (pc' := 1721) (hP _ _ rfl) rfl ?_
    refine am_r_iaSv (pc' := 1722) (hP _ _ rfl) rfl hL3 e2 ?_
    refine am_r_invI2 (pc' := 1725) (hP _ _ rfl) rfl rfl (Nat.le_of_ble_eq_true rfl) (m_taken (by omega) gH gO hN (by omega) (by omega) ?_)
    · have hG := mi_mk gX gL gT gH gK gD gO
      refine am_r_eqs (pt := 1753) (hP _ _ rfl) rfl ?_
      exact hq _ (inv_mk (ci_mk hX hL hT hH hK hD hO) hG hN hl)
def am_pLc45 : Am_p := [(1730, 1, .aload 1, .aload 1, 0), (1731, 1, .aload 0, .aload 0, 0), (1732, 1, .iload 3, .iload 3, 0), (1733, 1, .iconst 1, .iconst 1, 0), (1734, 1, .iadd, .iadd, 0), (1735, 1, .iaload, .iaload, 0), (1736, 3, .invokevirtual 152, .invokevirtual 152, 0), (1739, 1, .aload 2, .aload 2, 0), (1740, 1, .aload 0, .aload 0, 0), (1741, 1, .iload 3, .iload 3, 0), (1742, 1, .iconst 1, .iconst 1, 0), (1743, 1, .iadd, .iadd, 0), (1744, 1, .iaload, .iaload, 0), (1745, 3, .invokevirtual 259, .invokevirtual 259, 0), (1748, 3, .if_icmp .eq 1753, .if_icmp .eq 1753, 0), (1751, 1, .iconst 0, .iconst 0, 0), (1752, 1, .ireturn, .ireturn, 0)]
theorem lw_c45 {sL : Nat} {xs : Nat → Int32} {d : Nat} {M : Am_M} {P : Am_p} {Q : Option Value → Am_M → Prop} (hd : 60 ≤ d) (hP : ∀ pc r, am_lk am_pLc45 pc = some r → am_lk P pc = some r) (hL3 : sL ≤ 3072) {i : Int} (hi : 0 ≤ i ∧ i + 6 ≤ sL) (hI : Inv M) (hq : ∀ M', Inv M' → am_rw sL xs d P 2 1753 [.ref 900, .ref 0, .ref 53, .int (z_I i)] [] M' Q) : am_rw sL xs d P 2 1730 [.ref 900, .ref 0, .ref 53, .int (z_I i)] [] M Q := by
  obtain ⟨σ, χ, c, t, η, ε, δ, κ, m, l, ⟨hX, hL, hT, hH, hK, hD, hO⟩, hg0, hN, hl⟩ := hI
  obtain ⟨a1, h1, e1⟩ := z_of (xs (i + 1).toNat)
  refine am_r_aload1 (pc' := 1731) (hP _ _ rfl) rfl ?_
  refine am_r_aload0 (pc' := 1732) (hP _ _ rfl) rfl ?_
  refine am_r_iload3 (pc' := 1733) (hP _ _ rfl) rfl ?_
  refine am_r_iconst (pc' := 1734) (hP _ _ rfl) rfl ?_
  refine am_r_iadd (pc' := 1735) (hP _ _ rfl) rfl ?_
  refine am_r_iaSv (pc' := 1736) (hP _ _ rfl) rfl hL3 e1 ?_
  refine am_r_invI1 (pc' := 1739) (hP _ _ rfl) rfl rfl (Nat.le_of_ble_eq_true rfl) (c_count (by omega) hX hT hK hO (by omega) ?_)
  · obtain ⟨gX, gL, gT, gH, gK, gD, gO⟩ := hg0
    refine am_r_aload2 (pc' := 1740) (hP _ _ rfl) rfl ?_
    refine am_r_aload0 (pc' := 1741) (hP _ _ rfl) rfl ?_
    refine am_r_iload3 (pc' := 1742) (hP _ _ rfl) rfl ?_
    refine am_r_iconst (pc' := 1743) (hP _ _ rfl) rfl ?_
    refine am_r_iadd (pc' := 1744) (hP _ _ rfl) rfl ?_
    refine am_r_iaSv (pc' := 1745) (hP _ _ rfl) rfl hL3 e1 ?_
    refine am_r_invI1 (pc' := 1748) (hP _ _ rfl) rfl rfl (Nat.le_of_ble_eq_true rfl) (m_count (by omega) gX gT gK gO (by omega) ?_)
    · have hG := mi_mk gX gL gT gH gK gD gO
      refine am_r_eqs (pt := 1753) (hP _ _ rfl) rfl ?_
      exact hq _ (inv_mk (ci_mk hX hL hT hH hK hD hO) hG hN hl)
