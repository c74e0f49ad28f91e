/-! THE LAW, what it asks, 24 and on -/
def am_pLc24 : Am_p := [(1056, 1, .aload 1, .aload 1, 0), (1057, 1, .aload 0, .aload 0, 0), (1058, 1, .iload 3, .iload 3, 0), (1059, 1, .iconst 1, .iconst 1, 0), (1060, 1, .iadd, .iadd, 0), (1061, 1, .iaload, .iaload, 0), (1062, 3, .invokevirtual 131, .invokevirtual 131, 0), (1065, 1, .aload 2, .aload 2, 0), (1066, 1, .aload 0, .aload 0, 0), (1067, 1, .iload 3, .iload 3, 0), (1068, 1, .iconst 1, .iconst 1, 0), (1069, 1, .iadd, .iadd, 0), (1070, 1, .iaload, .iaload, 0), (1071, 3, .invokevirtual 228, .invokevirtual 228, 0), (1074, 3, .if_icmp .eq 1753, .if_icmp .eq 1753, 0), (1077, 1, .iconst 0, .iconst 0, 0), (1078, 1, .ireturn, .ireturn, 0)]
theorem lw_c24 {sL : Nat} {xs : Nat → Int32} {d : Nat} {M : Am_M} {P : Am_p} {Q : Option Value → Am_M → Prop} (hd : 60 ≤ d) (hP : ∀ pc r, am_lk am_pLc24 pc = some r → am_lk P pc = some r) (hL3 : sL ≤ 3072) {i : Int} (hi : 0 ≤ i ∧ i + 6 ≤ sL) (hI : Inv M) (hq : ∀ M', Inv M' → am_rw sL xs d P 2 1753 [.ref 900, .ref 0, .ref 53, .int (z_I i)] [] M' Q) : am_rw sL xs d P 2 1056 [.ref 900, .ref 0, .ref 53, .int (z_I i)] [] M Q := by
  obtain ⟨σ, χ, c, t, η, ε, δ, κ, m, l, ⟨hX, hL, hT, hH, hK, hD, hO⟩, hg0, hN, hl⟩ := hI
  obtain ⟨a1, h1, e1⟩ := z_of (xs (i + 1).toNat)
  refine am_r_aload1 (pc' := 1057) (hP _ _ rfl) rfl ?_
  refine am_r_aload0 (pc' := 1058) (hP _ _ rfl) rfl ?_
  refine am_r_iload3 (pc' := 1059) (hP _ _ rfl) rfl ?_
  refine am_r_iconst (pc' := 1060) (hP _ _ rfl) rfl ?_
  refine am_r_iadd (pc' := 1061) (hP _ _ rfl) rfl ?_
  refine am_r_iaSv (pc' := 1062) (hP _ _ rfl) rfl hL3 e1 ?_
  refine am_r_invI1 (pc' := 1065) (hP _ _ rfl) rfl rfl (Nat.le_of_ble_eq_true rfl) (c_whose (by omega) hX hL hH (by omega) ?_)
  · intro M1 f1
    have hC := ci_mk (sx_k2 hX (fun k a b => (f1 k (by omega)).1)) (cl_cg hL (f1 19 (by omega)).1 (f1 20 (by omega)).1 (f1 21 (by omega)).1) (tb_k hT (f1 15 (by omega)).1 (f1 16 (by omega)).1) (hx_cg hH (fun k a b => (f1 k (by omega)))) (kx_cg hK (fun k a b => (f1 k (by omega)).1)) (dx_cg hD (f1 31 (by omega)).1 (f1 32 (by omega)).1) (ok_cg hO (f1 50 (by omega)).1 (f1 51 (by omega)).1 (f1 52 (by omega)).1)
    obtain ⟨gX, gL, gT, gH, gK, gD, gO⟩ := mi_keep hg0 (fun k hk => (f1 k (by omega)))
    refine am_r_aload2 (pc' := 1066) (hP _ _ rfl) rfl ?_
    refine am_r_aload0 (pc' := 1067) (hP _ _ rfl) rfl ?_
    refine am_r_iload3 (pc' := 1068) (hP _ _ rfl) rfl ?_
    refine am_r_iconst (pc' := 1069) (hP _ _ rfl) rfl ?_
    refine am_r_iadd (pc' := 1070) (hP _ _ rfl) rfl ?_
    refine am_r_iaSv (pc' := 1071) (hP _ _ rfl) rfl hL3 e1 ?_
    refine am_r_invI1 (pc' := 1074) (hP _ _ rfl) rfl rfl (Nat.le_of_ble_eq_true rfl) (m_whose (by omega) gX gL gH (by omega) ?_)
    · intro M2 f2
      have hG := mi_mk (sm_k gX (fun k i q => (f2.1 k i (by omega) (by omega)))) (lm_k gL (fun k i q => (f2.1 k i (by omega) (by omega)))) (tm_k gT (fun k i q => (f2.1 k i (by omega) (by omega)))) (hm_k2 gH (fun k i q => (f2.1 k i (by omega) (by omega))) (by rw [f2.2])) (km_k gK (fun k i q => (f2.1 k i (by omega) (by omega)))) (dm_k gD (fun k i q => (f2.1 k i (by omega) (by omega)))) (qm_k2 gO (fun k i q => (f2.1 k i (by omega) (by omega))))
      have hC2 := ci_keep hC (fun k hk => ⟨funext fun i => (f2.1 k i (by omega) (by omega)), by rw [f2.2]⟩)
      refine am_r_eqs (pt := 1753) (hP _ _ rfl) rfl ?_
      exact hq _ (inv_mk hC2 hG hN hl)
def am_pLc25 : Am_p := [(1079, 1, .aload 1, .aload 1, 0), (1080, 1, .aload 0, .aload 0, 0), (1081, 1, .iload 3, .iload 3, 0), (1082, 1, .iconst 1, .iconst 1, 0), (1083, 1, .iadd, .iadd, 0), (1084, 1, .iaload, .iaload, 0), (1085, 1, .aload 0, .aload 0, 0), (1086, 1, .iload 3, .iload 3, 0), (1087, 1, .iconst 2, .iconst 2, 0), (1088, 1, .iadd, .iadd, 0), (1089, 1, .iaload, .iaload, 0), (1090, 1, .aload 0, .aload 0, 0), (1091, 1, .iload 3, .iload 3, 0), (1092, 1, .iconst 3, .iconst 3, 0), (1093, 1, .iadd, .iadd, 0), (1094, 1, .iaload, .iaload, 0), (1095, 3, .invokevirtual 132, .invokevirtual 132, 0), (1098, 1, .aload 2, .aload 2, 0), (1099, 1, .aload 0, .aload 0, 0), (1100, 1, .iload 3, .iload 3, 0), (1101, 1, .iconst 1, .iconst 1, 0), (1102, 1, .iadd, .iadd, 0), (1103, 1, .iaload, .iaload, 0), (1104, 1, .aload 0, .aload 0, 0), (1105, 1, .iload 3, .iload 3, 0), (1106, 1, .iconst 2, .iconst 2, 0), (1107, 1, .iadd, .iadd, 0), (1108, 1, .iaload, .iaload, 0), (1109, 1, .aload 0, .aload 0, 0), (1110, 1, .iload 3, .iload 3, 0), (1111, 1, .iconst 3, .iconst 3, 0), (1112, 1, .iadd, .iadd, 0), (1113, 1, .iaload, .iaload, 0), (1114, 3, .invokevirtual 229, .invokevirtual 229, 0), (1117, 3, .if_icmp .eq 1753, .if_icmp .eq 1753, 0), (1120, 1, .iconst 0, .iconst 0, 0), (1121, 1, .ireturn, .ireturn, 0)]
theorem lw_c25 {sL : Nat} {xs : Nat → Int32} {d : Nat} {M : Am_M} {P : Am_p} {Q : Option Value → Am_M → Prop} (hd : 60 ≤ d) (hP : ∀ pc r, am_lk am_pLc25 pc = some r → am_lk P pc = some r) (hL3 : sL ≤ 3072) {i : Int} (hi : 0 ≤ i ∧ i + 6 ≤ sL) (hI : Inv M) (hq : ∀ M', Inv M' → am_rw sL xs d P 2 1753 [.ref 900, .ref 0, .ref 53, .int (z_I i)] [] M' Q) : am_rw sL xs d P 2 1079 [.ref 900, .ref 0, .ref 53, .int (z_I i)] [] M Q := by
  obtain ⟨σ, χ, c, t, η, ε, δ, κ, m, l, ⟨hX, hL, hT, hH, hK, hD, hO⟩, hg0, hN, hl⟩ := hI
  obtain ⟨a1, h1, e1⟩ := z_of (xs (i + 1).toNat)
  obtain ⟨a2, h2, e2⟩ := z_of (xs (i + 2).toNat)
  obtain ⟨a3, h3, e3⟩ := z_of (xs (i + 3).toNat)
  refine am_r_aload1 (pc' := 1080) (hP _ _ rfl) rfl ?_
  refine am_r_aload0 (pc' := 1081) (hP _ _ rfl) rfl ?_
  refine am_r_iload3 (pc' := 1082) (hP _ _ rfl) rfl ?_
  refine am_r_iconst (pc' := 1083) (hP _ _ rfl) rfl ?_
  refine am_r_iadd (pc' := 1084) (hP _ _ rfl) rfl ?_
  refine am_r_iaSv (pc' := 1085) (hP _ _ rfl) rfl hL3 e1 ?_
  refine am_r_aload0 (pc' := 1086) (hP _ _ rfl) rfl ?_
  refine am_r_iload3 (pc' := 1087) (hP _ _ rfl) rfl ?_
  refine am_r_iconst (pc' := 1088) (hP _ _ rfl) rfl ?_
  refine am_r_iadd (pc' := 1089) (hP _ _ rfl) rfl ?_
  refine am_r_iaSv (pc' := 1090) (hP _ _ rfl) rfl hL3 e2 ?_
  refine am_r_aload0 (pc' := 1091) (hP _ _ rfl) rfl ?_
  refine am_r_iload3 (pc' := 1092) (hP _ _ rfl) rfl ?_
  refine am_r_iconst (pc' := 1093) (hP _ _ rfl) rfl ?_
  refine am_r_iadd (pc' := 1094) (hP _ _ rfl) rfl ?_
  refine am_r_iaSv (pc' := 1095) (hP _ _ rfl) rfl hL3 e3 ?_
  refine am_r_invI3 (pc' := 1098) (hP _ _ rfl) rfl rfl (Nat.le_of_ble_eq_true rfl) (c_byTurns (by omega) hX (by omega) (by omega) (by omega) ?_)
  · obtain ⟨gX, gL, gT, gH, gK, gD, gO⟩ := hg0
    refine am_r_aload2 (pc' := 1099) (hP _ _ rfl) rfl ?_
    refine am_r_aload0 (pc' := 1100) (hP _ _ rfl) rfl ?_
    refine am_r_iload3 (pc' := 1101) (hP _ _ rfl) rfl ?_
    refine am_r_iconst (pc' := 1102) (hP _ _ rfl) rfl ?_
    refine am_r_iadd (pc' := 1103) (hP _ _ rfl) rfl ?_
    refine am_r_iaSv (pc' := 1104) (hP _ _ rfl) rfl hL3 e1 ?_
    refine am_r_aload0 (pc' := 1105) (hP _ _ rfl) rfl ?_
    refine am_r_iload3 (pc' := 1106) (hP _ _ rfl) rfl ?_
    refine am_r_iconst (pc' := 1107) (hP _ _ rfl) rfl ?_
    refine am_r_iadd (pc' := 1108) (hP _ _ rfl) rfl ?_
    refine am_r_iaSv (pc' := 1109) (hP _ _ rfl) rfl hL3 e2 ?_
    refine am_r_aload0 (pc' := 1110) (hP _ _ rfl) rfl ?_
    refine am_r_iload3 (pc' := 1111) (hP _ _ rfl) rfl ?_
    refine am_r_iconst (pc' := 1112) (hP _ _ rfl) rfl ?_
    refine am_r_iadd (pc' := 1113) (hP _ _ rfl) rfl ?_
    refine am_r_iaSv (pc' := 1114) (hP _ _ rfl) rfl hL3 e3 ?_
    refine am_r_invI3 (pc' := 1117) (hP _ _ rfl) rfl rfl (Nat.le_of_ble_eq_true rfl) (m_byTurns (by omega) gX (by omega) (by omega) (by omega) ?_)
    · intro M2 f2
      have hG := mi_mk (sm_k gX (fun k i q => (congrFun (f2 k (by omega)).1 i))) (lm_k gL (fun k i q => (congrFun (f2 k (by omega)).1 i))) (tm_k gT (fun k i q => (congrFun (f2 k (by omega)).1 i))) (hm_k2 gH (fun k i q => (congrFun (f2 k (by omega)).1 i)) (f2 73 (by omega)).2) (km_k gK (fun k i q => (congrFun (f2 k (by omega)).1 i))) (dm_k gD (fun k i q => (congrFun (f2 k (by omega)).1 i))) (qm_k2 gO (fun k i q => (congrFun (f2 k (by omega)).1 i)))
      refine am_r_eqs (pt := 1753) (hP _ _ rfl) rfl ?_
      exact hq _ (inv_mk (ci_keep (ci_mk hX hL hT hH hK hD hO) (fun k hk => f2 k (by omega))) hG hN hl)
def am_pLc26 : Am_p := [(1122, 1, .aload 1, .aload 1, 0), (1123, 1, .aload 0, .aload 0, 0), (1124, 1, .iload 3, .iload 3, 0), (1125, 1, .iconst 1, .iconst 1, 0), (1126, 1, .iadd, .iadd, 0), (1127, 1, .iaload, .iaload, 0), (1128, 1, .aload 0, .aload 0, 0), (1129, 1, .iload 3, .iload 3, 0), (1130, 1, .iconst 2, .iconst 2, 0), (1131, 1, .iadd, .iadd, 0), (1132, 1, .iaload, .iaload, 0), (1133, 1, .aload 0, .aload 0, 0), (1134, 1, .iload 3, .iload 3, 0), (1135, 1, .iconst 3, .iconst 3, 0), (1136, 1, .iadd, .iadd, 0), (1137, 1, .iaload, .iaload, 0), (1138, 3, .invokevirtual 133, .invokevirtual 133, 0), (1141, 1, .aload 2, .aload 2, 0), (1142, 1, .aload 0, .aload 0, 0), (1143, 1, .iload 3, .iload 3, 0), (1144, 1, .iconst 1, .iconst 1, 0), (1145, 1, .iadd, .iadd, 0), (1146, 1, .iaload, .iaload, 0), (1147, 1, .aload 0, .aload 0, 0), (1148, 1, .iload 3, .iload 3, 0), (1149, 1, .iconst 2, .iconst 2, 0), (1150, 1, .iadd, .iadd, 0), (1151, 1, .iaload, .iaload, 0), (1152, 1, .aload 0, .aload 0, 0), (1153, 1, .iload 3, .iload 3, 0), (1154, 1, .iconst 3, .iconst 3, 0), (1155, 1, .iadd, .iadd, 0), (1156, 1, .iaload, .iaload, 0), (1157, 3, .invokevirtual 230, .invokevirtual 230, 0), (1160, 3, .if_icmp .eq 1753, .if_icmp .eq 1753, 0), (1163, 1, .iconst 0, .iconst 0, 0), (1164, 1, .ireturn, .ireturn, 0)]
theorem lw_c26 {sL : Nat} {xs : Nat → Int32} {d : Nat} {M : Am_M} {P : Am_p} {Q : Option Value → Am_M → Prop} (hd : 60 ≤ d) (hP : ∀ pc r, am_lk am_pLc26 pc = some r → am_lk P pc = some r) (hL3 : sL ≤ 3072) {i : Int} (hi : 0 ≤ i ∧ i + 6 ≤ sL) (hI : Inv M) (hq : ∀ M', Inv M' → am_rw sL xs d P 2 1753 [.ref 900, .ref 0, .ref 53, .int (z_I i)] [] M' Q) : am_rw sL xs d P 2 1122 [.ref 900, .ref 0, .ref 53, .int (z_I i)] [] M Q := by
  obtain ⟨σ, χ, c, t, η, ε, δ, κ, m, l, ⟨hX, hL, hT, hH, hK, hD, hO⟩, hg0, hN, hl⟩ := hI
  obtain ⟨a1, h1, e1⟩ := z_of (xs (i + 1).toNat)
  obtain ⟨a2, h2, e2⟩ := z_of (xs (i + 2).toNat)
  obtain ⟨a3, h3, e3⟩ := z_of (xs (i + 3).toNat)
  refine am_r_aload1 (pc' := 1123) (hP _ _ rfl) rfl ?_
  refine am_r_aload0 (pc' := 1124) (hP _ _ rfl) rfl ?_
  refine am_r_iload3 (pc' := 1125) (hP _ _ rfl) rfl ?_
  refine am_r_iconst (pc' := 1126) (hP _ _ rfl) rfl ?_
  refine am_r_iadd (pc' := 1127) (hP _ _ rfl) rfl ?_
  refine am_r_iaSv (pc' := 1128) (hP _ _ rfl) rfl hL3 e1 ?_
  refine am_r_aload0 (pc' := 1129) (hP _ _ rfl) rfl ?_
  refine am_r_iload3 (pc' := 1130) (hP _ _ rfl) rfl ?_
  refine am_r_iconst (pc' := 1131) (hP _ _ rfl) rfl ?_
  refine am_r_iadd (pc' := 1132) (hP _ _ rfl) rfl ?_
  refine am_r_iaSv (pc' := 1133) (hP _ _ rfl) rfl hL3 e2 ?_
  refine am_r_aload0 (pc' := 1134) (hP _ _ rfl) rfl ?_
  refine am_r_iload3 (pc' := 1135) (hP _ _ rfl) rfl ?_
  refine am_r_iconst (pc' := 1136) (hP _ _ rfl) rfl ?_
  refine am_r_iadd (pc' := 1137) (hP _ _ rfl) rfl ?_
  refine am_r_iaSv (pc' := 1138) (hP _ _ rfl) rfl hL3 e3 ?_
  refine am_r_invI3 (pc' := 1141) (hP _ _ rfl) rfl rfl (Nat.le_of_ble_eq_true rfl) (c_crowd (by omega) hX (by omega) (by omega) (by omega) ?_)
  · obtain ⟨gX, gL, gT, gH, gK, gD, gO⟩ := hg0
    refine am_r_aload2 (pc' := 1142) (hP _ _ rfl) rfl ?_
    refine am_r_aload0 (pc' := 1143) (hP _ _ rfl) rfl ?_
    refine am_r_iload3 (pc' := 1144) (hP _ _ rfl) rfl ?_
    refine am_r_iconst (pc' := 1145) (hP _ _ rfl) rfl ?_
    refine am_r_iadd (pc' := 1146) (hP _ _ rfl) rfl ?_
    refine am_r_iaSv (pc' := 1147) (hP _ _ rfl) rfl hL3 e1 ?_
    refine am_r_aload0 (pc' := 1148) (hP _ _ rfl) rfl ?_
    refine am_r_iload3 (pc' := 1149) (hP _ _ rfl) rfl ?_
    refine am_r_iconst (pc' := 1150) (hP _ _ rfl) rfl ?_
    refine am_r_iadd (pc' := 1151) (hP _ _ rfl) rfl ?_
    refine am_r_iaSv (pc' := 1152) (hP _ _ rfl) rfl hL3 e2 ?_
    refine am_r_aload0 (pc' := 1153) (hP _ _ rfl) rfl ?_
    refine am_r_iload3 (pc' := 1154) (hP _ _ rfl) rfl ?_
    refine am_r_iconst (pc' := 1155) (hP _ _ rfl) rfl ?_
    refine am_r_iadd (pc' := 1156) (hP _ _ rfl) rfl ?_
    refine am_r_iaSv (pc' := 1157) (hP _ _ rfl) rfl hL3 e3 ?_
    refine am_r_invI3 (pc' := 1160) (hP _ _ rfl) rfl rfl (Nat.le_of_ble_eq_true rfl) (m_crowd (by omega) gX (by omega) (by omega) (by omega) ?_)
    · have hG := mi_mk gX gL gT gH gK gD gO
      refine am_r_eqs (pt := 1753) (hP _ _ rfl) rfl ?_
      exact hq _ (inv_mk (ci_mk hX hL hT hH hK hD hO) hG hN hl)
def am_pLc27 : Am_p := [(1165, 1, .aload 1, .aload 1, 0), (1166, 1, .aload 0, .aload 0, 0), (1167, 1, .iload 3, .iload 3, 0), (1168, 1, .iconst 1, .iconst 1, 0), (1169, 1, .iadd, .iadd, 0), (1170, 1, .iaload, .iaload, 0), (1171, 1, .aload 0, .aload 0, 0), (1172, 1, .iload 3, .iload 3, 0), (1173, 1, .iconst 2, .iconst 2, 0), (1174, 1, .iadd, .iadd, 0), (1175, 1, .iaload, .iaload, 0), (1176, 3, .invokevirtual 134, .invokevirtual 134, 0), (1179, 1, .aload 2, .aload 2, 0), (1180, 1, .aload 0, .aload 0, 0), (1181, 1, .iload 3, .iload 3, 0), (1182, 1, .iconst 1, .iconst 1, 0), (1183, 1, .iadd, .iadd, 0), (1184, 1, .iaload, .iaload, 0), (1185, 1, .aload 0, .aload 0, 0), (1186, 1, .iload 3, .iload 3, 0), (1187, 1, .iconst 2, .iconst 2, 0), (1188, 1, .iadd, .iadd, 0), (1189, 1, .iaload, .iaload, 0), (1190, 3, .invokevirtual 232, .invokevirtual 232, 0), (1193, 3, .if_icmp .eq 1753, .if_icmp .eq 1753, 0), (1196, 1, .iconst 0, .iconst 0, 0), (1197, 1, .ireturn, .ireturn, 0)]
theorem lw_c27 {sL : Nat} {xs : Nat → Int32} {d : Nat} {M : Am_M} {P : Am_p} {Q : Option Value → Am_M → Prop} (hd : 60 ≤ d) (hP : ∀ pc r, am_lk am_pLc27 pc = some r → am_lk P pc = some r) (hL3 : sL ≤ 3072) {i : Int} (hi : 0 ≤ i ∧ i + 6 ≤ sL) (hI : Inv M) (hq : ∀ M', Inv M' → am_rw sL xs d P 2 1753 [.ref 900, .ref 0, .ref 53, .int (z_I i)] [] M' Q) : am_rw sL xs d P 2 1165 [.ref 900, .ref 0, .ref 53, .int (z_I i)] [] M Q := by
  obtain ⟨σ, χ, c, t, η, ε, δ, κ, m, l, ⟨hX, hL, hT, hH, hK, hD, hO⟩, hg0, hN, hl⟩ := hI
  obtain ⟨a1, h1, e1⟩ := z_of (xs (i + 1).toNat)
  obtain ⟨a2, h2, e2⟩ := z_of (xs (i + 2).toNat)
  refine am_r_aload1 (pc' := 1166) (hP _ _ rfl) rfl ?_
  refine am_r_aload0 (pc' := 1167) (hP _ _ rfl) rfl ?_
  refine am_r_iload3 (pc' := 1168) (hP _ _ rfl) rfl ?_
  refine am_r_iconst (pc' := 1169) (hP _ _ rfl) rfl ?_
  refine am_r_iadd (pc' := 1170) (hP _ _ rfl) rfl ?_
  refine am_r_iaSv (pc' := 1171) (hP _ _ rfl) rfl hL3 e1 ?_
  refine am_r_aload0 (pc' := 1172) (hP _ _ rfl) rfl ?_
  refine am_r_iload3 (pc' := 1173) (hP _ _ rfl) rfl ?_
  refine am_r_iconst (pc' := 1174) (hP _ _ rfl) rfl ?_
  refine am_r_iadd (pc' := 1175) (hP _ _ rfl) rfl ?_
  refine am_r_iaSv (pc' := 1176) (hP _ _ rfl) rfl hL3 e2 ?_
  refine am_r_invI2 (pc' := 1179) (hP _ _ rfl) rfl rfl (Nat.le_of_ble_eq_true rfl) (c_arc (by omega) hX (by omega) (by omega) ?_)
  · obtain ⟨gX, gL, gT, gH, gK, gD, gO⟩ := hg0
    refine am_r_aload2 (pc' := 1180) (hP _ _ rfl) rfl ?_
    refine am_r_aload0 (pc' := 1181) (hP _ _ rfl) rfl ?_
    refine am_r_iload3 (pc' := 1182) (hP _ _ rfl) rfl ?_
    refine am_r_iconst (pc' := 1183) (hP _ _ rfl) rfl ?_
    refine am_r_iadd (pc' := 1184) (hP _ _ rfl) rfl ?_
    refine am_r_iaSv (pc' := 1185) (hP _ _ rfl) rfl hL3 e1 ?_
    refine am_r_aload0 (pc' := 1186) (hP _ _ rfl) rfl ?_
    refine am_r_iload3 (pc' := 1187) (hP _ _ rfl) rfl ?_
    refine am_r_iconst (pc' := 1188) (hP _ _ rfl) rfl ?_
    refine am_r_iadd (pc' := 1189) (hP _ _ rfl) rfl ?_
    refine am_r_iaSv (pc' := 1190) (hP _ _ rfl) rfl hL3 e2 ?_
    refine am_r_invI2 (pc' := 1193) (hP _ _ rfl) rfl rfl (Nat.le_of_ble_eq_true rfl) (m_arc (by omega) gX (by omega) (by omega) ?_)
    · have hG := mi_mk gX gL gT gH gK gD gO
      rw [r_arc_e hX.1]
      refine am_r_eqs (pt := 1753) (hP _ _ rfl) rfl ?_
      exact hq _ (inv_mk (ci_mk hX hL hT hH hK hD hO) hG hN hl)
def am_pLc28 : Am_p := [(1198, 1, .aload 1, .aload 1, 0), (1199, 1, .aload 0, .aload 0, 0), (1200, 1, .iload 3, .iload 3, 0), (1201, 1, .iconst 1, .iconst 1, 0), (1202, 1, .iadd, .iadd, 0), (1203, 1, .iaload, .iaload, 0), (1204, 1, .aload 0, .aload 0, 0), (1205, 1, .iload 3, .iload 3, 0), (1206, 1, .iconst 2, .iconst 2, 0), (1207, 1, .iadd, .iadd, 0), (1208, 1, .iaload, .iaload, 0), (1209, 1, .aload 0, .aload 0, 0), (1210, 1, .iload 3, .iload 3, 0), (1211, 1, .iconst 3, .iconst 3, 0), (1212, 1, .iadd, .iadd, 0), (1213, 1, .iaload, .iaload, 0), (1214, 3, .invokevirtual 135, .invokevirtual 135, 0), (1217, 1, .aload 2, .aload 2, 0), (1218, 1, .aload 0, .aload 0, 0), (1219, 1, .iload 3, .iload 3, 0), (1220, 1, .iconst 1, .iconst 1, 0), (1221, 1, .iadd, .iadd, 0), (1222, 1, .iaload, .iaload, 0), (1223, 1, .aload 0, .aload 0, 0), (1224, 1, .iload 3, .iload 3, 0), (1225, 1, .iconst 2, .iconst 2, 0), (1226, 1, .iadd, .iadd, 0), (1227, 1, .iaload, .iaload, 0), (1228, 1, .aload 0, .aload 0, 0), (1229, 1, .iload 3, .iload 3, 0), (1230, 1, .iconst 3, .iconst 3, 0), (1231, 1, .iadd, .iadd, 0), (1232, 1, .iaload, .iaload, 0), (1233, 3, .invokevirtual 233, .invokevirtual 233, 0), (1236, 3, .if_icmp .eq 1753, .if_icmp .eq 1753, 0), (1239, 1, .iconst 0, .iconst 0, 0), (1240, 1, .ireturn, .ireturn, 0)]
theorem lw_c28 {sL : Nat} {xs : Nat → Int32} {d : Nat} {M : Am_M} {P : Am_p} {Q : Option Value → Am_M → Prop} (hd : 60 ≤ d) (hP : ∀ pc r, am_lk am_pLc28 pc = some r → am_lk P pc = some r) (hL3 : sL ≤ 3072) {i : Int} (hi : 0 ≤ i ∧ i + 6 ≤ sL) (hI : Inv M) (hq : ∀ M', Inv M' → am_rw sL xs d P 2 1753 [.ref 900, .ref 0, .ref 53, .int (z_I i)] [] M' Q) : am_rw sL xs d P 2 1198 [.ref 900, .ref 0, .ref 53, .int (z_I i)] [] M Q := by
  obtain ⟨σ, χ, c, t, η, ε, δ, κ, m, l, ⟨hX, hL, hT, hH, hK, hD, hO⟩, hg0, hN, hl⟩ := hI
  obtain ⟨a1, h1, e1⟩ := z_of (xs (i + 1).toNat)
  obtain ⟨a2, h2, e2⟩ := z_of (xs (i + 2).toNat)
  obtain ⟨a3, h3, e3⟩ := z_of (xs (i + 3).toNat)
  refine am_r_aload1 (pc' := 1199) (hP _ _ rfl) rfl ?_
  refine am_r_aload0 (pc' := 1200) (hP _ _ rfl) rfl ?_
  refine am_r_iload3 (pc' := 1201) (hP _ _ rfl) rfl ?_
  refine am_r_iconst (pc' := 1202) (hP _ _ rfl) rfl ?_
  refine am_r_iadd (pc' := 1203) (hP _ _ rfl) rfl ?_
  refine am_r_iaSv (pc' := 1204) (hP _ _ rfl) rfl hL3 e1 ?_
  refine am_r_aload0 (pc' := 1205) (hP _ _ rfl) rfl ?_
  refine am_r_iload3 (pc' := 1206) (hP _ _ rfl) rfl ?_
  refine am_r_iconst (pc' := 1207) (hP _ _ rfl) rfl ?_
  refine am_r_iadd (pc' := 1208) (hP _ _ rfl) rfl ?_
  refine am_r_iaSv (pc' := 1209) (hP _ _ rfl) rfl hL3 e2 ?_
  refine am_r_aload0 (pc' := 1210) (hP _ _ rfl) rfl ?_
  refine am_r_iload3 (pc' := 1211) (hP _ _ rfl) rfl ?_
  refine am_r_iconst (pc' := 1212) (hP _ _ rfl) rfl ?_
  refine am_r_iadd (pc' := 1213) (hP _ _ rfl) rfl ?_
  refine am_r_iaSv (pc' := 1214) (hP _ _ rfl) rfl hL3 e3 ?_
  refine am_r_invI3 (pc' := 1217) (hP _ _ rfl) rfl rfl (Nat.le_of_ble_eq_true rfl) (c_drawn (F := (y_z1, y_r12)) (by omega) (fun z => rfl) (fun z => rfl) hX hL (by omega) (by omega) ?_)
  · intro M1 f1
    have hC := ci_mk (sx_k2 hX (fun k a b => (f1 k (by omega)).1)) (cl_cg hL (f1 19 (by omega)).1 (f1 20 (by omega)).1 (f1 21 (by omega)).1) (tb_k hT (f1 15 (by omega)).1 (f1 16 (by omega)).1) (hx_cg hH (fun k a b => (f1 k (by omega)))) (kx_cg hK (fun k a b => (f1 k (by omega)).1)) (dx_cg hD (f1 31 (by omega)).1 (f1 32 (by omega)).1) (ok_cg hO (f1 50 (by omega)).1 (f1 51 (by omega)).1 (f1 52 (by omega)).1)
    obtain ⟨gX, gL, gT, gH, gK, gD, gO⟩ := mi_keep hg0 (fun k hk => (f1 k (by omega)))
    refine am_r_aload2 (pc' := 1218) (hP _ _ rfl) rfl ?_
    refine am_r_aload0 (pc' := 1219) (hP _ _ rfl) rfl ?_
    refine am_r_iload3 (pc' := 1220) (hP _ _ rfl) rfl ?_
    refine am_r_iconst (pc' := 1221) (hP _ _ rfl) rfl ?_
    refine am_r_iadd (pc' := 1222) (hP _ _ rfl) rfl ?_
    refine am_r_iaSv (pc' := 1223) (hP _ _ rfl) rfl hL3 e1 ?_
    refine am_r_aload0 (pc' := 1224) (hP _ _ rfl) rfl ?_
    refine am_r_iload3 (pc' := 1225) (hP _ _ rfl) rfl ?_
    refine am_r_iconst (pc' := 1226) (hP _ _ rfl) rfl ?_
    refine am_r_iadd (pc' := 1227) (hP _ _ rfl) rfl ?_
    refine am_r_iaSv (pc' := 1228) (hP _ _ rfl) rfl hL3 e2 ?_
    refine am_r_aload0 (pc' := 1229) (hP _ _ rfl) rfl ?_
    refine am_r_iload3 (pc' := 1230) (hP _ _ rfl) rfl ?_
    refine am_r_iconst (pc' := 1231) (hP _ _ rfl) rfl ?_
    refine am_r_iadd (pc' := 1232) (hP _ _ rfl) rfl ?_
    refine am_r_iaSv (pc' := 1233) (hP _ _ rfl) rfl hL3 e3 ?_
    refine am_r_invI3 (pc' := 1236) (hP _ _ rfl) rfl rfl (Nat.le_of_ble_eq_true rfl) (m_drawn (F := (y_z1, y_r12)) (by omega) (fun z => rfl) (fun z => rfl) gX gL (by omega) (by omega) ?_)
    · intro M2 f2
      have hG := mi_mk (sm_k gX (fun k i q => (f2.1 k i (by omega) (by omega)))) (lm_k gL (fun k i q => (f2.1 k i (by omega) (by omega)))) (tm_k gT (fun k i q => (f2.1 k i (by omega) (by omega)))) (hm_k2 gH (fun k i q => (f2.1 k i (by omega) (by omega))) (by rw [f2.2])) (km_k gK (fun k i q => (f2.1 k i (by omega) (by omega)))) (dm_k gD (fun k i q => (f2.1 k i (by omega) (by omega)))) (qm_k2 gO (fun k i q => (f2.1 k i (by omega) (by omega))))
      have hC2 := ci_keep hC (fun k hk => ⟨funext fun i => (f2.1 k i (by omega) (by omega)), by rw [f2.2]⟩)
      refine am_r_eqs (pt := 1753) (hP _ _ rfl) rfl ?_
      exact hq _ (inv_mk hC2 hG hN hl)
def am_pLc29 : Am_p := [(1241, 1, .aload 1, .aload 1, 0), (1242, 3, .invokevirtual 136, .invokevirtual 136, 0), (1245, 1, .aload 2, .aload 2, 0), (1246, 3, .invokevirtual 234, .invokevirtual 234, 0), (1249, 3, .if_icmp .eq 1753, .if_icmp .eq 1753, 0), (1252, 1, .iconst 0, .iconst 0, 0), (1253, 1, .ireturn, .ireturn, 0)]
theorem lw_c29 {sL : Nat} {xs : Nat → Int32} {d : Nat} {M : Am_M} {P : Am_p} {Q : Option Value → Am_M → Prop} (hd : 60 ≤ d) (hP : ∀ pc r, am_lk am_pLc29 pc = some r → am_lk P pc = some r) (hL3 : sL ≤ 3072) {i : Int} (hi : 0 ≤ i ∧ i + 6 ≤ sL) (hI : Inv M) (hq : ∀ M', Inv M' → am_rw sL xs d P 2 1753 [.ref 900, .ref 0, .ref 53, .int (z_I i)] [] M' Q) : am_rw sL xs d P 2 1241 [.ref 900, .ref 0, .ref 53, .int (z_I i)] [] M Q := by
  obtain ⟨σ, χ, c, t, η, ε, δ, κ, m, l, ⟨hX, hL, hT, hH, hK, hD, hO⟩, hg0, hN, hl⟩ := hI
  refine am_r_aload1 (pc' := 1242) (hP _ _ rfl) rfl ?_
  refine am_r_invI0 (pc' := 1245) (hP _ _ rfl) rfl rfl (Nat.le_of_ble_eq_true rfl) (c_day (by omega) hX hL hD ?_)
  · intro M1 f1 xX xD
    have hC := ci_mk xX (cl_cg hL (f1 19 (by omega) (by omega)).1 (f1 20 (by omega) (by omega)).1 (f1 21 (by omega) (by omega)).1) (tb_k hT (f1 15 (by omega) (by omega)).1 (f1 16 (by omega) (by omega)).1) (hx_cg hH (fun k a b => (f1 k (by omega) (by omega)))) (kx_sg (kx_cg hK (fun k a b => (f1 k (by omega) (by omega)).1)) su_pls.1 su_pls.2) xD (ok_cg hO (f1 50 (by omega) (by omega)).1 (f1 51 (by omega) (by omega)).1 (f1 52 (by omega) (by omega)).1)
    obtain ⟨gX, gL, gT, gH, gK, gD, gO⟩ := mi_keep hg0 (fun k hk => (f1 k (by omega) (by omega)))
    refine am_r_aload2 (pc' := 1246) (hP _ _ rfl) rfl ?_
    refine am_r_invI0 (pc' := 1249) (hP _ _ rfl) rfl rfl (Nat.le_of_ble_eq_true rfl) (m_day (by omega) gX gL gD ?_)
    · intro M2 f2 yX yD
      have hG := mi_mk yX (lm_k gL (fun k i q => (f2.1 k i (by omega) (by omega) (by omega) (by omega)))) (tm_k gT (fun k i q => (f2.1 k i (by omega) (by omega) (by omega) (by omega)))) (hm_k2 gH (fun k i q => (f2.1 k i (by omega) (by omega) (by omega) (by omega))) (by rw [f2.2])) (km_sg (km_k gK (fun k i q => (f2.1 k i (by omega) (by omega) (by omega) (by omega)))) su_pls.1 su_pls.2) yD (qm_k2 gO (fun k i q => (f2.1 k i (by omega) (by omega) (by omega) (by omega))))
      have hC2 := ci_keep hC (fun k hk => ⟨funext fun i => (f2.1 k i (by omega) (by omega) (by omega) (by omega)), by rw [f2.2]⟩)
      refine am_r_eqs (pt := 1753) (hP _ _ rfl) rfl ?_
      exact hq _ (inv_mk hC2 hG hN hl)
def am_pLc30 : Am_p := [(1254, 1, .aload 1, .aload 1, 0), (1255, 1, .aload 0, .aload 0, 0), (1256, 1, .iload 3, .iload 3, 0), (1257, 1, .iconst 1, .iconst 1, 0), (1258, 1, .iadd, .iadd, 0), (1259, 1, .iaload, .iaload, 0), (1260, 1, .aload 0, .aload 0, 0), (1261, 1, .iload 3, .iload 3, 0), (1262, 1, .iconst 2, .iconst 2, 0), (1263, 1, .iadd, .iadd, 0), (1264, 1, .iaload, .iaload, 0), (1265, 3, .invokevirtual 137, .invokevirtual 137, 0), (1268, 1, .aload 2, .aload 2, 0), (1269, 1, .aload 0, .aload 0, 0), (1270, 1, .iload 3, .iload 3, 0), (1271, 1, .iconst 1, .iconst 1, 0), (1272, 1, .iadd, .iadd, 0), (1273, 1, .iaload, .iaload, 0), (1274, 1, .aload 0, .aload 0, 0), (1275, 1, .iload 3, .iload 3, 0), (1276, 1, .iconst 2, .iconst 2, 0), (1277, 1, .iadd, .iadd, 0), (1278, 1, .iaload, .iaload, 0), (1279, 3, .invokevirtual 235, .invokevirtual 235, 0), (1282, 3, .if_icmp .eq 1753, .if_icmp .eq 1753, 0), (1285, 1, .iconst 0, .iconst 0, 0), (1286, 1, .ireturn, .ireturn, 0)]
theorem lw_c30 {sL : Nat} {xs : Nat → Int32} {d : Nat} {M : Am_M} {P : Am_p} {Q : Option Value → Am_M → Prop} (hd : 60 ≤ d) (hP : ∀ pc r, am_lk am_pLc30 pc = some r → am_lk P pc = some r) (hL3 : sL ≤ 3072) {i : Int} (hi : 0 ≤ i ∧ i + 6 ≤ sL) (hI : Inv M) (hq : ∀ M', Inv M' → am_rw sL xs d P 2 1753 [.ref 900, .ref 0, .ref 53, .int (z_I i)] [] M' Q) : am_rw sL xs d P 2 1254 [.ref 900, .ref 0, .ref 53, .int (z_I i)] [] M Q := by
  obtain ⟨σ, χ, c, t, η, ε, δ, κ, m, l, ⟨hX, hL, hT, hH, hK, hD, hO⟩, hg0, hN, hl⟩ := hI
  obtain ⟨a1, h1, e1⟩ := z_of (xs (i + 1).toNat)
  obtain ⟨a2, h2, e2⟩ := z_of (xs (i + 2).toNat)
  refine am_r_aload1 (pc' := 1255) (hP _ _ rfl) rfl ?_
  refine am_r_aload0 (pc' := 1256) (hP _ _ rfl) rfl ?_
  refine am_r_iload3 (pc' := 1257) (hP _ _ rfl) rfl ?_
  refine am_r_iconst (pc' := 1258) (hP _ _ rfl) rfl ?_
  refine am_r_iadd (pc' := 1259) (hP _ _ rfl) rfl ?_
  refine am_r_iaSv (pc' := 1260) (hP _ _ rfl) rfl hL3 e1 ?_
  refine am_r_aload0 (pc' := 1261) (hP _ _ rfl) rfl ?_
  refine am_r_iload3 (pc' := 1262) (hP _ _ rfl) rfl ?_
  refine am_r_iconst (pc' := 1263) (hP _ _ rfl) rfl ?_
  refine am_r_iadd (pc' := 1264) (hP _ _ rfl) rfl ?_
  refine am_r_iaSv (pc' := 1265) (hP _ _ rfl) rfl hL3 e2 ?_
  refine am_r_invI2 (pc' := 1268) (hP _ _ rfl) rfl rfl (Nat.le_of_ble_eq_true rfl) (c_nudged (by omega) hX hD (by omega) (by omega) ?_)
  · intro M1 f1 xX xD
    have hC := ci_mk xX (cl_cg hL (f1 19 (by omega) (by omega)).1 (f1 20 (by omega) (by omega)).1 (f1 21 (by omega) (by omega)).1) (tb_k hT (f1 15 (by omega) (by omega)).1 (f1 16 (by omega) (by omega)).1) (hx_cg hH (fun k a b => (f1 k (by omega) (by omega)))) (kx_sg (kx_cg hK (fun k a b => (f1 k (by omega) (by omega)).1)) su_nudged.1 su_nudged.2) xD (ok_cg hO (f1 50 (by omega) (by omega)).1 (f1 51 (by omega) (by omega)).1 (f1 52 (by omega) (by omega)).1)
    obtain ⟨gX, gL, gT, gH, gK, gD, gO⟩ := mi_keep hg0 (fun k hk => (f1 k (by omega) (by omega)))
    refine am_r_aload2 (pc' := 1269) (hP _ _ rfl) rfl ?_
    refine am_r_aload0 (pc' := 1270) (hP _ _ rfl) rfl ?_
    refine am_r_iload3 (pc' := 1271) (hP _ _ rfl) rfl ?_
    refine am_r_iconst (pc' := 1272) (hP _ _ rfl) rfl ?_
    refine am_r_iadd (pc' := 1273) (hP _ _ rfl) rfl ?_
    refine am_r_iaSv (pc' := 1274) (hP _ _ rfl) rfl hL3 e1 ?_
    refine am_r_aload0 (pc' := 1275) (hP _ _ rfl) rfl ?_
    refine am_r_iload3 (pc' := 1276) (hP _ _ rfl) rfl ?_
    refine am_r_iconst (pc' := 1277) (hP _ _ rfl) rfl ?_
    refine am_r_iadd (pc' := 1278) (hP _ _ rfl) rfl ?_
    refine am_r_iaSv (pc' := 1279) (hP _ _ rfl) rfl hL3 e2 ?_
    refine am_r_invI2 (pc' := 1282) (hP _ _ rfl) rfl rfl (Nat.le_of_ble_eq_true rfl) (m_nudged (by omega) gX gD (by omega) (by omega) ?_)
    · intro M2 f2 yX yD
      have hG := mi_mk yX (lm_k gL (fun k i q => (f2.1 k i (by omega) (by omega) (by omega) (by omega)))) (tm_k gT (fun k i q => (f2.1 k i (by omega) (by omega) (by omega) (by omega)))) (hm_k2 gH (fun k i q => (f2.1 k i (by omega) (by omega) (by omega) (by omega))) (by rw [f2.2])) (km_sg (km_k gK (fun k i q => (f2.1 k i (by omega) (by omega) (by omega) (by omega)))) su_nudged.1 su_nudged.2) yD (qm_k2 gO (fun k i q => (f2.1 k i (by omega) (by omega) (by omega) (by omega))))
      have hC2 := ci_keep hC (fun k hk => ⟨funext fun i => (f2.1 k i (by omega) (by omega) (by omega) (by omega)), by rw [f2.2]⟩)
      refine am_r_eqs (pt := 1753) (hP _ _ rfl) rfl ?_
      exact hq _ (inv_mk hC2 hG hN hl)
def am_pLc31 : Am_p := [(1287, 1, .aload 1, .aload 1, 0), (1288, 1, .aload 0, .aload 0, 0), (1289, 1, .iload 3, .iload 3, 0), (1290, 1, .iconst 1, .iconst 1, 0), (1291, 1, .iadd, .iadd, 0), (1292, 1, .iaload, .iaload, 0), (1293, 3, .invokevirtual 138, .invokevirtual 138, 0), (1296, 1, .aload 2, .aload 2, 0), (1297, 1, .aload 0, .aload 0, 0), (1298, 1, .iload 3, .iload 3, 0), (1299, 1, .iconst 1, .iconst 1, 0), (1300, 1, .iadd, .iadd, 0), (1301, 1, .iaload, .iaload, 0), (1302, 3, .invokevirtual 236, .invokevirtual 236, 0), (1305, 3, .if_icmp .eq 1753, .if_icmp .eq 1753, 0), (1308, 1, .iconst 0, .iconst 0, 0), (1309, 1, .ireturn, .ireturn, 0)]
theorem lw_c31 {sL : Nat} {xs : Nat → Int32} {d : Nat} {M : Am_M} {P : Am_p} {Q : Option Value → Am_M → Prop} (hd : 60 ≤ d) (hP : ∀ pc r, am_lk am_pLc31 pc = some r → am_lk P pc = some r) (hL3 : sL ≤ 3072) {i : Int} (hi : 0 ≤ i ∧ i + 6 ≤ sL) (hI : Inv M) (hq : ∀ M', Inv M' → am_rw sL xs d P 2 1753 [.ref 900, .ref 0, .ref 53, .int (z_I i)] [] M' Q) : am_rw sL xs d P 2 1287 [.ref 900, .ref 0, .ref 53, .int (z_I i)] [] M Q := by
  obtain ⟨σ, χ, c, t, η, ε, δ, κ, m, l, ⟨hX, hL, hT, hH, hK, hD, hO⟩, hg0, hN, hl⟩ := hI
  obtain ⟨a1, h1, e1⟩ := z_of (xs (i + 1).toNat)
  refine am_r_aload1 (pc' := 1288) (hP _ _ rfl) rfl ?_
  refine am_r_aload0 (pc' := 1289) (hP _ _ rfl) rfl ?_
  refine am_r_iload3 (pc' := 1290) (hP _ _ rfl) rfl ?_
  refine am_r_iconst (pc' := 1291) (hP _ _ rfl) rfl ?_
  refine am_r_iadd (pc' := 1292) (hP _ _ rfl) rfl ?_
  refine am_r_iaSv (pc' := 1293) (hP _ _ rfl) rfl hL3 e1 ?_
  refine am_r_invI1 (pc' := 1296) (hP _ _ rfl) rfl rfl (Nat.le_of_ble_eq_true rfl) (c_led (by omega) hD (by omega) ?_)
  · obtain ⟨gX, gL, gT, gH, gK, gD, gO⟩ := hg0
    refine am_r_aload2 (pc' := 1297) (hP _ _ rfl) rfl ?_
    refine am_r_aload0 (pc' := 1298) (hP _ _ rfl) rfl ?_
    refine am_r_iload3 (pc' := 1299) (hP _ _ rfl) rfl ?_
    refine am_r_iconst (pc' := 1300) (hP _ _ rfl) rfl ?_
    refine am_r_iadd (pc' := 1301) (hP _ _ rfl) rfl ?_
    refine am_r_iaSv (pc' := 1302) (hP _ _ rfl) rfl hL3 e1 ?_
    refine am_r_invI1 (pc' := 1305) (hP _ _ rfl) rfl rfl (Nat.le_of_ble_eq_true rfl) (m_led (by omega) gD (by omega) ?_)
    · have hG := mi_mk gX gL gT gH gK gD gO
      refine am_r_eqs (pt := 1753) (hP _ _ rfl) rfl ?_
      exact hq _ (inv_mk (ci_mk hX hL hT hH hK hD hO) hG hN hl)
def am_pLc32 : Am_p := [(1310, 1, .aload 1, .aload 1, 0), (1311, 3, .invokevirtual 139, .invokevirtual 139, 0), (1314, 1, .aload 2, .aload 2, 0), (1315, 3, .invokevirtual 237, .invokevirtual 237, 0), (1318, 3, .if_icmp .eq 1753, .if_icmp .eq 1753, 0), (1321, 1, .iconst 0, .iconst 0, 0), (1322, 1, .ireturn, .ireturn, 0)]
theorem lw_c32 {sL : Nat} {xs : Nat → Int32} {d : Nat} {M : Am_M} {P : Am_p} {Q : Option Value → Am_M → Prop} (hd : 60 ≤ d) (hP : ∀ pc r, am_lk am_pLc32 pc = some r → am_lk P pc = some r) (hL3 : sL ≤ 3072) {i : Int} (hi : 0 ≤ i ∧ i + 6 ≤ sL) (hI : Inv M) (hq : ∀ M', Inv M' → am_rw sL xs d P 2 1753 [.ref 900, .ref 0, .ref 53, .int (z_I i)] [] M' Q) : am_rw sL xs d P 2 1310 [.ref 900, .ref 0, .ref 53, .int (z_I i)] [] M Q := by
  obtain ⟨σ, χ, c, t, η, ε, δ, κ, m, l, ⟨hX, hL, hT, hH, hK, hD, hO⟩, hg0, hN, hl⟩ := hI
  refine am_r_aload1 (pc' := 1311) (hP _ _ rfl) rfl ?_
  refine am_r_invI0 (pc' := 1314) (hP _ _ rfl) rfl rfl (Nat.le_of_ble_eq_true rfl) (c_image (by omega) hX hD ?_)
  · intro M1 f1 xD
    have hC := ci_mk (sx_k2 hX (fun k a b => (f1 k (by omega)).1)) (cl_cg hL (f1 19 (by omega)).1 (f1 20 (by omega)).1 (f1 21 (by omega)).1) (tb_k hT (f1 15 (by omega)).1 (f1 16 (by omega)).1) (hx_cg hH (fun k a b => (f1 k (by omega)))) (kx_cg hK (fun k a b => (f1 k (by omega)).1)) xD (ok_cg hO (f1 50 (by omega)).1 (f1 51 (by omega)).1 (f1 52 (by omega)).1)
    obtain ⟨gX, gL, gT, gH, gK, gD, gO⟩ := mi_keep hg0 (fun k hk => (f1 k (by omega)))
    refine am_r_aload2 (pc' := 1315) (hP _ _ rfl) rfl ?_
    refine am_r_invI0 (pc' := 1318) (hP _ _ rfl) rfl rfl (Nat.le_of_ble_eq_true rfl) (m_image (by omega) gX gD ?_)
    · intro M2 f2 yD
      have hG := mi_mk (sm_k gX (fun k i q => (f2.1 k i (by omega) (by omega) (by omega)))) (lm_k gL (fun k i q => (f2.1 k i (by omega) (by omega) (by omega)))) (tm_k gT (fun k i q => (f2.1 k i (by omega) (by omega) (by omega)))) (hm_k2 gH (fun k i q => (f2.1 k i (by omega) (by omega) (by omega))) (by rw [f2.2])) (km_k gK (fun k i q => (f2.1 k i (by omega) (by omega) (by omega)))) yD (qm_k2 gO (fun k i q => (f2.1 k i (by omega) (by omega) (by omega))))
      have hC2 := ci_keep hC (fun k hk => ⟨funext fun i => (f2.1 k i (by omega) (by omega) (by omega)), by rw [f2.2]⟩)
      refine am_r_eqs (pt := 1753) (hP _ _ rfl) rfl ?_
      exact hq _ (inv_mk hC2 hG hN hl)
def am_pLc33 : Am_p := [(1323, 1, .aload 1, .aload 1, 0), (1324, 3, .invokevirtual 140, .invokevirtual 140, 0), (1327, 1, .aload 2, .aload 2, 0), (1328, 3, .invokevirtual 238, .invokevirtual 238, 0), (1331, 3, .if_icmp .eq 1753, .if_icmp .eq 1753, 0), (1334, 1, .iconst 0, .iconst 0, 0), (1335, 1, .ireturn, .ireturn, 0)]
theorem lw_c33 {sL : Nat} {xs : Nat → Int32} {d : Nat} {M : Am_M} {P : Am_p} {Q : Option Value → Am_M → Prop} (hd : 60 ≤ d) (hP : ∀ pc r, am_lk am_pLc33 pc = some r → am_lk P pc = some r) (hL3 : sL ≤ 3072) {i : Int} (hi : 0 ≤ i ∧ i + 6 ≤ sL) (hI : Inv M) (hq : ∀ M', Inv M' → am_rw sL xs d P 2 1753 [.ref 900, .ref 0, .ref 53, .int (z_I i)] [] M' Q) : am_rw sL xs d P 2 1323 [.ref 900, .ref 0, .ref 53, .int (z_I i)] [] M Q := by
  obtain ⟨σ, χ, c, t, η, ε, δ, κ, m, l, ⟨hX, hL, hT, hH, hK, hD, hO⟩, hg0, hN, hl⟩ := hI
  refine am_r_aload1 (pc' := 1324) (hP _ _ rfl) rfl ?_
  refine am_r_invI0 (pc' := 1327) (hP _ _ rfl) rfl rfl (Nat.le_of_ble_eq_true rfl) (c_back (by omega) hX hD ?_)
  · intro M1 f1 xX xD
    have hC := ci_mk xX (cl_cg hL (f1 19 (by omega) (by omega)).1 (f1 20 (by omega) (by omega)).1 (f1 21 (by omega) (by omega)).1) (tb_k hT (f1 15 (by omega) (by omega)).1 (f1 16 (by omega) (by omega)).1) (hx_cg hH (fun k a b => (f1 k (by omega) (by omega)))) (kx_sg (kx_cg hK (fun k a b => (f1 k (by omega) (by omega)).1)) su_back.1 su_back.2) xD (ok_cg hO (f1 50 (by omega) (by omega)).1 (f1 51 (by omega) (by omega)).1 (f1 52 (by omega) (by omega)).1)
    obtain ⟨gX, gL, gT, gH, gK, gD, gO⟩ := mi_keep hg0 (fun k hk => (f1 k (by omega) (by omega)))
    refine am_r_aload2 (pc' := 1328) (hP _ _ rfl) rfl ?_
    refine am_r_invI0 (pc' := 1331) (hP _ _ rfl) rfl rfl (Nat.le_of_ble_eq_true rfl) (m_back (by omega) gX gD ?_)
    · intro M2 f2 yX yD
      have hG := mi_mk yX (lm_k gL (fun k i q => (f2.1 k i (by omega) (by omega) (by omega) (by omega)))) (tm_k gT (fun k i q => (f2.1 k i (by omega) (by omega) (by omega) (by omega)))) (hm_k2 gH (fun k i q => (f2.1 k i (by omega) (by omega) (by omega) (by omega))) (by rw [f2.2])) (km_sg (km_k gK (fun k i q => (f2.1 k i (by omega) (by omega) (by omega) (by omega)))) su_back.1 su_back.2) yD (qm_k2 gO (fun k i q => (f2.1 k i (by omega) (by omega) (by omega) (by omega))))
      have hC2 := ci_keep hC (fun k hk => ⟨funext fun i => (f2.1 k i (by omega) (by omega) (by omega) (by omega)), by rw [f2.2]⟩)
      refine am_r_eqs (pt := 1753) (hP _ _ rfl) rfl ?_
      exact hq _ (inv_mk hC2 hG hN hl)
def am_pLc34 : Am_p := [(1336, 1, .aload 1, .aload 1, 0), (1337, 3, .invokevirtual 141, .invokevirtual 141, 0), (1340, 1, .aload 2, .aload 2, 0), (1341, 3, .invokevirtual 162, .invokevirtual 162, 0), (1344, 3, .if_icmp .eq 1753, .if_icmp .eq 1753, 0), (1347, 1, .iconst 0, .iconst 0, 0), (1348, 1, .ireturn, .ireturn, 0)]
theorem lw_c34 {sL : Nat} {xs : Nat → Int32} {d : Nat} {M : Am_M} {P : Am_p} {Q : Option Value → Am_M → Prop} (hd : 60 ≤ d) (hP : ∀ pc r, am_lk am_pLc34 pc = some r → am_lk P pc = some r) (hL3 : sL ≤ 3072) {i : Int} (hi : 0 ≤ i ∧ i + 6 ≤ sL) (hI : Inv M) (hq : ∀ M', Inv M' → am_rw sL xs d P 2 1753 [.ref 900, .ref 0, .ref 53, .int (z_I i)] [] M' Q) : am_rw sL xs d P 2 1336 [.ref 900, .ref 0, .ref 53, .int (z_I i)] [] M Q := by
  obtain ⟨σ, χ, c, t, η, ε, δ, κ, m, l, ⟨hX, hL, hT, hH, hK, hD, hO⟩, hg0, hN, hl⟩ := hI
  refine am_r_aload1 (pc' := 1337) (hP _ _ rfl) rfl ?_
  refine am_r_invI0 (pc' := 1340) (hP _ _ rfl) rfl rfl (Nat.le_of_ble_eq_true rfl) (c_undo (by omega) hX hK ?_)
  · intro M1 f1 xX xK
    have hC := ci_mk xX (cl_cg hL (f1 19 (by omega) (by omega)).1 (f1 20 (by omega) (by omega)).1 (f1 21 (by omega) (by omega)).1) (tb_k hT (f1 15 (by omega) (by omega)).1 (f1 16 (by omega) (by omega)).1) (hx_cg hH (fun k a b => (f1 k (by omega) (by omega)))) xK (dx_sg (dx_cg hD (f1 31 (by omega) (by omega)).1 (f1 32 (by omega) (by omega)).1) su_undo.1 su_undo.2) (ok_cg hO (f1 50 (by omega) (by omega)).1 (f1 51 (by omega) (by omega)).1 (f1 52 (by omega) (by omega)).1)
    obtain ⟨gX, gL, gT, gH, gK, gD, gO⟩ := mi_keep hg0 (fun k hk => (f1 k (by omega) (by omega)))
    refine am_r_aload2 (pc' := 1341) (hP _ _ rfl) rfl ?_
    refine am_r_invI0 (pc' := 1344) (hP _ _ rfl) rfl rfl (Nat.le_of_ble_eq_true rfl) (m_undo (by omega) gX gK ?_)
    · intro M2 f2 yX yK
      have hG := mi_mk yX (lm_k gL (fun k i q => (f2.1 k i (by omega) (by omega)))) (tm_k gT (fun k i q => (f2.1 k i (by omega) (by omega)))) (hm_k2 gH (fun k i q => (f2.1 k i (by omega) (by omega))) (by rw [f2.2])) yK (dm_sg (dm_k gD (fun k i q => (f2.1 k i (by omega) (by omega)))) su_undo.1 su_undo.2) (qm_k2 gO (fun k i q => (f2.1 k i (by omega) (by omega))))
      have hC2 := ci_keep hC (fun k hk => ⟨funext fun i => (f2.1 k i (by omega) (by omega)), by rw [f2.2]⟩)
      refine am_r_eqs (pt := 1753) (hP _ _ rfl) rfl ?_
      exact hq _ (inv_mk hC2 hG hN hl)
def am_pLc35 : Am_p := [(1349, 1, .aload 1, .aload 1, 0), (1350, 3, .invokevirtual 142, .invokevirtual 142, 0), (1353, 1, .aload 2, .aload 2, 0), (1354, 3, .invokevirtual 163, .invokevirtual 163, 0), (1357, 3, .if_icmp .eq 1753, .if_icmp .eq 1753, 0), (1360, 1, .iconst 0, .iconst 0, 0), (1361, 1, .ireturn, .ireturn, 0)]
theorem lw_c35 {sL : Nat} {xs : Nat → Int32} {d : Nat} {M : Am_M} {P : Am_p} {Q : Option Value → Am_M → Prop} (hd : 60 ≤ d) (hP : ∀ pc r, am_lk am_pLc35 pc = some r → am_lk P pc = some r) (hL3 : sL ≤ 3072) {i : Int} (hi : 0 ≤ i ∧ i + 6 ≤ sL) (hI : Inv M) (hq : ∀ M', Inv M' → am_rw sL xs d P 2 1753 [.ref 900, .ref 0, .ref 53, .int (z_I i)] [] M' Q) : am_rw sL xs d P 2 1349 [.ref 900, .ref 0, .ref 53, .int (z_I i)] [] M Q := by
  obtain ⟨σ, χ, c, t, η, ε, δ, κ, m, l, ⟨hX, hL, hT, hH, hK, hD, hO⟩, hg0, hN, hl⟩ := hI
  refine am_r_aload1 (pc' := 1350) (hP _ _ rfl) rfl ?_
  refine am_r_invI0 (pc' := 1353) (hP _ _ rfl) rfl rfl (Nat.le_of_ble_eq_true rfl) (c_redo (by omega) hX hK ?_)
  · intro M1 f1 xX xK
    have hC := ci_mk xX (cl_cg hL (f1 19 (by omega) (by omega)).1 (f1 20 (by omega) (by omega)).1 (f1 21 (by omega) (by omega)).1) (tb_k hT (f1 15 (by omega) (by omega)).1 (f1 16 (by omega) (by omega)).1) (hx_cg hH (fun k a b => (f1 k (by omega) (by omega)))) xK (dx_sg (dx_cg hD (f1 31 (by omega) (by omega)).1 (f1 32 (by omega) (by omega)).1) su_redo.1 su_redo.2) (ok_cg hO (f1 50 (by omega) (by omega)).1 (f1 51 (by omega) (by omega)).1 (f1 52 (by omega) (by omega)).1)
    obtain ⟨gX, gL, gT, gH, gK, gD, gO⟩ := mi_keep hg0 (fun k hk => (f1 k (by omega) (by omega)))
    refine am_r_aload2 (pc' := 1354) (hP _ _ rfl) rfl ?_
    refine am_r_invI0 (pc' := 1357) (hP _ _ rfl) rfl rfl (Nat.le_of_ble_eq_true rfl) (m_redo (by omega) gX gK ?_)
    · intro M2 f2 yX yK
      have hG := mi_mk yX (lm_k gL (fun k i q => (f2.1 k i (by omega) (by omega)))) (tm_k gT (fun k i q => (f2.1 k i (by omega) (by omega)))) (hm_k2 gH (fun k i q => (f2.1 k i (by omega) (by omega))) (by rw [f2.2])) yK (dm_sg (dm_k gD (fun k i q => (f2.1 k i (by omega) (by omega)))) su_redo.1 su_redo.2) (qm_k2 gO (fun k i q => (f2.1 k i (by omega) (by omega))))
      have hC2 := ci_keep hC (fun k hk => ⟨funext fun i => (f2.1 k i (by omega) (by omega)), by rw [f2.2]⟩)
      refine am_r_eqs (pt := 1753) (hP _ _ rfl) rfl ?_
      exact hq _ (inv_mk hC2 hG hN hl)
