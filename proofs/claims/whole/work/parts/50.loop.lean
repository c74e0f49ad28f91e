/-! THE LAW's loop -/
theorem am_lk_sub {S P : Am_p} (h : S.all (fun e => decide (am_lk P e.1 = some (e.2.2.1, e.2.1))) = true) : ∀ pc r, am_lk S pc = some r → am_lk P pc = some r := by
  intro pc r
  induction S with
  | nil => intro q; cases q
  | cons e S ih =>
    intro q
    rw [List.all_cons, Bool.and_eq_true] at h
    unfold am_lk at q
    by_cases z : pc = e.1
    · rw [if_pos z] at q
      rw [z, ← q]
      exact of_decide_eq_true h.1
    · rw [if_neg z] at q
      exact ih h.2 q
theorem lw_sub0 : am_pLc0.all (fun e => decide (am_lk am_pL e.1 = some (e.2.2.1, e.2.1))) = true := by decide +kernel
theorem lw_sub1 : am_pLc1.all (fun e => decide (am_lk am_pL e.1 = some (e.2.2.1, e.2.1))) = true := by decide +kernel
theorem lw_sub2 : am_pLc2.all (fun e => decide (am_lk am_pL e.1 = some (e.2.2.1, e.2.1))) = true := by decide +kernel
theorem lw_sub3 : am_pLc3.all (fun e => decide (am_lk am_pL e.1 = some (e.2.2.1, e.2.1))) = true := by decide +kernel
theorem lw_sub4 : am_pLc4.all (fun e => decide (am_lk am_pL e.1 = some (e.2.2.1, e.2.1))) = true := by decide +kernel
theorem lw_sub5 : am_pLc5.all (fun e => decide (am_lk am_pL e.1 = some (e.2.2.1, e.2.1))) = true := by decide +kernel
theorem lw_sub6 : am_pLc6.all (fun e => decide (am_lk am_pL e.1 = some (e.2.2.1, e.2.1))) = true := by decide +kernel
theorem lw_sub7 : am_pLc7.all (fun e => decide (am_lk am_pL e.1 = some (e.2.2.1, e.2.1))) = true := by decide +kernel
theorem lw_sub8 : am_pLc8.all (fun e => decide (am_lk am_pL e.1 = some (e.2.2.1, e.2.1))) = true := by decide +kernel
theorem lw_sub9 : am_pLc9.all (fun e => decide (am_lk am_pL e.1 = some (e.2.2.1, e.2.1))) = true := by decide +kernel
theorem lw_sub10 : am_pLc10.all (fun e => decide (am_lk am_pL e.1 = some (e.2.2.1, e.2.1))) = true := by decide +kernel
theorem lw_sub11 : am_pLc11.all (fun e => decide (am_lk am_pL e.1 = some (e.2.2.1, e.2.1))) = true := by decide +kernel
theorem lw_sub12 : am_pLc12.all (fun e => decide (am_lk am_pL e.1 = some (e.2.2.1, e.2.1))) = true := by decide +kernel
theorem lw_sub13 : am_pLc13.all (fun e => decide (am_lk am_pL e.1 = some (e.2.2.1, e.2.1))) = true := by decide +kernel
theorem lw_sub14 : am_pLc14.all (fun e => decide (am_lk am_pL e.1 = some (e.2.2.1, e.2.1))) = true := by decide +kernel
theorem lw_sub15 : am_pLc15.all (fun e => decide (am_lk am_pL e.1 = some (e.2.2.1, e.2.1))) = true := by decide +kernel
theorem lw_sub16 : am_pLc16.all (fun e => decide (am_lk am_pL e.1 = some (e.2.2.1, e.2.1))) = true := by decide +kernel
theorem lw_sub17 : am_pLc17.all (fun e => decide (am_lk am_pL e.1 = some (e.2.2.1, e.2.1))) = true := by decide +kernel
theorem lw_sub18 : am_pLc18.all (fun e => decide (am_lk am_pL e.1 = some (e.2.2.1, e.2.1))) = true := by decide +kernel
theorem lw_sub19 : am_pLc19.all (fun e => decide (am_lk am_pL e.1 = some (e.2.2.1, e.2.1))) = true := by decide +kernel
theorem lw_sub20 : am_pLc20.all (fun e => decide (am_lk am_pL e.1 = some (e.2.2.1, e.2.1))) = true := by decide +kernel
theorem lw_sub21 : am_pLc21.all (fun e => decide (am_lk am_pL e.1 = some (e.2.2.1, e.2.1))) = true := by decide +kernel
theorem lw_sub22 : am_pLc22.all (fun e => decide (am_lk am_pL e.1 = some (e.2.2.1, e.2.1))) = true := by decide +kernel
theorem lw_sub23 : am_pLc23.all (fun e => decide (am_lk am_pL e.1 = some (e.2.2.1, e.2.1))) = true := by decide +kernel
theorem lw_sub24 : am_pLc24.all (fun e => decide (am_lk am_pL e.1 = some (e.2.2.1, e.2.1))) = true := by decide +kernel
theorem lw_sub25 : am_pLc25.all (fun e => decide (am_lk am_pL e.1 = some (e.2.2.1, e.2.1))) = true := by decide +kernel
theorem lw_sub26 : am_pLc26.all (fun e => decide (am_lk am_pL e.1 = some (e.2.2.1, e.2.1))) = true := by decide +kernel
theorem lw_sub27 : am_pLc27.all (fun e => decide (am_lk am_pL e.1 = some (e.2.2.1, e.2.1))) = true := by decide +kernel
theorem lw_sub28 : am_pLc28.all (fun e => decide (am_lk am_pL e.1 = some (e.2.2.1, e.2.1))) = true := by decide +kernel
theorem lw_sub29 : am_pLc29.all (fun e => decide (am_lk am_pL e.1 = some (e.2.2.1, e.2.1))) = true := by decide +kernel
theorem lw_sub30 : am_pLc30.all (fun e => decide (am_lk am_pL e.1 = some (e.2.2.1, e.2.1))) = true := by decide +kernel
theorem lw_sub31 : am_pLc31.all (fun e => decide (am_lk am_pL e.1 = some (e.2.2.1, e.2.1))) = true := by decide +kernel
theorem lw_sub32 : am_pLc32.all (fun e => decide (am_lk am_pL e.1 = some (e.2.2.1, e.2.1))) = true := by decide +kernel
theorem lw_sub33 : am_pLc33.all (fun e => decide (am_lk am_pL e.1 = some (e.2.2.1, e.2.1))) = true := by decide +kernel
theorem lw_sub34 : am_pLc34.all (fun e => decide (am_lk am_pL e.1 = some (e.2.2.1, e.2.1))) = true := by decide +kernel
theorem lw_sub35 : am_pLc35.all (fun e => decide (am_lk am_pL e.1 = some (e.2.2.1, e.2.1))) = true := by decide +kernel
theorem lw_sub36 : am_pLc36.all (fun e => decide (am_lk am_pL e.1 = some (e.2.2.1, e.2.1))) = true := by decide +kernel
theorem lw_sub37 : am_pLc37.all (fun e => decide (am_lk am_pL e.1 = some (e.2.2.1, e.2.1))) = true := by decide +kernel
theorem lw_sub38 : am_pLc38.all (fun e => decide (am_lk am_pL e.1 = some (e.2.2.1, e.2.1))) = true := by decide +kernel
theorem lw_sub39 : am_pLc39.all (fun e => decide (am_lk am_pL e.1 = some (e.2.2.1, e.2.1))) = true := by decide +kernel
theorem lw_sub40 : am_pLc40.all (fun e => decide (am_lk am_pL e.1 = some (e.2.2.1, e.2.1))) = true := by decide +kernel
theorem lw_sub41 : am_pLc41.all (fun e => decide (am_lk am_pL e.1 = some (e.2.2.1, e.2.1))) = true := by decide +kernel
theorem lw_sub42 : am_pLc42.all (fun e => decide (am_lk am_pL e.1 = some (e.2.2.1, e.2.1))) = true := by decide +kernel
theorem lw_sub43 : am_pLc43.all (fun e => decide (am_lk am_pL e.1 = some (e.2.2.1, e.2.1))) = true := by decide +kernel
theorem lw_sub44 : am_pLc44.all (fun e => decide (am_lk am_pL e.1 = some (e.2.2.1, e.2.1))) = true := by decide +kernel
theorem lw_sub45 : am_pLc45.all (fun e => decide (am_lk am_pL e.1 = some (e.2.2.1, e.2.1))) = true := by decide +kernel
def am_pLh : Am_p := [(16, 1, .iconst 0, .iconst 0, 0), (17, 1, .istore 3, .istore 3, 0), (18, 1, .iload 3, .iload 3, 0), (19, 1, .aload 0, .aload 0, 0), (20, 1, .arraylength, .arraylength, 0), (21, 2, .iconst 6, .iconst 6, 0), (23, 1, .isub, .isub, 0), (24, 3, .if_icmp .gt 1759, .if_icmp .gt 1759, 0), (27, 1, .aload 0, .aload 0, 0), (28, 1, .iload 3, .iload 3, 0), (29, 1, .iaload, .iaload, 0), (30, 2, .iconst 63, .iconst 63, 0), (32, 1, .iand, .iand, 0), (33, 199, .tableswitch 1753 0 45 #[232, 265, 308, 351, 384, 407, 420, 463, 506, 539, 582, 606, 630, 663, 706, 749, 782, 825, 848, 881, 914, 947, 970, 1003, 1056, 1079, 1122, 1165, 1198, 1241, 1254, 1287, 1310, 1323, 1336, 1349, 1362, 1385, 1428, 1451, 1484, 1527, 1600, 1634, 1697, 1730], .tableswitch 1753 0 45 #[232, 265, 308, 351, 384, 407, 420, 463, 506, 539, 582, 606, 630, 663, 706, 749, 782, 825, 848, 881, 914, 947, 970, 1003, 1056, 1079, 1122, 1165, 1198, 1241, 1254, 1287, 1310, 1323, 1336, 1349, 1362, 1385, 1428, 1451, 1484, 1527, 1600, 1634, 1697, 1730], 0), (1753, 3, .iinc 3 6, .iinc 3 6, 0), (1756, 3, .goto 18, .goto 18, 0), (1759, 1, .iconst 1, .iconst 1, 0), (1760, 1, .ireturn, .ireturn, 0)]
theorem lw_subh : am_pLh.all (fun e => decide (am_lk am_pL e.1 = some (e.2.2.1, e.2.1))) = true := by decide +kernel
theorem lw_loop {sL : Nat} {xs : Nat → Int32} {d : Nat} (hd : 60 ≤ d) (hL3 : sL ≤ 3072) : ∀ (k : Nat) (i : Int) (M : Am_M), (0 ≤ i ∧ i ≤ 4000 ∧ (sL : Int) - i < 6 * k) → Inv M → am_rw sL xs d am_pL 2 18 [.ref 900, .ref 0, .ref 53, .int (z_I i)] [] M (am_pi (fun x _ => x = z_I 1)) := by
  intro k
  have hP := am_lk_sub lw_subh
  induction k with
  | zero =>
    intro i M hk hI
    refine am_r_iload3 (pc' := 19) (hP _ _ rfl) rfl ?_
    refine am_r_aload0 (pc' := 20) (hP _ _ rfl) rfl ?_
    refine am_r_alenS (pc' := 21) (hP _ _ rfl) rfl ?_
    rw [z_ofNat]
    refine am_r_iconst (pc' := 23) (hP _ _ rfl) rfl ?_
    refine am_r_isub (pc' := 24) (hP _ _ rfl) rfl ?_
    refine am_r_icmp_gt (pt := 1759) (pf := 27) (hP _ _ rfl) rfl rfl (fun h24 => ?_) (fun h24 => ?_)
    · refine am_r_iconst (pc' := 1760) (hP _ _ rfl) rfl ?_
      refine am_r_zret (hP _ _ rfl) rfl (by first | exact Or.inr rfl | exact Or.inl rfl | exact z_b_01 _ | assumption) ?_
      rfl
    · exfalso; omega
  | succ k ih =>
    intro i M hk hI
    refine am_r_iload3 (pc' := 19) (hP _ _ rfl) rfl ?_
    refine am_r_aload0 (pc' := 20) (hP _ _ rfl) rfl ?_
    refine am_r_alenS (pc' := 21) (hP _ _ rfl) rfl ?_
    rw [z_ofNat]
    refine am_r_iconst (pc' := 23) (hP _ _ rfl) rfl ?_
    refine am_r_isub (pc' := 24) (hP _ _ rfl) rfl ?_
    refine am_r_icmp_gt (pt := 1759) (pf := 27) (hP _ _ rfl) rfl rfl (fun h24 => ?_) (fun h24 => ?_)
    · refine am_r_iconst (pc' := 1760) (hP _ _ rfl) rfl ?_
      refine am_r_zret (hP _ _ rfl) rfl (by first | exact Or.inr rfl | exact Or.inl rfl | exact z_b_01 _ | assumption) ?_
      rfl
    · obtain ⟨a0, h0, e0⟩ := z_of (xs i.toNat)
      have hend : ∀ M', Inv M' → am_rw sL xs d am_pL 2 1753 [.ref 900, .ref 0, .ref 53, .int (z_I i)] [] M' (am_pi (fun x _ => x = z_I 1)) := by
        intro M2 hI2
        refine am_r_iinc3 (pc' := 1756) (hP _ _ rfl) rfl rfl ?_
        refine am_r_goto (pc' := 18) (hP _ _ rfl) rfl ?_
        exact ih _ _ (by omega) hI2
      refine am_r_aload0 (pc' := 28) (hP _ _ rfl) rfl ?_
      refine am_r_iload3 (pc' := 29) (hP _ _ rfl) rfl ?_
      refine am_r_iaSv (pc' := 30) (hP _ _ rfl) rfl hL3 e0 ?_
      refine am_r_iconst (pc' := 32) (hP _ _ rfl) rfl ?_
      refine am_r_iandR (pc' := 33) (hP _ _ rfl) rfl ?_
      obtain ⟨b, hb, eb⟩ := z_of (z_I a0 &&& z_I 63)
      rw [eb]
      rcases (show b = 0 ∨ b = 1 ∨ b = 2 ∨ b = 3 ∨ b = 4 ∨ b = 5 ∨ b = 6 ∨ b = 7 ∨ b = 8 ∨ b = 9 ∨ b = 10 ∨ b = 11 ∨ b = 12 ∨ b = 13 ∨ b = 14 ∨ b = 15 ∨ b = 16 ∨ b = 17 ∨ b = 18 ∨ b = 19 ∨ b = 20 ∨ b = 21 ∨ b = 22 ∨ b = 23 ∨ b = 24 ∨ b = 25 ∨ b = 26 ∨ b = 27 ∨ b = 28 ∨ b = 29 ∨ b = 30 ∨ b = 31 ∨ b = 32 ∨ b = 33 ∨ b = 34 ∨ b = 35 ∨ b = 36 ∨ b = 37 ∨ b = 38 ∨ b = 39 ∨ b = 40 ∨ b = 41 ∨ b = 42 ∨ b = 43 ∨ b = 44 ∨ b = 45 ∨ (b < 0 ∨ 45 < b) by omega) with rfl | rfl | rfl | rfl | rfl | rfl | rfl | rfl | rfl | rfl | rfl | rfl | rfl | rfl | rfl | rfl | rfl | rfl | rfl | rfl | rfl | rfl | rfl | rfl | rfl | rfl | rfl | rfl | rfl | rfl | rfl | rfl | rfl | rfl | rfl | rfl | rfl | rfl | rfl | rfl | rfl | rfl | rfl | rfl | rfl | rfl | hb2
      · exact am_r_tsw (t := 232) (hP _ _ rfl) rfl (lw_c0 hd (am_lk_sub lw_sub0) hL3 (by omega) hI hend)
      · exact am_r_tsw (t := 265) (hP _ _ rfl) rfl (lw_c1 hd (am_lk_sub lw_sub1) hL3 (by omega) hI hend)
      · exact am_r_tsw (t := 308) (hP _ _ rfl) rfl (lw_c2 hd (am_lk_sub lw_sub2) hL3 (by omega) hI hend)
      · exact am_r_tsw (t := 351) (hP _ _ rfl) rfl (lw_c3 hd (am_lk_sub lw_sub3) hL3 (by omega) hI hend)
      · exact am_r_tsw (t := 384) (hP _ _ rfl) rfl (lw_c4 hd (am_lk_sub lw_sub4) hL3 (by omega) hI hend)
      · exact am_r_tsw (t := 407) (hP _ _ rfl) rfl (lw_c5 hd (am_lk_sub lw_sub5) hL3 (by omega) hI hend)
      · exact am_r_tsw (t := 420) (hP _ _ rfl) rfl (lw_c6 hd (am_lk_sub lw_sub6) hL3 (by omega) hI hend)
      · exact am_r_tsw (t := 463) (hP _ _ rfl) rfl (lw_c7 hd (am_lk_sub lw_sub7) hL3 (by omega) hI hend)
      · exact am_r_tsw (t := 506) (hP _ _ rfl) rfl (lw_c8 hd (am_lk_sub lw_sub8) hL3 (by omega) hI hend)
      · exact am_r_tsw (t := 539) (hP _ _ rfl) rfl (lw_c9 hd (am_lk_sub lw_sub9) hL3 (by omega) hI hend)
      · exact am_r_tsw (t := 582) (hP _ _ rfl) rfl (lw_c10 hd (am_lk_sub lw_sub10) hL3 (by omega) hI hend)
      · exact am_r_tsw (t := 606) (hP _ _ rfl) rfl (lw_c11 hd (am_lk_sub lw_sub11) hL3 (by omega) hI hend)
      · exact am_r_tsw (t := 630) (hP _ _ rfl) rfl (lw_c12 hd (am_lk_sub lw_sub12) hL3 (by omega) hI hend)
      · exact am_r_tsw (t := 663) (hP _ _ rfl) rfl (lw_c13 hd (am_lk_sub lw_sub13) hL3 (by omega) hI hend)
      · exact am_r_tsw (t := 706) (hP _ _ rfl) rfl (lw_c14 hd (am_lk_sub lw_sub14) hL3 (by omega) hI hend)
      · exact am_r_tsw (t := 749) (hP _ _ rfl) rfl (lw_c15 hd (am_lk_sub lw_sub15) hL3 (by omega) hI hend)
      · exact am_r_tsw (t := 782) (hP _ _ rfl) rfl (lw_c16 hd (am_lk_sub lw_sub16) hL3 (by omega) hI hend)
      · exact am_r_tsw (t := 825) (hP _ _ rfl) rfl (lw_c17 hd (am_lk_sub lw_sub17) hL3 (by omega) hI hend)
      · exact am_r_tsw (t := 848) (hP _ _ rfl) rfl (lw_c18 hd (am_lk_sub lw_sub18) hL3 (by omega) hI hend)
      · exact am_r_tsw (t := 881) (hP _ _ rfl) rfl (lw_c19 hd (am_lk_sub lw_sub19) hL3 (by omega) hI hend)
      · exact am_r_tsw (t := 914) (hP _ _ rfl) rfl (lw_c20 hd (am_lk_sub lw_sub20) hL3 (by omega) hI hend)
      · exact am_r_tsw (t := 947) (hP _ _ rfl) rfl (lw_c21 hd (am_lk_sub lw_sub21) hL3 (by omega) hI hend)
      · exact am_r_tsw (t := 970) (hP _ _ rfl) rfl (lw_c22 hd (am_lk_sub lw_sub22) hL3 (by omega) hI hend)
      · exact am_r_tsw (t := 1003) (hP _ _ rfl) rfl (lw_c23 hd (am_lk_sub lw_sub23) hL3 (by omega) hI hend)
      · exact am_r_tsw (t := 1056) (hP _ _ rfl) rfl (lw_c24 hd (am_lk_sub lw_sub24) hL3 (by omega) hI hend)
      · exact am_r_tsw (t := 1079) (hP _ _ rfl) rfl (lw_c25 hd (am_lk_sub lw_sub25) hL3 (by omega) hI hend)
      · exact am_r_tsw (t := 1122) (hP _ _ rfl) rfl (lw_c26 hd (am_lk_sub lw_sub26) hL3 (by omega) hI hend)
      · exact am_r_tsw (t := 1165) (hP _ _ rfl) rfl (lw_c27 hd (am_lk_sub lw_sub27) hL3 (by omega) hI hend)
      · exact am_r_tsw (t := 1198) (hP _ _ rfl) rfl (lw_c28 hd (am_lk_sub lw_sub28) hL3 (by omega) hI hend)
      · exact am_r_tsw (t := 1241) (hP _ _ rfl) rfl (lw_c29 hd (am_lk_sub lw_sub29) hL3 (by omega) hI hend)
      · exact am_r_tsw (t := 1254) (hP _ _ rfl) rfl (lw_c30 hd (am_lk_sub lw_sub30) hL3 (by omega) hI hend)
      · exact am_r_tsw (t := 1287) (hP _ _ rfl) rfl (lw_c31 hd (am_lk_sub lw_sub31) hL3 (by omega) hI hend)
      · exact am_r_tsw (t := 1310) (hP _ _ rfl) rfl (lw_c32 hd (am_lk_sub lw_sub32) hL3 (by omega) hI hend)
      · exact am_r_tsw (t := 1323) (hP _ _ rfl) rfl (lw_c33 hd (am_lk_sub lw_sub33) hL3 (by omega) hI hend)
      · exact am_r_tsw (t := 1336) (hP _ _ rfl) rfl (lw_c34 hd (am_lk_sub lw_sub34) hL3 (by omega) hI hend)
      · exact am_r_tsw (t := 1349) (hP _ _ rfl) rfl (lw_c35 hd (am_lk_sub lw_sub35) hL3 (by omega) hI hend)
      · exact am_r_tsw (t := 1362) (hP _ _ rfl) rfl (lw_c36 hd (am_lk_sub lw_sub36) hL3 (by omega) hI hend)
      · exact am_r_tsw (t := 1385) (hP _ _ rfl) rfl (lw_c37 hd (am_lk_sub lw_sub37) hL3 (by omega) hI hend)
      · exact am_r_tsw (t := 1428) (hP _ _ rfl) rfl (lw_c38 hd (am_lk_sub lw_sub38) hL3 (by omega) hI hend)
      · exact am_r_tsw (t := 1451) (hP _ _ rfl) rfl (lw_c39 hd (am_lk_sub lw_sub39) hL3 (by omega) hI hend)
      · exact am_r_tsw (t := 1484) (hP _ _ rfl) rfl (lw_c40 hd (am_lk_sub lw_sub40) hL3 (by omega) hI hend)
      · exact am_r_tsw (t := 1527) (hP _ _ rfl) rfl (lw_c41 hd (am_lk_sub lw_sub41) hL3 (by omega) hI hend)
      · exact am_r_tsw (t := 1600) (hP _ _ rfl) rfl (lw_c42 hd (am_lk_sub lw_sub42) hL3 (by omega) hI hend)
      · exact am_r_tsw (t := 1634) (hP _ _ rfl) rfl (lw_c43 hd (am_lk_sub lw_sub43) hL3 (by omega) hI hend)
      · exact am_r_tsw (t := 1697) (hP _ _ rfl) rfl (lw_c44 hd (am_lk_sub lw_sub44) hL3 (by omega) hI hend)
      · exact am_r_tsw (t := 1730) (hP _ _ rfl) rfl (lw_c45 hd (am_lk_sub lw_sub45) hL3 (by omega) hI hend)
      · exact am_r_tsw (t := 1753) (hP _ _ rfl) (by rw [if_pos (by omega)]; rfl) (hend M hI)
theorem lw_all {sL : Nat} {xs : Nat → Int32} {d : Nat} (hd : 60 ≤ d) (hL3 : sL ≤ 3072) {M : Am_M} (hI : Inv M) : am_rw sL xs d am_pL 2 16 [.ref 900, .ref 0, .ref 53, .null] [] M (am_pi (fun x _ => x = z_I 1)) := by
  have hP := am_lk_sub lw_subh
  refine am_r_iconst (pc' := 17) (hP _ _ rfl) rfl ?_
  refine am_r_istore3 (pc' := 18) (hP _ _ rfl) rfl rfl ?_
  exact lw_loop hd hL3 600 0 M (by omega) hI
