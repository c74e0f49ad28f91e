set_option maxRecDepth 100000 in
set_option maxHeartbeats 4000000 in
theorem am_ckL24 : am_chk 12 code am_pL24 = true := by decide +kernel
set_option maxRecDepth 100000 in
set_option maxHeartbeats 4000000 in
theorem am_ckL25 : am_chk 12 code am_pL25 = true := by decide +kernel
theorem am_chk_app {o : Nat} {cc : ByteArray} {a b : Am_p} (h : am_chk o cc a = true) (h2 : am_chk o cc b = true) : am_chk o cc (a ++ b) = true := by
  unfold am_chk at h h2 ⊢
  rw [List.all_append, h, h2]
  rfl
theorem am_ckL : am_chk 12 code am_pL = true := am_chk_app am_ckL0 (am_chk_app am_ckL1 (am_chk_app am_ckL2 (am_chk_app am_ckL3 (am_chk_app am_ckL4 (am_chk_app am_ckL5 (am_chk_app am_ckL6 (am_chk_app am_ckL7 (am_chk_app am_ckL8 (am_chk_app am_ckL9 (am_chk_app am_ckL10 (am_chk_app am_ckL11 (am_chk_app am_ckL12 (am_chk_app am_ckL13 (am_chk_app am_ckL14 (am_chk_app am_ckL15 (am_chk_app am_ckL16 (am_chk_app am_ckL17 (am_chk_app am_ckL18 (am_chk_app am_ckL19 (am_chk_app am_ckL20 (am_chk_app am_ckL21 (am_chk_app am_ckL22 (am_chk_app am_ckL23 (am_chk_app am_ckL24 am_ckL25))))))))))))))))))))))))
