set_option maxRecDepth 100000 in
set_option maxHeartbeats 4000000 in
theorem am_ckL8 : am_chk 12 code am_pL8 = true := by decide +kernel
set_option maxRecDepth 100000 in
set_option maxHeartbeats 4000000 in
theorem am_ckL9 : am_chk 12 code am_pL9 = true := by decide +kernel
set_option maxRecDepth 100000 in
set_option maxHeartbeats 4000000 in
theorem am_ckL10 : am_chk 12 code am_pL10 = true := by decide +kernel
set_option maxRecDepth 100000 in
set_option maxHeartbeats 4000000 in
theorem am_ckL11 : am_chk 12 code am_pL11 = true := by decide +kernel
