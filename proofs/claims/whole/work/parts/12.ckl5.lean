set_option maxRecDepth 100000 in
set_option maxHeartbeats 4000000 in
theorem am_ckL20 : am_chk 12 code am_pL20 = true := by decide +kernel
set_option maxRecDepth 100000 in
set_option maxHeartbeats 4000000 in
theorem am_ckL21 : am_chk 12 code am_pL21 = true := by decide +kernel
set_option maxRecDepth 100000 in
set_option maxHeartbeats 4000000 in
theorem am_ckL22 : am_chk 12 code am_pL22 = true := by decide +kernel
set_option maxRecDepth 100000 in
set_option maxHeartbeats 4000000 in
theorem am_ckL23 : am_chk 12 code am_pL23 = true := by decide +kernel
