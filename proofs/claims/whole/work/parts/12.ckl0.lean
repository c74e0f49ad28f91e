set_option maxRecDepth 100000 in
set_option maxHeartbeats 4000000 in
theorem am_ckL0 : am_chk 12 code am_pL0 = true := by decide +kernel
set_option maxRecDepth 100000 in
set_option maxHeartbeats 4000000 in
theorem am_ckL1 : am_chk 12 code am_pL1 = true := by decide +kernel
set_option maxRecDepth 100000 in
set_option maxHeartbeats 4000000 in
theorem am_ckL2 : am_chk 12 code am_pL2 = true := by decide +kernel
set_option maxRecDepth 100000 in
set_option maxHeartbeats 4000000 in
theorem am_ckL3 : am_chk 12 code am_pL3 = true := by decide +kernel
