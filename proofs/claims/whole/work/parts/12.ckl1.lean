set_option maxRecDepth 100000 in
set_option maxHeartbeats 4000000 in
theorem am_ckL4 : am_chk 12 code am_pL4 = true := by decide +kernel
set_option maxRecDepth 100000 in
set_option maxHeartbeats 4000000 in
theorem am_ckL5 : am_chk 12 code am_pL5 = true := by decide +kernel
set_option maxRecDepth 100000 in
set_option maxHeartbeats 4000000 in
theorem am_ckL6 : am_chk 12 code am_pL6 = true := by decide +kernel
set_option maxRecDepth 100000 in
set_option maxHeartbeats 4000000 in
theorem am_ckL7 : am_chk 12 code am_pL7 = true := by decide +kernel
