set_option maxRecDepth 100000 in
set_option maxHeartbeats 4000000 in
theorem am_ckL16 : am_chk 12 code am_pL16 = true := by decide +kernel
set_option maxRecDepth 100000 in
set_option maxHeartbeats 4000000 in
theorem am_ckL17 : am_chk 12 code am_pL17 = true := by decide +kernel
set_option maxRecDepth 100000 in
set_option maxHeartbeats 4000000 in
theorem am_ckL18 : am_chk 12 code am_pL18 = true := by decide +kernel
set_option maxRecDepth 100000 in
set_option maxHeartbeats 4000000 in
theorem am_ckL19 : am_chk 12 code am_pL19 = true := by decide +kernel
