set_option maxRecDepth 100000 in
set_option maxHeartbeats 4000000 in
theorem am_ckL12 : am_chk 12 code am_pL12 = true := by decide +kernel
set_option maxRecDepth 100000 in
set_option maxHeartbeats 4000000 in
theorem am_ckL13 : am_chk 12 code am_pL13 = true := by decide +kernel
set_option maxRecDepth 100000 in
set_option maxHeartbeats 4000000 in
theorem am_ckL14 : am_chk 12 code am_pL14 = true := by decide +kernel
set_option maxRecDepth 100000 in
set_option maxHeartbeats 4000000 in
theorem am_ckL15 : am_chk 12 code am_pL15 = true := by decide +kernel
