set_option maxRecDepth 100000 in
set_option maxHeartbeats 4000000 in
theorem am_ck5 : am_ok2 100 am_mt5 am_pg5 = true := by decide +kernel
set_option maxRecDepth 100000 in
set_option maxHeartbeats 4000000 in
theorem am_ck6 : am_ok2 120 am_mt6 am_pg6 = true := by decide +kernel
set_option maxRecDepth 100000 in
set_option maxHeartbeats 4000000 in
theorem am_ck7 : am_ok2 140 am_mt7 am_pg7 = true := by decide +kernel
set_option maxRecDepth 100000 in
set_option maxHeartbeats 4000000 in
theorem am_ck8 : am_ok2 160 am_mt8 am_pg8 = true := by decide +kernel
set_option maxRecDepth 100000 in
set_option maxHeartbeats 4000000 in
theorem am_ck9 : am_ok2 180 am_mt9 am_pg9 = true := by decide +kernel
