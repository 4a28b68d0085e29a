set_option maxRecDepth 100000 in
theorem am_ckL_0 : (List.range' 0 170).all (am_ckO 0) = true := by decide +kernel
set_option maxRecDepth 100000 in
theorem am_ckL_1 : (List.range' 170 170).all (am_ckO 0) = true := by decide +kernel
set_option maxRecDepth 100000 in
theorem am_ckL_2 : (List.range' 340 170).all (am_ckO 0) = true := by decide +kernel
set_option maxRecDepth 100000 in
theorem am_ckL_3 : (List.range' 510 170).all (am_ckO 0) = true := by decide +kernel
set_option maxRecDepth 100000 in
theorem am_ckL_4 : (List.range' 680 170).all (am_ckO 0) = true := by decide +kernel
set_option maxRecDepth 100000 in
theorem am_ckL_5 : (List.range' 850 170).all (am_ckO 0) = true := by decide +kernel
set_option maxRecDepth 100000 in
theorem am_ckL_6 : (List.range' 1020 170).all (am_ckO 0) = true := by decide +kernel
set_option maxRecDepth 100000 in
theorem am_ckL_7 : (List.range' 1190 170).all (am_ckO 0) = true := by decide +kernel
set_option maxRecDepth 100000 in
theorem am_ckL_8 : (List.range' 1360 170).all (am_ckO 0) = true := by decide +kernel
set_option maxRecDepth 100000 in
theorem am_ckL_9 : (List.range' 1530 154).all (am_ckO 0) = true := by decide +kernel
set_option maxRecDepth 100000 in
theorem am_ckG_1 : (List.range' 1 12).all am_ckM = true := by decide +kernel
set_option maxRecDepth 100000 in
theorem am_ckG_2 : (List.range' 13 10).all am_ckM = true := by decide +kernel
set_option maxRecDepth 100000 in
theorem am_ckG_3 : (List.range' 23 12).all am_ckM = true := by decide +kernel
set_option maxRecDepth 100000 in
theorem am_ckG_4 : (List.range' 35 17).all am_ckM = true := by decide +kernel
set_option maxRecDepth 100000 in
theorem am_ckG_5 : (List.range' 52 10).all am_ckM = true := by decide +kernel
set_option maxRecDepth 100000 in
theorem am_ckG_6 : (List.range' 62 11).all am_ckM = true := by decide +kernel
