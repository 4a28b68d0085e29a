set_option maxRecDepth 100000 in
theorem am_ckG_7 : (List.range' 73 11).all am_ckM = true := by decide +kernel
set_option maxRecDepth 100000 in
theorem am_ckG_8 : (List.range' 84 8).all am_ckM = true := by decide +kernel
set_option maxRecDepth 100000 in
theorem am_ckG_9 : (List.range' 92 21).all am_ckM = true := by decide +kernel
set_option maxRecDepth 100000 in
theorem am_ckG_10 : (List.range' 113 20).all am_ckM = true := by decide +kernel
set_option maxRecDepth 100000 in
theorem am_ckG_11 : (List.range' 133 10).all am_ckM = true := by decide +kernel
set_option maxRecDepth 100000 in
theorem am_ckG_12 : (List.range' 143 12).all am_ckM = true := by decide +kernel
set_option maxRecDepth 100000 in
theorem am_ckG_13 : (List.range' 155 9).all am_ckM = true := by decide +kernel
