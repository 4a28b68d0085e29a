set_option maxRecDepth 100000 in
theorem am_ckG_14 : (List.range' 164 9).all am_ckM = true := by decide +kernel
set_option maxRecDepth 100000 in
theorem am_ckG_15 : (List.range' 173 10).all am_ckM = true := by decide +kernel
set_option maxRecDepth 100000 in
theorem am_ckG_16 : (List.range' 183 9).all am_ckM = true := by decide +kernel
set_option maxRecDepth 100000 in
theorem am_ckG_17 : (List.range' 192 6).all am_ckM = true := by decide +kernel
set_option maxRecDepth 100000 in
theorem am_ckG_18 : (List.range' 198 17).all am_ckM = true := by decide +kernel
set_option maxRecDepth 100000 in
theorem am_ckG_19 : (List.range' 215 4).all am_ckM = true := by decide +kernel
