/-! ===== the table agrees with the bytes and links ===== -/
set_option maxRecDepth 100000 in
theorem xm_ck0 : (List.range' 0 20).all xm_chk = true := by decide +kernel
set_option maxRecDepth 100000 in
theorem xm_ck1 : (List.range' 20 18).all xm_chk = true := by decide +kernel
set_option maxRecDepth 100000 in
theorem xm_ck2 : (List.range' 38 18).all xm_chk = true := by decide +kernel
set_option maxRecDepth 100000 in
theorem xm_ck3 : (List.range' 56 17).all xm_chk = true := by decide +kernel
set_option maxRecDepth 100000 in
theorem xm_ck4 : (List.range' 73 15).all xm_chk = true := by decide +kernel
set_option maxRecDepth 100000 in
theorem xm_ck5 : (List.range' 88 25).all xm_chk = true := by decide +kernel
set_option maxRecDepth 100000 in
theorem xm_ck6 : (List.range' 113 13).all xm_chk = true := by decide +kernel
