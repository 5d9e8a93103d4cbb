/-! ===== the table agrees with the bytes ===== -/
set_option maxRecDepth 100000 in
theorem xm_k113_0 : (List.range' 0 93).all (fun pc => xm_at1 11 false (some .int) prog_13_method_4_code pc (xm_p113 pc)) = true := by decide +kernel
set_option maxRecDepth 100000 in
theorem xm_c113 : xm_chk 113 = true := by
  refine xm_chk_mk (m := (⟨"WaterWorksModel", "station", "(III)I"⟩, prog_13_method_4_code, 4, (some .int), 11, 4, 93)) rfl (by decide) (by decide) (fun pc hpc => ?_)
  have hpc2 : pc < 93 := hpc
  have e : xm_P 113 pc = xm_p113 pc := by
    unfold xm_P
    rw [if_pos ⟨by decide, hpc⟩]
    rfl
  rw [e]
  exact xm_rg xm_k113_0 pc (by omega) (by omega)
set_option maxRecDepth 100000 in
theorem xm_k114_0 : (List.range' 0 120).all (fun pc => xm_at1 11 false (some .int) prog_13_method_5_code pc (xm_p114 pc)) = true := by decide +kernel
set_option maxRecDepth 100000 in
theorem xm_k114_1 : (List.range' 120 3).all (fun pc => xm_at1 11 false (some .int) prog_13_method_5_code pc (xm_p114 pc)) = true := by decide +kernel
set_option maxRecDepth 100000 in
theorem xm_c114 : xm_chk 114 = true := by
  refine xm_chk_mk (m := (⟨"WaterWorksModel", "fault", "(IIIII)I"⟩, prog_13_method_5_code, 6, (some .int), 11, 6, 123)) rfl (by decide) (by decide) (fun pc hpc => ?_)
  have hpc2 : pc < 123 := hpc
  have e : xm_P 114 pc = xm_p114 pc := by
    unfold xm_P
    rw [if_pos ⟨by decide, hpc⟩]
    rfl
  rw [e]
  by_cases h0 : pc < 120
  · exact xm_rg xm_k114_0 pc (by omega) (by omega)
  exact xm_rg xm_k114_1 pc (by omega) (by omega)
set_option maxRecDepth 100000 in
theorem xm_k115_0 : (List.range' 0 18).all (fun pc => xm_at1 11 false (some .boolean) prog_13_method_2_code pc (xm_p115 pc)) = true := by decide +kernel
set_option maxRecDepth 100000 in
theorem xm_c115 : xm_chk 115 = true := by
  refine xm_chk_mk (m := (⟨"WaterWorksModel", "isStation", "(I)Z"⟩, prog_13_method_2_code, 2, (some .boolean), 11, 2, 18)) rfl (by decide) (by decide) (fun pc hpc => ?_)
  have hpc2 : pc < 18 := hpc
  have e : xm_P 115 pc = xm_p115 pc := by
    unfold xm_P
    rw [if_pos ⟨by decide, hpc⟩]
    rfl
  rw [e]
  exact xm_rg xm_k115_0 pc (by omega) (by omega)
set_option maxRecDepth 100000 in
theorem xm_k116_0 : (List.range' 0 15).all (fun pc => xm_at1 11 false (some .boolean) prog_13_method_3_code pc (xm_p116 pc)) = true := by decide +kernel
set_option maxRecDepth 100000 in
theorem xm_c116 : xm_chk 116 = true := by
  refine xm_chk_mk (m := (⟨"WaterWorksModel", "isAct", "(I)Z"⟩, prog_13_method_3_code, 2, (some .boolean), 11, 2, 15)) rfl (by decide) (by decide) (fun pc hpc => ?_)
  have hpc2 : pc < 15 := hpc
  have e : xm_P 116 pc = xm_p116 pc := by
    unfold xm_P
    rw [if_pos ⟨by decide, hpc⟩]
    rfl
  rw [e]
  exact xm_rg xm_k116_0 pc (by omega) (by omega)
set_option maxRecDepth 100000 in
theorem xm_k117_0 : (List.range' 0 120).all (fun pc => xm_at1 11 false (some .int) prog_13_method_6_code pc (xm_p117 pc)) = true := by decide +kernel
set_option maxRecDepth 100000 in
theorem xm_k117_1 : (List.range' 120 4).all (fun pc => xm_at1 11 false (some .int) prog_13_method_6_code pc (xm_p117 pc)) = true := by decide +kernel
set_option maxRecDepth 100000 in
theorem xm_c117 : xm_chk 117 = true := by
  refine xm_chk_mk (m := (⟨"WaterWorksModel", "slow", "(IIIII)I"⟩, prog_13_method_6_code, 6, (some .int), 11, 6, 124)) rfl (by decide) (by decide) (fun pc hpc => ?_)
  have hpc2 : pc < 124 := hpc
  have e : xm_P 117 pc = xm_p117 pc := by
    unfold xm_P
    rw [if_pos ⟨by decide, hpc⟩]
    rfl
  rw [e]
  by_cases h0 : pc < 120
  · exact xm_rg xm_k117_0 pc (by omega) (by omega)
  exact xm_rg xm_k117_1 pc (by omega) (by omega)
set_option maxRecDepth 100000 in
theorem xm_k118_0 : (List.range' 0 37).all (fun pc => xm_at1 11 false (some .int) prog_13_method_9_code pc (xm_p118 pc)) = true := by decide +kernel
set_option maxRecDepth 100000 in
theorem xm_c118 : xm_chk 118 = true := by
  refine xm_chk_mk (m := (⟨"WaterWorksModel", "isOf", "(II)I"⟩, prog_13_method_9_code, 3, (some .int), 11, 3, 37)) rfl (by decide) (by decide) (fun pc hpc => ?_)
  have hpc2 : pc < 37 := hpc
  have e : xm_P 118 pc = xm_p118 pc := by
    unfold xm_P
    rw [if_pos ⟨by decide, hpc⟩]
    rfl
  rw [e]
  exact xm_rg xm_k118_0 pc (by omega) (by omega)
set_option maxRecDepth 100000 in
theorem xm_k119_0 : (List.range' 0 32).all (fun pc => xm_at1 11 false (some .boolean) prog_13_method_8_code pc (xm_p119 pc)) = true := by decide +kernel
set_option maxRecDepth 100000 in
theorem xm_c119 : xm_chk 119 = true := by
  refine xm_chk_mk (m := (⟨"WaterWorksModel", "isUnder", "(II)Z"⟩, prog_13_method_8_code, 4, (some .boolean), 11, 3, 32)) rfl (by decide) (by decide) (fun pc hpc => ?_)
  have hpc2 : pc < 32 := hpc
  have e : xm_P 119 pc = xm_p119 pc := by
    unfold xm_P
    rw [if_pos ⟨by decide, hpc⟩]
    rfl
  rw [e]
  exact xm_rg xm_k119_0 pc (by omega) (by omega)
set_option maxRecDepth 100000 in
theorem xm_k120_0 : (List.range' 0 59).all (fun pc => xm_at1 11 false (some .int) prog_13_method_7_code pc (xm_p120 pc)) = true := by decide +kernel
set_option maxRecDepth 100000 in
theorem xm_c120 : xm_chk 120 = true := by
  refine xm_chk_mk (m := (⟨"WaterWorksModel", "over", "(I)I"⟩, prog_13_method_7_code, 2, (some .int), 11, 2, 59)) rfl (by decide) (by decide) (fun pc hpc => ?_)
  have hpc2 : pc < 59 := hpc
  have e : xm_P 120 pc = xm_p120 pc := by
    unfold xm_P
    rw [if_pos ⟨by decide, hpc⟩]
    rfl
  rw [e]
  exact xm_rg xm_k120_0 pc (by omega) (by omega)
set_option maxRecDepth 100000 in
theorem xm_k121_0 : (List.range' 0 96).all (fun pc => xm_at1 11 false (some .int) prog_13_method_11_code pc (xm_p121 pc)) = true := by decide +kernel
set_option maxRecDepth 100000 in
theorem xm_c121 : xm_chk 121 = true := by
  refine xm_chk_mk (m := (⟨"WaterWorksModel", "failure", "(II)I"⟩, prog_13_method_11_code, 3, (some .int), 11, 3, 96)) rfl (by decide) (by decide) (fun pc hpc => ?_)
  have hpc2 : pc < 96 := hpc
  have e : xm_P 121 pc = xm_p121 pc := by
    unfold xm_P
    rw [if_pos ⟨by decide, hpc⟩]
    rfl
  rw [e]
  exact xm_rg xm_k121_0 pc (by omega) (by omega)
set_option maxRecDepth 100000 in
theorem xm_k122_0 : (List.range' 0 120).all (fun pc => xm_at1 11 false (some .int) prog_13_method_15_code pc (xm_p122 pc)) = true := by decide +kernel
set_option maxRecDepth 100000 in
theorem xm_k122_1 : (List.range' 120 120).all (fun pc => xm_at1 11 false (some .int) prog_13_method_15_code pc (xm_p122 pc)) = true := by decide +kernel
set_option maxRecDepth 100000 in
theorem xm_k122_2 : (List.range' 240 13).all (fun pc => xm_at1 11 false (some .int) prog_13_method_15_code pc (xm_p122 pc)) = true := by decide +kernel
set_option maxRecDepth 100000 in
theorem xm_c122 : xm_chk 122 = true := by
  refine xm_chk_mk (m := (⟨"WaterWorksModel", "guard", "(IIIII)I"⟩, prog_13_method_15_code, 9, (some .int), 11, 6, 253)) rfl (by decide) (by decide) (fun pc hpc => ?_)
  have hpc2 : pc < 253 := hpc
  have e : xm_P 122 pc = xm_p122 pc := by
    unfold xm_P
    rw [if_pos ⟨by decide, hpc⟩]
    rfl
  rw [e]
  by_cases h0 : pc < 120
  · exact xm_rg xm_k122_0 pc (by omega) (by omega)
  by_cases h1 : pc < 240
  · exact xm_rg xm_k122_1 pc (by omega) (by omega)
  exact xm_rg xm_k122_2 pc (by omega) (by omega)
set_option maxRecDepth 100000 in
theorem xm_k123_0 : (List.range' 0 120).all (fun pc => xm_at1 11 false (some .boolean) prog_13_method_14_code pc (xm_p123 pc)) = true := by decide +kernel
set_option maxRecDepth 100000 in
theorem xm_k123_1 : (List.range' 120 120).all (fun pc => xm_at1 11 false (some .boolean) prog_13_method_14_code pc (xm_p123 pc)) = true := by decide +kernel
set_option maxRecDepth 100000 in
theorem xm_k123_2 : (List.range' 240 87).all (fun pc => xm_at1 11 false (some .boolean) prog_13_method_14_code pc (xm_p123 pc)) = true := by decide +kernel
set_option maxRecDepth 100000 in
theorem xm_c123 : xm_chk 123 = true := by
  refine xm_chk_mk (m := (⟨"WaterWorksModel", "isGood", "(IIII)Z"⟩, prog_13_method_14_code, 5, (some .boolean), 11, 5, 327)) rfl (by decide) (by decide) (fun pc hpc => ?_)
  have hpc2 : pc < 327 := hpc
  have e : xm_P 123 pc = xm_p123 pc := by
    unfold xm_P
    rw [if_pos ⟨by decide, hpc⟩]
    rfl
  rw [e]
  by_cases h0 : pc < 120
  · exact xm_rg xm_k123_0 pc (by omega) (by omega)
  by_cases h1 : pc < 240
  · exact xm_rg xm_k123_1 pc (by omega) (by omega)
  exact xm_rg xm_k123_2 pc (by omega) (by omega)
set_option maxRecDepth 100000 in
theorem xm_k124_0 : (List.range' 0 16).all (fun pc => xm_at1 11 false (some .boolean) prog_13_method_13_code pc (xm_p124 pc)) = true := by decide +kernel
set_option maxRecDepth 100000 in
theorem xm_c124 : xm_chk 124 = true := by
  refine xm_chk_mk (m := (⟨"WaterWorksModel", "in", "(III)Z"⟩, prog_13_method_13_code, 4, (some .boolean), 11, 4, 16)) rfl (by decide) (by decide) (fun pc hpc => ?_)
  have hpc2 : pc < 16 := hpc
  have e : xm_P 124 pc = xm_p124 pc := by
    unfold xm_P
    rw [if_pos ⟨by decide, hpc⟩]
    rfl
  rw [e]
  exact xm_rg xm_k124_0 pc (by omega) (by omega)
set_option maxRecDepth 100000 in
theorem xm_k125_0 : (List.range' 0 108).all (fun pc => xm_at1 11 false (some .int) prog_13_method_16_code pc (xm_p125 pc)) = true := by decide +kernel
set_option maxRecDepth 100000 in
theorem xm_c125 : xm_chk 125 = true := by
  refine xm_chk_mk (m := (⟨"WaterWorksModel", "on", "(I)I"⟩, prog_13_method_16_code, 3, (some .int), 11, 2, 108)) rfl (by decide) (by decide) (fun pc hpc => ?_)
  have hpc2 : pc < 108 := hpc
  have e : xm_P 125 pc = xm_p125 pc := by
    unfold xm_P
    rw [if_pos ⟨by decide, hpc⟩]
    rfl
  rw [e]
  exact xm_rg xm_k125_0 pc (by omega) (by omega)
set_option maxRecDepth 100000 in
theorem xm_k126_0 : (List.range' 0 94).all (fun pc => xm_at1 11 false (some .int) prog_13_method_17_code pc (xm_p126 pc)) = true := by decide +kernel
set_option maxRecDepth 100000 in
theorem xm_c126 : xm_chk 126 = true := by
  refine xm_chk_mk (m := (⟨"WaterWorksModel", "tower", "()I"⟩, prog_13_method_17_code, 2, (some .int), 11, 1, 94)) rfl (by decide) (by decide) (fun pc hpc => ?_)
  have hpc2 : pc < 94 := hpc
  have e : xm_P 126 pc = xm_p126 pc := by
    unfold xm_P
    rw [if_pos ⟨by decide, hpc⟩]
    rfl
  rw [e]
  exact xm_rg xm_k126_0 pc (by omega) (by omega)
set_option maxRecDepth 100000 in
theorem xm_k127_0 : (List.range' 0 68).all (fun pc => xm_at1 11 false (some .int) prog_13_method_46_code pc (xm_p127 pc)) = true := by decide +kernel
set_option maxRecDepth 100000 in
theorem xm_c127 : xm_chk 127 = true := by
  refine xm_chk_mk (m := (⟨"WaterWorksModel", "order", "(IIIII)I"⟩, prog_13_method_46_code, 6, (some .int), 11, 6, 68)) rfl (by decide) (by decide) (fun pc hpc => ?_)
  have hpc2 : pc < 68 := hpc
  have e : xm_P 127 pc = xm_p127 pc := by
    unfold xm_P
    rw [if_pos ⟨by decide, hpc⟩]
    rfl
  rw [e]
  exact xm_rg xm_k127_0 pc (by omega) (by omega)
set_option maxRecDepth 100000 in
theorem xm_k128_0 : (List.range' 0 18).all (fun pc => xm_at1 11 false (some .boolean) prog_13_method_43_code pc (xm_p128 pc)) = true := by decide +kernel
set_option maxRecDepth 100000 in
theorem xm_c128 : xm_chk 128 = true := by
  refine xm_chk_mk (m := (⟨"WaterWorksModel", "isTower", "(I)Z"⟩, prog_13_method_43_code, 2, (some .boolean), 11, 2, 18)) rfl (by decide) (by decide) (fun pc hpc => ?_)
  have hpc2 : pc < 18 := hpc
  have e : xm_P 128 pc = xm_p128 pc := by
    unfold xm_P
    rw [if_pos ⟨by decide, hpc⟩]
    rfl
  rw [e]
  exact xm_rg xm_k128_0 pc (by omega) (by omega)
set_option maxRecDepth 100000 in
theorem xm_k129_0 : (List.range' 0 25).all (fun pc => xm_at1 11 false (some .boolean) prog_13_method_44_code pc (xm_p129 pc)) = true := by decide +kernel
set_option maxRecDepth 100000 in
theorem xm_c129 : xm_chk 129 = true := by
  refine xm_chk_mk (m := (⟨"WaterWorksModel", "isAmount", "(II)Z"⟩, prog_13_method_44_code, 3, (some .boolean), 11, 3, 25)) rfl (by decide) (by decide) (fun pc hpc => ?_)
  have hpc2 : pc < 25 := hpc
  have e : xm_P 129 pc = xm_p129 pc := by
    unfold xm_P
    rw [if_pos ⟨by decide, hpc⟩]
    rfl
  rw [e]
  exact xm_rg xm_k129_0 pc (by omega) (by omega)
set_option maxRecDepth 100000 in
theorem xm_k130_0 : (List.range' 0 110).all (fun pc => xm_at1 11 false (some .int) prog_13_method_45_code pc (xm_p130 pc)) = true := by decide +kernel
set_option maxRecDepth 100000 in
theorem xm_c130 : xm_chk 130 = true := by
  refine xm_chk_mk (m := (⟨"WaterWorksModel", "made", "(IIIII)I"⟩, prog_13_method_45_code, 7, (some .int), 11, 6, 110)) rfl (by decide) (by decide) (fun pc hpc => ?_)
  have hpc2 : pc < 110 := hpc
  have e : xm_P 130 pc = xm_p130 pc := by
    unfold xm_P
    rw [if_pos ⟨by decide, hpc⟩]
    rfl
  rw [e]
  exact xm_rg xm_k130_0 pc (by omega) (by omega)
set_option maxRecDepth 100000 in
theorem xm_k131_0 : (List.range' 0 63).all (fun pc => xm_at1 11 false none prog_13_method_18_code pc (xm_p131 pc)) = true := by decide +kernel
set_option maxRecDepth 100000 in
theorem xm_c131 : xm_chk 131 = true := by
  refine xm_chk_mk (m := (⟨"WaterWorksModel", "add", "(IIIII)V"⟩, prog_13_method_18_code, 6, none, 11, 6, 63)) rfl (by decide) (by decide) (fun pc hpc => ?_)
  have hpc2 : pc < 63 := hpc
  have e : xm_P 131 pc = xm_p131 pc := by
    unfold xm_P
    rw [if_pos ⟨by decide, hpc⟩]
    rfl
  rw [e]
  exact xm_rg xm_k131_0 pc (by omega) (by omega)
set_option maxRecDepth 100000 in
theorem xm_k132_0 : (List.range' 0 120).all (fun pc => xm_at1 11 false none prog_13_method_19_code pc (xm_p132 pc)) = true := by decide +kernel
set_option maxRecDepth 100000 in
theorem xm_k132_1 : (List.range' 120 91).all (fun pc => xm_at1 11 false none prog_13_method_19_code pc (xm_p132 pc)) = true := by decide +kernel
set_option maxRecDepth 100000 in
theorem xm_c132 : xm_chk 132 = true := by
  refine xm_chk_mk (m := (⟨"WaterWorksModel", "work", "()V"⟩, prog_13_method_19_code, 2, none, 11, 1, 211)) rfl (by decide) (by decide) (fun pc hpc => ?_)
  have hpc2 : pc < 211 := hpc
  have e : xm_P 132 pc = xm_p132 pc := by
    unfold xm_P
    rw [if_pos ⟨by decide, hpc⟩]
    rfl
  rw [e]
  by_cases h0 : pc < 120
  · exact xm_rg xm_k132_0 pc (by omega) (by omega)
  exact xm_rg xm_k132_1 pc (by omega) (by omega)
set_option maxRecDepth 100000 in
theorem xm_k133_0 : (List.range' 0 120).all (fun pc => xm_at1 11 false none prog_13_method_21_code pc (xm_p133 pc)) = true := by decide +kernel
set_option maxRecDepth 100000 in
theorem xm_k133_1 : (List.range' 120 120).all (fun pc => xm_at1 11 false none prog_13_method_21_code pc (xm_p133 pc)) = true := by decide +kernel
set_option maxRecDepth 100000 in
theorem xm_k133_2 : (List.range' 240 20).all (fun pc => xm_at1 11 false none prog_13_method_21_code pc (xm_p133 pc)) = true := by decide +kernel
set_option maxRecDepth 100000 in
theorem xm_c133 : xm_chk 133 = true := by
  refine xm_chk_mk (m := (⟨"WaterWorksModel", "begins", "(IIII)V"⟩, prog_13_method_21_code, 7, none, 11, 5, 260)) rfl (by decide) (by decide) (fun pc hpc => ?_)
  have hpc2 : pc < 260 := hpc
  have e : xm_P 133 pc = xm_p133 pc := by
    unfold xm_P
    rw [if_pos ⟨by decide, hpc⟩]
    rfl
  rw [e]
  by_cases h0 : pc < 120
  · exact xm_rg xm_k133_0 pc (by omega) (by omega)
  by_cases h1 : pc < 240
  · exact xm_rg xm_k133_1 pc (by omega) (by omega)
  exact xm_rg xm_k133_2 pc (by omega) (by omega)
set_option maxRecDepth 100000 in
theorem xm_k134_0 : (List.range' 0 35).all (fun pc => xm_at1 11 false (some .int) prog_13_method_20_code pc (xm_p134 pc)) = true := by decide +kernel
set_option maxRecDepth 100000 in
theorem xm_c134 : xm_chk 134 = true := by
  refine xm_chk_mk (m := (⟨"WaterWorksModel", "guardAt", "(II)I"⟩, prog_13_method_20_code, 3, (some .int), 11, 3, 35)) rfl (by decide) (by decide) (fun pc hpc => ?_)
  have hpc2 : pc < 35 := hpc
  have e : xm_P 134 pc = xm_p134 pc := by
    unfold xm_P
    rw [if_pos ⟨by decide, hpc⟩]
    rfl
  rw [e]
  exact xm_rg xm_k134_0 pc (by omega) (by omega)
set_option maxRecDepth 100000 in
theorem xm_k135_0 : (List.range' 0 120).all (fun pc => xm_at1 11 false none prog_13_method_24_code pc (xm_p135 pc)) = true := by decide +kernel
set_option maxRecDepth 100000 in
theorem xm_k135_1 : (List.range' 120 120).all (fun pc => xm_at1 11 false none prog_13_method_24_code pc (xm_p135 pc)) = true := by decide +kernel
set_option maxRecDepth 100000 in
theorem xm_k135_2 : (List.range' 240 120).all (fun pc => xm_at1 11 false none prog_13_method_24_code pc (xm_p135 pc)) = true := by decide +kernel
set_option maxRecDepth 100000 in
theorem xm_k135_3 : (List.range' 360 120).all (fun pc => xm_at1 11 false none prog_13_method_24_code pc (xm_p135 pc)) = true := by decide +kernel
set_option maxRecDepth 100000 in
theorem xm_k135_4 : (List.range' 480 53).all (fun pc => xm_at1 11 false none prog_13_method_24_code pc (xm_p135 pc)) = true := by decide +kernel
set_option maxRecDepth 100000 in
theorem xm_c135 : xm_chk 135 = true := by
  refine xm_chk_mk (m := (⟨"WaterWorksModel", "entered", "(II)V"⟩, prog_13_method_24_code, 5, none, 11, 3, 533)) rfl (by decide) (by decide) (fun pc hpc => ?_)
  have hpc2 : pc < 533 := hpc
  have e : xm_P 135 pc = xm_p135 pc := by
    unfold xm_P
    rw [if_pos ⟨by decide, hpc⟩]
    rfl
  rw [e]
  by_cases h0 : pc < 120
  · exact xm_rg xm_k135_0 pc (by omega) (by omega)
  by_cases h1 : pc < 240
  · exact xm_rg xm_k135_1 pc (by omega) (by omega)
  by_cases h2 : pc < 360
  · exact xm_rg xm_k135_2 pc (by omega) (by omega)
  by_cases h3 : pc < 480
  · exact xm_rg xm_k135_3 pc (by omega) (by omega)
  exact xm_rg xm_k135_4 pc (by omega) (by omega)
