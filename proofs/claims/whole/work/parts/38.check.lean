/-! ===== the table agrees with the bytes ===== -/
set_option maxRecDepth 100000 in
theorem xm_k136_0 : (List.range' 0 22).all (fun pc => xm_at1 11 false none prog_13_method_23_code pc (xm_p136 pc)) = true := by decide +kernel
set_option maxRecDepth 100000 in
theorem xm_c136 : xm_chk 136 = true := by
  refine xm_chk_mk (m := (⟨"WaterWorksModel", "goesIn", "(I)V"⟩, prog_13_method_23_code, 2, none, 11, 2, 22)) rfl (by decide) (by decide) (fun pc hpc => ?_)
  have hpc2 : pc < 22 := hpc
  have e : xm_P 136 pc = xm_p136 pc := by
    unfold xm_P
    rw [if_pos ⟨by decide, hpc⟩]
    rfl
  rw [e]
  exact xm_rg xm_k136_0 pc (by omega) (by omega)
set_option maxRecDepth 100000 in
theorem xm_k137_0 : (List.range' 0 23).all (fun pc => xm_at1 11 false none prog_13_method_26_code pc (xm_p137 pc)) = true := by decide +kernel
set_option maxRecDepth 100000 in
theorem xm_c137 : xm_chk 137 = true := by
  refine xm_chk_mk (m := (⟨"WaterWorksModel", "setToWork", "(II)V"⟩, prog_13_method_26_code, 3, none, 11, 3, 23)) rfl (by decide) (by decide) (fun pc hpc => ?_)
  have hpc2 : pc < 23 := hpc
  have e : xm_P 137 pc = xm_p137 pc := by
    unfold xm_P
    rw [if_pos ⟨by decide, hpc⟩]
    rfl
  rw [e]
  exact xm_rg xm_k137_0 pc (by omega) (by omega)
set_option maxRecDepth 100000 in
theorem xm_k138_0 : (List.range' 0 51).all (fun pc => xm_at1 11 false (some .boolean) prog_13_method_25_code pc (xm_p138 pc)) = true := by decide +kernel
set_option maxRecDepth 100000 in
theorem xm_c138 : xm_chk 138 = true := by
  refine xm_chk_mk (m := (⟨"WaterWorksModel", "isAlike", "(II)Z"⟩, prog_13_method_25_code, 3, (some .boolean), 11, 3, 51)) rfl (by decide) (by decide) (fun pc hpc => ?_)
  have hpc2 : pc < 51 := hpc
  have e : xm_P 138 pc = xm_p138 pc := by
    unfold xm_P
    rw [if_pos ⟨by decide, hpc⟩]
    rfl
  rw [e]
  exact xm_rg xm_k138_0 pc (by omega) (by omega)
set_option maxRecDepth 100000 in
theorem xm_k139_0 : (List.range' 0 92).all (fun pc => xm_at1 11 false (some .int) prog_13_method_22_code pc (xm_p139 pc)) = true := by decide +kernel
set_option maxRecDepth 100000 in
theorem xm_c139 : xm_chk 139 = true := by
  refine xm_chk_mk (m := (⟨"WaterWorksModel", "tryEnd", "(II)I"⟩, prog_13_method_22_code, 5, (some .int), 11, 3, 92)) rfl (by decide) (by decide) (fun pc hpc => ?_)
  have hpc2 : pc < 92 := hpc
  have e : xm_P 139 pc = xm_p139 pc := by
    unfold xm_P
    rw [if_pos ⟨by decide, hpc⟩]
    rfl
  rw [e]
  exact xm_rg xm_k139_0 pc (by omega) (by omega)
set_option maxRecDepth 100000 in
theorem xm_k140_0 : (List.range' 0 120).all (fun pc => xm_at1 11 false none prog_13_method_28_code pc (xm_p140 pc)) = true := by decide +kernel
set_option maxRecDepth 100000 in
theorem xm_k140_1 : (List.range' 120 20).all (fun pc => xm_at1 11 false none prog_13_method_28_code pc (xm_p140 pc)) = true := by decide +kernel
set_option maxRecDepth 100000 in
theorem xm_c140 : xm_chk 140 = true := by
  refine xm_chk_mk (m := (⟨"WaterWorksModel", "ends", "(IIIZ)V"⟩, prog_13_method_28_code, 7, none, 11, 5, 140)) rfl (by decide) (by decide) (fun pc hpc => ?_)
  have hpc2 : pc < 140 := hpc
  have e : xm_P 140 pc = xm_p140 pc := by
    unfold xm_P
    rw [if_pos ⟨by decide, hpc⟩]
    rfl
  rw [e]
  by_cases h0 : pc < 120
  · exact xm_rg xm_k140_0 pc (by omega) (by omega)
  exact xm_rg xm_k140_1 pc (by omega) (by omega)
set_option maxRecDepth 100000 in
theorem xm_k141_0 : (List.range' 0 120).all (fun pc => xm_at1 11 false none prog_13_method_32_code pc (xm_p141 pc)) = true := by decide +kernel
set_option maxRecDepth 100000 in
theorem xm_k141_1 : (List.range' 120 120).all (fun pc => xm_at1 11 false none prog_13_method_32_code pc (xm_p141 pc)) = true := by decide +kernel
set_option maxRecDepth 100000 in
theorem xm_k141_2 : (List.range' 240 70).all (fun pc => xm_at1 11 false none prog_13_method_32_code pc (xm_p141 pc)) = true := by decide +kernel
set_option maxRecDepth 100000 in
theorem xm_c141 : xm_chk 141 = true := by
  refine xm_chk_mk (m := (⟨"WaterWorksModel", "told", "(II)V"⟩, prog_13_method_32_code, 5, none, 11, 3, 310)) rfl (by decide) (by decide) (fun pc hpc => ?_)
  have hpc2 : pc < 310 := hpc
  have e : xm_P 141 pc = xm_p141 pc := by
    unfold xm_P
    rw [if_pos ⟨by decide, hpc⟩]
    rfl
  rw [e]
  by_cases h0 : pc < 120
  · exact xm_rg xm_k141_0 pc (by omega) (by omega)
  by_cases h1 : pc < 240
  · exact xm_rg xm_k141_1 pc (by omega) (by omega)
  exact xm_rg xm_k141_2 pc (by omega) (by omega)
set_option maxRecDepth 100000 in
theorem xm_k142_0 : (List.range' 0 120).all (fun pc => xm_at1 11 false none prog_13_method_33_code pc (xm_p142 pc)) = true := by decide +kernel
set_option maxRecDepth 100000 in
theorem xm_k142_1 : (List.range' 120 7).all (fun pc => xm_at1 11 false none prog_13_method_33_code pc (xm_p142 pc)) = true := by decide +kernel
set_option maxRecDepth 100000 in
theorem xm_c142 : xm_chk 142 = true := by
  refine xm_chk_mk (m := (⟨"WaterWorksModel", "fuseTold", "(III)V"⟩, prog_13_method_33_code, 5, none, 11, 4, 127)) rfl (by decide) (by decide) (fun pc hpc => ?_)
  have hpc2 : pc < 127 := hpc
  have e : xm_P 142 pc = xm_p142 pc := by
    unfold xm_P
    rw [if_pos ⟨by decide, hpc⟩]
    rfl
  rw [e]
  by_cases h0 : pc < 120
  · exact xm_rg xm_k142_0 pc (by omega) (by omega)
  exact xm_rg xm_k142_1 pc (by omega) (by omega)
set_option maxRecDepth 100000 in
theorem xm_k143_0 : (List.range' 0 40).all (fun pc => xm_at1 11 false (some .boolean) prog_13_method_30_code pc (xm_p143 pc)) = true := by decide +kernel
set_option maxRecDepth 100000 in
theorem xm_c143 : xm_chk 143 = true := by
  refine xm_chk_mk (m := (⟨"WaterWorksModel", "isNamed", "(II)Z"⟩, prog_13_method_30_code, 3, (some .boolean), 11, 3, 40)) rfl (by decide) (by decide) (fun pc hpc => ?_)
  have hpc2 : pc < 40 := hpc
  have e : xm_P 143 pc = xm_p143 pc := by
    unfold xm_P
    rw [if_pos ⟨by decide, hpc⟩]
    rfl
  rw [e]
  exact xm_rg xm_k143_0 pc (by omega) (by omega)
set_option maxRecDepth 100000 in
theorem xm_k144_0 : (List.range' 0 15).all (fun pc => xm_at1 11 false none prog_13_method_31_code pc (xm_p144 pc)) = true := by decide +kernel
set_option maxRecDepth 100000 in
theorem xm_c144 : xm_chk 144 = true := by
  refine xm_chk_mk (m := (⟨"WaterWorksModel", "opens", "(II)V"⟩, prog_13_method_31_code, 3, none, 11, 3, 15)) rfl (by decide) (by decide) (fun pc hpc => ?_)
  have hpc2 : pc < 15 := hpc
  have e : xm_P 144 pc = xm_p144 pc := by
    unfold xm_P
    rw [if_pos ⟨by decide, hpc⟩]
    rfl
  rw [e]
  exact xm_rg xm_k144_0 pc (by omega) (by omega)
set_option maxRecDepth 100000 in
theorem xm_k145_0 : (List.range' 0 33).all (fun pc => xm_at1 11 false none prog_13_method_29_code pc (xm_p145 pc)) = true := by decide +kernel
set_option maxRecDepth 100000 in
theorem xm_c145 : xm_chk 145 = true := by
  refine xm_chk_mk (m := (⟨"WaterWorksModel", "alike", "(II)V"⟩, prog_13_method_29_code, 3, none, 11, 3, 33)) rfl (by decide) (by decide) (fun pc hpc => ?_)
  have hpc2 : pc < 33 := hpc
  have e : xm_P 145 pc = xm_p145 pc := by
    unfold xm_P
    rw [if_pos ⟨by decide, hpc⟩]
    rfl
  rw [e]
  exact xm_rg xm_k145_0 pc (by omega) (by omega)
set_option maxRecDepth 100000 in
theorem xm_k146_0 : (List.range' 0 120).all (fun pc => xm_at1 11 false none prog_13_method_34_code pc (xm_p146 pc)) = true := by decide +kernel
set_option maxRecDepth 100000 in
theorem xm_k146_1 : (List.range' 120 67).all (fun pc => xm_at1 11 false none prog_13_method_34_code pc (xm_p146 pc)) = true := by decide +kernel
set_option maxRecDepth 100000 in
theorem xm_c146 : xm_chk 146 = true := by
  refine xm_chk_mk (m := (⟨"WaterWorksModel", "retryTold", "(III)V"⟩, prog_13_method_34_code, 6, none, 11, 4, 187)) rfl (by decide) (by decide) (fun pc hpc => ?_)
  have hpc2 : pc < 187 := hpc
  have e : xm_P 146 pc = xm_p146 pc := by
    unfold xm_P
    rw [if_pos ⟨by decide, hpc⟩]
    rfl
  rw [e]
  by_cases h0 : pc < 120
  · exact xm_rg xm_k146_0 pc (by omega) (by omega)
  exact xm_rg xm_k146_1 pc (by omega) (by omega)
set_option maxRecDepth 100000 in
theorem xm_k147_0 : (List.range' 0 120).all (fun pc => xm_at1 11 false none prog_13_method_36_code pc (xm_p147 pc)) = true := by decide +kernel
set_option maxRecDepth 100000 in
theorem xm_k147_1 : (List.range' 120 13).all (fun pc => xm_at1 11 false none prog_13_method_36_code pc (xm_p147 pc)) = true := by decide +kernel
set_option maxRecDepth 100000 in
theorem xm_c147 : xm_chk 147 = true := by
  refine xm_chk_mk (m := (⟨"WaterWorksModel", "hedgeTold", "(II)V"⟩, prog_13_method_36_code, 6, none, 11, 3, 133)) rfl (by decide) (by decide) (fun pc hpc => ?_)
  have hpc2 : pc < 133 := hpc
  have e : xm_P 147 pc = xm_p147 pc := by
    unfold xm_P
    rw [if_pos ⟨by decide, hpc⟩]
    rfl
  rw [e]
  by_cases h0 : pc < 120
  · exact xm_rg xm_k147_0 pc (by omega) (by omega)
  exact xm_rg xm_k147_1 pc (by omega) (by omega)
set_option maxRecDepth 100000 in
theorem xm_k148_0 : (List.range' 0 42).all (fun pc => xm_at1 11 false (some .int) prog_13_method_35_code pc (xm_p148 pc)) = true := by decide +kernel
set_option maxRecDepth 100000 in
theorem xm_c148 : xm_chk 148 = true := by
  refine xm_chk_mk (m := (⟨"WaterWorksModel", "otherOf", "(II)I"⟩, prog_13_method_35_code, 5, (some .int), 11, 3, 42)) rfl (by decide) (by decide) (fun pc hpc => ?_)
  have hpc2 : pc < 42 := hpc
  have e : xm_P 148 pc = xm_p148 pc := by
    unfold xm_P
    rw [if_pos ⟨by decide, hpc⟩]
    rfl
  rw [e]
  exact xm_rg xm_k148_0 pc (by omega) (by omega)
set_option maxRecDepth 100000 in
theorem xm_k149_0 : (List.range' 0 120).all (fun pc => xm_at1 11 false (some .int) prog_13_method_40_code pc (xm_p149 pc)) = true := by decide +kernel
set_option maxRecDepth 100000 in
theorem xm_k149_1 : (List.range' 120 51).all (fun pc => xm_at1 11 false (some .int) prog_13_method_40_code pc (xm_p149 pc)) = true := by decide +kernel
set_option maxRecDepth 100000 in
theorem xm_c149 : xm_chk 149 = true := by
  refine xm_chk_mk (m := (⟨"WaterWorksModel", "takeBack", "(II)I"⟩, prog_13_method_40_code, 5, (some .int), 11, 3, 171)) rfl (by decide) (by decide) (fun pc hpc => ?_)
  have hpc2 : pc < 171 := hpc
  have e : xm_P 149 pc = xm_p149 pc := by
    unfold xm_P
    rw [if_pos ⟨by decide, hpc⟩]
    rfl
  rw [e]
  by_cases h0 : pc < 120
  · exact xm_rg xm_k149_0 pc (by omega) (by omega)
  exact xm_rg xm_k149_1 pc (by omega) (by omega)
set_option maxRecDepth 100000 in
theorem xm_k150_0 : (List.range' 0 120).all (fun pc => xm_at1 11 false none prog_13_method_37_code pc (xm_p150 pc)) = true := by decide +kernel
set_option maxRecDepth 100000 in
theorem xm_k150_1 : (List.range' 120 17).all (fun pc => xm_at1 11 false none prog_13_method_37_code pc (xm_p150 pc)) = true := by decide +kernel
set_option maxRecDepth 100000 in
theorem xm_c150 : xm_chk 150 = true := by
  refine xm_chk_mk (m := (⟨"WaterWorksModel", "fallbackTold", "(III)V"⟩, prog_13_method_37_code, 4, none, 11, 4, 137)) rfl (by decide) (by decide) (fun pc hpc => ?_)
  have hpc2 : pc < 137 := hpc
  have e : xm_P 150 pc = xm_p150 pc := by
    unfold xm_P
    rw [if_pos ⟨by decide, hpc⟩]
    rfl
  rw [e]
  by_cases h0 : pc < 120
  · exact xm_rg xm_k150_0 pc (by omega) (by omega)
  exact xm_rg xm_k150_1 pc (by omega) (by omega)
set_option maxRecDepth 100000 in
theorem xm_k151_0 : (List.range' 0 80).all (fun pc => xm_at1 11 false (some .int) prog_13_method_10_code pc (xm_p151 pc)) = true := by decide +kernel
set_option maxRecDepth 100000 in
theorem xm_c151 : xm_chk 151 = true := by
  refine xm_chk_mk (m := (⟨"WaterWorksModel", "fails", "(III)I"⟩, prog_13_method_10_code, 4, (some .int), 11, 4, 80)) rfl (by decide) (by decide) (fun pc hpc => ?_)
  have hpc2 : pc < 80 := hpc
  have e : xm_P 151 pc = xm_p151 pc := by
    unfold xm_P
    rw [if_pos ⟨by decide, hpc⟩]
    rfl
  rw [e]
  exact xm_rg xm_k151_0 pc (by omega) (by omega)
set_option maxRecDepth 100000 in
theorem xm_k152_0 : (List.range' 0 30).all (fun pc => xm_at1 11 false none prog_13_method_27_code pc (xm_p152 pc)) = true := by decide +kernel
set_option maxRecDepth 100000 in
theorem xm_c152 : xm_chk 152 = true := by
  refine xm_chk_mk (m := (⟨"WaterWorksModel", "failsNow", "(II)V"⟩, prog_13_method_27_code, 3, none, 11, 3, 30)) rfl (by decide) (by decide) (fun pc hpc => ?_)
  have hpc2 : pc < 30 := hpc
  have e : xm_P 152 pc = xm_p152 pc := by
    unfold xm_P
    rw [if_pos ⟨by decide, hpc⟩]
    rfl
  rw [e]
  exact xm_rg xm_k152_0 pc (by omega) (by omega)
set_option maxRecDepth 100000 in
theorem xm_k153_0 : (List.range' 0 57).all (fun pc => xm_at1 11 false none prog_13_method_38_code pc (xm_p153 pc)) = true := by decide +kernel
set_option maxRecDepth 100000 in
theorem xm_c153 : xm_chk 153 = true := by
  refine xm_chk_mk (m := (⟨"WaterWorksModel", "freeJoined", "(II)V"⟩, prog_13_method_38_code, 4, none, 11, 3, 57)) rfl (by decide) (by decide) (fun pc hpc => ?_)
  have hpc2 : pc < 57 := hpc
  have e : xm_P 153 pc = xm_p153 pc := by
    unfold xm_P
    rw [if_pos ⟨by decide, hpc⟩]
    rfl
  rw [e]
  exact xm_rg xm_k153_0 pc (by omega) (by omega)
set_option maxRecDepth 100000 in
theorem xm_k154_0 : (List.range' 0 120).all (fun pc => xm_at1 11 false none prog_13_method_41_code pc (xm_p154 pc)) = true := by decide +kernel
set_option maxRecDepth 100000 in
theorem xm_k154_1 : (List.range' 120 89).all (fun pc => xm_at1 11 false none prog_13_method_41_code pc (xm_p154 pc)) = true := by decide +kernel
set_option maxRecDepth 100000 in
theorem xm_c154 : xm_chk 154 = true := by
  refine xm_chk_mk (m := (⟨"WaterWorksModel", "takenBack", "(II)V"⟩, prog_13_method_41_code, 7, none, 11, 3, 209)) rfl (by decide) (by decide) (fun pc hpc => ?_)
  have hpc2 : pc < 209 := hpc
  have e : xm_P 154 pc = xm_p154 pc := by
    unfold xm_P
    rw [if_pos ⟨by decide, hpc⟩]
    rfl
  rw [e]
  by_cases h0 : pc < 120
  · exact xm_rg xm_k154_0 pc (by omega) (by omega)
  exact xm_rg xm_k154_1 pc (by omega) (by omega)
set_option maxRecDepth 100000 in
theorem xm_k155_0 : (List.range' 0 61).all (fun pc => xm_at1 11 false none prog_13_method_39_code pc (xm_p155 pc)) = true := by decide +kernel
set_option maxRecDepth 100000 in
theorem xm_c155 : xm_chk 155 = true := by
  refine xm_chk_mk (m := (⟨"WaterWorksModel", "gone", "(II)V"⟩, prog_13_method_39_code, 4, none, 11, 3, 61)) rfl (by decide) (by decide) (fun pc hpc => ?_)
  have hpc2 : pc < 61 := hpc
  have e : xm_P 155 pc = xm_p155 pc := by
    unfold xm_P
    rw [if_pos ⟨by decide, hpc⟩]
    rfl
  rw [e]
  exact xm_rg xm_k155_0 pc (by omega) (by omega)
set_option maxRecDepth 100000 in
theorem xm_k156_0 : (List.range' 0 56).all (fun pc => xm_at1 11 false (some .int) prog_13_method_47_code pc (xm_p156 pc)) = true := by decide +kernel
set_option maxRecDepth 100000 in
theorem xm_c156 : xm_chk 156 = true := by
  refine xm_chk_mk (m := (⟨"WaterWorksModel", "cancel", "(I)I"⟩, prog_13_method_47_code, 3, (some .int), 11, 2, 56)) rfl (by decide) (by decide) (fun pc hpc => ?_)
  have hpc2 : pc < 56 := hpc
  have e : xm_P 156 pc = xm_p156 pc := by
    unfold xm_P
    rw [if_pos ⟨by decide, hpc⟩]
    rfl
  rw [e]
  exact xm_rg xm_k156_0 pc (by omega) (by omega)
set_option maxRecDepth 100000 in
theorem xm_k157_0 : (List.range' 0 120).all (fun pc => xm_at1 11 false (some .int) prog_13_method_48_code pc (xm_p157 pc)) = true := by decide +kernel
set_option maxRecDepth 100000 in
theorem xm_k157_1 : (List.range' 120 87).all (fun pc => xm_at1 11 false (some .int) prog_13_method_48_code pc (xm_p157 pc)) = true := by decide +kernel
set_option maxRecDepth 100000 in
theorem xm_c157 : xm_chk 157 = true := by
  refine xm_chk_mk (m := (⟨"WaterWorksModel", "plan", "(IIIIIII)I"⟩, prog_13_method_48_code, 9, (some .int), 11, 8, 207)) rfl (by decide) (by decide) (fun pc hpc => ?_)
  have hpc2 : pc < 207 := hpc
  have e : xm_P 157 pc = xm_p157 pc := by
    unfold xm_P
    rw [if_pos ⟨by decide, hpc⟩]
    rfl
  rw [e]
  by_cases h0 : pc < 120
  · exact xm_rg xm_k157_0 pc (by omega) (by omega)
  exact xm_rg xm_k157_1 pc (by omega) (by omega)
set_option maxRecDepth 100000 in
theorem xm_k158_0 : (List.range' 0 40).all (fun pc => xm_at1 11 false (some .int) prog_13_method_49_code pc (xm_p158 pc)) = true := by decide +kernel
set_option maxRecDepth 100000 in
theorem xm_c158 : xm_chk 158 = true := by
  refine xm_chk_mk (m := (⟨"WaterWorksModel", "stop", "(I)I"⟩, prog_13_method_49_code, 2, (some .int), 11, 2, 40)) rfl (by decide) (by decide) (fun pc hpc => ?_)
  have hpc2 : pc < 40 := hpc
  have e : xm_P 158 pc = xm_p158 pc := by
    unfold xm_P
    rw [if_pos ⟨by decide, hpc⟩]
    rfl
  rw [e]
  exact xm_rg xm_k158_0 pc (by omega) (by omega)
set_option maxRecDepth 100000 in
theorem xm_k159_0 : (List.range' 0 93).all (fun pc => xm_at1 11 false (some .int) prog_13_method_50_code pc (xm_p159 pc)) = true := by decide +kernel
set_option maxRecDepth 100000 in
theorem xm_c159 : xm_chk 159 = true := by
  refine xm_chk_mk (m := (⟨"WaterWorksModel", "planned", "(II)I"⟩, prog_13_method_50_code, 3, (some .int), 11, 3, 93)) rfl (by decide) (by decide) (fun pc hpc => ?_)
  have hpc2 : pc < 93 := hpc
  have e : xm_P 159 pc = xm_p159 pc := by
    unfold xm_P
    rw [if_pos ⟨by decide, hpc⟩]
    rfl
  rw [e]
  exact xm_rg xm_k159_0 pc (by omega) (by omega)
set_option maxRecDepth 100000 in
theorem xm_k160_0 : (List.range' 0 120).all (fun pc => xm_at1 11 false (some .int) prog_13_method_52_code pc (xm_p160 pc)) = true := by decide +kernel
set_option maxRecDepth 100000 in
theorem xm_k160_1 : (List.range' 120 96).all (fun pc => xm_at1 11 false (some .int) prog_13_method_52_code pc (xm_p160 pc)) = true := by decide +kernel
set_option maxRecDepth 100000 in
theorem xm_c160 : xm_chk 160 = true := by
  refine xm_chk_mk (m := (⟨"WaterWorksModel", "alarm", "(III)I"⟩, prog_13_method_52_code, 5, (some .int), 11, 4, 216)) rfl (by decide) (by decide) (fun pc hpc => ?_)
  have hpc2 : pc < 216 := hpc
  have e : xm_P 160 pc = xm_p160 pc := by
    unfold xm_P
    rw [if_pos ⟨by decide, hpc⟩]
    rfl
  rw [e]
  by_cases h0 : pc < 120
  · exact xm_rg xm_k160_0 pc (by omega) (by omega)
  exact xm_rg xm_k160_1 pc (by omega) (by omega)
set_option maxRecDepth 100000 in
theorem xm_k161_0 : (List.range' 0 28).all (fun pc => xm_at1 11 false (some .boolean) prog_13_method_12_code pc (xm_p161 pc)) = true := by decide +kernel
set_option maxRecDepth 100000 in
theorem xm_c161 : xm_chk 161 = true := by
  refine xm_chk_mk (m := (⟨"WaterWorksModel", "isGuard", "(II)Z"⟩, prog_13_method_12_code, 3, (some .boolean), 11, 3, 28)) rfl (by decide) (by decide) (fun pc hpc => ?_)
  have hpc2 : pc < 28 := hpc
  have e : xm_P 161 pc = xm_p161 pc := by
    unfold xm_P
    rw [if_pos ⟨by decide, hpc⟩]
    rfl
  rw [e]
  exact xm_rg xm_k161_0 pc (by omega) (by omega)
set_option maxRecDepth 100000 in
theorem xm_k162_0 : (List.range' 0 71).all (fun pc => xm_at1 11 false (some .int) prog_13_method_53_code pc (xm_p162 pc)) = true := by decide +kernel
set_option maxRecDepth 100000 in
theorem xm_c162 : xm_chk 162 = true := by
  refine xm_chk_mk (m := (⟨"WaterWorksModel", "alarmed", "(II)I"⟩, prog_13_method_53_code, 3, (some .int), 11, 3, 71)) rfl (by decide) (by decide) (fun pc hpc => ?_)
  have hpc2 : pc < 71 := hpc
  have e : xm_P 162 pc = xm_p162 pc := by
    unfold xm_P
    rw [if_pos ⟨by decide, hpc⟩]
    rfl
  rw [e]
  exact xm_rg xm_k162_0 pc (by omega) (by omega)
