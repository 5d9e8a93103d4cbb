/-! ===== the table agrees with the bytes ===== -/
set_option maxRecDepth 100000 in
theorem xm_k163_0 : (List.range' 0 41).all (fun pc => xm_at1 11 false (some .int) prog_13_method_55_code pc (xm_p163 pc)) = true := by decide +kernel
set_option maxRecDepth 100000 in
theorem xm_c163 : xm_chk 163 = true := by
  refine xm_chk_mk (m := (⟨"WaterWorksModel", "second", "(I)I"⟩, prog_13_method_55_code, 3, (some .int), 11, 2, 41)) rfl (by decide) (by decide) (fun pc hpc => ?_)
  have hpc2 : pc < 41 := hpc
  have e : xm_P 163 pc = xm_p163 pc := by
    unfold xm_P
    rw [if_pos ⟨by decide, hpc⟩]
    rfl
  rw [e]
  exact xm_rg xm_k163_0 pc (by omega) (by omega)
set_option maxRecDepth 100000 in
theorem xm_k164_0 : (List.range' 0 120).all (fun pc => xm_at1 11 false none prog_13_method_56_code pc (xm_p164 pc)) = true := by decide +kernel
set_option maxRecDepth 100000 in
theorem xm_k164_1 : (List.range' 120 120).all (fun pc => xm_at1 11 false none prog_13_method_56_code pc (xm_p164 pc)) = true := by decide +kernel
set_option maxRecDepth 100000 in
theorem xm_k164_2 : (List.range' 240 120).all (fun pc => xm_at1 11 false none prog_13_method_56_code pc (xm_p164 pc)) = true := by decide +kernel
set_option maxRecDepth 100000 in
theorem xm_k164_3 : (List.range' 360 110).all (fun pc => xm_at1 11 false none prog_13_method_56_code pc (xm_p164 pc)) = true := by decide +kernel
set_option maxRecDepth 100000 in
theorem xm_c164 : xm_chk 164 = true := by
  refine xm_chk_mk (m := (⟨"WaterWorksModel", "tick", "()V"⟩, prog_13_method_56_code, 4, none, 11, 1, 470)) rfl (by decide) (by decide) (fun pc hpc => ?_)
  have hpc2 : pc < 470 := hpc
  have e : xm_P 164 pc = xm_p164 pc := by
    unfold xm_P
    rw [if_pos ⟨by decide, hpc⟩]
    rfl
  rw [e]
  by_cases h0 : pc < 120
  · exact xm_rg xm_k164_0 pc (by omega) (by omega)
  by_cases h1 : pc < 240
  · exact xm_rg xm_k164_1 pc (by omega) (by omega)
  by_cases h2 : pc < 360
  · exact xm_rg xm_k164_2 pc (by omega) (by omega)
  exact xm_rg xm_k164_3 pc (by omega) (by omega)
set_option maxRecDepth 100000 in
theorem xm_k165_0 : (List.range' 0 120).all (fun pc => xm_at1 11 false none prog_13_method_42_code pc (xm_p165 pc)) = true := by decide +kernel
set_option maxRecDepth 100000 in
theorem xm_k165_1 : (List.range' 120 120).all (fun pc => xm_at1 11 false none prog_13_method_42_code pc (xm_p165 pc)) = true := by decide +kernel
set_option maxRecDepth 100000 in
theorem xm_k165_2 : (List.range' 240 120).all (fun pc => xm_at1 11 false none prog_13_method_42_code pc (xm_p165 pc)) = true := by decide +kernel
set_option maxRecDepth 100000 in
theorem xm_k165_3 : (List.range' 360 46).all (fun pc => xm_at1 11 false none prog_13_method_42_code pc (xm_p165 pc)) = true := by decide +kernel
set_option maxRecDepth 100000 in
theorem xm_c165 : xm_chk 165 = true := by
  refine xm_chk_mk (m := (⟨"WaterWorksModel", "tryEnds", "(I)V"⟩, prog_13_method_42_code, 8, none, 11, 2, 406)) rfl (by decide) (by decide) (fun pc hpc => ?_)
  have hpc2 : pc < 406 := hpc
  have e : xm_P 165 pc = xm_p165 pc := by
    unfold xm_P
    rw [if_pos ⟨by decide, hpc⟩]
    rfl
  rw [e]
  by_cases h0 : pc < 120
  · exact xm_rg xm_k165_0 pc (by omega) (by omega)
  by_cases h1 : pc < 240
  · exact xm_rg xm_k165_1 pc (by omega) (by omega)
  by_cases h2 : pc < 360
  · exact xm_rg xm_k165_2 pc (by omega) (by omega)
  exact xm_rg xm_k165_3 pc (by omega) (by omega)
set_option maxRecDepth 100000 in
theorem xm_k166_0 : (List.range' 0 57).all (fun pc => xm_at1 11 false none prog_13_method_57_code pc (xm_p166 pc)) = true := by decide +kernel
set_option maxRecDepth 100000 in
theorem xm_c166 : xm_chk 166 = true := by
  refine xm_chk_mk (m := (⟨"WaterWorksModel", "late", "(I)V"⟩, prog_13_method_57_code, 4, none, 11, 2, 57)) rfl (by decide) (by decide) (fun pc hpc => ?_)
  have hpc2 : pc < 57 := hpc
  have e : xm_P 166 pc = xm_p166 pc := by
    unfold xm_P
    rw [if_pos ⟨by decide, hpc⟩]
    rfl
  rw [e]
  exact xm_rg xm_k166_0 pc (by omega) (by omega)
set_option maxRecDepth 100000 in
theorem xm_k167_0 : (List.range' 0 120).all (fun pc => xm_at1 11 false none prog_13_method_51_code pc (xm_p167 pc)) = true := by decide +kernel
set_option maxRecDepth 100000 in
theorem xm_k167_1 : (List.range' 120 24).all (fun pc => xm_at1 11 false none prog_13_method_51_code pc (xm_p167 pc)) = true := by decide +kernel
set_option maxRecDepth 100000 in
theorem xm_c167 : xm_chk 167 = true := by
  refine xm_chk_mk (m := (⟨"WaterWorksModel", "planDue", "(I)V"⟩, prog_13_method_51_code, 3, none, 11, 2, 144)) rfl (by decide) (by decide) (fun pc hpc => ?_)
  have hpc2 : pc < 144 := hpc
  have e : xm_P 167 pc = xm_p167 pc := by
    unfold xm_P
    rw [if_pos ⟨by decide, hpc⟩]
    rfl
  rw [e]
  by_cases h0 : pc < 120
  · exact xm_rg xm_k167_0 pc (by omega) (by omega)
  exact xm_rg xm_k167_1 pc (by omega) (by omega)
set_option maxRecDepth 100000 in
theorem xm_k168_0 : (List.range' 0 120).all (fun pc => xm_at1 11 false (some .boolean) prog_13_method_54_code pc (xm_p168 pc)) = true := by decide +kernel
set_option maxRecDepth 100000 in
theorem xm_k168_1 : (List.range' 120 39).all (fun pc => xm_at1 11 false (some .boolean) prog_13_method_54_code pc (xm_p168 pc)) = true := by decide +kernel
set_option maxRecDepth 100000 in
theorem xm_c168 : xm_chk 168 = true := by
  refine xm_chk_mk (m := (⟨"WaterWorksModel", "isSo", "(I)Z"⟩, prog_13_method_54_code, 5, (some .boolean), 11, 2, 159)) rfl (by decide) (by decide) (fun pc hpc => ?_)
  have hpc2 : pc < 159 := hpc
  have e : xm_P 168 pc = xm_p168 pc := by
    unfold xm_P
    rw [if_pos ⟨by decide, hpc⟩]
    rfl
  rw [e]
  by_cases h0 : pc < 120
  · exact xm_rg xm_k168_0 pc (by omega) (by omega)
  exact xm_rg xm_k168_1 pc (by omega) (by omega)
set_option maxRecDepth 100000 in
theorem xm_k169_0 : (List.range' 0 5).all (fun pc => xm_at1 11 false (some .int) prog_13_method_58_code pc (xm_p169 pc)) = true := by decide +kernel
set_option maxRecDepth 100000 in
theorem xm_c169 : xm_chk 169 = true := by
  refine xm_chk_mk (m := (⟨"WaterWorksModel", "now", "()I"⟩, prog_13_method_58_code, 1, (some .int), 11, 1, 5)) rfl (by decide) (by decide) (fun pc hpc => ?_)
  have hpc2 : pc < 5 := hpc
  have e : xm_P 169 pc = xm_p169 pc := by
    unfold xm_P
    rw [if_pos ⟨by decide, hpc⟩]
    rfl
  rw [e]
  exact xm_rg xm_k169_0 pc (by omega) (by omega)
set_option maxRecDepth 100000 in
theorem xm_k170_0 : (List.range' 0 23).all (fun pc => xm_at1 11 false (some .int) prog_13_method_59_code pc (xm_p170 pc)) = true := by decide +kernel
set_option maxRecDepth 100000 in
theorem xm_c170 : xm_chk 170 = true := by
  refine xm_chk_mk (m := (⟨"WaterWorksModel", "outcome", "(I)I"⟩, prog_13_method_59_code, 2, (some .int), 11, 2, 23)) rfl (by decide) (by decide) (fun pc hpc => ?_)
  have hpc2 : pc < 23 := hpc
  have e : xm_P 170 pc = xm_p170 pc := by
    unfold xm_P
    rw [if_pos ⟨by decide, hpc⟩]
    rfl
  rw [e]
  exact xm_rg xm_k170_0 pc (by omega) (by omega)
set_option maxRecDepth 100000 in
theorem xm_k171_0 : (List.range' 0 112).all (fun pc => xm_at1 11 false (some .int) prog_13_method_60_code pc (xm_p171 pc)) = true := by decide +kernel
set_option maxRecDepth 100000 in
theorem xm_c171 : xm_chk 171 = true := by
  refine xm_chk_mk (m := (⟨"WaterWorksModel", "of", "(II)I"⟩, prog_13_method_60_code, 3, (some .int), 11, 3, 112)) rfl (by decide) (by decide) (fun pc hpc => ?_)
  have hpc2 : pc < 112 := hpc
  have e : xm_P 171 pc = xm_p171 pc := by
    unfold xm_P
    rw [if_pos ⟨by decide, hpc⟩]
    rfl
  rw [e]
  exact xm_rg xm_k171_0 pc (by omega) (by omega)
set_option maxRecDepth 100000 in
theorem xm_k172_0 : (List.range' 0 120).all (fun pc => xm_at1 11 false (some .int) prog_13_method_61_code pc (xm_p172 pc)) = true := by decide +kernel
set_option maxRecDepth 100000 in
theorem xm_k172_1 : (List.range' 120 106).all (fun pc => xm_at1 11 false (some .int) prog_13_method_61_code pc (xm_p172 pc)) = true := by decide +kernel
set_option maxRecDepth 100000 in
theorem xm_c172 : xm_chk 172 = true := by
  refine xm_chk_mk (m := (⟨"WaterWorksModel", "call", "(II)I"⟩, prog_13_method_61_code, 3, (some .int), 11, 3, 226)) rfl (by decide) (by decide) (fun pc hpc => ?_)
  have hpc2 : pc < 226 := hpc
  have e : xm_P 172 pc = xm_p172 pc := by
    unfold xm_P
    rw [if_pos ⟨by decide, hpc⟩]
    rfl
  rw [e]
  by_cases h0 : pc < 120
  · exact xm_rg xm_k172_0 pc (by omega) (by omega)
  exact xm_rg xm_k172_1 pc (by omega) (by omega)
set_option maxRecDepth 100000 in
theorem xm_k173_0 : (List.range' 0 63).all (fun pc => xm_at1 11 false (some .int) prog_13_method_62_code pc (xm_p173 pc)) = true := by decide +kernel
set_option maxRecDepth 100000 in
theorem xm_c173 : xm_chk 173 = true := by
  refine xm_chk_mk (m := (⟨"WaterWorksModel", "fuse", "(II)I"⟩, prog_13_method_62_code, 3, (some .int), 11, 3, 63)) rfl (by decide) (by decide) (fun pc hpc => ?_)
  have hpc2 : pc < 63 := hpc
  have e : xm_P 173 pc = xm_p173 pc := by
    unfold xm_P
    rw [if_pos ⟨by decide, hpc⟩]
    rfl
  rw [e]
  exact xm_rg xm_k173_0 pc (by omega) (by omega)
set_option maxRecDepth 100000 in
theorem xm_k174_0 : (List.range' 0 63).all (fun pc => xm_at1 11 false (some .int) prog_13_method_63_code pc (xm_p174 pc)) = true := by decide +kernel
set_option maxRecDepth 100000 in
theorem xm_c174 : xm_chk 174 = true := by
  refine xm_chk_mk (m := (⟨"WaterWorksModel", "bulkhead", "(II)I"⟩, prog_13_method_63_code, 3, (some .int), 11, 3, 63)) rfl (by decide) (by decide) (fun pc hpc => ?_)
  have hpc2 : pc < 63 := hpc
  have e : xm_P 174 pc = xm_p174 pc := by
    unfold xm_P
    rw [if_pos ⟨by decide, hpc⟩]
    rfl
  rw [e]
  exact xm_rg xm_k174_0 pc (by omega) (by omega)
set_option maxRecDepth 100000 in
theorem xm_k175_0 : (List.range' 0 39).all (fun pc => xm_at1 11 false (some .int) prog_13_method_64_code pc (xm_p175 pc)) = true := by decide +kernel
set_option maxRecDepth 100000 in
theorem xm_c175 : xm_chk 175 = true := by
  refine xm_chk_mk (m := (⟨"WaterWorksModel", "waiting", "(II)I"⟩, prog_13_method_64_code, 3, (some .int), 11, 3, 39)) rfl (by decide) (by decide) (fun pc hpc => ?_)
  have hpc2 : pc < 39 := hpc
  have e : xm_P 175 pc = xm_p175 pc := by
    unfold xm_P
    rw [if_pos ⟨by decide, hpc⟩]
    rfl
  rw [e]
  exact xm_rg xm_k175_0 pc (by omega) (by omega)
set_option maxRecDepth 100000 in
theorem xm_k176_0 : (List.range' 0 20).all (fun pc => xm_at1 11 false (some .int) prog_13_method_65_code pc (xm_p176 pc)) = true := by decide +kernel
set_option maxRecDepth 100000 in
theorem xm_c176 : xm_chk 176 = true := by
  refine xm_chk_mk (m := (⟨"WaterWorksModel", "tokens", "(I)I"⟩, prog_13_method_65_code, 2, (some .int), 11, 2, 20)) rfl (by decide) (by decide) (fun pc hpc => ?_)
  have hpc2 : pc < 20 := hpc
  have e : xm_P 176 pc = xm_p176 pc := by
    unfold xm_P
    rw [if_pos ⟨by decide, hpc⟩]
    rfl
  rw [e]
  exact xm_rg xm_k176_0 pc (by omega) (by omega)
set_option maxRecDepth 100000 in
theorem xm_k177_0 : (List.range' 0 73).all (fun pc => xm_at1 11 false (some .int) prog_13_method_66_code pc (xm_p177 pc)) = true := by decide +kernel
set_option maxRecDepth 100000 in
theorem xm_c177 : xm_chk 177 = true := by
  refine xm_chk_mk (m := (⟨"WaterWorksModel", "kept", "(III)I"⟩, prog_13_method_66_code, 4, (some .int), 11, 4, 73)) rfl (by decide) (by decide) (fun pc hpc => ?_)
  have hpc2 : pc < 73 := hpc
  have e : xm_P 177 pc = xm_p177 pc := by
    unfold xm_P
    rw [if_pos ⟨by decide, hpc⟩]
    rfl
  rw [e]
  exact xm_rg xm_k177_0 pc (by omega) (by omega)
set_option maxRecDepth 100000 in
theorem xm_k178_0 : (List.range' 0 74).all (fun pc => xm_at1 11 false (some .int) prog_13_method_67_code pc (xm_p178 pc)) = true := by decide +kernel
set_option maxRecDepth 100000 in
theorem xm_c178 : xm_chk 178 = true := by
  refine xm_chk_mk (m := (⟨"WaterWorksModel", "joined", "(II)I"⟩, prog_13_method_67_code, 5, (some .int), 11, 3, 74)) rfl (by decide) (by decide) (fun pc hpc => ?_)
  have hpc2 : pc < 74 := hpc
  have e : xm_P 178 pc = xm_p178 pc := by
    unfold xm_P
    rw [if_pos ⟨by decide, hpc⟩]
    rfl
  rw [e]
  exact xm_rg xm_k178_0 pc (by omega) (by omega)
set_option maxRecDepth 100000 in
theorem xm_k179_0 : (List.range' 0 19).all (fun pc => xm_at1 11 false (some .int) prog_13_method_68_code pc (xm_p179 pc)) = true := by decide +kernel
set_option maxRecDepth 100000 in
theorem xm_c179 : xm_chk 179 = true := by
  refine xm_chk_mk (m := (⟨"WaterWorksModel", "level", "(I)I"⟩, prog_13_method_68_code, 2, (some .int), 11, 2, 19)) rfl (by decide) (by decide) (fun pc hpc => ?_)
  have hpc2 : pc < 19 := hpc
  have e : xm_P 179 pc = xm_p179 pc := by
    unfold xm_P
    rw [if_pos ⟨by decide, hpc⟩]
    rfl
  rw [e]
  exact xm_rg xm_k179_0 pc (by omega) (by omega)
set_option maxRecDepth 100000 in
theorem xm_k180_0 : (List.range' 0 85).all (fun pc => xm_at1 11 false (some .int) prog_13_method_69_code pc (xm_p180 pc)) = true := by decide +kernel
set_option maxRecDepth 100000 in
theorem xm_c180 : xm_chk 180 = true := by
  refine xm_chk_mk (m := (⟨"WaterWorksModel", "effect", "(II)I"⟩, prog_13_method_69_code, 3, (some .int), 11, 3, 85)) rfl (by decide) (by decide) (fun pc hpc => ?_)
  have hpc2 : pc < 85 := hpc
  have e : xm_P 180 pc = xm_p180 pc := by
    unfold xm_P
    rw [if_pos ⟨by decide, hpc⟩]
    rfl
  rw [e]
  exact xm_rg xm_k180_0 pc (by omega) (by omega)
set_option maxRecDepth 100000 in
theorem xm_k181_0 : (List.range' 0 120).all (fun pc => xm_at1 11 false (some .int) prog_13_method_70_code pc (xm_p181 pc)) = true := by decide +kernel
set_option maxRecDepth 100000 in
theorem xm_k181_1 : (List.range' 120 120).all (fun pc => xm_at1 11 false (some .int) prog_13_method_70_code pc (xm_p181 pc)) = true := by decide +kernel
set_option maxRecDepth 100000 in
theorem xm_k181_2 : (List.range' 240 16).all (fun pc => xm_at1 11 false (some .int) prog_13_method_70_code pc (xm_p181 pc)) = true := by decide +kernel
set_option maxRecDepth 100000 in
theorem xm_c181 : xm_chk 181 = true := by
  refine xm_chk_mk (m := (⟨"WaterWorksModel", "count", "(I)I"⟩, prog_13_method_70_code, 4, (some .int), 11, 2, 256)) rfl (by decide) (by decide) (fun pc hpc => ?_)
  have hpc2 : pc < 256 := hpc
  have e : xm_P 181 pc = xm_p181 pc := by
    unfold xm_P
    rw [if_pos ⟨by decide, hpc⟩]
    rfl
  rw [e]
  by_cases h0 : pc < 120
  · exact xm_rg xm_k181_0 pc (by omega) (by omega)
  by_cases h1 : pc < 240
  · exact xm_rg xm_k181_1 pc (by omega) (by omega)
  exact xm_rg xm_k181_2 pc (by omega) (by omega)
set_option maxRecDepth 100000 in
theorem xm_k182_0 : (List.range' 0 120).all (fun pc => xm_at1 13 false (some .boolean) code pc (xm_p182 pc)) = true := by decide +kernel
set_option maxRecDepth 100000 in
theorem xm_k182_1 : (List.range' 120 120).all (fun pc => xm_at1 13 false (some .boolean) code pc (xm_p182 pc)) = true := by decide +kernel
set_option maxRecDepth 100000 in
theorem xm_k182_2 : (List.range' 240 120).all (fun pc => xm_at1 13 false (some .boolean) code pc (xm_p182 pc)) = true := by decide +kernel
set_option maxRecDepth 100000 in
theorem xm_k182_3 : (List.range' 360 120).all (fun pc => xm_at1 13 false (some .boolean) code pc (xm_p182 pc)) = true := by decide +kernel
set_option maxRecDepth 100000 in
theorem xm_k182_4 : (List.range' 480 120).all (fun pc => xm_at1 13 false (some .boolean) code pc (xm_p182 pc)) = true := by decide +kernel
set_option maxRecDepth 100000 in
theorem xm_k182_5 : (List.range' 600 120).all (fun pc => xm_at1 13 false (some .boolean) code pc (xm_p182 pc)) = true := by decide +kernel
set_option maxRecDepth 100000 in
theorem xm_k182_6 : (List.range' 720 120).all (fun pc => xm_at1 13 false (some .boolean) code pc (xm_p182 pc)) = true := by decide +kernel
set_option maxRecDepth 100000 in
theorem xm_k182_7 : (List.range' 840 120).all (fun pc => xm_at1 13 false (some .boolean) code pc (xm_p182 pc)) = true := by decide +kernel
set_option maxRecDepth 100000 in
theorem xm_k182_8 : (List.range' 960 120).all (fun pc => xm_at1 13 false (some .boolean) code pc (xm_p182 pc)) = true := by decide +kernel
set_option maxRecDepth 100000 in
theorem xm_k182_9 : (List.range' 1080 120).all (fun pc => xm_at1 13 false (some .boolean) code pc (xm_p182 pc)) = true := by decide +kernel
set_option maxRecDepth 100000 in
theorem xm_k182_10 : (List.range' 1200 13).all (fun pc => xm_at1 13 false (some .boolean) code pc (xm_p182 pc)) = true := by decide +kernel
set_option maxRecDepth 100000 in
theorem xm_c182 : xm_chk 182 = true := by
  refine xm_chk_mk (m := (⟨"WaterWorksLaw", "law", "([I)Z"⟩, code, 4, (some .boolean), 13, 1, 1213)) rfl (by decide) (by decide) (fun pc hpc => ?_)
  have hpc2 : pc < 1213 := hpc
  have e : xm_P 182 pc = xm_p182 pc := by
    unfold xm_P
    rw [if_pos ⟨by decide, hpc⟩]
    rfl
  rw [e]
  by_cases h0 : pc < 120
  · exact xm_rg xm_k182_0 pc (by omega) (by omega)
  by_cases h1 : pc < 240
  · exact xm_rg xm_k182_1 pc (by omega) (by omega)
  by_cases h2 : pc < 360
  · exact xm_rg xm_k182_2 pc (by omega) (by omega)
  by_cases h3 : pc < 480
  · exact xm_rg xm_k182_3 pc (by omega) (by omega)
  by_cases h4 : pc < 600
  · exact xm_rg xm_k182_4 pc (by omega) (by omega)
  by_cases h5 : pc < 720
  · exact xm_rg xm_k182_5 pc (by omega) (by omega)
  by_cases h6 : pc < 840
  · exact xm_rg xm_k182_6 pc (by omega) (by omega)
  by_cases h7 : pc < 960
  · exact xm_rg xm_k182_7 pc (by omega) (by omega)
  by_cases h8 : pc < 1080
  · exact xm_rg xm_k182_8 pc (by omega) (by omega)
  by_cases h9 : pc < 1200
  · exact xm_rg xm_k182_9 pc (by omega) (by omega)
  exact xm_rg xm_k182_10 pc (by omega) (by omega)
set_option maxRecDepth 100000 in
theorem xm_ca0 : ∀ a, a < 1 → xm_chk a = true := lt_s lt_0 xm_c0
theorem xm_ca1 : ∀ a, a < 2 → xm_chk a = true := lt_s xm_ca0 xm_c1
theorem xm_ca2 : ∀ a, a < 3 → xm_chk a = true := lt_s xm_ca1 xm_c2
theorem xm_ca3 : ∀ a, a < 4 → xm_chk a = true := lt_s xm_ca2 xm_c3
theorem xm_ca4 : ∀ a, a < 5 → xm_chk a = true := lt_s xm_ca3 xm_c4
theorem xm_ca5 : ∀ a, a < 6 → xm_chk a = true := lt_s xm_ca4 xm_c5
theorem xm_ca6 : ∀ a, a < 7 → xm_chk a = true := lt_s xm_ca5 xm_c6
theorem xm_ca7 : ∀ a, a < 8 → xm_chk a = true := lt_s xm_ca6 xm_c7
theorem xm_ca8 : ∀ a, a < 9 → xm_chk a = true := lt_s xm_ca7 xm_c8
theorem xm_ca9 : ∀ a, a < 10 → xm_chk a = true := lt_s xm_ca8 xm_c9
theorem xm_ca10 : ∀ a, a < 11 → xm_chk a = true := lt_s xm_ca9 xm_c10
theorem xm_ca11 : ∀ a, a < 12 → xm_chk a = true := lt_s xm_ca10 xm_c11
theorem xm_ca12 : ∀ a, a < 13 → xm_chk a = true := lt_s xm_ca11 xm_c12
theorem xm_ca13 : ∀ a, a < 14 → xm_chk a = true := lt_s xm_ca12 xm_c13
theorem xm_ca14 : ∀ a, a < 15 → xm_chk a = true := lt_s xm_ca13 xm_c14
theorem xm_ca15 : ∀ a, a < 16 → xm_chk a = true := lt_s xm_ca14 xm_c15
theorem xm_ca16 : ∀ a, a < 17 → xm_chk a = true := lt_s xm_ca15 xm_c16
theorem xm_ca17 : ∀ a, a < 18 → xm_chk a = true := lt_s xm_ca16 xm_c17
theorem xm_ca18 : ∀ a, a < 19 → xm_chk a = true := lt_s xm_ca17 xm_c18
theorem xm_ca19 : ∀ a, a < 20 → xm_chk a = true := lt_s xm_ca18 xm_c19
theorem xm_ca20 : ∀ a, a < 21 → xm_chk a = true := lt_s xm_ca19 xm_c20
theorem xm_ca21 : ∀ a, a < 22 → xm_chk a = true := lt_s xm_ca20 xm_c21
theorem xm_ca22 : ∀ a, a < 23 → xm_chk a = true := lt_s xm_ca21 xm_c22
theorem xm_ca23 : ∀ a, a < 24 → xm_chk a = true := lt_s xm_ca22 xm_c23
theorem xm_ca24 : ∀ a, a < 25 → xm_chk a = true := lt_s xm_ca23 xm_c24
theorem xm_ca25 : ∀ a, a < 26 → xm_chk a = true := lt_s xm_ca24 xm_c25
theorem xm_ca26 : ∀ a, a < 27 → xm_chk a = true := lt_s xm_ca25 xm_c26
theorem xm_ca27 : ∀ a, a < 28 → xm_chk a = true := lt_s xm_ca26 xm_c27
theorem xm_ca28 : ∀ a, a < 29 → xm_chk a = true := lt_s xm_ca27 xm_c28
theorem xm_ca29 : ∀ a, a < 30 → xm_chk a = true := lt_s xm_ca28 xm_c29
theorem xm_ca30 : ∀ a, a < 31 → xm_chk a = true := lt_s xm_ca29 xm_c30
theorem xm_ca31 : ∀ a, a < 32 → xm_chk a = true := lt_s xm_ca30 xm_c31
theorem xm_ca32 : ∀ a, a < 33 → xm_chk a = true := lt_s xm_ca31 xm_c32
theorem xm_ca33 : ∀ a, a < 34 → xm_chk a = true := lt_s xm_ca32 xm_c33
theorem xm_ca34 : ∀ a, a < 35 → xm_chk a = true := lt_s xm_ca33 xm_c34
theorem xm_ca35 : ∀ a, a < 36 → xm_chk a = true := lt_s xm_ca34 xm_c35
theorem xm_ca36 : ∀ a, a < 37 → xm_chk a = true := lt_s xm_ca35 xm_c36
theorem xm_ca37 : ∀ a, a < 38 → xm_chk a = true := lt_s xm_ca36 xm_c37
theorem xm_ca38 : ∀ a, a < 39 → xm_chk a = true := lt_s xm_ca37 xm_c38
theorem xm_ca39 : ∀ a, a < 40 → xm_chk a = true := lt_s xm_ca38 xm_c39
theorem xm_ca40 : ∀ a, a < 41 → xm_chk a = true := lt_s xm_ca39 xm_c40
theorem xm_ca41 : ∀ a, a < 42 → xm_chk a = true := lt_s xm_ca40 xm_c41
theorem xm_ca42 : ∀ a, a < 43 → xm_chk a = true := lt_s xm_ca41 xm_c42
theorem xm_ca43 : ∀ a, a < 44 → xm_chk a = true := lt_s xm_ca42 xm_c43
theorem xm_ca44 : ∀ a, a < 45 → xm_chk a = true := lt_s xm_ca43 xm_c44
theorem xm_ca45 : ∀ a, a < 46 → xm_chk a = true := lt_s xm_ca44 xm_c45
theorem xm_ca46 : ∀ a, a < 47 → xm_chk a = true := lt_s xm_ca45 xm_c46
theorem xm_ca47 : ∀ a, a < 48 → xm_chk a = true := lt_s xm_ca46 xm_c47
theorem xm_ca48 : ∀ a, a < 49 → xm_chk a = true := lt_s xm_ca47 xm_c48
theorem xm_ca49 : ∀ a, a < 50 → xm_chk a = true := lt_s xm_ca48 xm_c49
theorem xm_ca50 : ∀ a, a < 51 → xm_chk a = true := lt_s xm_ca49 xm_c50
theorem xm_ca51 : ∀ a, a < 52 → xm_chk a = true := lt_s xm_ca50 xm_c51
theorem xm_ca52 : ∀ a, a < 53 → xm_chk a = true := lt_s xm_ca51 xm_c52
theorem xm_ca53 : ∀ a, a < 54 → xm_chk a = true := lt_s xm_ca52 xm_c53
theorem xm_ca54 : ∀ a, a < 55 → xm_chk a = true := lt_s xm_ca53 xm_c54
theorem xm_ca55 : ∀ a, a < 56 → xm_chk a = true := lt_s xm_ca54 xm_c55
theorem xm_ca56 : ∀ a, a < 57 → xm_chk a = true := lt_s xm_ca55 xm_c56
theorem xm_ca57 : ∀ a, a < 58 → xm_chk a = true := lt_s xm_ca56 xm_c57
theorem xm_ca58 : ∀ a, a < 59 → xm_chk a = true := lt_s xm_ca57 xm_c58
theorem xm_ca59 : ∀ a, a < 60 → xm_chk a = true := lt_s xm_ca58 xm_c59
theorem xm_ca60 : ∀ a, a < 61 → xm_chk a = true := lt_s xm_ca59 xm_c60
theorem xm_ca61 : ∀ a, a < 62 → xm_chk a = true := lt_s xm_ca60 xm_c61
theorem xm_ca62 : ∀ a, a < 63 → xm_chk a = true := lt_s xm_ca61 xm_c62
theorem xm_ca63 : ∀ a, a < 64 → xm_chk a = true := lt_s xm_ca62 xm_c63
theorem xm_ca64 : ∀ a, a < 65 → xm_chk a = true := lt_s xm_ca63 xm_c64
theorem xm_ca65 : ∀ a, a < 66 → xm_chk a = true := lt_s xm_ca64 xm_c65
theorem xm_ca66 : ∀ a, a < 67 → xm_chk a = true := lt_s xm_ca65 xm_c66
theorem xm_ca67 : ∀ a, a < 68 → xm_chk a = true := lt_s xm_ca66 xm_c67
theorem xm_ca68 : ∀ a, a < 69 → xm_chk a = true := lt_s xm_ca67 xm_c68
theorem xm_ca69 : ∀ a, a < 70 → xm_chk a = true := lt_s xm_ca68 xm_c69
theorem xm_ca70 : ∀ a, a < 71 → xm_chk a = true := lt_s xm_ca69 xm_c70
theorem xm_ca71 : ∀ a, a < 72 → xm_chk a = true := lt_s xm_ca70 xm_c71
theorem xm_ca72 : ∀ a, a < 73 → xm_chk a = true := lt_s xm_ca71 xm_c72
theorem xm_ca73 : ∀ a, a < 74 → xm_chk a = true := lt_s xm_ca72 xm_c73
theorem xm_ca74 : ∀ a, a < 75 → xm_chk a = true := lt_s xm_ca73 xm_c74
theorem xm_ca75 : ∀ a, a < 76 → xm_chk a = true := lt_s xm_ca74 xm_c75
theorem xm_ca76 : ∀ a, a < 77 → xm_chk a = true := lt_s xm_ca75 xm_c76
theorem xm_ca77 : ∀ a, a < 78 → xm_chk a = true := lt_s xm_ca76 xm_c77
theorem xm_ca78 : ∀ a, a < 79 → xm_chk a = true := lt_s xm_ca77 xm_c78
theorem xm_ca79 : ∀ a, a < 80 → xm_chk a = true := lt_s xm_ca78 xm_c79
theorem xm_ca80 : ∀ a, a < 81 → xm_chk a = true := lt_s xm_ca79 xm_c80
theorem xm_ca81 : ∀ a, a < 82 → xm_chk a = true := lt_s xm_ca80 xm_c81
theorem xm_ca82 : ∀ a, a < 83 → xm_chk a = true := lt_s xm_ca81 xm_c82
theorem xm_ca83 : ∀ a, a < 84 → xm_chk a = true := lt_s xm_ca82 xm_c83
theorem xm_ca84 : ∀ a, a < 85 → xm_chk a = true := lt_s xm_ca83 xm_c84
theorem xm_ca85 : ∀ a, a < 86 → xm_chk a = true := lt_s xm_ca84 xm_c85
theorem xm_ca86 : ∀ a, a < 87 → xm_chk a = true := lt_s xm_ca85 xm_c86
theorem xm_ca87 : ∀ a, a < 88 → xm_chk a = true := lt_s xm_ca86 xm_c87
theorem xm_ca88 : ∀ a, a < 89 → xm_chk a = true := lt_s xm_ca87 xm_c88
theorem xm_ca89 : ∀ a, a < 90 → xm_chk a = true := lt_s xm_ca88 xm_c89
theorem xm_ca90 : ∀ a, a < 91 → xm_chk a = true := lt_s xm_ca89 xm_c90
theorem xm_ca91 : ∀ a, a < 92 → xm_chk a = true := lt_s xm_ca90 xm_c91
theorem xm_ca92 : ∀ a, a < 93 → xm_chk a = true := lt_s xm_ca91 xm_c92
theorem xm_ca93 : ∀ a, a < 94 → xm_chk a = true := lt_s xm_ca92 xm_c93
theorem xm_ca94 : ∀ a, a < 95 → xm_chk a = true := lt_s xm_ca93 xm_c94
theorem xm_ca95 : ∀ a, a < 96 → xm_chk a = true := lt_s xm_ca94 xm_c95
theorem xm_ca96 : ∀ a, a < 97 → xm_chk a = true := lt_s xm_ca95 xm_c96
theorem xm_ca97 : ∀ a, a < 98 → xm_chk a = true := lt_s xm_ca96 xm_c97
theorem xm_ca98 : ∀ a, a < 99 → xm_chk a = true := lt_s xm_ca97 xm_c98
theorem xm_ca99 : ∀ a, a < 100 → xm_chk a = true := lt_s xm_ca98 xm_c99
theorem xm_ca100 : ∀ a, a < 101 → xm_chk a = true := lt_s xm_ca99 xm_c100
theorem xm_ca101 : ∀ a, a < 102 → xm_chk a = true := lt_s xm_ca100 xm_c101
theorem xm_ca102 : ∀ a, a < 103 → xm_chk a = true := lt_s xm_ca101 xm_c102
theorem xm_ca103 : ∀ a, a < 104 → xm_chk a = true := lt_s xm_ca102 xm_c103
theorem xm_ca104 : ∀ a, a < 105 → xm_chk a = true := lt_s xm_ca103 xm_c104
theorem xm_ca105 : ∀ a, a < 106 → xm_chk a = true := lt_s xm_ca104 xm_c105
theorem xm_ca106 : ∀ a, a < 107 → xm_chk a = true := lt_s xm_ca105 xm_c106
theorem xm_ca107 : ∀ a, a < 108 → xm_chk a = true := lt_s xm_ca106 xm_c107
theorem xm_ca108 : ∀ a, a < 109 → xm_chk a = true := lt_s xm_ca107 xm_c108
theorem xm_ca109 : ∀ a, a < 110 → xm_chk a = true := lt_s xm_ca108 xm_c109
theorem xm_ca110 : ∀ a, a < 111 → xm_chk a = true := lt_s xm_ca109 xm_c110
theorem xm_ca111 : ∀ a, a < 112 → xm_chk a = true := lt_s xm_ca110 xm_c111
theorem xm_ca112 : ∀ a, a < 113 → xm_chk a = true := lt_s xm_ca111 xm_c112
theorem xm_ca113 : ∀ a, a < 114 → xm_chk a = true := lt_s xm_ca112 xm_c113
theorem xm_ca114 : ∀ a, a < 115 → xm_chk a = true := lt_s xm_ca113 xm_c114
theorem xm_ca115 : ∀ a, a < 116 → xm_chk a = true := lt_s xm_ca114 xm_c115
theorem xm_ca116 : ∀ a, a < 117 → xm_chk a = true := lt_s xm_ca115 xm_c116
theorem xm_ca117 : ∀ a, a < 118 → xm_chk a = true := lt_s xm_ca116 xm_c117
theorem xm_ca118 : ∀ a, a < 119 → xm_chk a = true := lt_s xm_ca117 xm_c118
theorem xm_ca119 : ∀ a, a < 120 → xm_chk a = true := lt_s xm_ca118 xm_c119
theorem xm_ca120 : ∀ a, a < 121 → xm_chk a = true := lt_s xm_ca119 xm_c120
theorem xm_ca121 : ∀ a, a < 122 → xm_chk a = true := lt_s xm_ca120 xm_c121
theorem xm_ca122 : ∀ a, a < 123 → xm_chk a = true := lt_s xm_ca121 xm_c122
theorem xm_ca123 : ∀ a, a < 124 → xm_chk a = true := lt_s xm_ca122 xm_c123
theorem xm_ca124 : ∀ a, a < 125 → xm_chk a = true := lt_s xm_ca123 xm_c124
theorem xm_ca125 : ∀ a, a < 126 → xm_chk a = true := lt_s xm_ca124 xm_c125
theorem xm_ca126 : ∀ a, a < 127 → xm_chk a = true := lt_s xm_ca125 xm_c126
theorem xm_ca127 : ∀ a, a < 128 → xm_chk a = true := lt_s xm_ca126 xm_c127
theorem xm_ca128 : ∀ a, a < 129 → xm_chk a = true := lt_s xm_ca127 xm_c128
theorem xm_ca129 : ∀ a, a < 130 → xm_chk a = true := lt_s xm_ca128 xm_c129
theorem xm_ca130 : ∀ a, a < 131 → xm_chk a = true := lt_s xm_ca129 xm_c130
theorem xm_ca131 : ∀ a, a < 132 → xm_chk a = true := lt_s xm_ca130 xm_c131
theorem xm_ca132 : ∀ a, a < 133 → xm_chk a = true := lt_s xm_ca131 xm_c132
theorem xm_ca133 : ∀ a, a < 134 → xm_chk a = true := lt_s xm_ca132 xm_c133
theorem xm_ca134 : ∀ a, a < 135 → xm_chk a = true := lt_s xm_ca133 xm_c134
theorem xm_ca135 : ∀ a, a < 136 → xm_chk a = true := lt_s xm_ca134 xm_c135
theorem xm_ca136 : ∀ a, a < 137 → xm_chk a = true := lt_s xm_ca135 xm_c136
theorem xm_ca137 : ∀ a, a < 138 → xm_chk a = true := lt_s xm_ca136 xm_c137
theorem xm_ca138 : ∀ a, a < 139 → xm_chk a = true := lt_s xm_ca137 xm_c138
theorem xm_ca139 : ∀ a, a < 140 → xm_chk a = true := lt_s xm_ca138 xm_c139
theorem xm_ca140 : ∀ a, a < 141 → xm_chk a = true := lt_s xm_ca139 xm_c140
theorem xm_ca141 : ∀ a, a < 142 → xm_chk a = true := lt_s xm_ca140 xm_c141
theorem xm_ca142 : ∀ a, a < 143 → xm_chk a = true := lt_s xm_ca141 xm_c142
theorem xm_ca143 : ∀ a, a < 144 → xm_chk a = true := lt_s xm_ca142 xm_c143
theorem xm_ca144 : ∀ a, a < 145 → xm_chk a = true := lt_s xm_ca143 xm_c144
theorem xm_ca145 : ∀ a, a < 146 → xm_chk a = true := lt_s xm_ca144 xm_c145
theorem xm_ca146 : ∀ a, a < 147 → xm_chk a = true := lt_s xm_ca145 xm_c146
theorem xm_ca147 : ∀ a, a < 148 → xm_chk a = true := lt_s xm_ca146 xm_c147
theorem xm_ca148 : ∀ a, a < 149 → xm_chk a = true := lt_s xm_ca147 xm_c148
theorem xm_ca149 : ∀ a, a < 150 → xm_chk a = true := lt_s xm_ca148 xm_c149
theorem xm_ca150 : ∀ a, a < 151 → xm_chk a = true := lt_s xm_ca149 xm_c150
theorem xm_ca151 : ∀ a, a < 152 → xm_chk a = true := lt_s xm_ca150 xm_c151
theorem xm_ca152 : ∀ a, a < 153 → xm_chk a = true := lt_s xm_ca151 xm_c152
theorem xm_ca153 : ∀ a, a < 154 → xm_chk a = true := lt_s xm_ca152 xm_c153
theorem xm_ca154 : ∀ a, a < 155 → xm_chk a = true := lt_s xm_ca153 xm_c154
theorem xm_ca155 : ∀ a, a < 156 → xm_chk a = true := lt_s xm_ca154 xm_c155
theorem xm_ca156 : ∀ a, a < 157 → xm_chk a = true := lt_s xm_ca155 xm_c156
theorem xm_ca157 : ∀ a, a < 158 → xm_chk a = true := lt_s xm_ca156 xm_c157
theorem xm_ca158 : ∀ a, a < 159 → xm_chk a = true := lt_s xm_ca157 xm_c158
theorem xm_ca159 : ∀ a, a < 160 → xm_chk a = true := lt_s xm_ca158 xm_c159
theorem xm_ca160 : ∀ a, a < 161 → xm_chk a = true := lt_s xm_ca159 xm_c160
theorem xm_ca161 : ∀ a, a < 162 → xm_chk a = true := lt_s xm_ca160 xm_c161
theorem xm_ca162 : ∀ a, a < 163 → xm_chk a = true := lt_s xm_ca161 xm_c162
theorem xm_ca163 : ∀ a, a < 164 → xm_chk a = true := lt_s xm_ca162 xm_c163
theorem xm_ca164 : ∀ a, a < 165 → xm_chk a = true := lt_s xm_ca163 xm_c164
theorem xm_ca165 : ∀ a, a < 166 → xm_chk a = true := lt_s xm_ca164 xm_c165
theorem xm_ca166 : ∀ a, a < 167 → xm_chk a = true := lt_s xm_ca165 xm_c166
theorem xm_ca167 : ∀ a, a < 168 → xm_chk a = true := lt_s xm_ca166 xm_c167
theorem xm_ca168 : ∀ a, a < 169 → xm_chk a = true := lt_s xm_ca167 xm_c168
theorem xm_ca169 : ∀ a, a < 170 → xm_chk a = true := lt_s xm_ca168 xm_c169
theorem xm_ca170 : ∀ a, a < 171 → xm_chk a = true := lt_s xm_ca169 xm_c170
theorem xm_ca171 : ∀ a, a < 172 → xm_chk a = true := lt_s xm_ca170 xm_c171
theorem xm_ca172 : ∀ a, a < 173 → xm_chk a = true := lt_s xm_ca171 xm_c172
theorem xm_ca173 : ∀ a, a < 174 → xm_chk a = true := lt_s xm_ca172 xm_c173
theorem xm_ca174 : ∀ a, a < 175 → xm_chk a = true := lt_s xm_ca173 xm_c174
theorem xm_ca175 : ∀ a, a < 176 → xm_chk a = true := lt_s xm_ca174 xm_c175
theorem xm_ca176 : ∀ a, a < 177 → xm_chk a = true := lt_s xm_ca175 xm_c176
theorem xm_ca177 : ∀ a, a < 178 → xm_chk a = true := lt_s xm_ca176 xm_c177
theorem xm_ca178 : ∀ a, a < 179 → xm_chk a = true := lt_s xm_ca177 xm_c178
theorem xm_ca179 : ∀ a, a < 180 → xm_chk a = true := lt_s xm_ca178 xm_c179
theorem xm_ca180 : ∀ a, a < 181 → xm_chk a = true := lt_s xm_ca179 xm_c180
theorem xm_ca181 : ∀ a, a < 182 → xm_chk a = true := lt_s xm_ca180 xm_c181
theorem xm_ca182 : ∀ a, a < 183 → xm_chk a = true := lt_s xm_ca181 xm_c182
theorem xm_ckall : ∀ mi, mi < 183 → xm_chk mi = true := xm_ca182
