/-! ===== the table agrees with the bytes ===== -/
set_option maxRecDepth 100000 in
theorem xm_k39_0 : (List.range' 0 37).all (fun pc => xm_at1 0 false none prog_1_method_79_code pc (xm_p39 pc)) = true := by decide +kernel
set_option maxRecDepth 100000 in
theorem xm_c39 : xm_chk 39 = true := by
  refine xm_chk_mk (m := (⟨"WaterWorks", "tellMemory", "(LWaterWorks$Guard;LWaterWorks$Call;LWaterWorks$Call;)V"⟩, prog_1_method_79_code, 4, none, 0, 4, 37)) rfl (by decide) (by decide) (fun pc hpc => ?_)
  have hpc2 : pc < 37 := hpc
  have e : xm_P 39 pc = xm_p39 pc := by
    unfold xm_P
    rw [if_pos ⟨by decide, hpc⟩]
    rfl
  rw [e]
  exact xm_rg xm_k39_0 pc (by omega) (by omega)
set_option maxRecDepth 100000 in
theorem xm_k40_0 : (List.range' 0 49).all (fun pc => xm_at1 0 false none prog_1_method_80_code pc (xm_p40 pc)) = true := by decide +kernel
set_option maxRecDepth 100000 in
theorem xm_c40 : xm_chk 40 = true := by
  refine xm_chk_mk (m := (⟨"WaterWorks", "tellTranslator", "(LWaterWorks$Guard;LWaterWorks$Call;LWaterWorks$Call;)V"⟩, prog_1_method_80_code, 5, none, 0, 4, 49)) rfl (by decide) (by decide) (fun pc hpc => ?_)
  have hpc2 : pc < 49 := hpc
  have e : xm_P 40 pc = xm_p40 pc := by
    unfold xm_P
    rw [if_pos ⟨by decide, hpc⟩]
    rfl
  rw [e]
  exact xm_rg xm_k40_0 pc (by omega) (by omega)
set_option maxRecDepth 100000 in
theorem xm_k41_0 : (List.range' 0 10).all (fun pc => xm_at1 0 false none prog_1_method_53_code pc (xm_p41 pc)) = true := by decide +kernel
set_option maxRecDepth 100000 in
theorem xm_c41 : xm_chk 41 = true := by
  refine xm_chk_mk (m := (⟨"WaterWorks", "goIn", "(LWaterWorks$Call;)V"⟩, prog_1_method_53_code, 2, none, 0, 2, 10)) rfl (by decide) (by decide) (fun pc hpc => ?_)
  have hpc2 : pc < 10 := hpc
  have e : xm_P 41 pc = xm_p41 pc := by
    unfold xm_P
    rw [if_pos ⟨by decide, hpc⟩]
    rfl
  rw [e]
  exact xm_rg xm_k41_0 pc (by omega) (by omega)
set_option maxRecDepth 100000 in
theorem xm_k42_0 : (List.range' 0 94).all (fun pc => xm_at1 0 false none prog_1_method_56_code pc (xm_p42 pc)) = true := by decide +kernel
set_option maxRecDepth 100000 in
theorem xm_c42 : xm_chk 42 = true := by
  refine xm_chk_mk (m := (⟨"WaterWorks", "enterBulkhead", "(LWaterWorks$Call;LWaterWorks$Guard;)V"⟩, prog_1_method_56_code, 3, none, 0, 3, 94)) rfl (by decide) (by decide) (fun pc hpc => ?_)
  have hpc2 : pc < 94 := hpc
  have e : xm_P 42 pc = xm_p42 pc := by
    unfold xm_P
    rw [if_pos ⟨by decide, hpc⟩]
    rfl
  rw [e]
  exact xm_rg xm_k42_0 pc (by omega) (by omega)
set_option maxRecDepth 100000 in
theorem xm_k43_0 : (List.range' 0 39).all (fun pc => xm_at1 0 false none prog_1_method_57_code pc (xm_p43 pc)) = true := by decide +kernel
set_option maxRecDepth 100000 in
theorem xm_c43 : xm_chk 43 = true := by
  refine xm_chk_mk (m := (⟨"WaterWorks", "enterLimit", "(LWaterWorks$Call;LWaterWorks$Guard;)V"⟩, prog_1_method_57_code, 3, none, 0, 3, 39)) rfl (by decide) (by decide) (fun pc hpc => ?_)
  have hpc2 : pc < 39 := hpc
  have e : xm_P 43 pc = xm_p43 pc := by
    unfold xm_P
    rw [if_pos ⟨by decide, hpc⟩]
    rfl
  rw [e]
  exact xm_rg xm_k43_0 pc (by omega) (by omega)
set_option maxRecDepth 100000 in
theorem xm_k44_0 : (List.range' 0 64).all (fun pc => xm_at1 0 false none prog_1_method_58_code pc (xm_p44 pc)) = true := by decide +kernel
set_option maxRecDepth 100000 in
theorem xm_c44 : xm_chk 44 = true := by
  refine xm_chk_mk (m := (⟨"WaterWorks", "enterMemory", "(LWaterWorks$Call;LWaterWorks$Guard;)V"⟩, prog_1_method_58_code, 4, none, 0, 3, 64)) rfl (by decide) (by decide) (fun pc hpc => ?_)
  have hpc2 : pc < 64 := hpc
  have e : xm_P 44 pc = xm_p44 pc := by
    unfold xm_P
    rw [if_pos ⟨by decide, hpc⟩]
    rfl
  rw [e]
  exact xm_rg xm_k44_0 pc (by omega) (by omega)
set_option maxRecDepth 100000 in
theorem xm_k45_0 : (List.range' 0 35).all (fun pc => xm_at1 0 false none prog_1_method_59_code pc (xm_p45 pc)) = true := by decide +kernel
set_option maxRecDepth 100000 in
theorem xm_c45 : xm_chk 45 = true := by
  refine xm_chk_mk (m := (⟨"WaterWorks", "enterJoin", "(LWaterWorks$Call;LWaterWorks$Guard;)V"⟩, prog_1_method_59_code, 4, none, 0, 3, 35)) rfl (by decide) (by decide) (fun pc hpc => ?_)
  have hpc2 : pc < 35 := hpc
  have e : xm_P 45 pc = xm_p45 pc := by
    unfold xm_P
    rw [if_pos ⟨by decide, hpc⟩]
    rfl
  rw [e]
  exact xm_rg xm_k45_0 pc (by omega) (by omega)
set_option maxRecDepth 100000 in
theorem xm_k46_0 : (List.range' 0 77).all (fun pc => xm_at1 0 false (some (.object "WaterWorks$Call")) prog_1_method_60_code pc (xm_p46 pc)) = true := by decide +kernel
set_option maxRecDepth 100000 in
theorem xm_c46 : xm_chk 46 = true := by
  refine xm_chk_mk (m := (⟨"WaterWorks", "leaderFor", "(LWaterWorks$Call;LWaterWorks$Guard;)LWaterWorks$Call;"⟩, prog_1_method_60_code, 5, (some (.object "WaterWorks$Call")), 0, 3, 77)) rfl (by decide) (by decide) (fun pc hpc => ?_)
  have hpc2 : pc < 77 := hpc
  have e : xm_P 46 pc = xm_p46 pc := by
    unfold xm_P
    rw [if_pos ⟨by decide, hpc⟩]
    rfl
  rw [e]
  exact xm_rg xm_k46_0 pc (by omega) (by omega)
set_option maxRecDepth 100000 in
theorem xm_k47_0 : (List.range' 0 31).all (fun pc => xm_at1 0 false (some .int) prog_1_method_13_code pc (xm_p47 pc)) = true := by decide +kernel
set_option maxRecDepth 100000 in
theorem xm_c47 : xm_chk 47 = true := by
  refine xm_chk_mk (m := (⟨"WaterWorks", "cancel", "(I)I"⟩, prog_1_method_13_code, 3, (some .int), 0, 2, 31)) rfl (by decide) (by decide) (fun pc hpc => ?_)
  have hpc2 : pc < 31 := hpc
  have e : xm_P 47 pc = xm_p47 pc := by
    unfold xm_P
    rw [if_pos ⟨by decide, hpc⟩]
    rfl
  rw [e]
  exact xm_rg xm_k47_0 pc (by omega) (by omega)
set_option maxRecDepth 100000 in
theorem xm_k48_0 : (List.range' 0 31).all (fun pc => xm_at1 0 false (some (.object "WaterWorks$Order")) prog_1_method_47_code pc (xm_p48 pc)) = true := by decide +kernel
set_option maxRecDepth 100000 in
theorem xm_c48 : xm_chk 48 = true := by
  refine xm_chk_mk (m := (⟨"WaterWorks", "orderAt", "(I)LWaterWorks$Order;"⟩, prog_1_method_47_code, 2, (some (.object "WaterWorks$Order")), 0, 2, 31)) rfl (by decide) (by decide) (fun pc hpc => ?_)
  have hpc2 : pc < 31 := hpc
  have e : xm_P 48 pc = xm_p48 pc := by
    unfold xm_P
    rw [if_pos ⟨by decide, hpc⟩]
    rfl
  rw [e]
  exact xm_rg xm_k48_0 pc (by omega) (by omega)
set_option maxRecDepth 100000 in
theorem xm_k49_0 : (List.range' 0 42).all (fun pc => xm_at1 0 false (some .int) prog_1_method_14_code pc (xm_p49 pc)) = true := by decide +kernel
set_option maxRecDepth 100000 in
theorem xm_c49 : xm_chk 49 = true := by
  refine xm_chk_mk (m := (⟨"WaterWorks", "second", "(I)I"⟩, prog_1_method_14_code, 4, (some .int), 0, 2, 42)) rfl (by decide) (by decide) (fun pc hpc => ?_)
  have hpc2 : pc < 42 := hpc
  have e : xm_P 49 pc = xm_p49 pc := by
    unfold xm_P
    rw [if_pos ⟨by decide, hpc⟩]
    rfl
  rw [e]
  exact xm_rg xm_k49_0 pc (by omega) (by omega)
set_option maxRecDepth 100000 in
theorem xm_k50_0 : (List.range' 0 115).all (fun pc => xm_at1 0 false none prog_1_method_83_code pc (xm_p50 pc)) = true := by decide +kernel
set_option maxRecDepth 100000 in
theorem xm_c50 : xm_chk 50 = true := by
  refine xm_chk_mk (m := (⟨"WaterWorks", "passSecond", "()V"⟩, prog_1_method_83_code, 2, none, 0, 1, 115)) rfl (by decide) (by decide) (fun pc hpc => ?_)
  have hpc2 : pc < 115 := hpc
  have e : xm_P 50 pc = xm_p50 pc := by
    unfold xm_P
    rw [if_pos ⟨by decide, hpc⟩]
    rfl
  rw [e]
  exact xm_rg xm_k50_0 pc (by omega) (by omega)
set_option maxRecDepth 100000 in
theorem xm_k51_0 : (List.range' 0 60).all (fun pc => xm_at1 0 false none prog_1_method_84_code pc (xm_p51 pc)) = true := by decide +kernel
set_option maxRecDepth 100000 in
theorem xm_c51 : xm_chk 51 = true := by
  refine xm_chk_mk (m := (⟨"WaterWorks", "refillLimits", "()V"⟩, prog_1_method_84_code, 3, none, 0, 1, 60)) rfl (by decide) (by decide) (fun pc hpc => ?_)
  have hpc2 : pc < 60 := hpc
  have e : xm_P 51 pc = xm_p51 pc := by
    unfold xm_P
    rw [if_pos ⟨by decide, hpc⟩]
    rfl
  rw [e]
  exact xm_rg xm_k51_0 pc (by omega) (by omega)
set_option maxRecDepth 100000 in
theorem xm_k52_0 : (List.range' 0 112).all (fun pc => xm_at1 0 false (some .boolean) prog_1_method_85_code pc (xm_p52 pc)) = true := by decide +kernel
set_option maxRecDepth 100000 in
theorem xm_c52 : xm_chk 52 = true := by
  refine xm_chk_mk (m := (⟨"WaterWorks", "sweepLive", "()Z"⟩, prog_1_method_85_code, 6, (some .boolean), 0, 1, 112)) rfl (by decide) (by decide) (fun pc hpc => ?_)
  have hpc2 : pc < 112 := hpc
  have e : xm_P 52 pc = xm_p52 pc := by
    unfold xm_P
    rw [if_pos ⟨by decide, hpc⟩]
    rfl
  rw [e]
  exact xm_rg xm_k52_0 pc (by omega) (by omega)
set_option maxRecDepth 100000 in
theorem xm_k53_0 : (List.range' 0 119).all (fun pc => xm_at1 0 false none prog_1_method_86_code pc (xm_p53 pc)) = true := by decide +kernel
set_option maxRecDepth 100000 in
theorem xm_c53 : xm_chk 53 = true := by
  refine xm_chk_mk (m := (⟨"WaterWorks", "doWhatIsDue", "(I)V"⟩, prog_1_method_86_code, 5, none, 0, 2, 119)) rfl (by decide) (by decide) (fun pc hpc => ?_)
  have hpc2 : pc < 119 := hpc
  have e : xm_P 53 pc = xm_p53 pc := by
    unfold xm_P
    rw [if_pos ⟨by decide, hpc⟩]
    rfl
  rw [e]
  exact xm_rg xm_k53_0 pc (by omega) (by omega)
set_option maxRecDepth 100000 in
theorem xm_k54_0 : (List.range' 0 114).all (fun pc => xm_at1 0 false none prog_1_method_61_code pc (xm_p54 pc)) = true := by decide +kernel
set_option maxRecDepth 100000 in
theorem xm_c54 : xm_chk 54 = true := by
  refine xm_chk_mk (m := (⟨"WaterWorks", "finishTry", "(LWaterWorks$Call;)V"⟩, prog_1_method_61_code, 4, none, 0, 2, 114)) rfl (by decide) (by decide) (fun pc hpc => ?_)
  have hpc2 : pc < 114 := hpc
  have e : xm_P 54 pc = xm_p54 pc := by
    unfold xm_P
    rw [if_pos ⟨by decide, hpc⟩]
    rfl
  rw [e]
  exact xm_rg xm_k54_0 pc (by omega) (by omega)
set_option maxRecDepth 100000 in
theorem xm_k55_0 : (List.range' 0 120).all (fun pc => xm_at1 0 false none prog_1_method_62_code pc (xm_p55 pc)) = true := by decide +kernel
set_option maxRecDepth 100000 in
theorem xm_k55_1 : (List.range' 120 32).all (fun pc => xm_at1 0 false none prog_1_method_62_code pc (xm_p55 pc)) = true := by decide +kernel
set_option maxRecDepth 100000 in
theorem xm_c55 : xm_chk 55 = true := by
  refine xm_chk_mk (m := (⟨"WaterWorks", "moveWater", "(LWaterWorks$Call;LWaterWorks$Station;)V"⟩, prog_1_method_62_code, 7, none, 0, 3, 152)) rfl (by decide) (by decide) (fun pc hpc => ?_)
  have hpc2 : pc < 152 := hpc
  have e : xm_P 55 pc = xm_p55 pc := by
    unfold xm_P
    rw [if_pos ⟨by decide, hpc⟩]
    rfl
  rw [e]
  by_cases h0 : pc < 120
  · exact xm_rg xm_k55_0 pc (by omega) (by omega)
  exact xm_rg xm_k55_1 pc (by omega) (by omega)
set_option maxRecDepth 100000 in
theorem xm_k56_0 : (List.range' 0 76).all (fun pc => xm_at1 0 false (some (.object "WaterWorks$Effect")) prog_1_method_63_code pc (xm_p56 pc)) = true := by decide +kernel
set_option maxRecDepth 100000 in
theorem xm_c56 : xm_chk 56 = true := by
  refine xm_chk_mk (m := (⟨"WaterWorks", "effectOf", "(ILWaterWorks$Station;)LWaterWorks$Effect;"⟩, prog_1_method_63_code, 4, (some (.object "WaterWorks$Effect")), 0, 3, 76)) rfl (by decide) (by decide) (fun pc hpc => ?_)
  have hpc2 : pc < 76 := hpc
  have e : xm_P 56 pc = xm_p56 pc := by
    unfold xm_P
    rw [if_pos ⟨by decide, hpc⟩]
    rfl
  rw [e]
  exact xm_rg xm_k56_0 pc (by omega) (by omega)
set_option maxRecDepth 100000 in
theorem xm_k57_0 : (List.range' 0 40).all (fun pc => xm_at1 0 false none prog_1_method_87_code pc (xm_p57 pc)) = true := by decide +kernel
set_option maxRecDepth 100000 in
theorem xm_c57 : xm_chk 57 = true := by
  refine xm_chk_mk (m := (⟨"WaterWorks", "expire", "(LWaterWorks$Call;)V"⟩, prog_1_method_87_code, 2, none, 0, 2, 40)) rfl (by decide) (by decide) (fun pc hpc => ?_)
  have hpc2 : pc < 40 := hpc
  have e : xm_P 57 pc = xm_p57 pc := by
    unfold xm_P
    rw [if_pos ⟨by decide, hpc⟩]
    rfl
  rw [e]
  exact xm_rg xm_k57_0 pc (by omega) (by omega)
set_option maxRecDepth 100000 in
theorem xm_k58_0 : (List.range' 0 111).all (fun pc => xm_at1 0 false none prog_1_method_88_code pc (xm_p58 pc)) = true := by decide +kernel
set_option maxRecDepth 100000 in
theorem xm_c58 : xm_chk 58 = true := by
  refine xm_chk_mk (m := (⟨"WaterWorks", "admitWaiting", "()V"⟩, prog_1_method_88_code, 6, none, 0, 1, 111)) rfl (by decide) (by decide) (fun pc hpc => ?_)
  have hpc2 : pc < 111 := hpc
  have e : xm_P 58 pc = xm_p58 pc := by
    unfold xm_P
    rw [if_pos ⟨by decide, hpc⟩]
    rfl
  rw [e]
  exact xm_rg xm_k58_0 pc (by omega) (by omega)
set_option maxRecDepth 100000 in
theorem xm_k59_0 : (List.range' 0 120).all (fun pc => xm_at1 0 false none prog_1_method_89_code pc (xm_p59 pc)) = true := by decide +kernel
set_option maxRecDepth 100000 in
theorem xm_k59_1 : (List.range' 120 21).all (fun pc => xm_at1 0 false none prog_1_method_89_code pc (xm_p59 pc)) = true := by decide +kernel
set_option maxRecDepth 100000 in
theorem xm_c59 : xm_chk 59 = true := by
  refine xm_chk_mk (m := (⟨"WaterWorks", "lookAtPlan", "(LWaterWorks$Plan;)V"⟩, prog_1_method_89_code, 2, none, 0, 2, 141)) rfl (by decide) (by decide) (fun pc hpc => ?_)
  have hpc2 : pc < 141 := hpc
  have e : xm_P 59 pc = xm_p59 pc := by
    unfold xm_P
    rw [if_pos ⟨by decide, hpc⟩]
    rfl
  rw [e]
  by_cases h0 : pc < 120
  · exact xm_rg xm_k59_0 pc (by omega) (by omega)
  exact xm_rg xm_k59_1 pc (by omega) (by omega)
set_option maxRecDepth 100000 in
theorem xm_k60_0 : (List.range' 0 41).all (fun pc => xm_at1 0 false none prog_1_method_90_code pc (xm_p60 pc)) = true := by decide +kernel
set_option maxRecDepth 100000 in
theorem xm_c60 : xm_chk 60 = true := by
  refine xm_chk_mk (m := (⟨"WaterWorks", "lookAtAlarm", "(LWaterWorks$Alarm;)V"⟩, prog_1_method_90_code, 3, none, 0, 2, 41)) rfl (by decide) (by decide) (fun pc hpc => ?_)
  have hpc2 : pc < 41 := hpc
  have e : xm_P 60 pc = xm_p60 pc := by
    unfold xm_P
    rw [if_pos ⟨by decide, hpc⟩]
    rfl
  rw [e]
  exact xm_rg xm_k60_0 pc (by omega) (by omega)
set_option maxRecDepth 100000 in
theorem xm_k61_0 : (List.range' 0 120).all (fun pc => xm_at1 0 false (some .boolean) prog_1_method_91_code pc (xm_p61 pc)) = true := by decide +kernel
set_option maxRecDepth 100000 in
theorem xm_c61 : xm_chk 61 = true := by
  refine xm_chk_mk (m := (⟨"WaterWorks", "holds", "(LWaterWorks$Alarm;)Z"⟩, prog_1_method_91_code, 4, (some .boolean), 0, 2, 120)) rfl (by decide) (by decide) (fun pc hpc => ?_)
  have hpc2 : pc < 120 := hpc
  have e : xm_P 61 pc = xm_p61 pc := by
    unfold xm_P
    rw [if_pos ⟨by decide, hpc⟩]
    rfl
  rw [e]
  exact xm_rg xm_k61_0 pc (by omega) (by omega)
set_option maxRecDepth 100000 in
theorem xm_k62_0 : (List.range' 0 65).all (fun pc => xm_at1 0 false (some .boolean) prog_1_method_92_code pc (xm_p62 pc)) = true := by decide +kernel
set_option maxRecDepth 100000 in
theorem xm_c62 : xm_chk 62 = true := by
  refine xm_chk_mk (m := (⟨"WaterWorks", "someOrderLasts", "(I)Z"⟩, prog_1_method_92_code, 4, (some .boolean), 0, 2, 65)) rfl (by decide) (by decide) (fun pc hpc => ?_)
  have hpc2 : pc < 65 := hpc
  have e : xm_P 62 pc = xm_p62 pc := by
    unfold xm_P
    rw [if_pos ⟨by decide, hpc⟩]
    rfl
  rw [e]
  exact xm_rg xm_k62_0 pc (by omega) (by omega)
set_option maxRecDepth 100000 in
theorem xm_k63_0 : (List.range' 0 120).all (fun pc => xm_at1 0 false (some .int) prog_1_method_15_code pc (xm_p63 pc)) = true := by decide +kernel
set_option maxRecDepth 100000 in
theorem xm_k63_1 : (List.range' 120 11).all (fun pc => xm_at1 0 false (some .int) prog_1_method_15_code pc (xm_p63 pc)) = true := by decide +kernel
set_option maxRecDepth 100000 in
theorem xm_c63 : xm_chk 63 = true := by
  refine xm_chk_mk (m := (⟨"WaterWorks", "plan", "(IIIIIII)I"⟩, prog_1_method_15_code, 11, (some .int), 0, 8, 131)) rfl (by decide) (by decide) (fun pc hpc => ?_)
  have hpc2 : pc < 131 := hpc
  have e : xm_P 63 pc = xm_p63 pc := by
    unfold xm_P
    rw [if_pos ⟨by decide, hpc⟩]
    rfl
  rw [e]
  by_cases h0 : pc < 120
  · exact xm_rg xm_k63_0 pc (by omega) (by omega)
  exact xm_rg xm_k63_1 pc (by omega) (by omega)
set_option maxRecDepth 100000 in
theorem xm_k64_0 : (List.range' 0 32).all (fun pc => xm_at1 0 false (some .int) prog_1_method_16_code pc (xm_p64 pc)) = true := by decide +kernel
set_option maxRecDepth 100000 in
theorem xm_c64 : xm_chk 64 = true := by
  refine xm_chk_mk (m := (⟨"WaterWorks", "stop", "(I)I"⟩, prog_1_method_16_code, 3, (some .int), 0, 2, 32)) rfl (by decide) (by decide) (fun pc hpc => ?_)
  have hpc2 : pc < 32 := hpc
  have e : xm_P 64 pc = xm_p64 pc := by
    unfold xm_P
    rw [if_pos ⟨by decide, hpc⟩]
    rfl
  rw [e]
  exact xm_rg xm_k64_0 pc (by omega) (by omega)
set_option maxRecDepth 100000 in
theorem xm_k65_0 : (List.range' 0 31).all (fun pc => xm_at1 0 false (some (.object "WaterWorks$Plan")) prog_1_method_48_code pc (xm_p65 pc)) = true := by decide +kernel
set_option maxRecDepth 100000 in
theorem xm_c65 : xm_chk 65 = true := by
  refine xm_chk_mk (m := (⟨"WaterWorks", "planAt", "(I)LWaterWorks$Plan;"⟩, prog_1_method_48_code, 2, (some (.object "WaterWorks$Plan")), 0, 2, 31)) rfl (by decide) (by decide) (fun pc hpc => ?_)
  have hpc2 : pc < 31 := hpc
  have e : xm_P 65 pc = xm_p65 pc := by
    unfold xm_P
    rw [if_pos ⟨by decide, hpc⟩]
    rfl
  rw [e]
  exact xm_rg xm_k65_0 pc (by omega) (by omega)
set_option maxRecDepth 100000 in
theorem xm_k66_0 : (List.range' 0 83).all (fun pc => xm_at1 0 false (some .int) prog_1_method_17_code pc (xm_p66 pc)) = true := by decide +kernel
set_option maxRecDepth 100000 in
theorem xm_c66 : xm_chk 66 = true := by
  refine xm_chk_mk (m := (⟨"WaterWorks", "planned", "(II)I"⟩, prog_1_method_17_code, 4, (some .int), 0, 3, 83)) rfl (by decide) (by decide) (fun pc hpc => ?_)
  have hpc2 : pc < 83 := hpc
  have e : xm_P 66 pc = xm_p66 pc := by
    unfold xm_P
    rw [if_pos ⟨by decide, hpc⟩]
    rfl
  rw [e]
  exact xm_rg xm_k66_0 pc (by omega) (by omega)
set_option maxRecDepth 100000 in
theorem xm_k67_0 : (List.range' 0 66).all (fun pc => xm_at1 0 false (some .int) prog_1_method_18_code pc (xm_p67 pc)) = true := by decide +kernel
set_option maxRecDepth 100000 in
theorem xm_c67 : xm_chk 67 = true := by
  refine xm_chk_mk (m := (⟨"WaterWorks", "alarm", "(III)I"⟩, prog_1_method_18_code, 4, (some .int), 0, 4, 66)) rfl (by decide) (by decide) (fun pc hpc => ?_)
  have hpc2 : pc < 66 := hpc
  have e : xm_P 67 pc = xm_p67 pc := by
    unfold xm_P
    rw [if_pos ⟨by decide, hpc⟩]
    rfl
  rw [e]
  exact xm_rg xm_k67_0 pc (by omega) (by omega)
set_option maxRecDepth 100000 in
theorem xm_k68_0 : (List.range' 0 74).all (fun pc => xm_at1 0 false (some .boolean) prog_1_method_19_code pc (xm_p68 pc)) = true := by decide +kernel
set_option maxRecDepth 100000 in
theorem xm_c68 : xm_chk 68 = true := by
  refine xm_chk_mk (m := (⟨"WaterWorks", "lacksWatched", "(II)Z"⟩, prog_1_method_19_code, 3, (some .boolean), 0, 3, 74)) rfl (by decide) (by decide) (fun pc hpc => ?_)
  have hpc2 : pc < 74 := hpc
  have e : xm_P 68 pc = xm_p68 pc := by
    unfold xm_P
    rw [if_pos ⟨by decide, hpc⟩]
    rfl
  rw [e]
  exact xm_rg xm_k68_0 pc (by omega) (by omega)
set_option maxRecDepth 100000 in
theorem xm_k69_0 : (List.range' 0 24).all (fun pc => xm_at1 0 false (some (.object "WaterWorks$Guard")) prog_1_method_45_code pc (xm_p69 pc)) = true := by decide +kernel
set_option maxRecDepth 100000 in
theorem xm_c69 : xm_chk 69 = true := by
  refine xm_chk_mk (m := (⟨"WaterWorks", "guardOf", "(II)LWaterWorks$Guard;"⟩, prog_1_method_45_code, 4, (some (.object "WaterWorks$Guard")), 0, 3, 24)) rfl (by decide) (by decide) (fun pc hpc => ?_)
  have hpc2 : pc < 24 := hpc
  have e : xm_P 69 pc = xm_p69 pc := by
    unfold xm_P
    rw [if_pos ⟨by decide, hpc⟩]
    rfl
  rw [e]
  exact xm_rg xm_k69_0 pc (by omega) (by omega)
set_option maxRecDepth 100000 in
theorem xm_k70_0 : (List.range' 0 80).all (fun pc => xm_at1 0 false (some .boolean) prog_1_method_20_code pc (xm_p70 pc)) = true := by decide +kernel
set_option maxRecDepth 100000 in
theorem xm_c70 : xm_chk 70 = true := by
  refine xm_chk_mk (m := (⟨"WaterWorks", "fitsAlarm", "(III)Z"⟩, prog_1_method_20_code, 3, (some .boolean), 0, 3, 80)) rfl (by decide) (by decide) (fun pc hpc => ?_)
  have hpc2 : pc < 80 := hpc
  have e : xm_P 70 pc = xm_p70 pc := by
    unfold xm_P
    rw [if_pos ⟨by decide, hpc⟩]
    rfl
  rw [e]
  exact xm_rg xm_k70_0 pc (by omega) (by omega)
set_option maxRecDepth 100000 in
theorem xm_k71_0 : (List.range' 0 81).all (fun pc => xm_at1 0 false (some .int) prog_1_method_21_code pc (xm_p71 pc)) = true := by decide +kernel
set_option maxRecDepth 100000 in
theorem xm_c71 : xm_chk 71 = true := by
  refine xm_chk_mk (m := (⟨"WaterWorks", "alarmed", "(II)I"⟩, prog_1_method_21_code, 4, (some .int), 0, 3, 81)) rfl (by decide) (by decide) (fun pc hpc => ?_)
  have hpc2 : pc < 81 := hpc
  have e : xm_P 71 pc = xm_p71 pc := by
    unfold xm_P
    rw [if_pos ⟨by decide, hpc⟩]
    rfl
  rw [e]
  exact xm_rg xm_k71_0 pc (by omega) (by omega)
set_option maxRecDepth 100000 in
theorem xm_k72_0 : (List.range' 0 5).all (fun pc => xm_at1 0 false (some .int) prog_1_method_22_code pc (xm_p72 pc)) = true := by decide +kernel
set_option maxRecDepth 100000 in
theorem xm_c72 : xm_chk 72 = true := by
  refine xm_chk_mk (m := (⟨"WaterWorks", "now", "()I"⟩, prog_1_method_22_code, 1, (some .int), 0, 1, 5)) rfl (by decide) (by decide) (fun pc hpc => ?_)
  have hpc2 : pc < 5 := hpc
  have e : xm_P 72 pc = xm_p72 pc := by
    unfold xm_P
    rw [if_pos ⟨by decide, hpc⟩]
    rfl
  rw [e]
  exact xm_rg xm_k72_0 pc (by omega) (by omega)
set_option maxRecDepth 100000 in
theorem xm_k73_0 : (List.range' 0 74).all (fun pc => xm_at1 0 false (some .int) prog_1_method_23_code pc (xm_p73 pc)) = true := by decide +kernel
set_option maxRecDepth 100000 in
theorem xm_c73 : xm_chk 73 = true := by
  refine xm_chk_mk (m := (⟨"WaterWorks", "outcome", "(I)I"⟩, prog_1_method_23_code, 3, (some .int), 0, 2, 74)) rfl (by decide) (by decide) (fun pc hpc => ?_)
  have hpc2 : pc < 74 := hpc
  have e : xm_P 73 pc = xm_p73 pc := by
    unfold xm_P
    rw [if_pos ⟨by decide, hpc⟩]
    rfl
  rw [e]
  exact xm_rg xm_k73_0 pc (by omega) (by omega)
set_option maxRecDepth 100000 in
theorem xm_k74_0 : (List.range' 0 89).all (fun pc => xm_at1 0 false (some .int) prog_1_method_24_code pc (xm_p74 pc)) = true := by decide +kernel
set_option maxRecDepth 100000 in
theorem xm_c74 : xm_chk 74 = true := by
  refine xm_chk_mk (m := (⟨"WaterWorks", "of", "(II)I"⟩, prog_1_method_24_code, 4, (some .int), 0, 3, 89)) rfl (by decide) (by decide) (fun pc hpc => ?_)
  have hpc2 : pc < 89 := hpc
  have e : xm_P 74 pc = xm_p74 pc := by
    unfold xm_P
    rw [if_pos ⟨by decide, hpc⟩]
    rfl
  rw [e]
  exact xm_rg xm_k74_0 pc (by omega) (by omega)
set_option maxRecDepth 100000 in
theorem xm_k75_0 : (List.range' 0 13).all (fun pc => xm_at1 0 false (some .int) prog_1_method_42_code pc (xm_p75 pc)) = true := by decide +kernel
set_option maxRecDepth 100000 in
theorem xm_c75 : xm_chk 75 = true := by
  refine xm_chk_mk (m := (⟨"WaterWorks", "numberOf", "(LWaterWorks$Failure;)I"⟩, prog_1_method_42_code, 1, (some .int), 0, 1, 13)) rfl (by decide) (by decide) (fun pc hpc => ?_)
  have hpc2 : pc < 13 := hpc
  have e : xm_P 75 pc = xm_p75 pc := by
    unfold xm_P
    rw [if_pos ⟨by decide, hpc⟩]
    rfl
  rw [e]
  exact xm_rg xm_k75_0 pc (by omega) (by omega)
set_option maxRecDepth 100000 in
theorem xm_k76_0 : (List.range' 0 120).all (fun pc => xm_at1 0 false (some .int) prog_1_method_25_code pc (xm_p76 pc)) = true := by decide +kernel
set_option maxRecDepth 100000 in
theorem xm_k76_1 : (List.range' 120 14).all (fun pc => xm_at1 0 false (some .int) prog_1_method_25_code pc (xm_p76 pc)) = true := by decide +kernel
set_option maxRecDepth 100000 in
theorem xm_c76 : xm_chk 76 = true := by
  refine xm_chk_mk (m := (⟨"WaterWorks", "failure", "(II)I"⟩, prog_1_method_25_code, 4, (some .int), 0, 3, 134)) rfl (by decide) (by decide) (fun pc hpc => ?_)
  have hpc2 : pc < 134 := hpc
  have e : xm_P 76 pc = xm_p76 pc := by
    unfold xm_P
    rw [if_pos ⟨by decide, hpc⟩]
    rfl
  rw [e]
  by_cases h0 : pc < 120
  · exact xm_rg xm_k76_0 pc (by omega) (by omega)
  exact xm_rg xm_k76_1 pc (by omega) (by omega)
