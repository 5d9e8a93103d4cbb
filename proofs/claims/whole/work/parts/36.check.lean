/-! ===== the table agrees with the bytes ===== -/
set_option maxRecDepth 100000 in
theorem xm_k77_0 : (List.range' 0 120).all (fun pc => xm_at1 0 false (some .int) prog_1_method_26_code pc (xm_p77 pc)) = true := by decide +kernel
set_option maxRecDepth 100000 in
theorem xm_k77_1 : (List.range' 120 84).all (fun pc => xm_at1 0 false (some .int) prog_1_method_26_code pc (xm_p77 pc)) = true := by decide +kernel
set_option maxRecDepth 100000 in
theorem xm_c77 : xm_chk 77 = true := by
  refine xm_chk_mk (m := (⟨"WaterWorks", "call", "(II)I"⟩, prog_1_method_26_code, 4, (some .int), 0, 3, 204)) rfl (by decide) (by decide) (fun pc hpc => ?_)
  have hpc2 : pc < 204 := hpc
  have e : xm_P 77 pc = xm_p77 pc := by
    unfold xm_P
    rw [if_pos ⟨by decide, hpc⟩]
    rfl
  rw [e]
  by_cases h0 : pc < 120
  · exact xm_rg xm_k77_0 pc (by omega) (by omega)
  exact xm_rg xm_k77_1 pc (by omega) (by omega)
set_option maxRecDepth 100000 in
theorem xm_k78_0 : (List.range' 0 57).all (fun pc => xm_at1 0 false (some .int) prog_1_method_27_code pc (xm_p78 pc)) = true := by decide +kernel
set_option maxRecDepth 100000 in
theorem xm_c78 : xm_chk 78 = true := by
  refine xm_chk_mk (m := (⟨"WaterWorks", "fuse", "(II)I"⟩, prog_1_method_27_code, 4, (some .int), 0, 3, 57)) rfl (by decide) (by decide) (fun pc hpc => ?_)
  have hpc2 : pc < 57 := hpc
  have e : xm_P 78 pc = xm_p78 pc := by
    unfold xm_P
    rw [if_pos ⟨by decide, hpc⟩]
    rfl
  rw [e]
  exact xm_rg xm_k78_0 pc (by omega) (by omega)
set_option maxRecDepth 100000 in
theorem xm_k79_0 : (List.range' 0 60).all (fun pc => xm_at1 0 false (some .int) prog_1_method_28_code pc (xm_p79 pc)) = true := by decide +kernel
set_option maxRecDepth 100000 in
theorem xm_c79 : xm_chk 79 = true := by
  refine xm_chk_mk (m := (⟨"WaterWorks", "bulkhead", "(II)I"⟩, prog_1_method_28_code, 4, (some .int), 0, 3, 60)) rfl (by decide) (by decide) (fun pc hpc => ?_)
  have hpc2 : pc < 60 := hpc
  have e : xm_P 79 pc = xm_p79 pc := by
    unfold xm_P
    rw [if_pos ⟨by decide, hpc⟩]
    rfl
  rw [e]
  exact xm_rg xm_k79_0 pc (by omega) (by omega)
set_option maxRecDepth 100000 in
theorem xm_k80_0 : (List.range' 0 43).all (fun pc => xm_at1 0 false (some .int) prog_1_method_29_code pc (xm_p80 pc)) = true := by decide +kernel
set_option maxRecDepth 100000 in
theorem xm_c80 : xm_chk 80 = true := by
  refine xm_chk_mk (m := (⟨"WaterWorks", "waiting", "(II)I"⟩, prog_1_method_29_code, 4, (some .int), 0, 3, 43)) rfl (by decide) (by decide) (fun pc hpc => ?_)
  have hpc2 : pc < 43 := hpc
  have e : xm_P 80 pc = xm_p80 pc := by
    unfold xm_P
    rw [if_pos ⟨by decide, hpc⟩]
    rfl
  rw [e]
  exact xm_rg xm_k80_0 pc (by omega) (by omega)
set_option maxRecDepth 100000 in
theorem xm_k81_0 : (List.range' 0 20).all (fun pc => xm_at1 0 false (some .int) prog_1_method_30_code pc (xm_p81 pc)) = true := by decide +kernel
set_option maxRecDepth 100000 in
theorem xm_c81 : xm_chk 81 = true := by
  refine xm_chk_mk (m := (⟨"WaterWorks", "tokens", "(I)I"⟩, prog_1_method_30_code, 3, (some .int), 0, 2, 20)) rfl (by decide) (by decide) (fun pc hpc => ?_)
  have hpc2 : pc < 20 := hpc
  have e : xm_P 81 pc = xm_p81 pc := by
    unfold xm_P
    rw [if_pos ⟨by decide, hpc⟩]
    rfl
  rw [e]
  exact xm_rg xm_k81_0 pc (by omega) (by omega)
set_option maxRecDepth 100000 in
theorem xm_k82_0 : (List.range' 0 86).all (fun pc => xm_at1 0 false (some .int) prog_1_method_31_code pc (xm_p82 pc)) = true := by decide +kernel
set_option maxRecDepth 100000 in
theorem xm_c82 : xm_chk 82 = true := by
  refine xm_chk_mk (m := (⟨"WaterWorks", "kept", "(III)I"⟩, prog_1_method_31_code, 7, (some .int), 0, 4, 86)) rfl (by decide) (by decide) (fun pc hpc => ?_)
  have hpc2 : pc < 86 := hpc
  have e : xm_P 82 pc = xm_p82 pc := by
    unfold xm_P
    rw [if_pos ⟨by decide, hpc⟩]
    rfl
  rw [e]
  exact xm_rg xm_k82_0 pc (by omega) (by omega)
set_option maxRecDepth 100000 in
theorem xm_k83_0 : (List.range' 0 97).all (fun pc => xm_at1 0 false (some .int) prog_1_method_32_code pc (xm_p83 pc)) = true := by decide +kernel
set_option maxRecDepth 100000 in
theorem xm_c83 : xm_chk 83 = true := by
  refine xm_chk_mk (m := (⟨"WaterWorks", "joined", "(II)I"⟩, prog_1_method_32_code, 7, (some .int), 0, 3, 97)) rfl (by decide) (by decide) (fun pc hpc => ?_)
  have hpc2 : pc < 97 := hpc
  have e : xm_P 83 pc = xm_p83 pc := by
    unfold xm_P
    rw [if_pos ⟨by decide, hpc⟩]
    rfl
  rw [e]
  exact xm_rg xm_k83_0 pc (by omega) (by omega)
set_option maxRecDepth 100000 in
theorem xm_k84_0 : (List.range' 0 19).all (fun pc => xm_at1 0 false (some .int) prog_1_method_33_code pc (xm_p84 pc)) = true := by decide +kernel
set_option maxRecDepth 100000 in
theorem xm_c84 : xm_chk 84 = true := by
  refine xm_chk_mk (m := (⟨"WaterWorks", "level", "(I)I"⟩, prog_1_method_33_code, 3, (some .int), 0, 2, 19)) rfl (by decide) (by decide) (fun pc hpc => ?_)
  have hpc2 : pc < 19 := hpc
  have e : xm_P 84 pc = xm_p84 pc := by
    unfold xm_P
    rw [if_pos ⟨by decide, hpc⟩]
    rfl
  rw [e]
  exact xm_rg xm_k84_0 pc (by omega) (by omega)
set_option maxRecDepth 100000 in
theorem xm_k85_0 : (List.range' 0 100).all (fun pc => xm_at1 0 false (some .int) prog_1_method_34_code pc (xm_p85 pc)) = true := by decide +kernel
set_option maxRecDepth 100000 in
theorem xm_c85 : xm_chk 85 = true := by
  refine xm_chk_mk (m := (⟨"WaterWorks", "effect", "(II)I"⟩, prog_1_method_34_code, 4, (some .int), 0, 3, 100)) rfl (by decide) (by decide) (fun pc hpc => ?_)
  have hpc2 : pc < 100 := hpc
  have e : xm_P 85 pc = xm_p85 pc := by
    unfold xm_P
    rw [if_pos ⟨by decide, hpc⟩]
    rfl
  rw [e]
  exact xm_rg xm_k85_0 pc (by omega) (by omega)
set_option maxRecDepth 100000 in
theorem xm_k86_0 : (List.range' 0 36).all (fun pc => xm_at1 0 false (some .int) prog_1_method_35_code pc (xm_p86 pc)) = true := by decide +kernel
set_option maxRecDepth 100000 in
theorem xm_c86 : xm_chk 86 = true := by
  refine xm_chk_mk (m := (⟨"WaterWorks", "isOf", "(II)I"⟩, prog_1_method_35_code, 3, (some .int), 0, 3, 36)) rfl (by decide) (by decide) (fun pc hpc => ?_)
  have hpc2 : pc < 36 := hpc
  have e : xm_P 86 pc = xm_p86 pc := by
    unfold xm_P
    rw [if_pos ⟨by decide, hpc⟩]
    rfl
  rw [e]
  exact xm_rg xm_k86_0 pc (by omega) (by omega)
set_option maxRecDepth 100000 in
theorem xm_k87_0 : (List.range' 0 120).all (fun pc => xm_at1 0 false (some .int) prog_1_method_36_code pc (xm_p87 pc)) = true := by decide +kernel
set_option maxRecDepth 100000 in
theorem xm_k87_1 : (List.range' 120 69).all (fun pc => xm_at1 0 false (some .int) prog_1_method_36_code pc (xm_p87 pc)) = true := by decide +kernel
set_option maxRecDepth 100000 in
theorem xm_c87 : xm_chk 87 = true := by
  refine xm_chk_mk (m := (⟨"WaterWorks", "count", "(I)I"⟩, prog_1_method_36_code, 2, (some .int), 0, 2, 189)) rfl (by decide) (by decide) (fun pc hpc => ?_)
  have hpc2 : pc < 189 := hpc
  have e : xm_P 87 pc = xm_p87 pc := by
    unfold xm_P
    rw [if_pos ⟨by decide, hpc⟩]
    rfl
  rw [e]
  by_cases h0 : pc < 120
  · exact xm_rg xm_k87_0 pc (by omega) (by omega)
  exact xm_rg xm_k87_1 pc (by omega) (by omega)
set_option maxRecDepth 100000 in
theorem xm_k88_0 : (List.range' 0 48).all (fun pc => xm_at1 0 false (some .int) prog_1_method_37_code pc (xm_p88 pc)) = true := by decide +kernel
set_option maxRecDepth 100000 in
theorem xm_c88 : xm_chk 88 = true := by
  refine xm_chk_mk (m := (⟨"WaterWorks", "callsUnderWay", "()I"⟩, prog_1_method_37_code, 3, (some .int), 0, 1, 48)) rfl (by decide) (by decide) (fun pc hpc => ?_)
  have hpc2 : pc < 48 := hpc
  have e : xm_P 88 pc = xm_p88 pc := by
    unfold xm_P
    rw [if_pos ⟨by decide, hpc⟩]
    rfl
  rw [e]
  exact xm_rg xm_k88_0 pc (by omega) (by omega)
set_option maxRecDepth 100000 in
theorem xm_k89_0 : (List.range' 0 67).all (fun pc => xm_at1 0 false (some .int) prog_1_method_38_code pc (xm_p89 pc)) = true := by decide +kernel
set_option maxRecDepth 100000 in
theorem xm_c89 : xm_chk 89 = true := by
  refine xm_chk_mk (m := (⟨"WaterWorks", "triesUnderWay", "()I"⟩, prog_1_method_38_code, 3, (some .int), 0, 1, 67)) rfl (by decide) (by decide) (fun pc hpc => ?_)
  have hpc2 : pc < 67 := hpc
  have e : xm_P 89 pc = xm_p89 pc := by
    unfold xm_P
    rw [if_pos ⟨by decide, hpc⟩]
    rfl
  rw [e]
  exact xm_rg xm_k89_0 pc (by omega) (by omega)
set_option maxRecDepth 100000 in
theorem xm_k90_0 : (List.range' 0 48).all (fun pc => xm_at1 0 false (some .int) prog_1_method_39_code pc (xm_p90 pc)) = true := by decide +kernel
set_option maxRecDepth 100000 in
theorem xm_c90 : xm_chk 90 = true := by
  refine xm_chk_mk (m := (⟨"WaterWorks", "ordersUnderWay", "()I"⟩, prog_1_method_39_code, 3, (some .int), 0, 1, 48)) rfl (by decide) (by decide) (fun pc hpc => ?_)
  have hpc2 : pc < 48 := hpc
  have e : xm_P 90 pc = xm_p90 pc := by
    unfold xm_P
    rw [if_pos ⟨by decide, hpc⟩]
    rfl
  rw [e]
  exact xm_rg xm_k90_0 pc (by omega) (by omega)
set_option maxRecDepth 100000 in
theorem xm_k91_0 : (List.range' 0 48).all (fun pc => xm_at1 0 false (some .int) prog_1_method_40_code pc (xm_p91 pc)) = true := by decide +kernel
set_option maxRecDepth 100000 in
theorem xm_c91 : xm_chk 91 = true := by
  refine xm_chk_mk (m := (⟨"WaterWorks", "alarmsOn", "()I"⟩, prog_1_method_40_code, 3, (some .int), 0, 1, 48)) rfl (by decide) (by decide) (fun pc hpc => ?_)
  have hpc2 : pc < 48 := hpc
  have e : xm_P 91 pc = xm_p91 pc := by
    unfold xm_P
    rw [if_pos ⟨by decide, hpc⟩]
    rfl
  rw [e]
  exact xm_rg xm_k91_0 pc (by omega) (by omega)
set_option maxRecDepth 100000 in
theorem xm_k92_0 : (List.range' 0 35).all (fun pc => xm_at1 1 true none prog_2_method_1_code pc (xm_p92 pc)) = true := by decide +kernel
set_option maxRecDepth 100000 in
theorem xm_c92 : xm_chk 92 = true := by
  refine xm_chk_mk (m := (⟨"WaterWorks$Alarm", "<init>", "(III)V"⟩, prog_2_method_1_code, 4, none, 1, 4, 35)) rfl (by decide) (by decide) (fun pc hpc => ?_)
  have hpc2 : pc < 35 := hpc
  have e : xm_P 92 pc = xm_p92 pc := by
    unfold xm_P
    rw [if_pos ⟨by decide, hpc⟩]
    rfl
  rw [e]
  exact xm_rg xm_k92_0 pc (by omega) (by omega)
set_option maxRecDepth 100000 in
theorem xm_k93_0 : (List.range' 0 120).all (fun pc => xm_at1 2 true none prog_3_method_1_code pc (xm_p93 pc)) = true := by decide +kernel
set_option maxRecDepth 100000 in
theorem xm_c93 : xm_chk 93 = true := by
  refine xm_chk_mk (m := (⟨"WaterWorks$Call", "<init>", "(ILWaterWorks$Order;LWaterWorks$Call;LWaterWorks$Guard;I)V"⟩, prog_3_method_1_code, 6, none, 2, 6, 120)) rfl (by decide) (by decide) (fun pc hpc => ?_)
  have hpc2 : pc < 120 := hpc
  have e : xm_P 93 pc = xm_p93 pc := by
    unfold xm_P
    rw [if_pos ⟨by decide, hpc⟩]
    rfl
  rw [e]
  exact xm_rg xm_k93_0 pc (by omega) (by omega)
set_option maxRecDepth 100000 in
theorem xm_k94_0 : (List.range' 0 21).all (fun pc => xm_at1 2 false (some .boolean) prog_3_method_3_code pc (xm_p94 pc)) = true := by decide +kernel
set_option maxRecDepth 100000 in
theorem xm_c94 : xm_chk 94 = true := by
  refine xm_chk_mk (m := (⟨"WaterWorks$Call", "isJoinedTo", "(LWaterWorks$Call;)Z"⟩, prog_3_method_3_code, 2, (some .boolean), 2, 2, 21)) rfl (by decide) (by decide) (fun pc hpc => ?_)
  have hpc2 : pc < 21 := hpc
  have e : xm_P 94 pc = xm_p94 pc := by
    unfold xm_P
    rw [if_pos ⟨by decide, hpc⟩]
    rfl
  rw [e]
  exact xm_rg xm_k94_0 pc (by omega) (by omega)
set_option maxRecDepth 100000 in
theorem xm_k95_0 : (List.range' 0 20).all (fun pc => xm_at1 2 false (some .int) prog_3_method_2_code pc (xm_p95 pc)) = true := by decide +kernel
set_option maxRecDepth 100000 in
theorem xm_c95 : xm_chk 95 = true := by
  refine xm_chk_mk (m := (⟨"WaterWorks$Call", "sort", "()I"⟩, prog_3_method_2_code, 1, (some .int), 2, 1, 20)) rfl (by decide) (by decide) (fun pc hpc => ?_)
  have hpc2 : pc < 20 := hpc
  have e : xm_P 95 pc = xm_p95 pc := by
    unfold xm_P
    rw [if_pos ⟨by decide, hpc⟩]
    rfl
  rw [e]
  exact xm_rg xm_k95_0 pc (by omega) (by omega)
set_option maxRecDepth 100000 in
theorem xm_k96_0 : (List.range' 0 26).all (fun pc => xm_at1 3 true none prog_4_method_1_code pc (xm_p96 pc)) = true := by decide +kernel
set_option maxRecDepth 100000 in
theorem xm_c96 : xm_chk 96 = true := by
  refine xm_chk_mk (m := (⟨"WaterWorks$Effect", "<init>", "(LWaterWorks$Station;LWaterWorks$Order;II)V"⟩, prog_4_method_1_code, 5, none, 3, 5, 26)) rfl (by decide) (by decide) (fun pc hpc => ?_)
  have hpc2 : pc < 26 := hpc
  have e : xm_P 96 pc = xm_p96 pc := by
    unfold xm_P
    rw [if_pos ⟨by decide, hpc⟩]
    rfl
  rw [e]
  exact xm_rg xm_k96_0 pc (by omega) (by omega)
set_option maxRecDepth 100000 in
theorem xm_k97_0 : (List.range' 0 42).all (fun pc => xm_at1 4 true none prog_5_method_1_code pc (xm_p97 pc)) = true := by decide +kernel
set_option maxRecDepth 100000 in
theorem xm_c97 : xm_chk 97 = true := by
  refine xm_chk_mk (m := (⟨"WaterWorks$Failure", "<init>", "(IIILWaterWorks$Guard;LWaterWorks$Station;)V"⟩, prog_5_method_1_code, 6, none, 4, 6, 42)) rfl (by decide) (by decide) (fun pc hpc => ?_)
  have hpc2 : pc < 42 := hpc
  have e : xm_P 97 pc = xm_p97 pc := by
    unfold xm_P
    rw [if_pos ⟨by decide, hpc⟩]
    rfl
  rw [e]
  exact xm_rg xm_k97_0 pc (by omega) (by omega)
set_option maxRecDepth 100000 in
theorem xm_k98_0 : (List.range' 0 93).all (fun pc => xm_at1 5 true none prog_6_method_1_code pc (xm_p98 pc)) = true := by decide +kernel
set_option maxRecDepth 100000 in
theorem xm_c98 : xm_chk 98 = true := by
  refine xm_chk_mk (m := (⟨"WaterWorks$Guard", "<init>", "(IIIIII)V"⟩, prog_6_method_1_code, 7, none, 5, 7, 93)) rfl (by decide) (by decide) (fun pc hpc => ?_)
  have hpc2 : pc < 93 := hpc
  have e : xm_P 98 pc = xm_p98 pc := by
    unfold xm_P
    rw [if_pos ⟨by decide, hpc⟩]
    rfl
  rw [e]
  exact xm_rg xm_k98_0 pc (by omega) (by omega)
set_option maxRecDepth 100000 in
theorem xm_k99_0 : (List.range' 0 42).all (fun pc => xm_at1 5 false none prog_6_method_4_code pc (xm_p99 pc)) = true := by decide +kernel
set_option maxRecDepth 100000 in
theorem xm_c99 : xm_chk 99 = true := by
  refine xm_chk_mk (m := (⟨"WaterWorks$Guard", "leaveQueue", "(LWaterWorks$Call;)V"⟩, prog_6_method_4_code, 3, none, 5, 2, 42)) rfl (by decide) (by decide) (fun pc hpc => ?_)
  have hpc2 : pc < 42 := hpc
  have e : xm_P 99 pc = xm_p99 pc := by
    unfold xm_P
    rw [if_pos ⟨by decide, hpc⟩]
    rfl
  rw [e]
  exact xm_rg xm_k99_0 pc (by omega) (by omega)
set_option maxRecDepth 100000 in
theorem xm_k100_0 : (List.range' 0 30).all (fun pc => xm_at1 5 false none prog_6_method_3_code pc (xm_p100 pc)) = true := by decide +kernel
set_option maxRecDepth 100000 in
theorem xm_c100 : xm_chk 100 = true := by
  refine xm_chk_mk (m := (⟨"WaterWorks$Guard", "remember", "(LWaterWorks$Station;LWaterWorks$Call;)V"⟩, prog_6_method_3_code, 3, none, 5, 3, 30)) rfl (by decide) (by decide) (fun pc hpc => ?_)
  have hpc2 : pc < 30 := hpc
  have e : xm_P 100 pc = xm_p100 pc := by
    unfold xm_P
    rw [if_pos ⟨by decide, hpc⟩]
    rfl
  rw [e]
  exact xm_rg xm_k100_0 pc (by omega) (by omega)
set_option maxRecDepth 100000 in
theorem xm_k101_0 : (List.range' 0 33).all (fun pc => xm_at1 5 false (some (.object "WaterWorks$Call")) prog_6_method_2_code pc (xm_p101 pc)) = true := by decide +kernel
set_option maxRecDepth 100000 in
theorem xm_c101 : xm_chk 101 = true := by
  refine xm_chk_mk (m := (⟨"WaterWorks$Guard", "remembered", "(LWaterWorks$Station;)LWaterWorks$Call;"⟩, prog_6_method_2_code, 2, (some (.object "WaterWorks$Call")), 5, 2, 33)) rfl (by decide) (by decide) (fun pc hpc => ?_)
  have hpc2 : pc < 33 := hpc
  have e : xm_P 101 pc = xm_p101 pc := by
    unfold xm_P
    rw [if_pos ⟨by decide, hpc⟩]
    rfl
  rw [e]
  exact xm_rg xm_k101_0 pc (by omega) (by omega)
set_option maxRecDepth 100000 in
theorem xm_k102_0 : (List.range' 0 43).all (fun pc => xm_at1 6 true none prog_7_method_1_code pc (xm_p102 pc)) = true := by decide +kernel
set_option maxRecDepth 100000 in
theorem xm_c102 : xm_chk 102 = true := by
  refine xm_chk_mk (m := (⟨"WaterWorks$Order", "<init>", "(ILWaterWorks$Tower;LWaterWorks$Station;III)V"⟩, prog_7_method_1_code, 7, none, 6, 7, 43)) rfl (by decide) (by decide) (fun pc hpc => ?_)
  have hpc2 : pc < 43 := hpc
  have e : xm_P 102 pc = xm_p102 pc := by
    unfold xm_P
    rw [if_pos ⟨by decide, hpc⟩]
    rfl
  rw [e]
  exact xm_rg xm_k102_0 pc (by omega) (by omega)
set_option maxRecDepth 100000 in
theorem xm_k103_0 : (List.range' 0 39).all (fun pc => xm_at1 6 false (some .boolean) prog_7_method_3_code pc (xm_p103 pc)) = true := by decide +kernel
set_option maxRecDepth 100000 in
theorem xm_c103 : xm_chk 103 = true := by
  refine xm_chk_mk (m := (⟨"WaterWorks$Order", "asksLike", "(LWaterWorks$Order;)Z"⟩, prog_7_method_3_code, 2, (some .boolean), 6, 2, 39)) rfl (by decide) (by decide) (fun pc hpc => ?_)
  have hpc2 : pc < 39 := hpc
  have e : xm_P 103 pc = xm_p103 pc := by
    unfold xm_P
    rw [if_pos ⟨by decide, hpc⟩]
    rfl
  rw [e]
  exact xm_rg xm_k103_0 pc (by omega) (by omega)
set_option maxRecDepth 100000 in
theorem xm_k104_0 : (List.range' 0 23).all (fun pc => xm_at1 6 false (some .boolean) prog_7_method_2_code pc (xm_p104 pc)) = true := by decide +kernel
set_option maxRecDepth 100000 in
theorem xm_c104 : xm_chk 104 = true := by
  refine xm_chk_mk (m := (⟨"WaterWorks$Order", "isUnderWay", "()Z"⟩, prog_7_method_2_code, 1, (some .boolean), 6, 1, 23)) rfl (by decide) (by decide) (fun pc hpc => ?_)
  have hpc2 : pc < 23 := hpc
  have e : xm_P 104 pc = xm_p104 pc := by
    unfold xm_P
    rw [if_pos ⟨by decide, hpc⟩]
    rfl
  rw [e]
  exact xm_rg xm_k104_0 pc (by omega) (by omega)
set_option maxRecDepth 100000 in
theorem xm_k105_0 : (List.range' 0 74).all (fun pc => xm_at1 7 true none prog_8_method_1_code pc (xm_p105 pc)) = true := by decide +kernel
set_option maxRecDepth 100000 in
theorem xm_c105 : xm_chk 105 = true := by
  refine xm_chk_mk (m := (⟨"WaterWorks$Plan", "<init>", "(LWaterWorks$Tower;LWaterWorks$Station;IIIII)V"⟩, prog_8_method_1_code, 8, none, 7, 8, 74)) rfl (by decide) (by decide) (fun pc hpc => ?_)
  have hpc2 : pc < 74 := hpc
  have e : xm_P 105 pc = xm_p105 pc := by
    unfold xm_P
    rw [if_pos ⟨by decide, hpc⟩]
    rfl
  rw [e]
  exact xm_rg xm_k105_0 pc (by omega) (by omega)
set_option maxRecDepth 100000 in
theorem xm_k106_0 : (List.range' 0 32).all (fun pc => xm_at1 8 true none prog_9_method_1_code pc (xm_p106 pc)) = true := by decide +kernel
set_option maxRecDepth 100000 in
theorem xm_c106 : xm_chk 106 = true := by
  refine xm_chk_mk (m := (⟨"WaterWorks$Span", "<init>", "(LWaterWorks$Station;IIII)V"⟩, prog_9_method_1_code, 6, none, 8, 6, 32)) rfl (by decide) (by decide) (fun pc hpc => ?_)
  have hpc2 : pc < 32 := hpc
  have e : xm_P 106 pc = xm_p106 pc := by
    unfold xm_P
    rw [if_pos ⟨by decide, hpc⟩]
    rfl
  rw [e]
  exact xm_rg xm_k106_0 pc (by omega) (by omega)
set_option maxRecDepth 100000 in
theorem xm_k107_0 : (List.range' 0 38).all (fun pc => xm_at1 8 false (some .boolean) prog_9_method_2_code pc (xm_p107 pc)) = true := by decide +kernel
set_option maxRecDepth 100000 in
theorem xm_c107 : xm_chk 107 = true := by
  refine xm_chk_mk (m := (⟨"WaterWorks$Span", "covers", "(LWaterWorks$Station;II)Z"⟩, prog_9_method_2_code, 4, (some .boolean), 8, 4, 38)) rfl (by decide) (by decide) (fun pc hpc => ?_)
  have hpc2 : pc < 38 := hpc
  have e : xm_P 107 pc = xm_p107 pc := by
    unfold xm_P
    rw [if_pos ⟨by decide, hpc⟩]
    rfl
  rw [e]
  exact xm_rg xm_k107_0 pc (by omega) (by omega)
set_option maxRecDepth 100000 in
theorem xm_k108_0 : (List.range' 0 26).all (fun pc => xm_at1 9 true none prog_10_method_1_code pc (xm_p108 pc)) = true := by decide +kernel
set_option maxRecDepth 100000 in
theorem xm_c108 : xm_chk 108 = true := by
  refine xm_chk_mk (m := (⟨"WaterWorks$Station", "<init>", "(IIII)V"⟩, prog_10_method_1_code, 5, none, 9, 5, 26)) rfl (by decide) (by decide) (fun pc hpc => ?_)
  have hpc2 : pc < 26 := hpc
  have e : xm_P 108 pc = xm_p108 pc := by
    unfold xm_P
    rw [if_pos ⟨by decide, hpc⟩]
    rfl
  rw [e]
  exact xm_rg xm_k108_0 pc (by omega) (by omega)
set_option maxRecDepth 100000 in
theorem xm_k109_0 : (List.range' 0 16).all (fun pc => xm_at1 10 true none prog_11_method_1_code pc (xm_p109 pc)) = true := by decide +kernel
set_option maxRecDepth 100000 in
theorem xm_c109 : xm_chk 109 = true := by
  refine xm_chk_mk (m := (⟨"WaterWorks$Tower", "<init>", "()V"⟩, prog_11_method_1_code, 1, none, 10, 1, 16)) rfl (by decide) (by decide) (fun pc hpc => ?_)
  have hpc2 : pc < 16 := hpc
  have e : xm_P 109 pc = xm_p109 pc := by
    unfold xm_P
    rw [if_pos ⟨by decide, hpc⟩]
    rfl
  rw [e]
  exact xm_rg xm_k109_0 pc (by omega) (by omega)
set_option maxRecDepth 100000 in
theorem xm_k110_0 : (List.range' 0 41).all (fun pc => xm_at1 10 false (some .boolean) prog_11_method_2_code pc (xm_p110 pc)) = true := by decide +kernel
set_option maxRecDepth 100000 in
theorem xm_c110 : xm_chk 110 = true := by
  refine xm_chk_mk (m := (⟨"WaterWorks$Tower", "hasSort", "(I)Z"⟩, prog_11_method_2_code, 3, (some .boolean), 10, 2, 41)) rfl (by decide) (by decide) (fun pc hpc => ?_)
  have hpc2 : pc < 41 := hpc
  have e : xm_P 110 pc = xm_p110 pc := by
    unfold xm_P
    rw [if_pos ⟨by decide, hpc⟩]
    rfl
  rw [e]
  exact xm_rg xm_k110_0 pc (by omega) (by omega)
set_option maxRecDepth 100000 in
theorem xm_k111_0 : (List.range' 0 31).all (fun pc => xm_at1 10 false (some (.object "WaterWorks$Guard")) prog_11_method_3_code pc (xm_p111 pc)) = true := by decide +kernel
set_option maxRecDepth 100000 in
theorem xm_c111 : xm_chk 111 = true := by
  refine xm_chk_mk (m := (⟨"WaterWorks$Tower", "guardAtDepth", "(I)LWaterWorks$Guard;"⟩, prog_11_method_3_code, 2, (some (.object "WaterWorks$Guard")), 10, 2, 31)) rfl (by decide) (by decide) (fun pc hpc => ?_)
  have hpc2 : pc < 31 := hpc
  have e : xm_P 111 pc = xm_p111 pc := by
    unfold xm_P
    rw [if_pos ⟨by decide, hpc⟩]
    rfl
  rw [e]
  exact xm_rg xm_k111_0 pc (by omega) (by omega)
set_option maxRecDepth 100000 in
theorem xm_k112_0 : (List.range' 0 120).all (fun pc => xm_at1 11 true none prog_13_method_1_code pc (xm_p112 pc)) = true := by decide +kernel
set_option maxRecDepth 100000 in
theorem xm_k112_1 : (List.range' 120 120).all (fun pc => xm_at1 11 true none prog_13_method_1_code pc (xm_p112 pc)) = true := by decide +kernel
set_option maxRecDepth 100000 in
theorem xm_k112_2 : (List.range' 240 120).all (fun pc => xm_at1 11 true none prog_13_method_1_code pc (xm_p112 pc)) = true := by decide +kernel
set_option maxRecDepth 100000 in
theorem xm_k112_3 : (List.range' 360 120).all (fun pc => xm_at1 11 true none prog_13_method_1_code pc (xm_p112 pc)) = true := by decide +kernel
set_option maxRecDepth 100000 in
theorem xm_k112_4 : (List.range' 480 120).all (fun pc => xm_at1 11 true none prog_13_method_1_code pc (xm_p112 pc)) = true := by decide +kernel
set_option maxRecDepth 100000 in
theorem xm_k112_5 : (List.range' 600 120).all (fun pc => xm_at1 11 true none prog_13_method_1_code pc (xm_p112 pc)) = true := by decide +kernel
set_option maxRecDepth 100000 in
theorem xm_k112_6 : (List.range' 720 120).all (fun pc => xm_at1 11 true none prog_13_method_1_code pc (xm_p112 pc)) = true := by decide +kernel
set_option maxRecDepth 100000 in
theorem xm_k112_7 : (List.range' 840 40).all (fun pc => xm_at1 11 true none prog_13_method_1_code pc (xm_p112 pc)) = true := by decide +kernel
set_option maxRecDepth 100000 in
theorem xm_c112 : xm_chk 112 = true := by
  refine xm_chk_mk (m := (⟨"WaterWorksModel", "<init>", "()V"⟩, prog_13_method_1_code, 1, none, 11, 1, 880)) rfl (by decide) (by decide) (fun pc hpc => ?_)
  have hpc2 : pc < 880 := hpc
  have e : xm_P 112 pc = xm_p112 pc := by
    unfold xm_P
    rw [if_pos ⟨by decide, hpc⟩]
    rfl
  rw [e]
  by_cases h0 : pc < 120
  · exact xm_rg xm_k112_0 pc (by omega) (by omega)
  by_cases h1 : pc < 240
  · exact xm_rg xm_k112_1 pc (by omega) (by omega)
  by_cases h2 : pc < 360
  · exact xm_rg xm_k112_2 pc (by omega) (by omega)
  by_cases h3 : pc < 480
  · exact xm_rg xm_k112_3 pc (by omega) (by omega)
  by_cases h4 : pc < 600
  · exact xm_rg xm_k112_4 pc (by omega) (by omega)
  by_cases h5 : pc < 720
  · exact xm_rg xm_k112_5 pc (by omega) (by omega)
  by_cases h6 : pc < 840
  · exact xm_rg xm_k112_6 pc (by omega) (by omega)
  exact xm_rg xm_k112_7 pc (by omega) (by omega)
