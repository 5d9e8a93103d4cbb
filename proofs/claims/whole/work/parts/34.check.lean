/-! ===== the table agrees with the bytes ===== -/
theorem xm_chk_mk {K : Nat} {m : xm_MT} (hm : xm_M[K]? = some m) (h1 : m.2.2.1 ≤ 11) (h2 : m.2.2.2.2.2.1 ≤ m.2.2.1) (h : ∀ pc, pc < xm_sz K → xm_at1 m.2.2.2.2.1 (decide (m.1.name = "<init>")) m.2.2.2.1 m.2.1 pc (xm_P K pc) = true) : xm_chk K = true := by
  unfold xm_chk
  rw [hm]
  simp only [Bool.and_eq_true, decide_eq_true_eq, List.all_eq_true, List.mem_range]
  exact ⟨h1, h2, h⟩
theorem xm_rg {f : Nat → Bool} {lo n : Nat} (h : (List.range' lo n).all f = true) (x : Nat) (h1 : lo ≤ x) (h2 : x < lo + n) : f x = true := List.all_eq_true.mp h x (List.mem_range'_1.mpr ⟨h1, h2⟩)
set_option maxRecDepth 100000 in
theorem xm_k0_0 : (List.range' 0 120).all (fun pc => xm_at1 0 true none prog_1_method_1_code pc (xm_p0 pc)) = true := by decide +kernel
set_option maxRecDepth 100000 in
theorem xm_k0_1 : (List.range' 120 43).all (fun pc => xm_at1 0 true none prog_1_method_1_code pc (xm_p0 pc)) = true := by decide +kernel
set_option maxRecDepth 100000 in
theorem xm_c0 : xm_chk 0 = true := by
  refine xm_chk_mk (m := (⟨"WaterWorks", "<init>", "()V"⟩, prog_1_method_1_code, 1, none, 0, 1, 163)) rfl (by decide) (by decide) (fun pc hpc => ?_)
  have hpc2 : pc < 163 := hpc
  have e : xm_P 0 pc = xm_p0 pc := by
    unfold xm_P
    rw [if_pos ⟨by decide, hpc⟩]
    rfl
  rw [e]
  by_cases h0 : pc < 120
  · exact xm_rg xm_k0_0 pc (by omega) (by omega)
  exact xm_rg xm_k0_1 pc (by omega) (by omega)
set_option maxRecDepth 100000 in
theorem xm_k1_0 : (List.range' 0 82).all (fun pc => xm_at1 0 false (some .int) prog_1_method_2_code pc (xm_p1 pc)) = true := by decide +kernel
set_option maxRecDepth 100000 in
theorem xm_c1 : xm_chk 1 = true := by
  refine xm_chk_mk (m := (⟨"WaterWorks", "station", "(III)I"⟩, prog_1_method_2_code, 4, (some .int), 0, 4, 82)) rfl (by decide) (by decide) (fun pc hpc => ?_)
  have hpc2 : pc < 82 := hpc
  have e : xm_P 1 pc = xm_p1 pc := by
    unfold xm_P
    rw [if_pos ⟨by decide, hpc⟩]
    rfl
  rw [e]
  exact xm_rg xm_k1_0 pc (by omega) (by omega)
set_option maxRecDepth 100000 in
theorem xm_k2_0 : (List.range' 0 16).all (fun pc => xm_at1 0 false (some .boolean) prog_1_method_41_code pc (xm_p2 pc)) = true := by decide +kernel
set_option maxRecDepth 100000 in
theorem xm_c2 : xm_chk 2 = true := by
  refine xm_chk_mk (m := (⟨"WaterWorks", "within", "(III)Z"⟩, prog_1_method_41_code, 3, (some .boolean), 0, 3, 16)) rfl (by decide) (by decide) (fun pc hpc => ?_)
  have hpc2 : pc < 16 := hpc
  have e : xm_P 2 pc = xm_p2 pc := by
    unfold xm_P
    rw [if_pos ⟨by decide, hpc⟩]
    rfl
  rw [e]
  exact xm_rg xm_k2_0 pc (by omega) (by omega)
set_option maxRecDepth 100000 in
theorem xm_k3_0 : (List.range' 0 22).all (fun pc => xm_at1 0 false (some .int) prog_1_method_3_code pc (xm_p3 pc)) = true := by decide +kernel
set_option maxRecDepth 100000 in
theorem xm_c3 : xm_chk 3 = true := by
  refine xm_chk_mk (m := (⟨"WaterWorks", "fault", "(IIIII)I"⟩, prog_1_method_3_code, 6, (some .int), 0, 6, 22)) rfl (by decide) (by decide) (fun pc hpc => ?_)
  have hpc2 : pc < 22 := hpc
  have e : xm_P 3 pc = xm_p3 pc := by
    unfold xm_P
    rw [if_pos ⟨by decide, hpc⟩]
    rfl
  rw [e]
  exact xm_rg xm_k3_0 pc (by omega) (by omega)
set_option maxRecDepth 100000 in
theorem xm_k4_0 : (List.range' 0 31).all (fun pc => xm_at1 0 false (some (.object "WaterWorks$Station")) prog_1_method_43_code pc (xm_p4 pc)) = true := by decide +kernel
set_option maxRecDepth 100000 in
theorem xm_c4 : xm_chk 4 = true := by
  refine xm_chk_mk (m := (⟨"WaterWorks", "stationAt", "(I)LWaterWorks$Station;"⟩, prog_1_method_43_code, 2, (some (.object "WaterWorks$Station")), 0, 2, 31)) rfl (by decide) (by decide) (fun pc hpc => ?_)
  have hpc2 : pc < 31 := hpc
  have e : xm_P 4 pc = xm_p4 pc := by
    unfold xm_P
    rw [if_pos ⟨by decide, hpc⟩]
    rfl
  rw [e]
  exact xm_rg xm_k4_0 pc (by omega) (by omega)
set_option maxRecDepth 100000 in
theorem xm_k5_0 : (List.range' 0 78).all (fun pc => xm_at1 0 false (some .int) prog_1_method_5_code pc (xm_p5 pc)) = true := by decide +kernel
set_option maxRecDepth 100000 in
theorem xm_c5 : xm_chk 5 = true := by
  refine xm_chk_mk (m := (⟨"WaterWorks", "addSpan", "(Ljava/util/ArrayList;LWaterWorks$Station;IIIII)I"⟩, prog_1_method_5_code, 8, (some .int), 0, 8, 78)) rfl (by decide) (by decide) (fun pc hpc => ?_)
  have hpc2 : pc < 78 := hpc
  have e : xm_P 5 pc = xm_p5 pc := by
    unfold xm_P
    rw [if_pos ⟨by decide, hpc⟩]
    rfl
  rw [e]
  exact xm_rg xm_k5_0 pc (by omega) (by omega)
set_option maxRecDepth 100000 in
theorem xm_k6_0 : (List.range' 0 23).all (fun pc => xm_at1 0 false (some .int) prog_1_method_4_code pc (xm_p6 pc)) = true := by decide +kernel
set_option maxRecDepth 100000 in
theorem xm_c6 : xm_chk 6 = true := by
  refine xm_chk_mk (m := (⟨"WaterWorks", "slow", "(IIIII)I"⟩, prog_1_method_4_code, 6, (some .int), 0, 6, 23)) rfl (by decide) (by decide) (fun pc hpc => ?_)
  have hpc2 : pc < 23 := hpc
  have e : xm_P 6 pc = xm_p6 pc := by
    unfold xm_P
    rw [if_pos ⟨by decide, hpc⟩]
    rfl
  rw [e]
  exact xm_rg xm_k6_0 pc (by omega) (by omega)
set_option maxRecDepth 100000 in
theorem xm_k7_0 : (List.range' 0 91).all (fun pc => xm_at1 0 false (some .int) prog_1_method_6_code pc (xm_p7 pc)) = true := by decide +kernel
set_option maxRecDepth 100000 in
theorem xm_c7 : xm_chk 7 = true := by
  refine xm_chk_mk (m := (⟨"WaterWorks", "guard", "(IIIII)I"⟩, prog_1_method_6_code, 6, (some .int), 0, 6, 91)) rfl (by decide) (by decide) (fun pc hpc => ?_)
  have hpc2 : pc < 91 := hpc
  have e : xm_P 7 pc = xm_p7 pc := by
    unfold xm_P
    rw [if_pos ⟨by decide, hpc⟩]
    rfl
  rw [e]
  exact xm_rg xm_k7_0 pc (by omega) (by omega)
set_option maxRecDepth 100000 in
theorem xm_k8_0 : (List.range' 0 119).all (fun pc => xm_at1 0 false (some .boolean) prog_1_method_7_code pc (xm_p8 pc)) = true := by decide +kernel
set_option maxRecDepth 100000 in
theorem xm_c8 : xm_chk 8 = true := by
  refine xm_chk_mk (m := (⟨"WaterWorks", "fitsSort", "(IIIII)Z"⟩, prog_1_method_7_code, 5, (some .boolean), 0, 5, 119)) rfl (by decide) (by decide) (fun pc hpc => ?_)
  have hpc2 : pc < 119 := hpc
  have e : xm_P 8 pc = xm_p8 pc := by
    unfold xm_P
    rw [if_pos ⟨by decide, hpc⟩]
    rfl
  rw [e]
  exact xm_rg xm_k8_0 pc (by omega) (by omega)
set_option maxRecDepth 100000 in
theorem xm_k9_0 : (List.range' 0 69).all (fun pc => xm_at1 0 false (some .int) prog_1_method_8_code pc (xm_p9 pc)) = true := by decide +kernel
set_option maxRecDepth 100000 in
theorem xm_c9 : xm_chk 9 = true := by
  refine xm_chk_mk (m := (⟨"WaterWorks", "on", "(I)I"⟩, prog_1_method_8_code, 3, (some .int), 0, 2, 69)) rfl (by decide) (by decide) (fun pc hpc => ?_)
  have hpc2 : pc < 69 := hpc
  have e : xm_P 9 pc = xm_p9 pc := by
    unfold xm_P
    rw [if_pos ⟨by decide, hpc⟩]
    rfl
  rw [e]
  exact xm_rg xm_k9_0 pc (by omega) (by omega)
set_option maxRecDepth 100000 in
theorem xm_k10_0 : (List.range' 0 31).all (fun pc => xm_at1 0 false (some (.object "WaterWorks$Guard")) prog_1_method_44_code pc (xm_p10 pc)) = true := by decide +kernel
set_option maxRecDepth 100000 in
theorem xm_c10 : xm_chk 10 = true := by
  refine xm_chk_mk (m := (⟨"WaterWorks", "guardAt", "(I)LWaterWorks$Guard;"⟩, prog_1_method_44_code, 2, (some (.object "WaterWorks$Guard")), 0, 2, 31)) rfl (by decide) (by decide) (fun pc hpc => ?_)
  have hpc2 : pc < 31 := hpc
  have e : xm_P 10 pc = xm_p10 pc := by
    unfold xm_P
    rw [if_pos ⟨by decide, hpc⟩]
    rfl
  rw [e]
  exact xm_rg xm_k10_0 pc (by omega) (by omega)
set_option maxRecDepth 100000 in
theorem xm_k11_0 : (List.range' 0 48).all (fun pc => xm_at1 0 false (some .int) prog_1_method_9_code pc (xm_p11 pc)) = true := by decide +kernel
set_option maxRecDepth 100000 in
theorem xm_c11 : xm_chk 11 = true := by
  refine xm_chk_mk (m := (⟨"WaterWorks", "tower", "()I"⟩, prog_1_method_9_code, 1, (some .int), 0, 1, 48)) rfl (by decide) (by decide) (fun pc hpc => ?_)
  have hpc2 : pc < 48 := hpc
  have e : xm_P 11 pc = xm_p11 pc := by
    unfold xm_P
    rw [if_pos ⟨by decide, hpc⟩]
    rfl
  rw [e]
  exact xm_rg xm_k11_0 pc (by omega) (by omega)
set_option maxRecDepth 100000 in
theorem xm_k12_0 : (List.range' 0 86).all (fun pc => xm_at1 0 false (some .int) prog_1_method_10_code pc (xm_p12 pc)) = true := by decide +kernel
set_option maxRecDepth 100000 in
theorem xm_c12 : xm_chk 12 = true := by
  refine xm_chk_mk (m := (⟨"WaterWorks", "order", "(IIIII)I"⟩, prog_1_method_10_code, 8, (some .int), 0, 6, 86)) rfl (by decide) (by decide) (fun pc hpc => ?_)
  have hpc2 : pc < 86 := hpc
  have e : xm_P 12 pc = xm_p12 pc := by
    unfold xm_P
    rw [if_pos ⟨by decide, hpc⟩]
    rfl
  rw [e]
  exact xm_rg xm_k12_0 pc (by omega) (by omega)
set_option maxRecDepth 100000 in
theorem xm_k13_0 : (List.range' 0 31).all (fun pc => xm_at1 0 false (some (.object "WaterWorks$Tower")) prog_1_method_46_code pc (xm_p13 pc)) = true := by decide +kernel
set_option maxRecDepth 100000 in
theorem xm_c13 : xm_chk 13 = true := by
  refine xm_chk_mk (m := (⟨"WaterWorks", "towerAt", "(I)LWaterWorks$Tower;"⟩, prog_1_method_46_code, 2, (some (.object "WaterWorks$Tower")), 0, 2, 31)) rfl (by decide) (by decide) (fun pc hpc => ?_)
  have hpc2 : pc < 31 := hpc
  have e : xm_P 13 pc = xm_p13 pc := by
    unfold xm_P
    rw [if_pos ⟨by decide, hpc⟩]
    rfl
  rw [e]
  exact xm_rg xm_k13_0 pc (by omega) (by omega)
set_option maxRecDepth 100000 in
theorem xm_k14_0 : (List.range' 0 33).all (fun pc => xm_at1 0 false (some .boolean) prog_1_method_11_code pc (xm_p14 pc)) = true := by decide +kernel
set_option maxRecDepth 100000 in
theorem xm_c14 : xm_chk 14 = true := by
  refine xm_chk_mk (m := (⟨"WaterWorks", "fitsAct", "(II)Z"⟩, prog_1_method_11_code, 2, (some .boolean), 0, 2, 33)) rfl (by decide) (by decide) (fun pc hpc => ?_)
  have hpc2 : pc < 33 := hpc
  have e : xm_P 14 pc = xm_p14 pc := by
    unfold xm_P
    rw [if_pos ⟨by decide, hpc⟩]
    rfl
  rw [e]
  exact xm_rg xm_k14_0 pc (by omega) (by omega)
set_option maxRecDepth 100000 in
theorem xm_k15_0 : (List.range' 0 20).all (fun pc => xm_at1 0 false (some .int) prog_1_method_12_code pc (xm_p15 pc)) = true := by decide +kernel
set_option maxRecDepth 100000 in
theorem xm_c15 : xm_chk 15 = true := by
  refine xm_chk_mk (m := (⟨"WaterWorks", "startOrder", "(LWaterWorks$Order;)I"⟩, prog_1_method_12_code, 2, (some .int), 0, 2, 20)) rfl (by decide) (by decide) (fun pc hpc => ?_)
  have hpc2 : pc < 20 := hpc
  have e : xm_P 15 pc = xm_p15 pc := by
    unfold xm_P
    rw [if_pos ⟨by decide, hpc⟩]
    rfl
  rw [e]
  exact xm_rg xm_k15_0 pc (by omega) (by omega)
set_option maxRecDepth 100000 in
theorem xm_k16_0 : (List.range' 0 62).all (fun pc => xm_at1 0 false none prog_1_method_50_code pc (xm_p16 pc)) = true := by decide +kernel
set_option maxRecDepth 100000 in
theorem xm_c16 : xm_chk 16 = true := by
  refine xm_chk_mk (m := (⟨"WaterWorks", "begin", "(LWaterWorks$Order;LWaterWorks$Call;)V"⟩, prog_1_method_50_code, 6, none, 0, 3, 62)) rfl (by decide) (by decide) (fun pc hpc => ?_)
  have hpc2 : pc < 62 := hpc
  have e : xm_P 16 pc = xm_p16 pc := by
    unfold xm_P
    rw [if_pos ⟨by decide, hpc⟩]
    rfl
  rw [e]
  exact xm_rg xm_k16_0 pc (by omega) (by omega)
set_option maxRecDepth 100000 in
theorem xm_k17_0 : (List.range' 0 84).all (fun pc => xm_at1 0 false (some (.object "WaterWorks$Call")) prog_1_method_51_code pc (xm_p17 pc)) = true := by decide +kernel
set_option maxRecDepth 100000 in
theorem xm_c17 : xm_chk 17 = true := by
  refine xm_chk_mk (m := (⟨"WaterWorks", "addCall", "(LWaterWorks$Order;LWaterWorks$Call;LWaterWorks$Guard;)LWaterWorks$Call;"⟩, prog_1_method_51_code, 5, (some (.object "WaterWorks$Call")), 0, 4, 84)) rfl (by decide) (by decide) (fun pc hpc => ?_)
  have hpc2 : pc < 84 := hpc
  have e : xm_P 17 pc = xm_p17 pc := by
    unfold xm_P
    rw [if_pos ⟨by decide, hpc⟩]
    rfl
  rw [e]
  exact xm_rg xm_k17_0 pc (by omega) (by omega)
set_option maxRecDepth 100000 in
theorem xm_k18_0 : (List.range' 0 90).all (fun pc => xm_at1 0 false none prog_1_method_52_code pc (xm_p18 pc)) = true := by decide +kernel
set_option maxRecDepth 100000 in
theorem xm_c18 : xm_chk 18 = true := by
  refine xm_chk_mk (m := (⟨"WaterWorks", "startTry", "(LWaterWorks$Call;LWaterWorks$Station;)V"⟩, prog_1_method_52_code, 5, none, 0, 3, 90)) rfl (by decide) (by decide) (fun pc hpc => ?_)
  have hpc2 : pc < 90 := hpc
  have e : xm_P 18 pc = xm_p18 pc := by
    unfold xm_P
    rw [if_pos ⟨by decide, hpc⟩]
    rfl
  rw [e]
  exact xm_rg xm_k18_0 pc (by omega) (by omega)
set_option maxRecDepth 100000 in
theorem xm_k19_0 : (List.range' 0 120).all (fun pc => xm_at1 0 false none prog_1_method_54_code pc (xm_p19 pc)) = true := by decide +kernel
set_option maxRecDepth 100000 in
theorem xm_k19_1 : (List.range' 120 8).all (fun pc => xm_at1 0 false none prog_1_method_54_code pc (xm_p19 pc)) = true := by decide +kernel
set_option maxRecDepth 100000 in
theorem xm_c19 : xm_chk 19 = true := by
  refine xm_chk_mk (m := (⟨"WaterWorks", "enter", "(LWaterWorks$Call;LWaterWorks$Guard;)V"⟩, prog_1_method_54_code, 3, none, 0, 3, 128)) rfl (by decide) (by decide) (fun pc hpc => ?_)
  have hpc2 : pc < 128 := hpc
  have e : xm_P 19 pc = xm_p19 pc := by
    unfold xm_P
    rw [if_pos ⟨by decide, hpc⟩]
    rfl
  rw [e]
  by_cases h0 : pc < 120
  · exact xm_rg xm_k19_0 pc (by omega) (by omega)
  exact xm_rg xm_k19_1 pc (by omega) (by omega)
set_option maxRecDepth 100000 in
theorem xm_k20_0 : (List.range' 0 65).all (fun pc => xm_at1 0 false none prog_1_method_55_code pc (xm_p20 pc)) = true := by decide +kernel
set_option maxRecDepth 100000 in
theorem xm_c20 : xm_chk 20 = true := by
  refine xm_chk_mk (m := (⟨"WaterWorks", "enterFuse", "(LWaterWorks$Call;LWaterWorks$Guard;)V"⟩, prog_1_method_55_code, 3, none, 0, 3, 65)) rfl (by decide) (by decide) (fun pc hpc => ?_)
  have hpc2 : pc < 65 := hpc
  have e : xm_P 20 pc = xm_p20 pc := by
    unfold xm_P
    rw [if_pos ⟨by decide, hpc⟩]
    rfl
  rw [e]
  exact xm_rg xm_k20_0 pc (by omega) (by omega)
set_option maxRecDepth 100000 in
theorem xm_k21_0 : (List.range' 0 36).all (fun pc => xm_at1 0 false (some (.object "WaterWorks$Failure")) prog_1_method_64_code pc (xm_p21 pc)) = true := by decide +kernel
set_option maxRecDepth 100000 in
theorem xm_c21 : xm_chk 21 = true := by
  refine xm_chk_mk (m := (⟨"WaterWorks", "addFailure", "(ILWaterWorks$Guard;LWaterWorks$Station;)LWaterWorks$Failure;"⟩, prog_1_method_64_code, 5, (some (.object "WaterWorks$Failure")), 0, 4, 36)) rfl (by decide) (by decide) (fun pc hpc => ?_)
  have hpc2 : pc < 36 := hpc
  have e : xm_P 21 pc = xm_p21 pc := by
    unfold xm_P
    rw [if_pos ⟨by decide, hpc⟩]
    rfl
  rw [e]
  exact xm_rg xm_k21_0 pc (by omega) (by omega)
set_option maxRecDepth 100000 in
theorem xm_k22_0 : (List.range' 0 23).all (fun pc => xm_at1 0 false none prog_1_method_66_code pc (xm_p22 pc)) = true := by decide +kernel
set_option maxRecDepth 100000 in
theorem xm_c22 : xm_chk 22 = true := by
  refine xm_chk_mk (m := (⟨"WaterWorks", "endFailed", "(LWaterWorks$Call;LWaterWorks$Failure;)V"⟩, prog_1_method_66_code, 3, none, 0, 3, 23)) rfl (by decide) (by decide) (fun pc hpc => ?_)
  have hpc2 : pc < 23 := hpc
  have e : xm_P 22 pc = xm_p22 pc := by
    unfold xm_P
    rw [if_pos ⟨by decide, hpc⟩]
    rfl
  rw [e]
  exact xm_rg xm_k22_0 pc (by omega) (by omega)
set_option maxRecDepth 100000 in
theorem xm_k23_0 : (List.range' 0 50).all (fun pc => xm_at1 0 false none prog_1_method_68_code pc (xm_p23 pc)) = true := by decide +kernel
set_option maxRecDepth 100000 in
theorem xm_c23 : xm_chk 23 = true := by
  refine xm_chk_mk (m := (⟨"WaterWorks", "finish", "(LWaterWorks$Call;)V"⟩, prog_1_method_68_code, 2, none, 0, 2, 50)) rfl (by decide) (by decide) (fun pc hpc => ?_)
  have hpc2 : pc < 50 := hpc
  have e : xm_P 23 pc = xm_p23 pc := by
    unfold xm_P
    rw [if_pos ⟨by decide, hpc⟩]
    rfl
  rw [e]
  exact xm_rg xm_k23_0 pc (by omega) (by omega)
set_option maxRecDepth 100000 in
theorem xm_k24_0 : (List.range' 0 120).all (fun pc => xm_at1 0 false none prog_1_method_70_code pc (xm_p24 pc)) = true := by decide +kernel
set_option maxRecDepth 100000 in
theorem xm_k24_1 : (List.range' 120 41).all (fun pc => xm_at1 0 false none prog_1_method_70_code pc (xm_p24 pc)) = true := by decide +kernel
set_option maxRecDepth 100000 in
theorem xm_c24 : xm_chk 24 = true := by
  refine xm_chk_mk (m := (⟨"WaterWorks", "tell", "(LWaterWorks$Call;LWaterWorks$Call;)V"⟩, prog_1_method_70_code, 4, none, 0, 3, 161)) rfl (by decide) (by decide) (fun pc hpc => ?_)
  have hpc2 : pc < 161 := hpc
  have e : xm_P 24 pc = xm_p24 pc := by
    unfold xm_P
    rw [if_pos ⟨by decide, hpc⟩]
    rfl
  rw [e]
  by_cases h0 : pc < 120
  · exact xm_rg xm_k24_0 pc (by omega) (by omega)
  exact xm_rg xm_k24_1 pc (by omega) (by omega)
set_option maxRecDepth 100000 in
theorem xm_k25_0 : (List.range' 0 106).all (fun pc => xm_at1 0 false none prog_1_method_72_code pc (xm_p25 pc)) = true := by decide +kernel
set_option maxRecDepth 100000 in
theorem xm_c25 : xm_chk 25 = true := by
  refine xm_chk_mk (m := (⟨"WaterWorks", "tellFuse", "(LWaterWorks$Guard;LWaterWorks$Call;LWaterWorks$Call;)V"⟩, prog_1_method_72_code, 5, none, 0, 4, 106)) rfl (by decide) (by decide) (fun pc hpc => ?_)
  have hpc2 : pc < 106 := hpc
  have e : xm_P 25 pc = xm_p25 pc := by
    unfold xm_P
    rw [if_pos ⟨by decide, hpc⟩]
    rfl
  rw [e]
  exact xm_rg xm_k25_0 pc (by omega) (by omega)
set_option maxRecDepth 100000 in
theorem xm_k26_0 : (List.range' 0 24).all (fun pc => xm_at1 0 false (some .boolean) prog_1_method_71_code pc (xm_p26 pc)) = true := by decide +kernel
set_option maxRecDepth 100000 in
theorem xm_c26 : xm_chk 26 = true := by
  refine xm_chk_mk (m := (⟨"WaterWorks", "names", "(LWaterWorks$Guard;LWaterWorks$Failure;)Z"⟩, prog_1_method_71_code, 2, (some .boolean), 0, 2, 24)) rfl (by decide) (by decide) (fun pc hpc => ?_)
  have hpc2 : pc < 24 := hpc
  have e : xm_P 26 pc = xm_p26 pc := by
    unfold xm_P
    rw [if_pos ⟨by decide, hpc⟩]
    rfl
  rw [e]
  exact xm_rg xm_k26_0 pc (by omega) (by omega)
set_option maxRecDepth 100000 in
theorem xm_k27_0 : (List.range' 0 43).all (fun pc => xm_at1 0 false (some .boolean) prog_1_method_49_code pc (xm_p27 pc)) = true := by decide +kernel
set_option maxRecDepth 100000 in
theorem xm_c27 : xm_chk 27 = true := by
  refine xm_chk_mk (m := (⟨"WaterWorks", "kindIsOf", "(II)Z"⟩, prog_1_method_49_code, 4, (some .boolean), 0, 2, 43)) rfl (by decide) (by decide) (fun pc hpc => ?_)
  have hpc2 : pc < 43 := hpc
  have e : xm_P 27 pc = xm_p27 pc := by
    unfold xm_P
    rw [if_pos ⟨by decide, hpc⟩]
    rfl
  rw [e]
  exact xm_rg xm_k27_0 pc (by omega) (by omega)
set_option maxRecDepth 100000 in
theorem xm_k28_0 : (List.range' 0 16).all (fun pc => xm_at1 0 false none prog_1_method_73_code pc (xm_p28 pc)) = true := by decide +kernel
set_option maxRecDepth 100000 in
theorem xm_c28 : xm_chk 28 = true := by
  refine xm_chk_mk (m := (⟨"WaterWorks", "openFuse", "(LWaterWorks$Guard;I)V"⟩, prog_1_method_73_code, 3, none, 0, 3, 16)) rfl (by decide) (by decide) (fun pc hpc => ?_)
  have hpc2 : pc < 16 := hpc
  have e : xm_P 28 pc = xm_p28 pc := by
    unfold xm_P
    rw [if_pos ⟨by decide, hpc⟩]
    rfl
  rw [e]
  exact xm_rg xm_k28_0 pc (by omega) (by omega)
set_option maxRecDepth 100000 in
theorem xm_k29_0 : (List.range' 0 34).all (fun pc => xm_at1 0 false none prog_1_method_67_code pc (xm_p29 pc)) = true := by decide +kernel
set_option maxRecDepth 100000 in
theorem xm_c29 : xm_chk 29 = true := by
  refine xm_chk_mk (m := (⟨"WaterWorks", "endAlike", "(LWaterWorks$Call;LWaterWorks$Call;)V"⟩, prog_1_method_67_code, 3, none, 0, 3, 34)) rfl (by decide) (by decide) (fun pc hpc => ?_)
  have hpc2 : pc < 34 := hpc
  have e : xm_P 29 pc = xm_p29 pc := by
    unfold xm_P
    rw [if_pos ⟨by decide, hpc⟩]
    rfl
  rw [e]
  exact xm_rg xm_k29_0 pc (by omega) (by omega)
set_option maxRecDepth 100000 in
theorem xm_k30_0 : (List.range' 0 28).all (fun pc => xm_at1 0 false none prog_1_method_65_code pc (xm_p30 pc)) = true := by decide +kernel
set_option maxRecDepth 100000 in
theorem xm_c30 : xm_chk 30 = true := by
  refine xm_chk_mk (m := (⟨"WaterWorks", "endGood", "(LWaterWorks$Call;IZ)V"⟩, prog_1_method_65_code, 4, none, 0, 4, 28)) rfl (by decide) (by decide) (fun pc hpc => ?_)
  have hpc2 : pc < 28 := hpc
  have e : xm_P 30 pc = xm_p30 pc := by
    unfold xm_P
    rw [if_pos ⟨by decide, hpc⟩]
    rfl
  rw [e]
  exact xm_rg xm_k30_0 pc (by omega) (by omega)
set_option maxRecDepth 100000 in
theorem xm_k31_0 : (List.range' 0 110).all (fun pc => xm_at1 0 false none prog_1_method_74_code pc (xm_p31 pc)) = true := by decide +kernel
set_option maxRecDepth 100000 in
theorem xm_c31 : xm_chk 31 = true := by
  refine xm_chk_mk (m := (⟨"WaterWorks", "tellRetry", "(LWaterWorks$Guard;LWaterWorks$Call;LWaterWorks$Call;)V"⟩, prog_1_method_74_code, 5, none, 0, 4, 110)) rfl (by decide) (by decide) (fun pc hpc => ?_)
  have hpc2 : pc < 110 := hpc
  have e : xm_P 31 pc = xm_p31 pc := by
    unfold xm_P
    rw [if_pos ⟨by decide, hpc⟩]
    rfl
  rw [e]
  exact xm_rg xm_k31_0 pc (by omega) (by omega)
set_option maxRecDepth 100000 in
theorem xm_k32_0 : (List.range' 0 22).all (fun pc => xm_at1 0 false none prog_1_method_75_code pc (xm_p32 pc)) = true := by decide +kernel
set_option maxRecDepth 100000 in
theorem xm_c32 : xm_chk 32 = true := by
  refine xm_chk_mk (m := (⟨"WaterWorks", "suppress", "(LWaterWorks$Failure;LWaterWorks$Failure;)V"⟩, prog_1_method_75_code, 2, none, 0, 2, 22)) rfl (by decide) (by decide) (fun pc hpc => ?_)
  have hpc2 : pc < 22 := hpc
  have e : xm_P 32 pc = xm_p32 pc := by
    unfold xm_P
    rw [if_pos ⟨by decide, hpc⟩]
    rfl
  rw [e]
  exact xm_rg xm_k32_0 pc (by omega) (by omega)
set_option maxRecDepth 100000 in
theorem xm_k33_0 : (List.range' 0 104).all (fun pc => xm_at1 0 false none prog_1_method_76_code pc (xm_p33 pc)) = true := by decide +kernel
set_option maxRecDepth 100000 in
theorem xm_c33 : xm_chk 33 = true := by
  refine xm_chk_mk (m := (⟨"WaterWorks", "tellHedge", "(LWaterWorks$Call;LWaterWorks$Call;)V"⟩, prog_1_method_76_code, 4, none, 0, 3, 104)) rfl (by decide) (by decide) (fun pc hpc => ?_)
  have hpc2 : pc < 104 := hpc
  have e : xm_P 33 pc = xm_p33 pc := by
    unfold xm_P
    rw [if_pos ⟨by decide, hpc⟩]
    rfl
  rw [e]
  exact xm_rg xm_k33_0 pc (by omega) (by omega)
set_option maxRecDepth 100000 in
theorem xm_k34_0 : (List.range' 0 120).all (fun pc => xm_at1 0 false (some .int) prog_1_method_81_code pc (xm_p34 pc)) = true := by decide +kernel
set_option maxRecDepth 100000 in
theorem xm_k34_1 : (List.range' 120 71).all (fun pc => xm_at1 0 false (some .int) prog_1_method_81_code pc (xm_p34 pc)) = true := by decide +kernel
set_option maxRecDepth 100000 in
theorem xm_c34 : xm_chk 34 = true := by
  refine xm_chk_mk (m := (⟨"WaterWorks", "takeBack", "(LWaterWorks$Call;)I"⟩, prog_1_method_81_code, 8, (some .int), 0, 2, 191)) rfl (by decide) (by decide) (fun pc hpc => ?_)
  have hpc2 : pc < 191 := hpc
  have e : xm_P 34 pc = xm_p34 pc := by
    unfold xm_P
    rw [if_pos ⟨by decide, hpc⟩]
    rfl
  rw [e]
  by_cases h0 : pc < 120
  · exact xm_rg xm_k34_0 pc (by omega) (by omega)
  exact xm_rg xm_k34_1 pc (by omega) (by omega)
set_option maxRecDepth 100000 in
theorem xm_k35_0 : (List.range' 0 90).all (fun pc => xm_at1 0 false none prog_1_method_82_code pc (xm_p35 pc)) = true := by decide +kernel
set_option maxRecDepth 100000 in
theorem xm_c35 : xm_chk 35 = true := by
  refine xm_chk_mk (m := (⟨"WaterWorks", "release", "(LWaterWorks$Call;)V"⟩, prog_1_method_82_code, 3, none, 0, 2, 90)) rfl (by decide) (by decide) (fun pc hpc => ?_)
  have hpc2 : pc < 90 := hpc
  have e : xm_P 35 pc = xm_p35 pc := by
    unfold xm_P
    rw [if_pos ⟨by decide, hpc⟩]
    rfl
  rw [e]
  exact xm_rg xm_k35_0 pc (by omega) (by omega)
set_option maxRecDepth 100000 in
theorem xm_k36_0 : (List.range' 0 94).all (fun pc => xm_at1 0 false none prog_1_method_69_code pc (xm_p36 pc)) = true := by decide +kernel
set_option maxRecDepth 100000 in
theorem xm_c36 : xm_chk 36 = true := by
  refine xm_chk_mk (m := (⟨"WaterWorks", "endJoined", "(LWaterWorks$Call;)V"⟩, prog_1_method_69_code, 5, none, 0, 2, 94)) rfl (by decide) (by decide) (fun pc hpc => ?_)
  have hpc2 : pc < 94 := hpc
  have e : xm_P 36 pc = xm_p36 pc := by
    unfold xm_P
    rw [if_pos ⟨by decide, hpc⟩]
    rfl
  rw [e]
  exact xm_rg xm_k36_0 pc (by omega) (by omega)
set_option maxRecDepth 100000 in
theorem xm_k37_0 : (List.range' 0 94).all (fun pc => xm_at1 0 false none prog_1_method_77_code pc (xm_p37 pc)) = true := by decide +kernel
set_option maxRecDepth 100000 in
theorem xm_c37 : xm_chk 37 = true := by
  refine xm_chk_mk (m := (⟨"WaterWorks", "tellFallback", "(LWaterWorks$Guard;LWaterWorks$Call;LWaterWorks$Call;)V"⟩, prog_1_method_77_code, 6, none, 0, 4, 94)) rfl (by decide) (by decide) (fun pc hpc => ?_)
  have hpc2 : pc < 94 := hpc
  have e : xm_P 37 pc = xm_p37 pc := by
    unfold xm_P
    rw [if_pos ⟨by decide, hpc⟩]
    rfl
  rw [e]
  exact xm_rg xm_k37_0 pc (by omega) (by omega)
set_option maxRecDepth 100000 in
theorem xm_k38_0 : (List.range' 0 44).all (fun pc => xm_at1 0 false none prog_1_method_78_code pc (xm_p38 pc)) = true := by decide +kernel
set_option maxRecDepth 100000 in
theorem xm_c38 : xm_chk 38 = true := by
  refine xm_chk_mk (m := (⟨"WaterWorks", "tellSpare", "(LWaterWorks$Call;LWaterWorks$Call;LWaterWorks$Call;)V"⟩, prog_1_method_78_code, 4, none, 0, 4, 44)) rfl (by decide) (by decide) (fun pc hpc => ?_)
  have hpc2 : pc < 44 := hpc
  have e : xm_P 38 pc = xm_p38 pc := by
    unfold xm_P
    rw [if_pos ⟨by decide, hpc⟩]
    rfl
  rw [e]
  exact xm_rg xm_k38_0 pc (by omega) (by omega)
