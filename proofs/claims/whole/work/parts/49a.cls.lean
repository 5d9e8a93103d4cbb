/-! ===== THE CLASS: its methods (printed by wip/whole/gen49.py out of the bytecode) ===== -/
section
/-- newWaterWorks -/
theorem cw_newWaterWorks {d : Nat}  {S : xm_S} {Q : Option xm_V → xm_S → Prop} (hC : xk_C S) (h : ∀ k1, k1 = xm_n S 0 12 → (∀ S3, S3 = xm_mk 12 3 S → (xm_n S3 2 k1 = 0 ∧ (∀ S6, S6 = xm_sn S3 2 k1 1 → (∀ S8, S8 = xm_sr S6 0 0 0 (some k1) → (∀ k10, k10 = xm_n S8 0 12 → (∀ S12, S12 = xm_mk 12 3 S8 → (xm_n S12 2 k10 = 0 ∧ (∀ S15, S15 = xm_sn S12 2 k10 1 → (∀ S17, S17 = xm_sr S15 0 0 1 (some k10) → (∀ k19, k19 = xm_n S17 0 12 → (∀ S21, S21 = xm_mk 12 3 S17 → (xm_n S21 2 k19 = 0 ∧ (∀ S24, S24 = xm_sn S21 2 k19 1 → (∀ S26, S26 = xm_sr S24 0 0 2 (some k19) → (∀ k28, k28 = xm_n S26 0 12 → (∀ S30, S30 = xm_mk 12 3 S26 → (xm_n S30 2 k28 = 0 ∧ (∀ S33, S33 = xm_sn S30 2 k28 1 → (∀ S35, S35 = xm_sr S33 0 0 3 (some k28) → (∀ k37, k37 = xm_n S35 0 12 → (∀ S39, S39 = xm_mk 12 3 S35 → (xm_n S39 2 k37 = 0 ∧ (∀ S42, S42 = xm_sn S39 2 k37 1 → (∀ S44, S44 = xm_sr S42 0 0 4 (some k37) → (∀ k46, k46 = xm_n S44 0 12 → (∀ S48, S48 = xm_mk 12 3 S44 → (xm_n S48 2 k46 = 0 ∧ (∀ S51, S51 = xm_sn S48 2 k46 1 → (∀ S53, S53 = xm_sr S51 0 0 5 (some k46) → (∀ k55, k55 = xm_n S53 0 12 → (∀ S57, S57 = xm_mk 12 3 S53 → (xm_n S57 2 k55 = 0 ∧ (∀ S60, S60 = xm_sn S57 2 k55 1 → (∀ S62, S62 = xm_sr S60 0 0 6 (some k55) → (∀ k64, k64 = xm_n S62 0 12 → (∀ S66, S66 = xm_mk 12 3 S62 → (xm_n S66 2 k64 = 0 ∧ (∀ S69, S69 = xm_sn S66 2 k64 1 → (∀ S71, S71 = xm_sr S69 0 0 7 (some k64) → (∀ k73, k73 = xm_n S71 0 12 → (∀ S75, S75 = xm_mk 12 3 S71 → (xm_n S75 2 k73 = 0 ∧ (∀ S78, S78 = xm_sn S75 2 k73 1 → (∀ S80, S80 = xm_sr S78 0 0 8 (some k73) → (∀ k82, k82 = xm_n S80 0 12 → (∀ S84, S84 = xm_mk 12 3 S80 → (xm_n S84 2 k82 = 0 ∧ (∀ S87, S87 = xm_sn S84 2 k82 1 → (∀ S89, S89 = xm_sr S87 0 0 9 (some k82) → (∀ k91, k91 = xm_n S89 0 12 → (∀ S93, S93 = xm_mk 12 3 S89 → (xm_n S93 2 k91 = 0 ∧ (∀ S96, S96 = xm_sn S93 2 k91 1 → (∀ S98, S98 = xm_sr S96 0 0 10 (some k91) → (∀ k100, k100 = xm_n S98 0 12 → (∀ S102, S102 = xm_mk 12 3 S98 → (xm_n S102 2 k100 = 0 ∧ (∀ S105, S105 = xm_sn S102 2 k100 1 → (∀ S107, S107 = xm_sr S105 0 0 11 (some k100) → (∀ k109, k109 = xm_n S107 0 10 → (∀ S111, S111 = xm_mk 10 1 S107 → (xc d 109 [.inr (some (10, k109))] S111 (fun r S113 => r = none ∧ xk_C S113 ∧ (∀ S115, S115 = xm_sr S113 0 0 12 (some k109) → (∀ S117, S117 = xm_si S115 0 0 13 (0 : Int32) → (∀ S119, S119 = xm_si S117 0 0 14 (0 : Int32) → (∀ S121, S121 = xm_si S119 0 0 15 (0 : Int32) → (Q none S121))))))))))))))))))))))))))))))))))))))))))))))))))))))))))))))))))))) : xc (d + 1) 0 [.inr (some (0, 0))] S Q := by
  show xw _ _ _ [some (.inr (some (0, 0)))] _ _ _
  refine xw.s (pc' := 1) (st' := [.inr (some (0, 0))]) rfl ?_
  refine xw.s (pc' := 4) (st' := []) rfl ?_
  refine xw.s (pc' := 5) (st' := [.inr (some (0, 0))]) rfl ?_
  refine xw.s (pc' := 8) (st' := [.inr (some (12, (xm_n S 0 12))), .inr (some (0, 0))]) (S1 := xm_mk 12 3 S) rfl ?_
  obtain ⟨k1, q2⟩ : ∃ k, k = xm_n S 0 12 := ⟨_, rfl⟩
  rw [← q2]
  replace h := h k1 q2
  obtain ⟨S3, e4⟩ : ∃ s, s = xm_mk 12 3 S := ⟨_, rfl⟩
  rw [← e4]
  replace h := h S3 e4
  refine xw.s (pc' := 9) (st' := [.inr (some (12, k1)), .inr (some (12, k1)), .inr (some (0, 0))]) rfl ?_
  obtain ⟨z5, h⟩ := h
  refine xw.lini (nx := 12) rfl (Nat.le_of_ble_eq_true rfl) z5 ?_
  obtain ⟨S6, e7⟩ : ∃ s, s = xm_sn S3 2 k1 1 := ⟨_, rfl⟩
  rw [← e7]
  replace h := h S6 e7
  refine xw.fq (c := 0) (j := 0) (e := 12) (nx := 15) (t := (some k1)) rfl rfl ?_
  obtain ⟨S8, e9⟩ : ∃ s, s = xm_sr S6 0 0 0 (some k1) := ⟨_, rfl⟩
  rw [← e9]
  replace h := h S8 e9
  refine xw.s (pc' := 16) (st' := [.inr (some (0, 0))]) rfl ?_
  refine xw.s (pc' := 19) (st' := [.inr (some (12, (xm_n S8 0 12))), .inr (some (0, 0))]) (S1 := xm_mk 12 3 S8) rfl ?_
  obtain ⟨k10, q11⟩ : ∃ k, k = xm_n S8 0 12 := ⟨_, rfl⟩
  rw [← q11]
  replace h := h k10 q11
  obtain ⟨S12, e13⟩ : ∃ s, s = xm_mk 12 3 S8 := ⟨_, rfl⟩
  rw [← e13]
  replace h := h S12 e13
  refine xw.s (pc' := 20) (st' := [.inr (some (12, k10)), .inr (some (12, k10)), .inr (some (0, 0))]) rfl ?_
  obtain ⟨z14, h⟩ := h
  refine xw.lini (nx := 23) rfl (Nat.le_of_ble_eq_true rfl) z14 ?_
  obtain ⟨S15, e16⟩ : ∃ s, s = xm_sn S12 2 k10 1 := ⟨_, rfl⟩
  rw [← e16]
  replace h := h S15 e16
  refine xw.fq (c := 0) (j := 1) (e := 12) (nx := 26) (t := (some k10)) rfl rfl ?_
  obtain ⟨S17, e18⟩ : ∃ s, s = xm_sr S15 0 0 1 (some k10) := ⟨_, rfl⟩
  rw [← e18]
  replace h := h S17 e18
  refine xw.s (pc' := 27) (st' := [.inr (some (0, 0))]) rfl ?_
  refine xw.s (pc' := 30) (st' := [.inr (some (12, (xm_n S17 0 12))), .inr (some (0, 0))]) (S1 := xm_mk 12 3 S17) rfl ?_
  obtain ⟨k19, q20⟩ : ∃ k, k = xm_n S17 0 12 := ⟨_, rfl⟩
  rw [← q20]
  replace h := h k19 q20
  obtain ⟨S21, e22⟩ : ∃ s, s = xm_mk 12 3 S17 := ⟨_, rfl⟩
  rw [← e22]
  replace h := h S21 e22
  refine xw.s (pc' := 31) (st' := [.inr (some (12, k19)), .inr (some (12, k19)), .inr (some (0, 0))]) rfl ?_
  obtain ⟨z23, h⟩ := h
  refine xw.lini (nx := 34) rfl (Nat.le_of_ble_eq_true rfl) z23 ?_
  obtain ⟨S24, e25⟩ : ∃ s, s = xm_sn S21 2 k19 1 := ⟨_, rfl⟩
  rw [← e25]
  replace h := h S24 e25
  refine xw.fq (c := 0) (j := 2) (e := 12) (nx := 37) (t := (some k19)) rfl rfl ?_
  obtain ⟨S26, e27⟩ : ∃ s, s = xm_sr S24 0 0 2 (some k19) := ⟨_, rfl⟩
  rw [← e27]
  replace h := h S26 e27
  refine xw.s (pc' := 38) (st' := [.inr (some (0, 0))]) rfl ?_
  refine xw.s (pc' := 41) (st' := [.inr (some (12, (xm_n S26 0 12))), .inr (some (0, 0))]) (S1 := xm_mk 12 3 S26) rfl ?_
  obtain ⟨k28, q29⟩ : ∃ k, k = xm_n S26 0 12 := ⟨_, rfl⟩
  rw [← q29]
  replace h := h k28 q29
  obtain ⟨S30, e31⟩ : ∃ s, s = xm_mk 12 3 S26 := ⟨_, rfl⟩
  rw [← e31]
  replace h := h S30 e31
  refine xw.s (pc' := 42) (st' := [.inr (some (12, k28)), .inr (some (12, k28)), .inr (some (0, 0))]) rfl ?_
  obtain ⟨z32, h⟩ := h
  refine xw.lini (nx := 45) rfl (Nat.le_of_ble_eq_true rfl) z32 ?_
  obtain ⟨S33, e34⟩ : ∃ s, s = xm_sn S30 2 k28 1 := ⟨_, rfl⟩
  rw [← e34]
  replace h := h S33 e34
  refine xw.fq (c := 0) (j := 3) (e := 12) (nx := 48) (t := (some k28)) rfl rfl ?_
  obtain ⟨S35, e36⟩ : ∃ s, s = xm_sr S33 0 0 3 (some k28) := ⟨_, rfl⟩
  rw [← e36]
  replace h := h S35 e36
  refine xw.s (pc' := 49) (st' := [.inr (some (0, 0))]) rfl ?_
  refine xw.s (pc' := 52) (st' := [.inr (some (12, (xm_n S35 0 12))), .inr (some (0, 0))]) (S1 := xm_mk 12 3 S35) rfl ?_
  obtain ⟨k37, q38⟩ : ∃ k, k = xm_n S35 0 12 := ⟨_, rfl⟩
  rw [← q38]
  replace h := h k37 q38
  obtain ⟨S39, e40⟩ : ∃ s, s = xm_mk 12 3 S35 := ⟨_, rfl⟩
  rw [← e40]
  replace h := h S39 e40
  refine xw.s (pc' := 53) (st' := [.inr (some (12, k37)), .inr (some (12, k37)), .inr (some (0, 0))]) rfl ?_
  obtain ⟨z41, h⟩ := h
  refine xw.lini (nx := 56) rfl (Nat.le_of_ble_eq_true rfl) z41 ?_
  obtain ⟨S42, e43⟩ : ∃ s, s = xm_sn S39 2 k37 1 := ⟨_, rfl⟩
  rw [← e43]
  replace h := h S42 e43
  refine xw.fq (c := 0) (j := 4) (e := 12) (nx := 59) (t := (some k37)) rfl rfl ?_
  obtain ⟨S44, e45⟩ : ∃ s, s = xm_sr S42 0 0 4 (some k37) := ⟨_, rfl⟩
  rw [← e45]
  replace h := h S44 e45
  refine xw.s (pc' := 60) (st' := [.inr (some (0, 0))]) rfl ?_
  refine xw.s (pc' := 63) (st' := [.inr (some (12, (xm_n S44 0 12))), .inr (some (0, 0))]) (S1 := xm_mk 12 3 S44) rfl ?_
  obtain ⟨k46, q47⟩ : ∃ k, k = xm_n S44 0 12 := ⟨_, rfl⟩
  rw [← q47]
  replace h := h k46 q47
  obtain ⟨S48, e49⟩ : ∃ s, s = xm_mk 12 3 S44 := ⟨_, rfl⟩
  rw [← e49]
  replace h := h S48 e49
  refine xw.s (pc' := 64) (st' := [.inr (some (12, k46)), .inr (some (12, k46)), .inr (some (0, 0))]) rfl ?_
  obtain ⟨z50, h⟩ := h
  refine xw.lini (nx := 67) rfl (Nat.le_of_ble_eq_true rfl) z50 ?_
  obtain ⟨S51, e52⟩ : ∃ s, s = xm_sn S48 2 k46 1 := ⟨_, rfl⟩
  rw [← e52]
  replace h := h S51 e52
  refine xw.fq (c := 0) (j := 5) (e := 12) (nx := 70) (t := (some k46)) rfl rfl ?_
  obtain ⟨S53, e54⟩ : ∃ s, s = xm_sr S51 0 0 5 (some k46) := ⟨_, rfl⟩
  rw [← e54]
  replace h := h S53 e54
  refine xw.s (pc' := 71) (st' := [.inr (some (0, 0))]) rfl ?_
  refine xw.s (pc' := 74) (st' := [.inr (some (12, (xm_n S53 0 12))), .inr (some (0, 0))]) (S1 := xm_mk 12 3 S53) rfl ?_
  obtain ⟨k55, q56⟩ : ∃ k, k = xm_n S53 0 12 := ⟨_, rfl⟩
  rw [← q56]
  replace h := h k55 q56
  obtain ⟨S57, e58⟩ : ∃ s, s = xm_mk 12 3 S53 := ⟨_, rfl⟩
  rw [← e58]
  replace h := h S57 e58
  refine xw.s (pc' := 75) (st' := [.inr (some (12, k55)), .inr (some (12, k55)), .inr (some (0, 0))]) rfl ?_
  obtain ⟨z59, h⟩ := h
  refine xw.lini (nx := 78) rfl (Nat.le_of_ble_eq_true rfl) z59 ?_
  obtain ⟨S60, e61⟩ : ∃ s, s = xm_sn S57 2 k55 1 := ⟨_, rfl⟩
  rw [← e61]
  replace h := h S60 e61
  refine xw.fq (c := 0) (j := 6) (e := 12) (nx := 81) (t := (some k55)) rfl rfl ?_
  obtain ⟨S62, e63⟩ : ∃ s, s = xm_sr S60 0 0 6 (some k55) := ⟨_, rfl⟩
  rw [← e63]
  replace h := h S62 e63
  refine xw.s (pc' := 82) (st' := [.inr (some (0, 0))]) rfl ?_
  refine xw.s (pc' := 85) (st' := [.inr (some (12, (xm_n S62 0 12))), .inr (some (0, 0))]) (S1 := xm_mk 12 3 S62) rfl ?_
  obtain ⟨k64, q65⟩ : ∃ k, k = xm_n S62 0 12 := ⟨_, rfl⟩
  rw [← q65]
  replace h := h k64 q65
  obtain ⟨S66, e67⟩ : ∃ s, s = xm_mk 12 3 S62 := ⟨_, rfl⟩
  rw [← e67]
  replace h := h S66 e67
  refine xw.s (pc' := 86) (st' := [.inr (some (12, k64)), .inr (some (12, k64)), .inr (some (0, 0))]) rfl ?_
  obtain ⟨z68, h⟩ := h
  refine xw.lini (nx := 89) rfl (Nat.le_of_ble_eq_true rfl) z68 ?_
  obtain ⟨S69, e70⟩ : ∃ s, s = xm_sn S66 2 k64 1 := ⟨_, rfl⟩
  rw [← e70]
  replace h := h S69 e70
  refine xw.fq (c := 0) (j := 7) (e := 12) (nx := 92) (t := (some k64)) rfl rfl ?_
  obtain ⟨S71, e72⟩ : ∃ s, s = xm_sr S69 0 0 7 (some k64) := ⟨_, rfl⟩
  rw [← e72]
  replace h := h S71 e72
  refine xw.s (pc' := 93) (st' := [.inr (some (0, 0))]) rfl ?_
  refine xw.s (pc' := 96) (st' := [.inr (some (12, (xm_n S71 0 12))), .inr (some (0, 0))]) (S1 := xm_mk 12 3 S71) rfl ?_
  obtain ⟨k73, q74⟩ : ∃ k, k = xm_n S71 0 12 := ⟨_, rfl⟩
  rw [← q74]
  replace h := h k73 q74
  obtain ⟨S75, e76⟩ : ∃ s, s = xm_mk 12 3 S71 := ⟨_, rfl⟩
  rw [← e76]
  replace h := h S75 e76
  refine xw.s (pc' := 97) (st' := [.inr (some (12, k73)), .inr (some (12, k73)), .inr (some (0, 0))]) rfl ?_
  obtain ⟨z77, h⟩ := h
  refine xw.lini (nx := 100) rfl (Nat.le_of_ble_eq_true rfl) z77 ?_
  obtain ⟨S78, e79⟩ : ∃ s, s = xm_sn S75 2 k73 1 := ⟨_, rfl⟩
  rw [← e79]
  replace h := h S78 e79
  refine xw.fq (c := 0) (j := 8) (e := 12) (nx := 103) (t := (some k73)) rfl rfl ?_
  obtain ⟨S80, e81⟩ : ∃ s, s = xm_sr S78 0 0 8 (some k73) := ⟨_, rfl⟩
  rw [← e81]
  replace h := h S80 e81
  refine xw.s (pc' := 104) (st' := [.inr (some (0, 0))]) rfl ?_
  refine xw.s (pc' := 107) (st' := [.inr (some (12, (xm_n S80 0 12))), .inr (some (0, 0))]) (S1 := xm_mk 12 3 S80) rfl ?_
  obtain ⟨k82, q83⟩ : ∃ k, k = xm_n S80 0 12 := ⟨_, rfl⟩
  rw [← q83]
  replace h := h k82 q83
  obtain ⟨S84, e85⟩ : ∃ s, s = xm_mk 12 3 S80 := ⟨_, rfl⟩
  rw [← e85]
  replace h := h S84 e85
  refine xw.s (pc' := 108) (st' := [.inr (some (12, k82)), .inr (some (12, k82)), .inr (some (0, 0))]) rfl ?_
  obtain ⟨z86, h⟩ := h
  refine xw.lini (nx := 111) rfl (Nat.le_of_ble_eq_true rfl) z86 ?_
  obtain ⟨S87, e88⟩ : ∃ s, s = xm_sn S84 2 k82 1 := ⟨_, rfl⟩
  rw [← e88]
  replace h := h S87 e88
  refine xw.fq (c := 0) (j := 9) (e := 12) (nx := 114) (t := (some k82)) rfl rfl ?_
  obtain ⟨S89, e90⟩ : ∃ s, s = xm_sr S87 0 0 9 (some k82) := ⟨_, rfl⟩
  rw [← e90]
  replace h := h S89 e90
  refine xw.s (pc' := 115) (st' := [.inr (some (0, 0))]) rfl ?_
  refine xw.s (pc' := 118) (st' := [.inr (some (12, (xm_n S89 0 12))), .inr (some (0, 0))]) (S1 := xm_mk 12 3 S89) rfl ?_
  obtain ⟨k91, q92⟩ : ∃ k, k = xm_n S89 0 12 := ⟨_, rfl⟩
  rw [← q92]
  replace h := h k91 q92
  obtain ⟨S93, e94⟩ : ∃ s, s = xm_mk 12 3 S89 := ⟨_, rfl⟩
  rw [← e94]
  replace h := h S93 e94
  refine xw.s (pc' := 119) (st' := [.inr (some (12, k91)), .inr (some (12, k91)), .inr (some (0, 0))]) rfl ?_
  obtain ⟨z95, h⟩ := h
  refine xw.lini (nx := 122) rfl (Nat.le_of_ble_eq_true rfl) z95 ?_
  obtain ⟨S96, e97⟩ : ∃ s, s = xm_sn S93 2 k91 1 := ⟨_, rfl⟩
  rw [← e97]
  replace h := h S96 e97
  refine xw.fq (c := 0) (j := 10) (e := 12) (nx := 125) (t := (some k91)) rfl rfl ?_
  obtain ⟨S98, e99⟩ : ∃ s, s = xm_sr S96 0 0 10 (some k91) := ⟨_, rfl⟩
  rw [← e99]
  replace h := h S98 e99
  refine xw.s (pc' := 126) (st' := [.inr (some (0, 0))]) rfl ?_
  refine xw.s (pc' := 129) (st' := [.inr (some (12, (xm_n S98 0 12))), .inr (some (0, 0))]) (S1 := xm_mk 12 3 S98) rfl ?_
  obtain ⟨k100, q101⟩ : ∃ k, k = xm_n S98 0 12 := ⟨_, rfl⟩
  rw [← q101]
  replace h := h k100 q101
  obtain ⟨S102, e103⟩ : ∃ s, s = xm_mk 12 3 S98 := ⟨_, rfl⟩
  rw [← e103]
  replace h := h S102 e103
  refine xw.s (pc' := 130) (st' := [.inr (some (12, k100)), .inr (some (12, k100)), .inr (some (0, 0))]) rfl ?_
  obtain ⟨z104, h⟩ := h
  refine xw.lini (nx := 133) rfl (Nat.le_of_ble_eq_true rfl) z104 ?_
  obtain ⟨S105, e106⟩ : ∃ s, s = xm_sn S102 2 k100 1 := ⟨_, rfl⟩
  rw [← e106]
  replace h := h S105 e106
  refine xw.fq (c := 0) (j := 11) (e := 12) (nx := 136) (t := (some k100)) rfl rfl ?_
  obtain ⟨S107, e108⟩ : ∃ s, s = xm_sr S105 0 0 11 (some k100) := ⟨_, rfl⟩
  rw [← e108]
  replace h := h S107 e108
  refine xw.s (pc' := 137) (st' := [.inr (some (0, 0))]) rfl ?_
  refine xw.s (pc' := 140) (st' := [.inr (some (10, (xm_n S107 0 10))), .inr (some (0, 0))]) (S1 := xm_mk 10 1 S107) rfl ?_
  obtain ⟨k109, q110⟩ : ∃ k, k = xm_n S107 0 10 := ⟨_, rfl⟩
  rw [← q110]
  replace h := h k109 q110
  obtain ⟨S111, e112⟩ : ∃ s, s = xm_mk 10 1 S107 := ⟨_, rfl⟩
  rw [← e112]
  replace h := h S111 e112
  refine xw.s (pc' := 141) (st' := [.inr (some (10, k109)), .inr (some (10, k109)), .inr (some (0, 0))]) rfl ?_
  refine xw.call (m := 109) (as := [.inr (some (10, k109))]) (nx := 144) (L' := [some (.inr (some (0, 0)))]) (st' := [.inr (some (10, k109)), .inr (some (0, 0))]) rfl (xc.mono h ?_)
  rintro r S113 ⟨rfl, hC114, h⟩
  show xw _ _ 144 [some (.inr (some (0, 0)))] [.inr (some (10, k109)), .inr (some (0, 0))] _ _
  refine xw.fq (c := 0) (j := 12) (e := 10) (nx := 147) (t := (some k109)) rfl rfl ?_
  obtain ⟨S115, e116⟩ : ∃ s, s = xm_sr S113 0 0 12 (some k109) := ⟨_, rfl⟩
  rw [← e116]
  replace h := h S115 e116
  refine xw.s (pc' := 148) (st' := [.inr (some (0, 0))]) rfl ?_
  refine xw.s (pc' := 149) (st' := [.inl (0 : Int32), .inr (some (0, 0))]) rfl ?_
  refine xw.fp (c := 0) (j := 13) (ty := 0) (nx := 152) rfl rfl (Or.inl rfl) ?_
  obtain ⟨S117, e118⟩ : ∃ s, s = xm_si S115 0 0 13 (0 : Int32) := ⟨_, rfl⟩
  rw [← e118]
  replace h := h S117 e118
  refine xw.s (pc' := 153) (st' := [.inr (some (0, 0))]) rfl ?_
  refine xw.s (pc' := 154) (st' := [.inl (0 : Int32), .inr (some (0, 0))]) rfl ?_
  refine xw.fp (c := 0) (j := 14) (ty := 0) (nx := 157) rfl rfl (Or.inl rfl) ?_
  obtain ⟨S119, e120⟩ : ∃ s, s = xm_si S117 0 0 14 (0 : Int32) := ⟨_, rfl⟩
  rw [← e120]
  replace h := h S119 e120
  refine xw.s (pc' := 158) (st' := [.inr (some (0, 0))]) rfl ?_
  refine xw.s (pc' := 159) (st' := [.inl (0 : Int32), .inr (some (0, 0))]) rfl ?_
  refine xw.fp (c := 0) (j := 15) (ty := 0) (nx := 162) rfl rfl (Or.inl rfl) ?_
  obtain ⟨S121, e122⟩ : ∃ s, s = xm_si S119 0 0 15 (0 : Int32) := ⟨_, rfl⟩
  rw [← e122]
  replace h := h S121 e122
  exact xw.ret (r := none) rfl h
/-- station -/
theorem cw_station {d : Nat} {a1 : Int32} {a2 : Int32} {a3 : Int32} {S : xm_S} {Q : Option xm_V → xm_S → Prop} (hC : xk_C S) (h : (a2 < (0 : Int32) → Q (some (.inl (-2 : Int32))) S) ∧ (¬ a2 < (0 : Int32) → ((1000000 : Int32) < a2 → Q (some (.inl (-2 : Int32))) S) ∧ (¬ (1000000 : Int32) < a2 → (a1 < (0 : Int32) → Q (some (.inl (-2 : Int32))) S) ∧ (¬ a1 < (0 : Int32) → (a2 < a1 → Q (some (.inl (-2 : Int32))) S) ∧ (¬ a2 < a1 → (a3 < (1 : Int32) → Q (some (.inl (-2 : Int32))) S) ∧ (¬ a3 < (1 : Int32) → ((100 : Int32) < a3 → Q (some (.inl (-2 : Int32))) S) ∧ (¬ (100 : Int32) < a3 → ((nI (xm_n S 1 0)) < (8 : Int32) → ∀ k8, k8 = xm_n S 0 9 → (∀ S10, S10 = xm_mk 9 4 S → (xc d 108 [.inr (some (9, k8)), .inl (nI (xm_n S10 1 0)), .inl a1, .inl a2, .inl a3] S10 (fun r S12 => r = none ∧ xk_C S12 ∧ (xm_n S12 2 0 ≠ 0 ∧ xm_n S12 1 0 < 100000 ∧ (∀ S16, S16 = xm_push 0 (9, k8) S12 → (Q (some (.inl ((nI (xm_n S16 1 0)) - (1 : Int32)))) S16))))))) ∧ (¬ (nI (xm_n S 1 0)) < (8 : Int32) → Q (some (.inl (-3 : Int32))) S)))))))) : xc (d + 1) 1 [.inr (some (0, 0)), .inl a1, .inl a2, .inl a3] S Q := by
  show xw _ _ _ [some (.inr (some (0, 0))), some (.inl a1), some (.inl a2), some (.inl a3)] _ _ _
  refine xw.s (pc' := 1) (st' := [.inl a2]) rfl ?_
  refine xw.s (pc' := 2) (st' := [.inl (0 : Int32), .inl a2]) rfl ?_
  refine xw.s (pc' := 4) (st' := [.inl (1000000 : Int32), .inl (0 : Int32), .inl a2]) rfl ?_
  refine xw.call (m := 2) (as := [.inl a2, .inl (0 : Int32), .inl (1000000 : Int32)]) (nx := 7) (L' := [some (.inr (some (0, 0))), some (.inl a1), some (.inl a2), some (.inl a3)]) (st' := []) rfl ?_
  show xw _ _ _ [some (.inl a2), some (.inl (0 : Int32)), some (.inl (1000000 : Int32))] [] _ _
  refine xw.s (pc' := 1) (st' := [.inl a2]) rfl ?_
  refine xw.s (pc' := 2) (st' := [.inl (0 : Int32), .inl a2]) rfl ?_
  refine xw.b (c := a2 < (0 : Int32)) (cd := .lt) (x := a2) (y := (0 : Int32)) 14 5 (st' := []) rfl (y_clt _ _) h (fun c1 h => ?_) (fun c1 h => ?_)
  · skip
    refine xw.s (pc' := 15) (st' := [.inl (0 : Int32)]) rfl ?_
    refine xw.retz (nx := 16) rfl (Or.inl rfl) ?_
    show xw _ _ 7 [some (.inr (some (0, 0))), some (.inl a1), some (.inl a2), some (.inl a3)] [.inl (0 : Int32)] S _
    refine xw.bt (cd := .eq) (x := (0 : Int32)) (y := (0 : Int32)) 29 10 (st' := []) rfl (y_ceq _ _) (by decide) ?_
    refine xw.s (pc' := 31) (st' := [.inl (-2 : Int32)]) rfl ?_
    exact xw.ret (r := (some (.inl (-2 : Int32)))) rfl h
  · skip
    refine xw.s (pc' := 6) (st' := [.inl a2]) rfl ?_
    refine xw.s (pc' := 7) (st' := [.inl (1000000 : Int32), .inl a2]) rfl ?_
    refine xw.b (c := (1000000 : Int32) < a2) (cd := .gt) (x := a2) (y := (1000000 : Int32)) 14 10 (st' := []) rfl (y_cgt _ _) h (fun c2 h => ?_) (fun c2 h => ?_)
    · skip
      refine xw.s (pc' := 15) (st' := [.inl (0 : Int32)]) rfl ?_
      refine xw.retz (nx := 16) rfl (Or.inl rfl) ?_
      show xw _ _ 7 [some (.inr (some (0, 0))), some (.inl a1), some (.inl a2), some (.inl a3)] [.inl (0 : Int32)] S _
      refine xw.bt (cd := .eq) (x := (0 : Int32)) (y := (0 : Int32)) 29 10 (st' := []) rfl (y_ceq _ _) (by decide) ?_
      refine xw.s (pc' := 31) (st' := [.inl (-2 : Int32)]) rfl ?_
      exact xw.ret (r := (some (.inl (-2 : Int32)))) rfl h
    · skip
      refine xw.s (pc' := 11) (st' := [.inl (1 : Int32)]) rfl ?_
      refine xw.s (pc' := 15) (st' := [.inl (1 : Int32)]) rfl ?_
      refine xw.retz (nx := 16) rfl (Or.inr rfl) ?_
      show xw _ _ 7 [some (.inr (some (0, 0))), some (.inl a1), some (.inl a2), some (.inl a3)] [.inl (1 : Int32)] S _
      refine xw.bf (cd := .eq) (x := (1 : Int32)) (y := (0 : Int32)) 29 10 (st' := []) rfl (y_ceq _ _) (by decide) ?_
      refine xw.s (pc' := 11) (st' := [.inl a1]) rfl ?_
      refine xw.s (pc' := 12) (st' := [.inl (0 : Int32), .inl a1]) rfl ?_
      refine xw.s (pc' := 13) (st' := [.inl a2, .inl (0 : Int32), .inl a1]) rfl ?_
      refine xw.call (m := 2) (as := [.inl a1, .inl (0 : Int32), .inl a2]) (nx := 16) (L' := [some (.inr (some (0, 0))), some (.inl a1), some (.inl a2), some (.inl a3)]) (st' := []) rfl ?_
      show xw _ _ _ [some (.inl a1), some (.inl (0 : Int32)), some (.inl a2)] [] _ _
      refine xw.s (pc' := 1) (st' := [.inl a1]) rfl ?_
      refine xw.s (pc' := 2) (st' := [.inl (0 : Int32), .inl a1]) rfl ?_
      refine xw.b (c := a1 < (0 : Int32)) (cd := .lt) (x := a1) (y := (0 : Int32)) 14 5 (st' := []) rfl (y_clt _ _) h (fun c3 h => ?_) (fun c3 h => ?_)
      · skip
        refine xw.s (pc' := 15) (st' := [.inl (0 : Int32)]) rfl ?_
        refine xw.retz (nx := 16) rfl (Or.inl rfl) ?_
        show xw _ _ 16 [some (.inr (some (0, 0))), some (.inl a1), some (.inl a2), some (.inl a3)] [.inl (0 : Int32)] S _
        refine xw.bt (cd := .eq) (x := (0 : Int32)) (y := (0 : Int32)) 29 19 (st' := []) rfl (y_ceq _ _) (by decide) ?_
        refine xw.s (pc' := 31) (st' := [.inl (-2 : Int32)]) rfl ?_
        exact xw.ret (r := (some (.inl (-2 : Int32)))) rfl h
      · skip
        refine xw.s (pc' := 6) (st' := [.inl a1]) rfl ?_
        refine xw.s (pc' := 7) (st' := [.inl a2, .inl a1]) rfl ?_
        refine xw.b (c := a2 < a1) (cd := .gt) (x := a1) (y := a2) 14 10 (st' := []) rfl (y_cgt _ _) h (fun c4 h => ?_) (fun c4 h => ?_)
        · skip
          refine xw.s (pc' := 15) (st' := [.inl (0 : Int32)]) rfl ?_
          refine xw.retz (nx := 16) rfl (Or.inl rfl) ?_
          show xw _ _ 16 [some (.inr (some (0, 0))), some (.inl a1), some (.inl a2), some (.inl a3)] [.inl (0 : Int32)] S _
          refine xw.bt (cd := .eq) (x := (0 : Int32)) (y := (0 : Int32)) 29 19 (st' := []) rfl (y_ceq _ _) (by decide) ?_
          refine xw.s (pc' := 31) (st' := [.inl (-2 : Int32)]) rfl ?_
          exact xw.ret (r := (some (.inl (-2 : Int32)))) rfl h
        · skip
          refine xw.s (pc' := 11) (st' := [.inl (1 : Int32)]) rfl ?_
          refine xw.s (pc' := 15) (st' := [.inl (1 : Int32)]) rfl ?_
          refine xw.retz (nx := 16) rfl (Or.inr rfl) ?_
          show xw _ _ 16 [some (.inr (some (0, 0))), some (.inl a1), some (.inl a2), some (.inl a3)] [.inl (1 : Int32)] S _
          refine xw.bf (cd := .eq) (x := (1 : Int32)) (y := (0 : Int32)) 29 19 (st' := []) rfl (y_ceq _ _) (by decide) ?_
          refine xw.s (pc' := 20) (st' := [.inl a3]) rfl ?_
          refine xw.s (pc' := 21) (st' := [.inl (1 : Int32), .inl a3]) rfl ?_
          refine xw.s (pc' := 23) (st' := [.inl (100 : Int32), .inl (1 : Int32), .inl a3]) rfl ?_
          refine xw.call (m := 2) (as := [.inl a3, .inl (1 : Int32), .inl (100 : Int32)]) (nx := 26) (L' := [some (.inr (some (0, 0))), some (.inl a1), some (.inl a2), some (.inl a3)]) (st' := []) rfl ?_
          show xw _ _ _ [some (.inl a3), some (.inl (1 : Int32)), some (.inl (100 : Int32))] [] _ _
          refine xw.s (pc' := 1) (st' := [.inl a3]) rfl ?_
          refine xw.s (pc' := 2) (st' := [.inl (1 : Int32), .inl a3]) rfl ?_
          refine xw.b (c := a3 < (1 : Int32)) (cd := .lt) (x := a3) (y := (1 : Int32)) 14 5 (st' := []) rfl (y_clt _ _) h (fun c5 h => ?_) (fun c5 h => ?_)
          · skip
            refine xw.s (pc' := 15) (st' := [.inl (0 : Int32)]) rfl ?_
            refine xw.retz (nx := 16) rfl (Or.inl rfl) ?_
            show xw _ _ 26 [some (.inr (some (0, 0))), some (.inl a1), some (.inl a2), some (.inl a3)] [.inl (0 : Int32)] S _
            refine xw.bf (cd := .ne) (x := (0 : Int32)) (y := (0 : Int32)) 32 29 (st' := []) rfl (y_cne _ _) (by decide) ?_
            refine xw.s (pc' := 31) (st' := [.inl (-2 : Int32)]) rfl ?_
            exact xw.ret (r := (some (.inl (-2 : Int32)))) rfl h
          · skip
            refine xw.s (pc' := 6) (st' := [.inl a3]) rfl ?_
            refine xw.s (pc' := 7) (st' := [.inl (100 : Int32), .inl a3]) rfl ?_
            refine xw.b (c := (100 : Int32) < a3) (cd := .gt) (x := a3) (y := (100 : Int32)) 14 10 (st' := []) rfl (y_cgt _ _) h (fun c6 h => ?_) (fun c6 h => ?_)
            · skip
              refine xw.s (pc' := 15) (st' := [.inl (0 : Int32)]) rfl ?_
              refine xw.retz (nx := 16) rfl (Or.inl rfl) ?_
              show xw _ _ 26 [some (.inr (some (0, 0))), some (.inl a1), some (.inl a2), some (.inl a3)] [.inl (0 : Int32)] S _
              refine xw.bf (cd := .ne) (x := (0 : Int32)) (y := (0 : Int32)) 32 29 (st' := []) rfl (y_cne _ _) (by decide) ?_
              refine xw.s (pc' := 31) (st' := [.inl (-2 : Int32)]) rfl ?_
              exact xw.ret (r := (some (.inl (-2 : Int32)))) rfl h
            · skip
              refine xw.s (pc' := 11) (st' := [.inl (1 : Int32)]) rfl ?_
              refine xw.s (pc' := 15) (st' := [.inl (1 : Int32)]) rfl ?_
              refine xw.retz (nx := 16) rfl (Or.inr rfl) ?_
              show xw _ _ 26 [some (.inr (some (0, 0))), some (.inl a1), some (.inl a2), some (.inl a3)] [.inl (1 : Int32)] S _
              refine xw.bt (cd := .ne) (x := (1 : Int32)) (y := (0 : Int32)) 32 29 (st' := []) rfl (y_cne _ _) (by decide) ?_
              refine xw.s (pc' := 33) (st' := [.inr (some (0, 0))]) rfl ?_
              refine xw.fr (c := 0) (j := 0) (e := 12) (nx := 36) (t := (some 0)) rfl rfl (hC 0 (by decide)) ?_
              show xw _ _ _ [some (.inr (some (0, 0))), some (.inl a1), some (.inl a2), some (.inl a3)] [.inr (some (12, 0))] _ _
              refine xw.lsz (nx := 39) (n := (xm_n S 1 0)) rfl (Nat.le_of_ble_eq_true rfl) rfl ?_
              refine xw.s (pc' := 41) (st' := [.inl (8 : Int32), .inl (nI (xm_n S 1 0))]) rfl ?_
              refine xw.b (c := (nI (xm_n S 1 0)) < (8 : Int32)) (cd := .lt) (x := (nI (xm_n S 1 0))) (y := (8 : Int32)) 47 44 (st' := []) rfl (y_clt _ _) h (fun c7 h => ?_) (fun c7 h => ?_)
              · skip
                refine xw.s (pc' := 48) (st' := [.inr (some (0, 0))]) rfl ?_
                refine xw.fr (c := 0) (j := 0) (e := 12) (nx := 51) (t := (some 0)) rfl rfl (hC 0 (by decide)) ?_
                show xw _ _ _ [some (.inr (some (0, 0))), some (.inl a1), some (.inl a2), some (.inl a3)] [.inr (some (12, 0))] _ _
                refine xw.s (pc' := 54) (st' := [.inr (some (9, (xm_n S 0 9))), .inr (some (12, 0))]) (S1 := xm_mk 9 4 S) rfl ?_
                obtain ⟨k8, q9⟩ : ∃ k, k = xm_n S 0 9 := ⟨_, rfl⟩
                rw [← q9]
                replace h := h k8 q9
                obtain ⟨S10, e11⟩ : ∃ s, s = xm_mk 9 4 S := ⟨_, rfl⟩
                rw [← e11]
                replace h := h S10 e11
                refine xw.s (pc' := 55) (st' := [.inr (some (9, k8)), .inr (some (9, k8)), .inr (some (12, 0))]) rfl ?_
                refine xw.s (pc' := 56) (st' := [.inr (some (0, 0)), .inr (some (9, k8)), .inr (some (9, k8)), .inr (some (12, 0))]) rfl ?_
                refine xw.fr (c := 0) (j := 0) (e := 12) (nx := 59) (t := (some 0)) rfl rfl ((congrArg (fun s => xm_r s 0 0 0) e11).trans ((xr_mk (by decide)).trans (hC 0 (by decide)))) ?_
                show xw _ _ _ [some (.inr (some (0, 0))), some (.inl a1), some (.inl a2), some (.inl a3)] [.inr (some (12, 0)), .inr (some (9, k8)), .inr (some (9, k8)), .inr (some (12, 0))] _ _
                refine xw.lsz (nx := 62) (n := (xm_n S10 1 0)) rfl (Nat.le_of_ble_eq_true rfl) rfl ?_
                refine xw.s (pc' := 63) (st' := [.inl a1, .inl (nI (xm_n S10 1 0)), .inr (some (9, k8)), .inr (some (9, k8)), .inr (some (12, 0))]) rfl ?_
                refine xw.s (pc' := 64) (st' := [.inl a2, .inl a1, .inl (nI (xm_n S10 1 0)), .inr (some (9, k8)), .inr (some (9, k8)), .inr (some (12, 0))]) rfl ?_
                refine xw.s (pc' := 65) (st' := [.inl a3, .inl a2, .inl a1, .inl (nI (xm_n S10 1 0)), .inr (some (9, k8)), .inr (some (9, k8)), .inr (some (12, 0))]) rfl ?_
                refine xw.call (m := 108) (as := [.inr (some (9, k8)), .inl (nI (xm_n S10 1 0)), .inl a1, .inl a2, .inl a3]) (nx := 68) (L' := [some (.inr (some (0, 0))), some (.inl a1), some (.inl a2), some (.inl a3)]) (st' := [.inr (some (9, k8)), .inr (some (12, 0))]) rfl (xc.mono h ?_)
                rintro r S12 ⟨rfl, hC13, h⟩
                show xw _ _ 68 [some (.inr (some (0, 0))), some (.inl a1), some (.inl a2), some (.inl a3)] [.inr (some (9, k8)), .inr (some (12, 0))] _ _
                obtain ⟨z14, z15, h⟩ := h
                refine xw.ladd (nx := 71) rfl (Nat.le_of_ble_eq_true rfl) (by decide) z14 z15 ?_
                obtain ⟨S16, e17⟩ : ∃ s, s = xm_push 0 (9, k8) S12 := ⟨_, rfl⟩
                rw [← e17]
                replace h := h S16 e17
                refine xw.s (pc' := 72) (st' := []) rfl ?_
                refine xw.s (pc' := 73) (st' := [.inr (some (0, 0))]) rfl ?_
                refine xw.fr (c := 0) (j := 0) (e := 12) (nx := 76) (t := (some 0)) rfl rfl ((congrArg (fun s => xm_r s 0 0 0) e17).trans (xr_push.trans (hC13 0 (by decide)))) ?_
                show xw _ _ _ [some (.inr (some (0, 0))), some (.inl a1), some (.inl a2), some (.inl a3)] [.inr (some (12, 0))] _ _
                refine xw.lsz (nx := 79) (n := (xm_n S16 1 0)) rfl (Nat.le_of_ble_eq_true rfl) rfl ?_
                refine xw.s (pc' := 80) (st' := [.inl (1 : Int32), .inl (nI (xm_n S16 1 0))]) rfl ?_
                refine xw.s (pc' := 81) (st' := [.inl ((nI (xm_n S16 1 0)) - (1 : Int32))]) rfl ?_
                exact xw.ret (r := (some (.inl ((nI (xm_n S16 1 0)) - (1 : Int32))))) rfl h
              · skip
                refine xw.s (pc' := 46) (st' := [.inl (-3 : Int32)]) rfl ?_
                exact xw.ret (r := (some (.inl (-3 : Int32)))) rfl h
/-- fault -/
theorem cw_fault {d : Nat} {a1 : Int32} {a2 : Int32} {a3 : Int32} {a4 : Int32} {a5 : Int32} {S : xm_S} {Q : Option xm_V → xm_S → Prop} (hC : xk_C S) (h : (a1 < (0 : Int32) → xc d 5 [.inr (some (0, 0)), .inr (some (12, 1)), .inr none, .inl a2, .inl a3, .inl a4, .inl a5, .inl (7 : Int32)] S (fun r S2 => ∃ x4 : Int32, r = some (.inl x4) ∧ xk_C S2 ∧ (Q (some (.inl x4)) S2))) ∧ (¬ a1 < (0 : Int32) → ((nI (xm_n S 1 0)) ≤ a1 → xc d 5 [.inr (some (0, 0)), .inr (some (12, 1)), .inr none, .inl a2, .inl a3, .inl a4, .inl a5, .inl (7 : Int32)] S (fun r S6 => ∃ x8 : Int32, r = some (.inl x8) ∧ xk_C S6 ∧ (Q (some (.inl x8)) S6))) ∧ (¬ (nI (xm_n S 1 0)) ≤ a1 → y_in a1 (xm_n S 1 0) ∧ (∃ k10, (xm_l S 0 (y_ix a1)) = (9, k10) ∧ (xc d 5 [.inr (some (0, 0)), .inr (some (12, 1)), .inr (some (9, k10)), .inl a2, .inl a3, .inl a4, .inl a5, .inl (7 : Int32)] S (fun r S12 => ∃ x14 : Int32, r = some (.inl x14) ∧ xk_C S12 ∧ (Q (some (.inl x14)) S12))))))) : xc (d + 1) 3 [.inr (some (0, 0)), .inl a1, .inl a2, .inl a3, .inl a4, .inl a5] S Q := by
  show xw _ _ _ [some (.inr (some (0, 0))), some (.inl a1), some (.inl a2), some (.inl a3), some (.inl a4), some (.inl a5)] _ _ _
  refine xw.s (pc' := 1) (st' := [.inr (some (0, 0))]) rfl ?_
  refine xw.s (pc' := 2) (st' := [.inr (some (0, 0)), .inr (some (0, 0))]) rfl ?_
  refine xw.fr (c := 0) (j := 1) (e := 12) (nx := 5) (t := (some 1)) rfl rfl (hC 1 (by decide)) ?_
  show xw _ _ _ [some (.inr (some (0, 0))), some (.inl a1), some (.inl a2), some (.inl a3), some (.inl a4), some (.inl a5)] [.inr (some (12, 1)), .inr (some (0, 0))] _ _
  refine xw.s (pc' := 6) (st' := [.inr (some (0, 0)), .inr (some (12, 1)), .inr (some (0, 0))]) rfl ?_
  refine xw.s (pc' := 7) (st' := [.inl a1, .inr (some (0, 0)), .inr (some (12, 1)), .inr (some (0, 0))]) rfl ?_
  refine xw.call (m := 4) (as := [.inr (some (0, 0)), .inl a1]) (nx := 10) (L' := [some (.inr (some (0, 0))), some (.inl a1), some (.inl a2), some (.inl a3), some (.inl a4), some (.inl a5)]) (st' := [.inr (some (12, 1)), .inr (some (0, 0))]) rfl ?_
  show xw _ _ _ [some (.inr (some (0, 0))), some (.inl a1)] [] _ _
  refine xw.s (pc' := 1) (st' := [.inl a1]) rfl ?_
  refine xw.b (c := a1 < (0 : Int32)) (cd := .lt) (x := a1) (y := (0 : Int32)) 29 4 (st' := []) rfl (y_clt _ _) h (fun c1 h => ?_) (fun c1 h => ?_)
  · skip
    refine xw.s (pc' := 30) (st' := [.inr none]) rfl ?_
    refine xw.ret (r := some (.inr none)) rfl ?_
    show xw _ _ 10 [some (.inr (some (0, 0))), some (.inl a1), some (.inl a2), some (.inl a3), some (.inl a4), some (.inl a5)] [.inr none, .inr (some (12, 1)), .inr (some (0, 0))] S _
    refine xw.s (pc' := 11) (st' := [.inl a2, .inr none, .inr (some (12, 1)), .inr (some (0, 0))]) rfl ?_
    refine xw.s (pc' := 12) (st' := [.inl a3, .inl a2, .inr none, .inr (some (12, 1)), .inr (some (0, 0))]) rfl ?_
    refine xw.s (pc' := 14) (st' := [.inl a4, .inl a3, .inl a2, .inr none, .inr (some (12, 1)), .inr (some (0, 0))]) rfl ?_
    refine xw.s (pc' := 16) (st' := [.inl a5, .inl a4, .inl a3, .inl a2, .inr none, .inr (some (12, 1)), .inr (some (0, 0))]) rfl ?_
    refine xw.s (pc' := 18) (st' := [.inl (7 : Int32), .inl a5, .inl a4, .inl a3, .inl a2, .inr none, .inr (some (12, 1)), .inr (some (0, 0))]) rfl ?_
    refine xw.call (m := 5) (as := [.inr (some (0, 0)), .inr (some (12, 1)), .inr none, .inl a2, .inl a3, .inl a4, .inl a5, .inl (7 : Int32)]) (nx := 21) (L' := [some (.inr (some (0, 0))), some (.inl a1), some (.inl a2), some (.inl a3), some (.inl a4), some (.inl a5)]) (st' := []) rfl (xc.mono h ?_)
    rintro r S2 ⟨x4, rfl, hC3, h⟩
    show xw _ _ 21 [some (.inr (some (0, 0))), some (.inl a1), some (.inl a2), some (.inl a3), some (.inl a4), some (.inl a5)] [.inl x4] _ _
    exact xw.ret (r := (some (.inl x4))) rfl h
  · skip
    refine xw.s (pc' := 5) (st' := [.inl a1]) rfl ?_
    refine xw.s (pc' := 6) (st' := [.inr (some (0, 0)), .inl a1]) rfl ?_
    refine xw.fr (c := 0) (j := 0) (e := 12) (nx := 9) (t := (some 0)) rfl rfl (hC 0 (by decide)) ?_
    show xw _ _ _ [some (.inr (some (0, 0))), some (.inl a1)] [.inr (some (12, 0)), .inl a1] _ _
    refine xw.lsz (nx := 12) (n := (xm_n S 1 0)) rfl (Nat.le_of_ble_eq_true rfl) rfl ?_
    refine xw.b (c := (nI (xm_n S 1 0)) ≤ a1) (cd := .ge) (x := a1) (y := (nI (xm_n S 1 0))) 29 15 (st' := []) rfl (y_cge _ _) h (fun c5 h => ?_) (fun c5 h => ?_)
    · skip
      refine xw.s (pc' := 30) (st' := [.inr none]) rfl ?_
      refine xw.ret (r := some (.inr none)) rfl ?_
      show xw _ _ 10 [some (.inr (some (0, 0))), some (.inl a1), some (.inl a2), some (.inl a3), some (.inl a4), some (.inl a5)] [.inr none, .inr (some (12, 1)), .inr (some (0, 0))] S _
      refine xw.s (pc' := 11) (st' := [.inl a2, .inr none, .inr (some (12, 1)), .inr (some (0, 0))]) rfl ?_
      refine xw.s (pc' := 12) (st' := [.inl a3, .inl a2, .inr none, .inr (some (12, 1)), .inr (some (0, 0))]) rfl ?_
      refine xw.s (pc' := 14) (st' := [.inl a4, .inl a3, .inl a2, .inr none, .inr (some (12, 1)), .inr (some (0, 0))]) rfl ?_
      refine xw.s (pc' := 16) (st' := [.inl a5, .inl a4, .inl a3, .inl a2, .inr none, .inr (some (12, 1)), .inr (some (0, 0))]) rfl ?_
      refine xw.s (pc' := 18) (st' := [.inl (7 : Int32), .inl a5, .inl a4, .inl a3, .inl a2, .inr none, .inr (some (12, 1)), .inr (some (0, 0))]) rfl ?_
      refine xw.call (m := 5) (as := [.inr (some (0, 0)), .inr (some (12, 1)), .inr none, .inl a2, .inl a3, .inl a4, .inl a5, .inl (7 : Int32)]) (nx := 21) (L' := [some (.inr (some (0, 0))), some (.inl a1), some (.inl a2), some (.inl a3), some (.inl a4), some (.inl a5)]) (st' := []) rfl (xc.mono h ?_)
      rintro r S6 ⟨x8, rfl, hC7, h⟩
      show xw _ _ 21 [some (.inr (some (0, 0))), some (.inl a1), some (.inl a2), some (.inl a3), some (.inl a4), some (.inl a5)] [.inl x8] _ _
      exact xw.ret (r := (some (.inl x8))) rfl h
    · skip
      refine xw.s (pc' := 16) (st' := [.inr (some (0, 0))]) rfl ?_
      refine xw.fr (c := 0) (j := 0) (e := 12) (nx := 19) (t := (some 0)) rfl rfl (hC 0 (by decide)) ?_
      show xw _ _ _ [some (.inr (some (0, 0))), some (.inl a1)] [.inr (some (12, 0))] _ _
      refine xw.s (pc' := 20) (st' := [.inl a1, .inr (some (12, 0))]) rfl ?_
      obtain ⟨z9, h⟩ := h
      obtain ⟨k10, q11, h⟩ := h
      refine xw.get (nx := 23) (p := (9, k10)) rfl (Nat.le_of_ble_eq_true rfl) z9 q11 ?_
      refine xw.s (pc' := 26) (st' := [.inr (some (9, k10))]) rfl ?_
      refine xw.s (pc' := 30) (st' := [.inr (some (9, k10))]) rfl ?_
      refine xw.ret (r := some (.inr (some (9, k10)))) rfl ?_
      show xw _ _ 10 [some (.inr (some (0, 0))), some (.inl a1), some (.inl a2), some (.inl a3), some (.inl a4), some (.inl a5)] [.inr (some (9, k10)), .inr (some (12, 1)), .inr (some (0, 0))] S _
      refine xw.s (pc' := 11) (st' := [.inl a2, .inr (some (9, k10)), .inr (some (12, 1)), .inr (some (0, 0))]) rfl ?_
      refine xw.s (pc' := 12) (st' := [.inl a3, .inl a2, .inr (some (9, k10)), .inr (some (12, 1)), .inr (some (0, 0))]) rfl ?_
      refine xw.s (pc' := 14) (st' := [.inl a4, .inl a3, .inl a2, .inr (some (9, k10)), .inr (some (12, 1)), .inr (some (0, 0))]) rfl ?_
      refine xw.s (pc' := 16) (st' := [.inl a5, .inl a4, .inl a3, .inl a2, .inr (some (9, k10)), .inr (some (12, 1)), .inr (some (0, 0))]) rfl ?_
      refine xw.s (pc' := 18) (st' := [.inl (7 : Int32), .inl a5, .inl a4, .inl a3, .inl a2, .inr (some (9, k10)), .inr (some (12, 1)), .inr (some (0, 0))]) rfl ?_
      refine xw.call (m := 5) (as := [.inr (some (0, 0)), .inr (some (12, 1)), .inr (some (9, k10)), .inl a2, .inl a3, .inl a4, .inl a5, .inl (7 : Int32)]) (nx := 21) (L' := [some (.inr (some (0, 0))), some (.inl a1), some (.inl a2), some (.inl a3), some (.inl a4), some (.inl a5)]) (st' := []) rfl (xc.mono h ?_)
      rintro r S12 ⟨x14, rfl, hC13, h⟩
      show xw _ _ 21 [some (.inr (some (0, 0))), some (.inl a1), some (.inl a2), some (.inl a3), some (.inl a4), some (.inl a5)] [.inl x14] _ _
      exact xw.ret (r := (some (.inl x14))) rfl h
/-- addSpan -/
theorem cw_addSpan {d : Nat} {a1 : Nat} {a2 : Option Nat} {a3 : Int32} {a4 : Int32} {a5 : Int32} {a6 : Int32} {a7 : Int32} {S : xm_S} {Q : Option xm_V → xm_S → Prop} (hC : xk_C S) (h : (a2 = none → Q (some (.inl (-1 : Int32))) S) ∧ (∀ k1, a2 = some k1 → (a3 < (0 : Int32) → Q (some (.inl (-2 : Int32))) S) ∧ (¬ a3 < (0 : Int32) → ((2 : Int32) < a3 → Q (some (.inl (-2 : Int32))) S) ∧ (¬ (2 : Int32) < a3 → (a4 < (0 : Int32) → Q (some (.inl (-2 : Int32))) S) ∧ (¬ a4 < (0 : Int32) → (a5 < a4 → Q (some (.inl (-2 : Int32))) S) ∧ (¬ a5 < a4 → (a6 < (1 : Int32) → Q (some (.inl (-2 : Int32))) S) ∧ (¬ a6 < (1 : Int32) → (a7 < a6 → Q (some (.inl (-2 : Int32))) S) ∧ (¬ a7 < a6 → ((nI (xm_n S 1 a1)) < (30 : Int32) → ∀ k9, k9 = xm_n S 0 8 → (∀ S11, S11 = xm_mk 8 5 S → (xc d 106 [.inr (some (8, k9)), .inr (some (9, k1)), .inl a3, .inl a4, .inl a5, .inl a6] S11 (fun r S13 => r = none ∧ xk_C S13 ∧ (xm_n S13 2 a1 ≠ 0 ∧ xm_n S13 1 a1 < 100000 ∧ (∀ S17, S17 = xm_push a1 (8, k9) S13 → (Q (some (.inl (nI (xm_n S17 1 a1)))) S17))))))) ∧ (¬ (nI (xm_n S 1 a1)) < (30 : Int32) → Q (some (.inl (-3 : Int32))) S))))))))) : xc (d + 1) 5 [.inr (some (0, 0)), .inr (some (12, a1)), .inr (xo 9 a2), .inl a3, .inl a4, .inl a5, .inl a6, .inl a7] S Q := by
  show xw _ _ _ [some (.inr (some (0, 0))), some (.inr (some (12, a1))), some (.inr (xo 9 a2)), some (.inl a3), some (.inl a4), some (.inl a5), some (.inl a6), some (.inl a7)] _ _ _
  refine xw.s (pc' := 1) (st' := [.inr (xo 9 a2)]) rfl ?_
  refine xw.nnul (o := a2) (t := 6) (nx := 4) rfl rfl ?_
  rcases a2 with _ | k1
  · replace h := h.1 rfl
    show xw _ _ 4 [some (.inr (some (0, 0))), some (.inr (some (12, a1))), some (.inr none), some (.inl a3), some (.inl a4), some (.inl a5), some (.inl a6), some (.inl a7)] [] _ _
    refine xw.s (pc' := 5) (st' := [.inl (-1 : Int32)]) rfl ?_
    exact xw.ret (r := (some (.inl (-1 : Int32)))) rfl h
  · replace h := h.2 k1 rfl
    show xw _ _ 6 [some (.inr (some (0, 0))), some (.inr (some (12, a1))), some (.inr (some (9, k1))), some (.inl a3), some (.inl a4), some (.inl a5), some (.inl a6), some (.inl a7)] [] _ _
    refine xw.s (pc' := 7) (st' := [.inl a3]) rfl ?_
    refine xw.s (pc' := 8) (st' := [.inl (0 : Int32), .inl a3]) rfl ?_
    refine xw.s (pc' := 9) (st' := [.inl (2 : Int32), .inl (0 : Int32), .inl a3]) rfl ?_
    refine xw.call (m := 2) (as := [.inl a3, .inl (0 : Int32), .inl (2 : Int32)]) (nx := 12) (L' := [some (.inr (some (0, 0))), some (.inr (some (12, a1))), some (.inr (some (9, k1))), some (.inl a3), some (.inl a4), some (.inl a5), some (.inl a6), some (.inl a7)]) (st' := []) rfl ?_
    show xw _ _ _ [some (.inl a3), some (.inl (0 : Int32)), some (.inl (2 : Int32))] [] _ _
    refine xw.s (pc' := 1) (st' := [.inl a3]) rfl ?_
    refine xw.s (pc' := 2) (st' := [.inl (0 : Int32), .inl a3]) rfl ?_
    refine xw.b (c := a3 < (0 : Int32)) (cd := .lt) (x := a3) (y := (0 : Int32)) 14 5 (st' := []) rfl (y_clt _ _) h (fun c2 h => ?_) (fun c2 h => ?_)
    · skip
      refine xw.s (pc' := 15) (st' := [.inl (0 : Int32)]) rfl ?_
      refine xw.retz (nx := 16) rfl (Or.inl rfl) ?_
      show xw _ _ 12 [some (.inr (some (0, 0))), some (.inr (some (12, a1))), some (.inr (some (9, k1))), some (.inl a3), some (.inl a4), some (.inl a5), some (.inl a6), some (.inl a7)] [.inl (0 : Int32)] S _
      refine xw.bt (cd := .eq) (x := (0 : Int32)) (y := (0 : Int32)) 38 15 (st' := []) rfl (y_ceq _ _) (by decide) ?_
      refine xw.s (pc' := 40) (st' := [.inl (-2 : Int32)]) rfl ?_
      exact xw.ret (r := (some (.inl (-2 : Int32)))) rfl h
    · skip
      refine xw.s (pc' := 6) (st' := [.inl a3]) rfl ?_
      refine xw.s (pc' := 7) (st' := [.inl (2 : Int32), .inl a3]) rfl ?_
      refine xw.b (c := (2 : Int32) < a3) (cd := .gt) (x := a3) (y := (2 : Int32)) 14 10 (st' := []) rfl (y_cgt _ _) h (fun c3 h => ?_) (fun c3 h => ?_)
      · skip
        refine xw.s (pc' := 15) (st' := [.inl (0 : Int32)]) rfl ?_
        refine xw.retz (nx := 16) rfl (Or.inl rfl) ?_
        show xw _ _ 12 [some (.inr (some (0, 0))), some (.inr (some (12, a1))), some (.inr (some (9, k1))), some (.inl a3), some (.inl a4), some (.inl a5), some (.inl a6), some (.inl a7)] [.inl (0 : Int32)] S _
        refine xw.bt (cd := .eq) (x := (0 : Int32)) (y := (0 : Int32)) 38 15 (st' := []) rfl (y_ceq _ _) (by decide) ?_
        refine xw.s (pc' := 40) (st' := [.inl (-2 : Int32)]) rfl ?_
        exact xw.ret (r := (some (.inl (-2 : Int32)))) rfl h
      · skip
        refine xw.s (pc' := 11) (st' := [.inl (1 : Int32)]) rfl ?_
        refine xw.s (pc' := 15) (st' := [.inl (1 : Int32)]) rfl ?_
        refine xw.retz (nx := 16) rfl (Or.inr rfl) ?_
        show xw _ _ 12 [some (.inr (some (0, 0))), some (.inr (some (12, a1))), some (.inr (some (9, k1))), some (.inl a3), some (.inl a4), some (.inl a5), some (.inl a6), some (.inl a7)] [.inl (1 : Int32)] S _
        refine xw.bf (cd := .eq) (x := (1 : Int32)) (y := (0 : Int32)) 38 15 (st' := []) rfl (y_ceq _ _) (by decide) ?_
        refine xw.s (pc' := 17) (st' := [.inl a4]) rfl ?_
        refine xw.b (c := a4 < (0 : Int32)) (cd := .lt) (x := a4) (y := (0 : Int32)) 38 20 (st' := []) rfl (y_clt _ _) h (fun c4 h => ?_) (fun c4 h => ?_)
        · skip
          refine xw.s (pc' := 40) (st' := [.inl (-2 : Int32)]) rfl ?_
          exact xw.ret (r := (some (.inl (-2 : Int32)))) rfl h
        · skip
          refine xw.s (pc' := 22) (st' := [.inl a5]) rfl ?_
          refine xw.s (pc' := 24) (st' := [.inl a4, .inl a5]) rfl ?_
          refine xw.b (c := a5 < a4) (cd := .lt) (x := a5) (y := a4) 38 27 (st' := []) rfl (y_clt _ _) h (fun c5 h => ?_) (fun c5 h => ?_)
          · skip
            refine xw.s (pc' := 40) (st' := [.inl (-2 : Int32)]) rfl ?_
            exact xw.ret (r := (some (.inl (-2 : Int32)))) rfl h
          · skip
            refine xw.s (pc' := 29) (st' := [.inl a6]) rfl ?_
            refine xw.s (pc' := 30) (st' := [.inl (1 : Int32), .inl a6]) rfl ?_
            refine xw.s (pc' := 32) (st' := [.inl a7, .inl (1 : Int32), .inl a6]) rfl ?_
            refine xw.call (m := 2) (as := [.inl a6, .inl (1 : Int32), .inl a7]) (nx := 35) (L' := [some (.inr (some (0, 0))), some (.inr (some (12, a1))), some (.inr (some (9, k1))), some (.inl a3), some (.inl a4), some (.inl a5), some (.inl a6), some (.inl a7)]) (st' := []) rfl ?_
            show xw _ _ _ [some (.inl a6), some (.inl (1 : Int32)), some (.inl a7)] [] _ _
            refine xw.s (pc' := 1) (st' := [.inl a6]) rfl ?_
            refine xw.s (pc' := 2) (st' := [.inl (1 : Int32), .inl a6]) rfl ?_
            refine xw.b (c := a6 < (1 : Int32)) (cd := .lt) (x := a6) (y := (1 : Int32)) 14 5 (st' := []) rfl (y_clt _ _) h (fun c6 h => ?_) (fun c6 h => ?_)
            · skip
              refine xw.s (pc' := 15) (st' := [.inl (0 : Int32)]) rfl ?_
              refine xw.retz (nx := 16) rfl (Or.inl rfl) ?_
              show xw _ _ 35 [some (.inr (some (0, 0))), some (.inr (some (12, a1))), some (.inr (some (9, k1))), some (.inl a3), some (.inl a4), some (.inl a5), some (.inl a6), some (.inl a7)] [.inl (0 : Int32)] S _
              refine xw.bf (cd := .ne) (x := (0 : Int32)) (y := (0 : Int32)) 41 38 (st' := []) rfl (y_cne _ _) (by decide) ?_
              refine xw.s (pc' := 40) (st' := [.inl (-2 : Int32)]) rfl ?_
              exact xw.ret (r := (some (.inl (-2 : Int32)))) rfl h
            · skip
              refine xw.s (pc' := 6) (st' := [.inl a6]) rfl ?_
              refine xw.s (pc' := 7) (st' := [.inl a7, .inl a6]) rfl ?_
              refine xw.b (c := a7 < a6) (cd := .gt) (x := a6) (y := a7) 14 10 (st' := []) rfl (y_cgt _ _) h (fun c7 h => ?_) (fun c7 h => ?_)
              · skip
                refine xw.s (pc' := 15) (st' := [.inl (0 : Int32)]) rfl ?_
                refine xw.retz (nx := 16) rfl (Or.inl rfl) ?_
                show xw _ _ 35 [some (.inr (some (0, 0))), some (.inr (some (12, a1))), some (.inr (some (9, k1))), some (.inl a3), some (.inl a4), some (.inl a5), some (.inl a6), some (.inl a7)] [.inl (0 : Int32)] S _
                refine xw.bf (cd := .ne) (x := (0 : Int32)) (y := (0 : Int32)) 41 38 (st' := []) rfl (y_cne _ _) (by decide) ?_
                refine xw.s (pc' := 40) (st' := [.inl (-2 : Int32)]) rfl ?_
                exact xw.ret (r := (some (.inl (-2 : Int32)))) rfl h
              · skip
                refine xw.s (pc' := 11) (st' := [.inl (1 : Int32)]) rfl ?_
                refine xw.s (pc' := 15) (st' := [.inl (1 : Int32)]) rfl ?_
                refine xw.retz (nx := 16) rfl (Or.inr rfl) ?_
                show xw _ _ 35 [some (.inr (some (0, 0))), some (.inr (some (12, a1))), some (.inr (some (9, k1))), some (.inl a3), some (.inl a4), some (.inl a5), some (.inl a6), some (.inl a7)] [.inl (1 : Int32)] S _
                refine xw.bt (cd := .ne) (x := (1 : Int32)) (y := (0 : Int32)) 41 38 (st' := []) rfl (y_cne _ _) (by decide) ?_
                refine xw.s (pc' := 42) (st' := [.inr (some (12, a1))]) rfl ?_
                refine xw.lsz (nx := 45) (n := (xm_n S 1 a1)) rfl (Nat.le_of_ble_eq_true rfl) rfl ?_
                refine xw.s (pc' := 47) (st' := [.inl (30 : Int32), .inl (nI (xm_n S 1 a1))]) rfl ?_
                refine xw.b (c := (nI (xm_n S 1 a1)) < (30 : Int32)) (cd := .lt) (x := (nI (xm_n S 1 a1))) (y := (30 : Int32)) 53 50 (st' := []) rfl (y_clt _ _) h (fun c8 h => ?_) (fun c8 h => ?_)
                · skip
                  refine xw.s (pc' := 54) (st' := [.inr (some (12, a1))]) rfl ?_
                  refine xw.s (pc' := 57) (st' := [.inr (some (8, (xm_n S 0 8))), .inr (some (12, a1))]) (S1 := xm_mk 8 5 S) rfl ?_
                  obtain ⟨k9, q10⟩ : ∃ k, k = xm_n S 0 8 := ⟨_, rfl⟩
                  rw [← q10]
                  replace h := h k9 q10
                  obtain ⟨S11, e12⟩ : ∃ s, s = xm_mk 8 5 S := ⟨_, rfl⟩
                  rw [← e12]
                  replace h := h S11 e12
                  refine xw.s (pc' := 58) (st' := [.inr (some (8, k9)), .inr (some (8, k9)), .inr (some (12, a1))]) rfl ?_
                  refine xw.s (pc' := 59) (st' := [.inr (some (9, k1)), .inr (some (8, k9)), .inr (some (8, k9)), .inr (some (12, a1))]) rfl ?_
                  refine xw.s (pc' := 60) (st' := [.inl a3, .inr (some (9, k1)), .inr (some (8, k9)), .inr (some (8, k9)), .inr (some (12, a1))]) rfl ?_
                  refine xw.s (pc' := 62) (st' := [.inl a4, .inl a3, .inr (some (9, k1)), .inr (some (8, k9)), .inr (some (8, k9)), .inr (some (12, a1))]) rfl ?_
                  refine xw.s (pc' := 64) (st' := [.inl a5, .inl a4, .inl a3, .inr (some (9, k1)), .inr (some (8, k9)), .inr (some (8, k9)), .inr (some (12, a1))]) rfl ?_
                  refine xw.s (pc' := 66) (st' := [.inl a6, .inl a5, .inl a4, .inl a3, .inr (some (9, k1)), .inr (some (8, k9)), .inr (some (8, k9)), .inr (some (12, a1))]) rfl ?_
                  refine xw.call (m := 106) (as := [.inr (some (8, k9)), .inr (some (9, k1)), .inl a3, .inl a4, .inl a5, .inl a6]) (nx := 69) (L' := [some (.inr (some (0, 0))), some (.inr (some (12, a1))), some (.inr (some (9, k1))), some (.inl a3), some (.inl a4), some (.inl a5), some (.inl a6), some (.inl a7)]) (st' := [.inr (some (8, k9)), .inr (some (12, a1))]) rfl (xc.mono h ?_)
                  rintro r S13 ⟨rfl, hC14, h⟩
                  show xw _ _ 69 [some (.inr (some (0, 0))), some (.inr (some (12, a1))), some (.inr (some (9, k1))), some (.inl a3), some (.inl a4), some (.inl a5), some (.inl a6), some (.inl a7)] [.inr (some (8, k9)), .inr (some (12, a1))] _ _
                  obtain ⟨z15, z16, h⟩ := h
                  refine xw.ladd (nx := 72) rfl (Nat.le_of_ble_eq_true rfl) (by decide) z15 z16 ?_
                  obtain ⟨S17, e18⟩ : ∃ s, s = xm_push a1 (8, k9) S13 := ⟨_, rfl⟩
                  rw [← e18]
                  replace h := h S17 e18
                  refine xw.s (pc' := 73) (st' := []) rfl ?_
                  refine xw.s (pc' := 74) (st' := [.inr (some (12, a1))]) rfl ?_
                  refine xw.lsz (nx := 77) (n := (xm_n S17 1 a1)) rfl (Nat.le_of_ble_eq_true rfl) rfl ?_
                  exact xw.ret (r := (some (.inl (nI (xm_n S17 1 a1))))) rfl h
                · skip
                  refine xw.s (pc' := 52) (st' := [.inl (-3 : Int32)]) rfl ?_
                  exact xw.ret (r := (some (.inl (-3 : Int32)))) rfl h
/-- slow -/
theorem cw_slow {d : Nat} {a1 : Int32} {a2 : Int32} {a3 : Int32} {a4 : Int32} {a5 : Int32} {S : xm_S} {Q : Option xm_V → xm_S → Prop} (hC : xk_C S) (h : (a1 < (0 : Int32) → xc d 5 [.inr (some (0, 0)), .inr (some (12, 2)), .inr none, .inl a2, .inl a3, .inl a4, .inl a5, .inl (1000 : Int32)] S (fun r S2 => ∃ x4 : Int32, r = some (.inl x4) ∧ xk_C S2 ∧ (Q (some (.inl x4)) S2))) ∧ (¬ a1 < (0 : Int32) → ((nI (xm_n S 1 0)) ≤ a1 → xc d 5 [.inr (some (0, 0)), .inr (some (12, 2)), .inr none, .inl a2, .inl a3, .inl a4, .inl a5, .inl (1000 : Int32)] S (fun r S6 => ∃ x8 : Int32, r = some (.inl x8) ∧ xk_C S6 ∧ (Q (some (.inl x8)) S6))) ∧ (¬ (nI (xm_n S 1 0)) ≤ a1 → y_in a1 (xm_n S 1 0) ∧ (∃ k10, (xm_l S 0 (y_ix a1)) = (9, k10) ∧ (xc d 5 [.inr (some (0, 0)), .inr (some (12, 2)), .inr (some (9, k10)), .inl a2, .inl a3, .inl a4, .inl a5, .inl (1000 : Int32)] S (fun r S12 => ∃ x14 : Int32, r = some (.inl x14) ∧ xk_C S12 ∧ (Q (some (.inl x14)) S12))))))) : xc (d + 1) 6 [.inr (some (0, 0)), .inl a1, .inl a2, .inl a3, .inl a4, .inl a5] S Q := by
  show xw _ _ _ [some (.inr (some (0, 0))), some (.inl a1), some (.inl a2), some (.inl a3), some (.inl a4), some (.inl a5)] _ _ _
  refine xw.s (pc' := 1) (st' := [.inr (some (0, 0))]) rfl ?_
  refine xw.s (pc' := 2) (st' := [.inr (some (0, 0)), .inr (some (0, 0))]) rfl ?_
  refine xw.fr (c := 0) (j := 2) (e := 12) (nx := 5) (t := (some 2)) rfl rfl (hC 2 (by decide)) ?_
  show xw _ _ _ [some (.inr (some (0, 0))), some (.inl a1), some (.inl a2), some (.inl a3), some (.inl a4), some (.inl a5)] [.inr (some (12, 2)), .inr (some (0, 0))] _ _
  refine xw.s (pc' := 6) (st' := [.inr (some (0, 0)), .inr (some (12, 2)), .inr (some (0, 0))]) rfl ?_
  refine xw.s (pc' := 7) (st' := [.inl a1, .inr (some (0, 0)), .inr (some (12, 2)), .inr (some (0, 0))]) rfl ?_
  refine xw.call (m := 4) (as := [.inr (some (0, 0)), .inl a1]) (nx := 10) (L' := [some (.inr (some (0, 0))), some (.inl a1), some (.inl a2), some (.inl a3), some (.inl a4), some (.inl a5)]) (st' := [.inr (some (12, 2)), .inr (some (0, 0))]) rfl ?_
  show xw _ _ _ [some (.inr (some (0, 0))), some (.inl a1)] [] _ _
  refine xw.s (pc' := 1) (st' := [.inl a1]) rfl ?_
  refine xw.b (c := a1 < (0 : Int32)) (cd := .lt) (x := a1) (y := (0 : Int32)) 29 4 (st' := []) rfl (y_clt _ _) h (fun c1 h => ?_) (fun c1 h => ?_)
  · skip
    refine xw.s (pc' := 30) (st' := [.inr none]) rfl ?_
    refine xw.ret (r := some (.inr none)) rfl ?_
    show xw _ _ 10 [some (.inr (some (0, 0))), some (.inl a1), some (.inl a2), some (.inl a3), some (.inl a4), some (.inl a5)] [.inr none, .inr (some (12, 2)), .inr (some (0, 0))] S _
    refine xw.s (pc' := 11) (st' := [.inl a2, .inr none, .inr (some (12, 2)), .inr (some (0, 0))]) rfl ?_
    refine xw.s (pc' := 12) (st' := [.inl a3, .inl a2, .inr none, .inr (some (12, 2)), .inr (some (0, 0))]) rfl ?_
    refine xw.s (pc' := 14) (st' := [.inl a4, .inl a3, .inl a2, .inr none, .inr (some (12, 2)), .inr (some (0, 0))]) rfl ?_
    refine xw.s (pc' := 16) (st' := [.inl a5, .inl a4, .inl a3, .inl a2, .inr none, .inr (some (12, 2)), .inr (some (0, 0))]) rfl ?_
    refine xw.s (pc' := 19) (st' := [.inl (1000 : Int32), .inl a5, .inl a4, .inl a3, .inl a2, .inr none, .inr (some (12, 2)), .inr (some (0, 0))]) rfl ?_
    refine xw.call (m := 5) (as := [.inr (some (0, 0)), .inr (some (12, 2)), .inr none, .inl a2, .inl a3, .inl a4, .inl a5, .inl (1000 : Int32)]) (nx := 22) (L' := [some (.inr (some (0, 0))), some (.inl a1), some (.inl a2), some (.inl a3), some (.inl a4), some (.inl a5)]) (st' := []) rfl (xc.mono h ?_)
    rintro r S2 ⟨x4, rfl, hC3, h⟩
    show xw _ _ 22 [some (.inr (some (0, 0))), some (.inl a1), some (.inl a2), some (.inl a3), some (.inl a4), some (.inl a5)] [.inl x4] _ _
    exact xw.ret (r := (some (.inl x4))) rfl h
  · skip
    refine xw.s (pc' := 5) (st' := [.inl a1]) rfl ?_
    refine xw.s (pc' := 6) (st' := [.inr (some (0, 0)), .inl a1]) rfl ?_
    refine xw.fr (c := 0) (j := 0) (e := 12) (nx := 9) (t := (some 0)) rfl rfl (hC 0 (by decide)) ?_
    show xw _ _ _ [some (.inr (some (0, 0))), some (.inl a1)] [.inr (some (12, 0)), .inl a1] _ _
    refine xw.lsz (nx := 12) (n := (xm_n S 1 0)) rfl (Nat.le_of_ble_eq_true rfl) rfl ?_
    refine xw.b (c := (nI (xm_n S 1 0)) ≤ a1) (cd := .ge) (x := a1) (y := (nI (xm_n S 1 0))) 29 15 (st' := []) rfl (y_cge _ _) h (fun c5 h => ?_) (fun c5 h => ?_)
    · skip
      refine xw.s (pc' := 30) (st' := [.inr none]) rfl ?_
      refine xw.ret (r := some (.inr none)) rfl ?_
      show xw _ _ 10 [some (.inr (some (0, 0))), some (.inl a1), some (.inl a2), some (.inl a3), some (.inl a4), some (.inl a5)] [.inr none, .inr (some (12, 2)), .inr (some (0, 0))] S _
      refine xw.s (pc' := 11) (st' := [.inl a2, .inr none, .inr (some (12, 2)), .inr (some (0, 0))]) rfl ?_
      refine xw.s (pc' := 12) (st' := [.inl a3, .inl a2, .inr none, .inr (some (12, 2)), .inr (some (0, 0))]) rfl ?_
      refine xw.s (pc' := 14) (st' := [.inl a4, .inl a3, .inl a2, .inr none, .inr (some (12, 2)), .inr (some (0, 0))]) rfl ?_
      refine xw.s (pc' := 16) (st' := [.inl a5, .inl a4, .inl a3, .inl a2, .inr none, .inr (some (12, 2)), .inr (some (0, 0))]) rfl ?_
      refine xw.s (pc' := 19) (st' := [.inl (1000 : Int32), .inl a5, .inl a4, .inl a3, .inl a2, .inr none, .inr (some (12, 2)), .inr (some (0, 0))]) rfl ?_
      refine xw.call (m := 5) (as := [.inr (some (0, 0)), .inr (some (12, 2)), .inr none, .inl a2, .inl a3, .inl a4, .inl a5, .inl (1000 : Int32)]) (nx := 22) (L' := [some (.inr (some (0, 0))), some (.inl a1), some (.inl a2), some (.inl a3), some (.inl a4), some (.inl a5)]) (st' := []) rfl (xc.mono h ?_)
      rintro r S6 ⟨x8, rfl, hC7, h⟩
      show xw _ _ 22 [some (.inr (some (0, 0))), some (.inl a1), some (.inl a2), some (.inl a3), some (.inl a4), some (.inl a5)] [.inl x8] _ _
      exact xw.ret (r := (some (.inl x8))) rfl h
    · skip
      refine xw.s (pc' := 16) (st' := [.inr (some (0, 0))]) rfl ?_
      refine xw.fr (c := 0) (j := 0) (e := 12) (nx := 19) (t := (some 0)) rfl rfl (hC 0 (by decide)) ?_
      show xw _ _ _ [some (.inr (some (0, 0))), some (.inl a1)] [.inr (some (12, 0))] _ _
      refine xw.s (pc' := 20) (st' := [.inl a1, .inr (some (12, 0))]) rfl ?_
      obtain ⟨z9, h⟩ := h
      obtain ⟨k10, q11, h⟩ := h
      refine xw.get (nx := 23) (p := (9, k10)) rfl (Nat.le_of_ble_eq_true rfl) z9 q11 ?_
      refine xw.s (pc' := 26) (st' := [.inr (some (9, k10))]) rfl ?_
      refine xw.s (pc' := 30) (st' := [.inr (some (9, k10))]) rfl ?_
      refine xw.ret (r := some (.inr (some (9, k10)))) rfl ?_
      show xw _ _ 10 [some (.inr (some (0, 0))), some (.inl a1), some (.inl a2), some (.inl a3), some (.inl a4), some (.inl a5)] [.inr (some (9, k10)), .inr (some (12, 2)), .inr (some (0, 0))] S _
      refine xw.s (pc' := 11) (st' := [.inl a2, .inr (some (9, k10)), .inr (some (12, 2)), .inr (some (0, 0))]) rfl ?_
      refine xw.s (pc' := 12) (st' := [.inl a3, .inl a2, .inr (some (9, k10)), .inr (some (12, 2)), .inr (some (0, 0))]) rfl ?_
      refine xw.s (pc' := 14) (st' := [.inl a4, .inl a3, .inl a2, .inr (some (9, k10)), .inr (some (12, 2)), .inr (some (0, 0))]) rfl ?_
      refine xw.s (pc' := 16) (st' := [.inl a5, .inl a4, .inl a3, .inl a2, .inr (some (9, k10)), .inr (some (12, 2)), .inr (some (0, 0))]) rfl ?_
      refine xw.s (pc' := 19) (st' := [.inl (1000 : Int32), .inl a5, .inl a4, .inl a3, .inl a2, .inr (some (9, k10)), .inr (some (12, 2)), .inr (some (0, 0))]) rfl ?_
      refine xw.call (m := 5) (as := [.inr (some (0, 0)), .inr (some (12, 2)), .inr (some (9, k10)), .inl a2, .inl a3, .inl a4, .inl a5, .inl (1000 : Int32)]) (nx := 22) (L' := [some (.inr (some (0, 0))), some (.inl a1), some (.inl a2), some (.inl a3), some (.inl a4), some (.inl a5)]) (st' := []) rfl (xc.mono h ?_)
      rintro r S12 ⟨x14, rfl, hC13, h⟩
      show xw _ _ 22 [some (.inr (some (0, 0))), some (.inl a1), some (.inl a2), some (.inl a3), some (.inl a4), some (.inl a5)] [.inl x14] _ _
      exact xw.ret (r := (some (.inl x14))) rfl h
/-- guard -/
theorem cw_guard {d : Nat} {a1 : Int32} {a2 : Int32} {a3 : Int32} {a4 : Int32} {a5 : Int32} {S : xm_S} {Q : Option xm_V → xm_S → Prop} (hC : xk_C S) (h : (a1 = (6 : Int32) → (a2 = (1 : Int32) → (a3 < (0 : Int32) → Q (some (.inl (-1 : Int32))) S) ∧ (¬ a3 < (0 : Int32) → ((nI (xm_n S 1 0)) ≤ a3 → Q (some (.inl (-1 : Int32))) S) ∧ (¬ (nI (xm_n S 1 0)) ≤ a3 → y_in a3 (xm_n S 1 0) ∧ (∃ k6, (xm_l S 0 (y_ix a3)) = (9, k6) ∧ ((a1 < (0 : Int32) → Q (some (.inl (-2 : Int32))) S) ∧ (¬ a1 < (0 : Int32) → ((nI (xm_n S 26 0)) ≤ a1 → Q (some (.inl (-2 : Int32))) S) ∧ (¬ (nI (xm_n S 26 0)) ≤ a1 → ((nI (xm_n S 26 1)) ≤ a1 → Q (some (.inl (-2 : Int32))) S) ∧ (¬ (nI (xm_n S 26 1)) ≤ a1 → ((nI (xm_n S 26 2)) ≤ a1 → Q (some (.inl (-2 : Int32))) S) ∧ (¬ (nI (xm_n S 26 2)) ≤ a1 → ((nI (xm_n S 26 3)) ≤ a1 → Q (some (.inl (-2 : Int32))) S) ∧ (¬ (nI (xm_n S 26 3)) ≤ a1 → ((nI (xm_n S 26 4)) ≤ a1 → Q (some (.inl (-2 : Int32))) S) ∧ (¬ (nI (xm_n S 26 4)) ≤ a1 → ((nI (xm_n S 26 5)) ≤ a1 → Q (some (.inl (-2 : Int32))) S) ∧ (¬ (nI (xm_n S 26 5)) ≤ a1 → y_in a1 (xm_n S 26 0) ∧ (y_in a1 (xm_n S 26 1) ∧ ((a2 < (xm_i S 16 0 (y_ix a1)) → Q (some (.inl (-2 : Int32))) S) ∧ (¬ a2 < (xm_i S 16 0 (y_ix a1)) → ((xm_i S 16 1 (y_ix a1)) < a2 → Q (some (.inl (-2 : Int32))) S) ∧ (¬ (xm_i S 16 1 (y_ix a1)) < a2 → y_in a1 (xm_n S 26 2) ∧ (y_in a1 (xm_n S 26 3) ∧ ((a3 < (xm_i S 16 2 (y_ix a1)) → Q (some (.inl (-2 : Int32))) S) ∧ (¬ a3 < (xm_i S 16 2 (y_ix a1)) → ((xm_i S 16 3 (y_ix a1)) < a3 → Q (some (.inl (-2 : Int32))) S) ∧ (¬ (xm_i S 16 3 (y_ix a1)) < a3 → y_in a1 (xm_n S 26 4) ∧ ((a4 < (0 : Int32) → Q (some (.inl (-2 : Int32))) S) ∧ (¬ a4 < (0 : Int32) → ((xm_i S 16 4 (y_ix a1)) < a4 → Q (some (.inl (-2 : Int32))) S) ∧ (¬ (xm_i S 16 4 (y_ix a1)) < a4 → y_in a1 (xm_n S 26 5) ∧ ((a5 < (0 : Int32) → Q (some (.inl (-2 : Int32))) S) ∧ (¬ a5 < (0 : Int32) → ((xm_i S 16 5 (y_ix a1)) < a5 → Q (some (.inl (-2 : Int32))) S) ∧ (¬ (xm_i S 16 5 (y_ix a1)) < a5 → ((nI (xm_n S 1 3)) < (24 : Int32) → ∀ k30, k30 = xm_n S 0 5 → (∀ S32, S32 = xm_mk 5 15 S → (xc (d + 1) 98 [.inr (some (5, k30)), .inl (nI (xm_n S32 1 3)), .inl a1, .inl a2, .inl a3, .inl a4, .inl a5] S32 (fun r S34 => r = none ∧ xk_C S34 ∧ (xm_n S34 2 3 ≠ 0 ∧ xm_n S34 1 3 < 100000 ∧ (∀ S38, S38 = xm_push 3 (5, k30) S34 → (Q (some (.inl ((nI (xm_n S38 1 3)) - (1 : Int32)))) S38))))))) ∧ (¬ (nI (xm_n S 1 3)) < (24 : Int32) → Q (some (.inl (-3 : Int32))) S))))))))))))))))))))))))))) ∧ (¬ a2 = (1 : Int32) → (a1 < (0 : Int32) → Q (some (.inl (-2 : Int32))) S) ∧ (¬ a1 < (0 : Int32) → ((nI (xm_n S 26 0)) ≤ a1 → Q (some (.inl (-2 : Int32))) S) ∧ (¬ (nI (xm_n S 26 0)) ≤ a1 → ((nI (xm_n S 26 1)) ≤ a1 → Q (some (.inl (-2 : Int32))) S) ∧ (¬ (nI (xm_n S 26 1)) ≤ a1 → ((nI (xm_n S 26 2)) ≤ a1 → Q (some (.inl (-2 : Int32))) S) ∧ (¬ (nI (xm_n S 26 2)) ≤ a1 → ((nI (xm_n S 26 3)) ≤ a1 → Q (some (.inl (-2 : Int32))) S) ∧ (¬ (nI (xm_n S 26 3)) ≤ a1 → ((nI (xm_n S 26 4)) ≤ a1 → Q (some (.inl (-2 : Int32))) S) ∧ (¬ (nI (xm_n S 26 4)) ≤ a1 → ((nI (xm_n S 26 5)) ≤ a1 → Q (some (.inl (-2 : Int32))) S) ∧ (¬ (nI (xm_n S 26 5)) ≤ a1 → y_in a1 (xm_n S 26 0) ∧ (y_in a1 (xm_n S 26 1) ∧ ((a2 < (xm_i S 16 0 (y_ix a1)) → Q (some (.inl (-2 : Int32))) S) ∧ (¬ a2 < (xm_i S 16 0 (y_ix a1)) → ((xm_i S 16 1 (y_ix a1)) < a2 → Q (some (.inl (-2 : Int32))) S) ∧ (¬ (xm_i S 16 1 (y_ix a1)) < a2 → y_in a1 (xm_n S 26 2) ∧ (y_in a1 (xm_n S 26 3) ∧ ((a3 < (xm_i S 16 2 (y_ix a1)) → Q (some (.inl (-2 : Int32))) S) ∧ (¬ a3 < (xm_i S 16 2 (y_ix a1)) → ((xm_i S 16 3 (y_ix a1)) < a3 → Q (some (.inl (-2 : Int32))) S) ∧ (¬ (xm_i S 16 3 (y_ix a1)) < a3 → y_in a1 (xm_n S 26 4) ∧ ((a4 < (0 : Int32) → Q (some (.inl (-2 : Int32))) S) ∧ (¬ a4 < (0 : Int32) → ((xm_i S 16 4 (y_ix a1)) < a4 → Q (some (.inl (-2 : Int32))) S) ∧ (¬ (xm_i S 16 4 (y_ix a1)) < a4 → y_in a1 (xm_n S 26 5) ∧ ((a5 < (0 : Int32) → Q (some (.inl (-2 : Int32))) S) ∧ (¬ a5 < (0 : Int32) → ((xm_i S 16 5 (y_ix a1)) < a5 → Q (some (.inl (-2 : Int32))) S) ∧ (¬ (xm_i S 16 5 (y_ix a1)) < a5 → ((nI (xm_n S 1 3)) < (24 : Int32) → ∀ k62, k62 = xm_n S 0 5 → (∀ S64, S64 = xm_mk 5 15 S → (xc (d + 1) 98 [.inr (some (5, k62)), .inl (nI (xm_n S64 1 3)), .inl a1, .inl a2, .inl a3, .inl a4, .inl a5] S64 (fun r S66 => r = none ∧ xk_C S66 ∧ (xm_n S66 2 3 ≠ 0 ∧ xm_n S66 1 3 < 100000 ∧ (∀ S70, S70 = xm_push 3 (5, k62) S66 → (Q (some (.inl ((nI (xm_n S70 1 3)) - (1 : Int32)))) S70))))))) ∧ (¬ (nI (xm_n S 1 3)) < (24 : Int32) → Q (some (.inl (-3 : Int32))) S)))))))))))))))))))))))) ∧ (¬ a1 = (6 : Int32) → (a1 < (0 : Int32) → Q (some (.inl (-2 : Int32))) S) ∧ (¬ a1 < (0 : Int32) → ((nI (xm_n S 26 0)) ≤ a1 → Q (some (.inl (-2 : Int32))) S) ∧ (¬ (nI (xm_n S 26 0)) ≤ a1 → ((nI (xm_n S 26 1)) ≤ a1 → Q (some (.inl (-2 : Int32))) S) ∧ (¬ (nI (xm_n S 26 1)) ≤ a1 → ((nI (xm_n S 26 2)) ≤ a1 → Q (some (.inl (-2 : Int32))) S) ∧ (¬ (nI (xm_n S 26 2)) ≤ a1 → ((nI (xm_n S 26 3)) ≤ a1 → Q (some (.inl (-2 : Int32))) S) ∧ (¬ (nI (xm_n S 26 3)) ≤ a1 → ((nI (xm_n S 26 4)) ≤ a1 → Q (some (.inl (-2 : Int32))) S) ∧ (¬ (nI (xm_n S 26 4)) ≤ a1 → ((nI (xm_n S 26 5)) ≤ a1 → Q (some (.inl (-2 : Int32))) S) ∧ (¬ (nI (xm_n S 26 5)) ≤ a1 → y_in a1 (xm_n S 26 0) ∧ (y_in a1 (xm_n S 26 1) ∧ ((a2 < (xm_i S 16 0 (y_ix a1)) → Q (some (.inl (-2 : Int32))) S) ∧ (¬ a2 < (xm_i S 16 0 (y_ix a1)) → ((xm_i S 16 1 (y_ix a1)) < a2 → Q (some (.inl (-2 : Int32))) S) ∧ (¬ (xm_i S 16 1 (y_ix a1)) < a2 → y_in a1 (xm_n S 26 2) ∧ (y_in a1 (xm_n S 26 3) ∧ ((a3 < (xm_i S 16 2 (y_ix a1)) → Q (some (.inl (-2 : Int32))) S) ∧ (¬ a3 < (xm_i S 16 2 (y_ix a1)) → ((xm_i S 16 3 (y_ix a1)) < a3 → Q (some (.inl (-2 : Int32))) S) ∧ (¬ (xm_i S 16 3 (y_ix a1)) < a3 → y_in a1 (xm_n S 26 4) ∧ ((a4 < (0 : Int32) → Q (some (.inl (-2 : Int32))) S) ∧ (¬ a4 < (0 : Int32) → ((xm_i S 16 4 (y_ix a1)) < a4 → Q (some (.inl (-2 : Int32))) S) ∧ (¬ (xm_i S 16 4 (y_ix a1)) < a4 → y_in a1 (xm_n S 26 5) ∧ ((a5 < (0 : Int32) → Q (some (.inl (-2 : Int32))) S) ∧ (¬ a5 < (0 : Int32) → ((xm_i S 16 5 (y_ix a1)) < a5 → Q (some (.inl (-2 : Int32))) S) ∧ (¬ (xm_i S 16 5 (y_ix a1)) < a5 → ((nI (xm_n S 1 3)) < (24 : Int32) → ∀ k94, k94 = xm_n S 0 5 → (∀ S96, S96 = xm_mk 5 15 S → (xc (d + 1) 98 [.inr (some (5, k94)), .inl (nI (xm_n S96 1 3)), .inl a1, .inl a2, .inl a3, .inl a4, .inl a5] S96 (fun r S98 => r = none ∧ xk_C S98 ∧ (xm_n S98 2 3 ≠ 0 ∧ xm_n S98 1 3 < 100000 ∧ (∀ S102, S102 = xm_push 3 (5, k94) S98 → (Q (some (.inl ((nI (xm_n S102 1 3)) - (1 : Int32)))) S102))))))) ∧ (¬ (nI (xm_n S 1 3)) < (24 : Int32) → Q (some (.inl (-3 : Int32))) S)))))))))))))))))))))))) : xc (d + 2) 7 [.inr (some (0, 0)), .inl a1, .inl a2, .inl a3, .inl a4, .inl a5] S Q := by
  show xw _ _ _ [some (.inr (some (0, 0))), some (.inl a1), some (.inl a2), some (.inl a3), some (.inl a4), some (.inl a5)] _ _ _
  refine xw.s (pc' := 1) (st' := [.inl a1]) rfl ?_
  refine xw.s (pc' := 3) (st' := [.inl (6 : Int32), .inl a1]) rfl ?_
  refine xw.bn (c := a1 = (6 : Int32)) (cd := .ne) (x := a1) (y := (6 : Int32)) 21 6 (st' := []) rfl (y_cne _ _) h (fun c1 h => ?_) (fun c1 h => ?_)
  · skip
    refine xw.s (pc' := 7) (st' := [.inl a2]) rfl ?_
    refine xw.s (pc' := 8) (st' := [.inl (1 : Int32), .inl a2]) rfl ?_
    refine xw.bn (c := a2 = (1 : Int32)) (cd := .ne) (x := a2) (y := (1 : Int32)) 21 11 (st' := []) rfl (y_cne _ _) h (fun c2 h => ?_) (fun c2 h => ?_)
    · skip
      refine xw.s (pc' := 12) (st' := [.inr (some (0, 0))]) rfl ?_
      refine xw.s (pc' := 13) (st' := [.inl a3, .inr (some (0, 0))]) rfl ?_
      refine xw.call (m := 4) (as := [.inr (some (0, 0)), .inl a3]) (nx := 16) (L' := [some (.inr (some (0, 0))), some (.inl a1), some (.inl a2), some (.inl a3), some (.inl a4), some (.inl a5)]) (st' := []) rfl ?_
      show xw _ _ _ [some (.inr (some (0, 0))), some (.inl a3)] [] _ _
      refine xw.s (pc' := 1) (st' := [.inl a3]) rfl ?_
      refine xw.b (c := a3 < (0 : Int32)) (cd := .lt) (x := a3) (y := (0 : Int32)) 29 4 (st' := []) rfl (y_clt _ _) h (fun c3 h => ?_) (fun c3 h => ?_)
      · skip
        refine xw.s (pc' := 30) (st' := [.inr none]) rfl ?_
        refine xw.ret (r := some (.inr none)) rfl ?_
        show xw _ _ 16 [some (.inr (some (0, 0))), some (.inl a1), some (.inl a2), some (.inl a3), some (.inl a4), some (.inl a5)] [.inr none] S _
        refine xw.s (pc' := 19) (st' := []) rfl ?_
        refine xw.s (pc' := 20) (st' := [.inl (-1 : Int32)]) rfl ?_
        exact xw.ret (r := (some (.inl (-1 : Int32)))) rfl h
      · skip
        refine xw.s (pc' := 5) (st' := [.inl a3]) rfl ?_
        refine xw.s (pc' := 6) (st' := [.inr (some (0, 0)), .inl a3]) rfl ?_
        refine xw.fr (c := 0) (j := 0) (e := 12) (nx := 9) (t := (some 0)) rfl rfl (hC 0 (by decide)) ?_
        show xw _ _ _ [some (.inr (some (0, 0))), some (.inl a3)] [.inr (some (12, 0)), .inl a3] _ _
        refine xw.lsz (nx := 12) (n := (xm_n S 1 0)) rfl (Nat.le_of_ble_eq_true rfl) rfl ?_
        refine xw.b (c := (nI (xm_n S 1 0)) ≤ a3) (cd := .ge) (x := a3) (y := (nI (xm_n S 1 0))) 29 15 (st' := []) rfl (y_cge _ _) h (fun c4 h => ?_) (fun c4 h => ?_)
        · skip
          refine xw.s (pc' := 30) (st' := [.inr none]) rfl ?_
          refine xw.ret (r := some (.inr none)) rfl ?_
          show xw _ _ 16 [some (.inr (some (0, 0))), some (.inl a1), some (.inl a2), some (.inl a3), some (.inl a4), some (.inl a5)] [.inr none] S _
          refine xw.s (pc' := 19) (st' := []) rfl ?_
          refine xw.s (pc' := 20) (st' := [.inl (-1 : Int32)]) rfl ?_
          exact xw.ret (r := (some (.inl (-1 : Int32)))) rfl h
        · skip
          refine xw.s (pc' := 16) (st' := [.inr (some (0, 0))]) rfl ?_
          refine xw.fr (c := 0) (j := 0) (e := 12) (nx := 19) (t := (some 0)) rfl rfl (hC 0 (by decide)) ?_
          show xw _ _ _ [some (.inr (some (0, 0))), some (.inl a3)] [.inr (some (12, 0))] _ _
          refine xw.s (pc' := 20) (st' := [.inl a3, .inr (some (12, 0))]) rfl ?_
          obtain ⟨z5, h⟩ := h
          obtain ⟨k6, q7, h⟩ := h
          refine xw.get (nx := 23) (p := (9, k6)) rfl (Nat.le_of_ble_eq_true rfl) z5 q7 ?_
          refine xw.s (pc' := 26) (st' := [.inr (some (9, k6))]) rfl ?_
          refine xw.s (pc' := 30) (st' := [.inr (some (9, k6))]) rfl ?_
          refine xw.ret (r := some (.inr (some (9, k6)))) rfl ?_
          show xw _ _ 16 [some (.inr (some (0, 0))), some (.inl a1), some (.inl a2), some (.inl a3), some (.inl a4), some (.inl a5)] [.inr (some (9, k6))] S _
          refine xw.s (pc' := 21) (st' := []) rfl ?_
          refine xw.s (pc' := 22) (st' := [.inl a1]) rfl ?_
          refine xw.s (pc' := 23) (st' := [.inl a2, .inl a1]) rfl ?_
          refine xw.s (pc' := 24) (st' := [.inl a3, .inl a2, .inl a1]) rfl ?_
          refine xw.s (pc' := 26) (st' := [.inl a4, .inl a3, .inl a2, .inl a1]) rfl ?_
          refine xw.s (pc' := 28) (st' := [.inl a5, .inl a4, .inl a3, .inl a2, .inl a1]) rfl ?_
          refine xw.call (m := 8) (as := [.inl a1, .inl a2, .inl a3, .inl a4, .inl a5]) (nx := 31) (L' := [some (.inr (some (0, 0))), some (.inl a1), some (.inl a2), some (.inl a3), some (.inl a4), some (.inl a5)]) (st' := []) rfl ?_
          show xw _ _ _ [some (.inl a1), some (.inl a2), some (.inl a3), some (.inl a4), some (.inl a5)] [] _ _
          refine xw.s (pc' := 1) (st' := [.inl a1]) rfl ?_
          refine xw.b (c := a1 < (0 : Int32)) (cd := .lt) (x := a1) (y := (0 : Int32)) 117 4 (st' := []) rfl (y_clt _ _) h (fun c8 h => ?_) (fun c8 h => ?_)
          · skip
            refine xw.s (pc' := 118) (st' := [.inl (0 : Int32)]) rfl ?_
            refine xw.retz (nx := 119) rfl (Or.inl rfl) ?_
            show xw _ _ 31 [some (.inr (some (0, 0))), some (.inl a1), some (.inl a2), some (.inl a3), some (.inl a4), some (.inl a5)] [.inl (0 : Int32)] S _
            refine xw.bf (cd := .ne) (x := (0 : Int32)) (y := (0 : Int32)) 37 34 (st' := []) rfl (y_cne _ _) (by decide) ?_
            refine xw.s (pc' := 36) (st' := [.inl (-2 : Int32)]) rfl ?_
            exact xw.ret (r := (some (.inl (-2 : Int32)))) rfl h
          · skip
            refine xw.s (pc' := 5) (st' := [.inl a1]) rfl ?_
            refine xw.s (pc' := 8) (st' := [.inr (some (16, 0)), .inl a1]) rfl ?_
            refine xw.aln (c := 16) (n := (xm_n S 26 0)) (nx := 9) rfl (by decide) rfl ?_
            refine xw.b (c := (nI (xm_n S 26 0)) ≤ a1) (cd := .ge) (x := a1) (y := (nI (xm_n S 26 0))) 117 12 (st' := []) rfl (y_cge _ _) h (fun c9 h => ?_) (fun c9 h => ?_)
            · skip
              refine xw.s (pc' := 118) (st' := [.inl (0 : Int32)]) rfl ?_
              refine xw.retz (nx := 119) rfl (Or.inl rfl) ?_
              show xw _ _ 31 [some (.inr (some (0, 0))), some (.inl a1), some (.inl a2), some (.inl a3), some (.inl a4), some (.inl a5)] [.inl (0 : Int32)] S _
              refine xw.bf (cd := .ne) (x := (0 : Int32)) (y := (0 : Int32)) 37 34 (st' := []) rfl (y_cne _ _) (by decide) ?_
              refine xw.s (pc' := 36) (st' := [.inl (-2 : Int32)]) rfl ?_
              exact xw.ret (r := (some (.inl (-2 : Int32)))) rfl h
            · skip
              refine xw.s (pc' := 13) (st' := [.inl a1]) rfl ?_
              refine xw.s (pc' := 16) (st' := [.inr (some (16, 1)), .inl a1]) rfl ?_
              refine xw.aln (c := 16) (n := (xm_n S 26 1)) (nx := 17) rfl (by decide) rfl ?_
              refine xw.b (c := (nI (xm_n S 26 1)) ≤ a1) (cd := .ge) (x := a1) (y := (nI (xm_n S 26 1))) 117 20 (st' := []) rfl (y_cge _ _) h (fun c10 h => ?_) (fun c10 h => ?_)
              · skip
                refine xw.s (pc' := 118) (st' := [.inl (0 : Int32)]) rfl ?_
                refine xw.retz (nx := 119) rfl (Or.inl rfl) ?_
                show xw _ _ 31 [some (.inr (some (0, 0))), some (.inl a1), some (.inl a2), some (.inl a3), some (.inl a4), some (.inl a5)] [.inl (0 : Int32)] S _
                refine xw.bf (cd := .ne) (x := (0 : Int32)) (y := (0 : Int32)) 37 34 (st' := []) rfl (y_cne _ _) (by decide) ?_
                refine xw.s (pc' := 36) (st' := [.inl (-2 : Int32)]) rfl ?_
                exact xw.ret (r := (some (.inl (-2 : Int32)))) rfl h
              · skip
                refine xw.s (pc' := 21) (st' := [.inl a1]) rfl ?_
                refine xw.s (pc' := 24) (st' := [.inr (some (16, 2)), .inl a1]) rfl ?_
                refine xw.aln (c := 16) (n := (xm_n S 26 2)) (nx := 25) rfl (by decide) rfl ?_
                refine xw.b (c := (nI (xm_n S 26 2)) ≤ a1) (cd := .ge) (x := a1) (y := (nI (xm_n S 26 2))) 117 28 (st' := []) rfl (y_cge _ _) h (fun c11 h => ?_) (fun c11 h => ?_)
                · skip
                  refine xw.s (pc' := 118) (st' := [.inl (0 : Int32)]) rfl ?_
                  refine xw.retz (nx := 119) rfl (Or.inl rfl) ?_
                  show xw _ _ 31 [some (.inr (some (0, 0))), some (.inl a1), some (.inl a2), some (.inl a3), some (.inl a4), some (.inl a5)] [.inl (0 : Int32)] S _
                  refine xw.bf (cd := .ne) (x := (0 : Int32)) (y := (0 : Int32)) 37 34 (st' := []) rfl (y_cne _ _) (by decide) ?_
                  refine xw.s (pc' := 36) (st' := [.inl (-2 : Int32)]) rfl ?_
                  exact xw.ret (r := (some (.inl (-2 : Int32)))) rfl h
                · skip
                  refine xw.s (pc' := 29) (st' := [.inl a1]) rfl ?_
                  refine xw.s (pc' := 32) (st' := [.inr (some (16, 3)), .inl a1]) rfl ?_
                  refine xw.aln (c := 16) (n := (xm_n S 26 3)) (nx := 33) rfl (by decide) rfl ?_
                  refine xw.b (c := (nI (xm_n S 26 3)) ≤ a1) (cd := .ge) (x := a1) (y := (nI (xm_n S 26 3))) 117 36 (st' := []) rfl (y_cge _ _) h (fun c12 h => ?_) (fun c12 h => ?_)
                  · skip
                    refine xw.s (pc' := 118) (st' := [.inl (0 : Int32)]) rfl ?_
                    refine xw.retz (nx := 119) rfl (Or.inl rfl) ?_
                    show xw _ _ 31 [some (.inr (some (0, 0))), some (.inl a1), some (.inl a2), some (.inl a3), some (.inl a4), some (.inl a5)] [.inl (0 : Int32)] S _
                    refine xw.bf (cd := .ne) (x := (0 : Int32)) (y := (0 : Int32)) 37 34 (st' := []) rfl (y_cne _ _) (by decide) ?_
                    refine xw.s (pc' := 36) (st' := [.inl (-2 : Int32)]) rfl ?_
                    exact xw.ret (r := (some (.inl (-2 : Int32)))) rfl h
                  · skip
                    refine xw.s (pc' := 37) (st' := [.inl a1]) rfl ?_
                    refine xw.s (pc' := 40) (st' := [.inr (some (16, 4)), .inl a1]) rfl ?_
                    refine xw.aln (c := 16) (n := (xm_n S 26 4)) (nx := 41) rfl (by decide) rfl ?_
                    refine xw.b (c := (nI (xm_n S 26 4)) ≤ a1) (cd := .ge) (x := a1) (y := (nI (xm_n S 26 4))) 117 44 (st' := []) rfl (y_cge _ _) h (fun c13 h => ?_) (fun c13 h => ?_)
                    · skip
                      refine xw.s (pc' := 118) (st' := [.inl (0 : Int32)]) rfl ?_
                      refine xw.retz (nx := 119) rfl (Or.inl rfl) ?_
                      show xw _ _ 31 [some (.inr (some (0, 0))), some (.inl a1), some (.inl a2), some (.inl a3), some (.inl a4), some (.inl a5)] [.inl (0 : Int32)] S _
                      refine xw.bf (cd := .ne) (x := (0 : Int32)) (y := (0 : Int32)) 37 34 (st' := []) rfl (y_cne _ _) (by decide) ?_
                      refine xw.s (pc' := 36) (st' := [.inl (-2 : Int32)]) rfl ?_
                      exact xw.ret (r := (some (.inl (-2 : Int32)))) rfl h
                    · skip
                      refine xw.s (pc' := 45) (st' := [.inl a1]) rfl ?_
                      refine xw.s (pc' := 48) (st' := [.inr (some (16, 5)), .inl a1]) rfl ?_
                      refine xw.aln (c := 16) (n := (xm_n S 26 5)) (nx := 49) rfl (by decide) rfl ?_
                      refine xw.b (c := (nI (xm_n S 26 5)) ≤ a1) (cd := .ge) (x := a1) (y := (nI (xm_n S 26 5))) 117 52 (st' := []) rfl (y_cge _ _) h (fun c14 h => ?_) (fun c14 h => ?_)
                      · skip
                        refine xw.s (pc' := 118) (st' := [.inl (0 : Int32)]) rfl ?_
                        refine xw.retz (nx := 119) rfl (Or.inl rfl) ?_
                        show xw _ _ 31 [some (.inr (some (0, 0))), some (.inl a1), some (.inl a2), some (.inl a3), some (.inl a4), some (.inl a5)] [.inl (0 : Int32)] S _
                        refine xw.bf (cd := .ne) (x := (0 : Int32)) (y := (0 : Int32)) 37 34 (st' := []) rfl (y_cne _ _) (by decide) ?_
                        refine xw.s (pc' := 36) (st' := [.inl (-2 : Int32)]) rfl ?_
                        exact xw.ret (r := (some (.inl (-2 : Int32)))) rfl h
                      · skip
                        refine xw.s (pc' := 53) (st' := [.inl a2]) rfl ?_
                        refine xw.s (pc' := 56) (st' := [.inr (some (16, 0)), .inl a2]) rfl ?_
                        refine xw.s (pc' := 57) (st' := [.inl a1, .inr (some (16, 0)), .inl a2]) rfl ?_
                        obtain ⟨z15, h⟩ := h
                        refine xw.ild (c := 16) (nx := 58) (v := (xm_i S 16 0 (y_ix a1))) rfl (by decide) z15 rfl ?_
                        refine xw.s (pc' := 61) (st' := [.inr (some (16, 1)), .inl (xm_i S 16 0 (y_ix a1)), .inl a2]) rfl ?_
                        refine xw.s (pc' := 62) (st' := [.inl a1, .inr (some (16, 1)), .inl (xm_i S 16 0 (y_ix a1)), .inl a2]) rfl ?_
                        obtain ⟨z16, h⟩ := h
                        refine xw.ild (c := 16) (nx := 63) (v := (xm_i S 16 1 (y_ix a1))) rfl (by decide) z16 rfl ?_
                        refine xw.call (m := 2) (as := [.inl a2, .inl (xm_i S 16 0 (y_ix a1)), .inl (xm_i S 16 1 (y_ix a1))]) (nx := 66) (L' := [some (.inl a1), some (.inl a2), some (.inl a3), some (.inl a4), some (.inl a5)]) (st' := []) rfl ?_
                        show xw _ _ _ [some (.inl a2), some (.inl (xm_i S 16 0 (y_ix a1))), some (.inl (xm_i S 16 1 (y_ix a1)))] [] _ _
                        refine xw.s (pc' := 1) (st' := [.inl a2]) rfl ?_
                        refine xw.s (pc' := 2) (st' := [.inl (xm_i S 16 0 (y_ix a1)), .inl a2]) rfl ?_
                        refine xw.b (c := a2 < (xm_i S 16 0 (y_ix a1))) (cd := .lt) (x := a2) (y := (xm_i S 16 0 (y_ix a1))) 14 5 (st' := []) rfl (y_clt _ _) h (fun c17 h => ?_) (fun c17 h => ?_)
                        · skip
                          refine xw.s (pc' := 15) (st' := [.inl (0 : Int32)]) rfl ?_
                          refine xw.retz (nx := 16) rfl (Or.inl rfl) ?_
                          show xw _ _ 66 [some (.inl a1), some (.inl a2), some (.inl a3), some (.inl a4), some (.inl a5)] [.inl (0 : Int32)] S _
                          refine xw.bt (cd := .eq) (x := (0 : Int32)) (y := (0 : Int32)) 117 69 (st' := []) rfl (y_ceq _ _) (by decide) ?_
                          refine xw.s (pc' := 118) (st' := [.inl (0 : Int32)]) rfl ?_
                          refine xw.retz (nx := 119) rfl (Or.inl rfl) ?_
                          show xw _ _ 31 [some (.inr (some (0, 0))), some (.inl a1), some (.inl a2), some (.inl a3), some (.inl a4), some (.inl a5)] [.inl (0 : Int32)] S _
                          refine xw.bf (cd := .ne) (x := (0 : Int32)) (y := (0 : Int32)) 37 34 (st' := []) rfl (y_cne _ _) (by decide) ?_
                          refine xw.s (pc' := 36) (st' := [.inl (-2 : Int32)]) rfl ?_
                          exact xw.ret (r := (some (.inl (-2 : Int32)))) rfl h
                        · skip
                          refine xw.s (pc' := 6) (st' := [.inl a2]) rfl ?_
                          refine xw.s (pc' := 7) (st' := [.inl (xm_i S 16 1 (y_ix a1)), .inl a2]) rfl ?_
                          refine xw.b (c := (xm_i S 16 1 (y_ix a1)) < a2) (cd := .gt) (x := a2) (y := (xm_i S 16 1 (y_ix a1))) 14 10 (st' := []) rfl (y_cgt _ _) h (fun c18 h => ?_) (fun c18 h => ?_)
                          · skip
                            refine xw.s (pc' := 15) (st' := [.inl (0 : Int32)]) rfl ?_
                            refine xw.retz (nx := 16) rfl (Or.inl rfl) ?_
                            show xw _ _ 66 [some (.inl a1), some (.inl a2), some (.inl a3), some (.inl a4), some (.inl a5)] [.inl (0 : Int32)] S _
                            refine xw.bt (cd := .eq) (x := (0 : Int32)) (y := (0 : Int32)) 117 69 (st' := []) rfl (y_ceq _ _) (by decide) ?_
                            refine xw.s (pc' := 118) (st' := [.inl (0 : Int32)]) rfl ?_
                            refine xw.retz (nx := 119) rfl (Or.inl rfl) ?_
                            show xw _ _ 31 [some (.inr (some (0, 0))), some (.inl a1), some (.inl a2), some (.inl a3), some (.inl a4), some (.inl a5)] [.inl (0 : Int32)] S _
                            refine xw.bf (cd := .ne) (x := (0 : Int32)) (y := (0 : Int32)) 37 34 (st' := []) rfl (y_cne _ _) (by decide) ?_
                            refine xw.s (pc' := 36) (st' := [.inl (-2 : Int32)]) rfl ?_
                            exact xw.ret (r := (some (.inl (-2 : Int32)))) rfl h
                          · skip
                            refine xw.s (pc' := 11) (st' := [.inl (1 : Int32)]) rfl ?_
                            refine xw.s (pc' := 15) (st' := [.inl (1 : Int32)]) rfl ?_
                            refine xw.retz (nx := 16) rfl (Or.inr rfl) ?_
                            show xw _ _ 66 [some (.inl a1), some (.inl a2), some (.inl a3), some (.inl a4), some (.inl a5)] [.inl (1 : Int32)] S _
                            refine xw.bf (cd := .eq) (x := (1 : Int32)) (y := (0 : Int32)) 117 69 (st' := []) rfl (y_ceq _ _) (by decide) ?_
                            refine xw.s (pc' := 70) (st' := [.inl a3]) rfl ?_
                            refine xw.s (pc' := 73) (st' := [.inr (some (16, 2)), .inl a3]) rfl ?_
                            refine xw.s (pc' := 74) (st' := [.inl a1, .inr (some (16, 2)), .inl a3]) rfl ?_
                            obtain ⟨z19, h⟩ := h
                            refine xw.ild (c := 16) (nx := 75) (v := (xm_i S 16 2 (y_ix a1))) rfl (by decide) z19 rfl ?_
                            refine xw.s (pc' := 78) (st' := [.inr (some (16, 3)), .inl (xm_i S 16 2 (y_ix a1)), .inl a3]) rfl ?_
                            refine xw.s (pc' := 79) (st' := [.inl a1, .inr (some (16, 3)), .inl (xm_i S 16 2 (y_ix a1)), .inl a3]) rfl ?_
                            obtain ⟨z20, h⟩ := h
                            refine xw.ild (c := 16) (nx := 80) (v := (xm_i S 16 3 (y_ix a1))) rfl (by decide) z20 rfl ?_
                            refine xw.call (m := 2) (as := [.inl a3, .inl (xm_i S 16 2 (y_ix a1)), .inl (xm_i S 16 3 (y_ix a1))]) (nx := 83) (L' := [some (.inl a1), some (.inl a2), some (.inl a3), some (.inl a4), some (.inl a5)]) (st' := []) rfl ?_
                            show xw _ _ _ [some (.inl a3), some (.inl (xm_i S 16 2 (y_ix a1))), some (.inl (xm_i S 16 3 (y_ix a1)))] [] _ _
                            refine xw.s (pc' := 1) (st' := [.inl a3]) rfl ?_
                            refine xw.s (pc' := 2) (st' := [.inl (xm_i S 16 2 (y_ix a1)), .inl a3]) rfl ?_
                            refine xw.b (c := a3 < (xm_i S 16 2 (y_ix a1))) (cd := .lt) (x := a3) (y := (xm_i S 16 2 (y_ix a1))) 14 5 (st' := []) rfl (y_clt _ _) h (fun c21 h => ?_) (fun c21 h => ?_)
                            · skip
                              refine xw.s (pc' := 15) (st' := [.inl (0 : Int32)]) rfl ?_
                              refine xw.retz (nx := 16) rfl (Or.inl rfl) ?_
                              show xw _ _ 83 [some (.inl a1), some (.inl a2), some (.inl a3), some (.inl a4), some (.inl a5)] [.inl (0 : Int32)] S _
                              refine xw.bt (cd := .eq) (x := (0 : Int32)) (y := (0 : Int32)) 117 86 (st' := []) rfl (y_ceq _ _) (by decide) ?_
                              refine xw.s (pc' := 118) (st' := [.inl (0 : Int32)]) rfl ?_
                              refine xw.retz (nx := 119) rfl (Or.inl rfl) ?_
                              show xw _ _ 31 [some (.inr (some (0, 0))), some (.inl a1), some (.inl a2), some (.inl a3), some (.inl a4), some (.inl a5)] [.inl (0 : Int32)] S _
                              refine xw.bf (cd := .ne) (x := (0 : Int32)) (y := (0 : Int32)) 37 34 (st' := []) rfl (y_cne _ _) (by decide) ?_
                              refine xw.s (pc' := 36) (st' := [.inl (-2 : Int32)]) rfl ?_
                              exact xw.ret (r := (some (.inl (-2 : Int32)))) rfl h
                            · skip
                              refine xw.s (pc' := 6) (st' := [.inl a3]) rfl ?_
                              refine xw.s (pc' := 7) (st' := [.inl (xm_i S 16 3 (y_ix a1)), .inl a3]) rfl ?_
                              refine xw.b (c := (xm_i S 16 3 (y_ix a1)) < a3) (cd := .gt) (x := a3) (y := (xm_i S 16 3 (y_ix a1))) 14 10 (st' := []) rfl (y_cgt _ _) h (fun c22 h => ?_) (fun c22 h => ?_)
                              · skip
                                refine xw.s (pc' := 15) (st' := [.inl (0 : Int32)]) rfl ?_
                                refine xw.retz (nx := 16) rfl (Or.inl rfl) ?_
                                show xw _ _ 83 [some (.inl a1), some (.inl a2), some (.inl a3), some (.inl a4), some (.inl a5)] [.inl (0 : Int32)] S _
                                refine xw.bt (cd := .eq) (x := (0 : Int32)) (y := (0 : Int32)) 117 86 (st' := []) rfl (y_ceq _ _) (by decide) ?_
                                refine xw.s (pc' := 118) (st' := [.inl (0 : Int32)]) rfl ?_
                                refine xw.retz (nx := 119) rfl (Or.inl rfl) ?_
                                show xw _ _ 31 [some (.inr (some (0, 0))), some (.inl a1), some (.inl a2), some (.inl a3), some (.inl a4), some (.inl a5)] [.inl (0 : Int32)] S _
                                refine xw.bf (cd := .ne) (x := (0 : Int32)) (y := (0 : Int32)) 37 34 (st' := []) rfl (y_cne _ _) (by decide) ?_
                                refine xw.s (pc' := 36) (st' := [.inl (-2 : Int32)]) rfl ?_
                                exact xw.ret (r := (some (.inl (-2 : Int32)))) rfl h
                              · skip
                                refine xw.s (pc' := 11) (st' := [.inl (1 : Int32)]) rfl ?_
                                refine xw.s (pc' := 15) (st' := [.inl (1 : Int32)]) rfl ?_
                                refine xw.retz (nx := 16) rfl (Or.inr rfl) ?_
                                show xw _ _ 83 [some (.inl a1), some (.inl a2), some (.inl a3), some (.inl a4), some (.inl a5)] [.inl (1 : Int32)] S _
                                refine xw.bf (cd := .eq) (x := (1 : Int32)) (y := (0 : Int32)) 117 86 (st' := []) rfl (y_ceq _ _) (by decide) ?_
                                refine xw.s (pc' := 87) (st' := [.inl a4]) rfl ?_
                                refine xw.s (pc' := 88) (st' := [.inl (0 : Int32), .inl a4]) rfl ?_
                                refine xw.s (pc' := 91) (st' := [.inr (some (16, 4)), .inl (0 : Int32), .inl a4]) rfl ?_
                                refine xw.s (pc' := 92) (st' := [.inl a1, .inr (some (16, 4)), .inl (0 : Int32), .inl a4]) rfl ?_
                                obtain ⟨z23, h⟩ := h
                                refine xw.ild (c := 16) (nx := 93) (v := (xm_i S 16 4 (y_ix a1))) rfl (by decide) z23 rfl ?_
                                refine xw.call (m := 2) (as := [.inl a4, .inl (0 : Int32), .inl (xm_i S 16 4 (y_ix a1))]) (nx := 96) (L' := [some (.inl a1), some (.inl a2), some (.inl a3), some (.inl a4), some (.inl a5)]) (st' := []) rfl ?_
                                show xw _ _ _ [some (.inl a4), some (.inl (0 : Int32)), some (.inl (xm_i S 16 4 (y_ix a1)))] [] _ _
                                refine xw.s (pc' := 1) (st' := [.inl a4]) rfl ?_
                                refine xw.s (pc' := 2) (st' := [.inl (0 : Int32), .inl a4]) rfl ?_
                                refine xw.b (c := a4 < (0 : Int32)) (cd := .lt) (x := a4) (y := (0 : Int32)) 14 5 (st' := []) rfl (y_clt _ _) h (fun c24 h => ?_) (fun c24 h => ?_)
                                · skip
                                  refine xw.s (pc' := 15) (st' := [.inl (0 : Int32)]) rfl ?_
                                  refine xw.retz (nx := 16) rfl (Or.inl rfl) ?_
                                  show xw _ _ 96 [some (.inl a1), some (.inl a2), some (.inl a3), some (.inl a4), some (.inl a5)] [.inl (0 : Int32)] S _
                                  refine xw.bt (cd := .eq) (x := (0 : Int32)) (y := (0 : Int32)) 117 99 (st' := []) rfl (y_ceq _ _) (by decide) ?_
                                  refine xw.s (pc' := 118) (st' := [.inl (0 : Int32)]) rfl ?_
                                  refine xw.retz (nx := 119) rfl (Or.inl rfl) ?_
                                  show xw _ _ 31 [some (.inr (some (0, 0))), some (.inl a1), some (.inl a2), some (.inl a3), some (.inl a4), some (.inl a5)] [.inl (0 : Int32)] S _
                                  refine xw.bf (cd := .ne) (x := (0 : Int32)) (y := (0 : Int32)) 37 34 (st' := []) rfl (y_cne _ _) (by decide) ?_
                                  refine xw.s (pc' := 36) (st' := [.inl (-2 : Int32)]) rfl ?_
                                  exact xw.ret (r := (some (.inl (-2 : Int32)))) rfl h
                                · skip
                                  refine xw.s (pc' := 6) (st' := [.inl a4]) rfl ?_
                                  refine xw.s (pc' := 7) (st' := [.inl (xm_i S 16 4 (y_ix a1)), .inl a4]) rfl ?_
                                  refine xw.b (c := (xm_i S 16 4 (y_ix a1)) < a4) (cd := .gt) (x := a4) (y := (xm_i S 16 4 (y_ix a1))) 14 10 (st' := []) rfl (y_cgt _ _) h (fun c25 h => ?_) (fun c25 h => ?_)
                                  · skip
                                    refine xw.s (pc' := 15) (st' := [.inl (0 : Int32)]) rfl ?_
                                    refine xw.retz (nx := 16) rfl (Or.inl rfl) ?_
                                    show xw _ _ 96 [some (.inl a1), some (.inl a2), some (.inl a3), some (.inl a4), some (.inl a5)] [.inl (0 : Int32)] S _
                                    refine xw.bt (cd := .eq) (x := (0 : Int32)) (y := (0 : Int32)) 117 99 (st' := []) rfl (y_ceq _ _) (by decide) ?_
                                    refine xw.s (pc' := 118) (st' := [.inl (0 : Int32)]) rfl ?_
                                    refine xw.retz (nx := 119) rfl (Or.inl rfl) ?_
                                    show xw _ _ 31 [some (.inr (some (0, 0))), some (.inl a1), some (.inl a2), some (.inl a3), some (.inl a4), some (.inl a5)] [.inl (0 : Int32)] S _
                                    refine xw.bf (cd := .ne) (x := (0 : Int32)) (y := (0 : Int32)) 37 34 (st' := []) rfl (y_cne _ _) (by decide) ?_
                                    refine xw.s (pc' := 36) (st' := [.inl (-2 : Int32)]) rfl ?_
                                    exact xw.ret (r := (some (.inl (-2 : Int32)))) rfl h
                                  · skip
                                    refine xw.s (pc' := 11) (st' := [.inl (1 : Int32)]) rfl ?_
                                    refine xw.s (pc' := 15) (st' := [.inl (1 : Int32)]) rfl ?_
                                    refine xw.retz (nx := 16) rfl (Or.inr rfl) ?_
                                    show xw _ _ 96 [some (.inl a1), some (.inl a2), some (.inl a3), some (.inl a4), some (.inl a5)] [.inl (1 : Int32)] S _
                                    refine xw.bf (cd := .eq) (x := (1 : Int32)) (y := (0 : Int32)) 117 99 (st' := []) rfl (y_ceq _ _) (by decide) ?_
                                    refine xw.s (pc' := 101) (st' := [.inl a5]) rfl ?_
                                    refine xw.s (pc' := 102) (st' := [.inl (0 : Int32), .inl a5]) rfl ?_
                                    refine xw.s (pc' := 105) (st' := [.inr (some (16, 5)), .inl (0 : Int32), .inl a5]) rfl ?_
                                    refine xw.s (pc' := 106) (st' := [.inl a1, .inr (some (16, 5)), .inl (0 : Int32), .inl a5]) rfl ?_
                                    obtain ⟨z26, h⟩ := h
                                    refine xw.ild (c := 16) (nx := 107) (v := (xm_i S 16 5 (y_ix a1))) rfl (by decide) z26 rfl ?_
                                    refine xw.call (m := 2) (as := [.inl a5, .inl (0 : Int32), .inl (xm_i S 16 5 (y_ix a1))]) (nx := 110) (L' := [some (.inl a1), some (.inl a2), some (.inl a3), some (.inl a4), some (.inl a5)]) (st' := []) rfl ?_
                                    show xw _ _ _ [some (.inl a5), some (.inl (0 : Int32)), some (.inl (xm_i S 16 5 (y_ix a1)))] [] _ _
                                    refine xw.s (pc' := 1) (st' := [.inl a5]) rfl ?_
                                    refine xw.s (pc' := 2) (st' := [.inl (0 : Int32), .inl a5]) rfl ?_
                                    refine xw.b (c := a5 < (0 : Int32)) (cd := .lt) (x := a5) (y := (0 : Int32)) 14 5 (st' := []) rfl (y_clt _ _) h (fun c27 h => ?_) (fun c27 h => ?_)
                                    · skip
                                      refine xw.s (pc' := 15) (st' := [.inl (0 : Int32)]) rfl ?_
                                      refine xw.retz (nx := 16) rfl (Or.inl rfl) ?_
                                      show xw _ _ 110 [some (.inl a1), some (.inl a2), some (.inl a3), some (.inl a4), some (.inl a5)] [.inl (0 : Int32)] S _
                                      refine xw.bt (cd := .eq) (x := (0 : Int32)) (y := (0 : Int32)) 117 113 (st' := []) rfl (y_ceq _ _) (by decide) ?_
                                      refine xw.s (pc' := 118) (st' := [.inl (0 : Int32)]) rfl ?_
                                      refine xw.retz (nx := 119) rfl (Or.inl rfl) ?_
                                      show xw _ _ 31 [some (.inr (some (0, 0))), some (.inl a1), some (.inl a2), some (.inl a3), some (.inl a4), some (.inl a5)] [.inl (0 : Int32)] S _
                                      refine xw.bf (cd := .ne) (x := (0 : Int32)) (y := (0 : Int32)) 37 34 (st' := []) rfl (y_cne _ _) (by decide) ?_
                                      refine xw.s (pc' := 36) (st' := [.inl (-2 : Int32)]) rfl ?_
                                      exact xw.ret (r := (some (.inl (-2 : Int32)))) rfl h
                                    · skip
                                      refine xw.s (pc' := 6) (st' := [.inl a5]) rfl ?_
                                      refine xw.s (pc' := 7) (st' := [.inl (xm_i S 16 5 (y_ix a1)), .inl a5]) rfl ?_
                                      refine xw.b (c := (xm_i S 16 5 (y_ix a1)) < a5) (cd := .gt) (x := a5) (y := (xm_i S 16 5 (y_ix a1))) 14 10 (st' := []) rfl (y_cgt _ _) h (fun c28 h => ?_) (fun c28 h => ?_)
                                      · skip
                                        refine xw.s (pc' := 15) (st' := [.inl (0 : Int32)]) rfl ?_
                                        refine xw.retz (nx := 16) rfl (Or.inl rfl) ?_
                                        show xw _ _ 110 [some (.inl a1), some (.inl a2), some (.inl a3), some (.inl a4), some (.inl a5)] [.inl (0 : Int32)] S _
                                        refine xw.bt (cd := .eq) (x := (0 : Int32)) (y := (0 : Int32)) 117 113 (st' := []) rfl (y_ceq _ _) (by decide) ?_
                                        refine xw.s (pc' := 118) (st' := [.inl (0 : Int32)]) rfl ?_
                                        refine xw.retz (nx := 119) rfl (Or.inl rfl) ?_
                                        show xw _ _ 31 [some (.inr (some (0, 0))), some (.inl a1), some (.inl a2), some (.inl a3), some (.inl a4), some (.inl a5)] [.inl (0 : Int32)] S _
                                        refine xw.bf (cd := .ne) (x := (0 : Int32)) (y := (0 : Int32)) 37 34 (st' := []) rfl (y_cne _ _) (by decide) ?_
                                        refine xw.s (pc' := 36) (st' := [.inl (-2 : Int32)]) rfl ?_
                                        exact xw.ret (r := (some (.inl (-2 : Int32)))) rfl h
                                      · skip
                                        refine xw.s (pc' := 11) (st' := [.inl (1 : Int32)]) rfl ?_
                                        refine xw.s (pc' := 15) (st' := [.inl (1 : Int32)]) rfl ?_
                                        refine xw.retz (nx := 16) rfl (Or.inr rfl) ?_
                                        show xw _ _ 110 [some (.inl a1), some (.inl a2), some (.inl a3), some (.inl a4), some (.inl a5)] [.inl (1 : Int32)] S _
                                        refine xw.bf (cd := .eq) (x := (1 : Int32)) (y := (0 : Int32)) 117 113 (st' := []) rfl (y_ceq _ _) (by decide) ?_
                                        refine xw.s (pc' := 114) (st' := [.inl (1 : Int32)]) rfl ?_
                                        refine xw.s (pc' := 118) (st' := [.inl (1 : Int32)]) rfl ?_
                                        refine xw.retz (nx := 119) rfl (Or.inr rfl) ?_
                                        show xw _ _ 31 [some (.inr (some (0, 0))), some (.inl a1), some (.inl a2), some (.inl a3), some (.inl a4), some (.inl a5)] [.inl (1 : Int32)] S _
                                        refine xw.bt (cd := .ne) (x := (1 : Int32)) (y := (0 : Int32)) 37 34 (st' := []) rfl (y_cne _ _) (by decide) ?_
                                        refine xw.s (pc' := 38) (st' := [.inr (some (0, 0))]) rfl ?_
                                        refine xw.fr (c := 0) (j := 3) (e := 12) (nx := 41) (t := (some 3)) rfl rfl (hC 3 (by decide)) ?_
                                        show xw _ _ _ [some (.inr (some (0, 0))), some (.inl a1), some (.inl a2), some (.inl a3), some (.inl a4), some (.inl a5)] [.inr (some (12, 3))] _ _
                                        refine xw.lsz (nx := 44) (n := (xm_n S 1 3)) rfl (Nat.le_of_ble_eq_true rfl) rfl ?_
                                        refine xw.s (pc' := 46) (st' := [.inl (24 : Int32), .inl (nI (xm_n S 1 3))]) rfl ?_
                                        refine xw.b (c := (nI (xm_n S 1 3)) < (24 : Int32)) (cd := .lt) (x := (nI (xm_n S 1 3))) (y := (24 : Int32)) 52 49 (st' := []) rfl (y_clt _ _) h (fun c29 h => ?_) (fun c29 h => ?_)
                                        · skip
                                          refine xw.s (pc' := 53) (st' := [.inr (some (0, 0))]) rfl ?_
                                          refine xw.fr (c := 0) (j := 3) (e := 12) (nx := 56) (t := (some 3)) rfl rfl (hC 3 (by decide)) ?_
                                          show xw _ _ _ [some (.inr (some (0, 0))), some (.inl a1), some (.inl a2), some (.inl a3), some (.inl a4), some (.inl a5)] [.inr (some (12, 3))] _ _
                                          refine xw.s (pc' := 59) (st' := [.inr (some (5, (xm_n S 0 5))), .inr (some (12, 3))]) (S1 := xm_mk 5 15 S) rfl ?_
                                          obtain ⟨k30, q31⟩ : ∃ k, k = xm_n S 0 5 := ⟨_, rfl⟩
                                          rw [← q31]
                                          replace h := h k30 q31
                                          obtain ⟨S32, e33⟩ : ∃ s, s = xm_mk 5 15 S := ⟨_, rfl⟩
                                          rw [← e33]
                                          replace h := h S32 e33
                                          refine xw.s (pc' := 60) (st' := [.inr (some (5, k30)), .inr (some (5, k30)), .inr (some (12, 3))]) rfl ?_
                                          refine xw.s (pc' := 61) (st' := [.inr (some (0, 0)), .inr (some (5, k30)), .inr (some (5, k30)), .inr (some (12, 3))]) rfl ?_
                                          refine xw.fr (c := 0) (j := 3) (e := 12) (nx := 64) (t := (some 3)) rfl rfl ((congrArg (fun s => xm_r s 0 0 3) e33).trans ((xr_mk (by decide)).trans (hC 3 (by decide)))) ?_
                                          show xw _ _ _ [some (.inr (some (0, 0))), some (.inl a1), some (.inl a2), some (.inl a3), some (.inl a4), some (.inl a5)] [.inr (some (12, 3)), .inr (some (5, k30)), .inr (some (5, k30)), .inr (some (12, 3))] _ _
                                          refine xw.lsz (nx := 67) (n := (xm_n S32 1 3)) rfl (Nat.le_of_ble_eq_true rfl) rfl ?_
                                          refine xw.s (pc' := 68) (st' := [.inl a1, .inl (nI (xm_n S32 1 3)), .inr (some (5, k30)), .inr (some (5, k30)), .inr (some (12, 3))]) rfl ?_
                                          refine xw.s (pc' := 69) (st' := [.inl a2, .inl a1, .inl (nI (xm_n S32 1 3)), .inr (some (5, k30)), .inr (some (5, k30)), .inr (some (12, 3))]) rfl ?_
                                          refine xw.s (pc' := 70) (st' := [.inl a3, .inl a2, .inl a1, .inl (nI (xm_n S32 1 3)), .inr (some (5, k30)), .inr (some (5, k30)), .inr (some (12, 3))]) rfl ?_
                                          refine xw.s (pc' := 72) (st' := [.inl a4, .inl a3, .inl a2, .inl a1, .inl (nI (xm_n S32 1 3)), .inr (some (5, k30)), .inr (some (5, k30)), .inr (some (12, 3))]) rfl ?_
                                          refine xw.s (pc' := 74) (st' := [.inl a5, .inl a4, .inl a3, .inl a2, .inl a1, .inl (nI (xm_n S32 1 3)), .inr (some (5, k30)), .inr (some (5, k30)), .inr (some (12, 3))]) rfl ?_
                                          refine xw.call (m := 98) (as := [.inr (some (5, k30)), .inl (nI (xm_n S32 1 3)), .inl a1, .inl a2, .inl a3, .inl a4, .inl a5]) (nx := 77) (L' := [some (.inr (some (0, 0))), some (.inl a1), some (.inl a2), some (.inl a3), some (.inl a4), some (.inl a5)]) (st' := [.inr (some (5, k30)), .inr (some (12, 3))]) rfl (xc.mono h ?_)
                                          rintro r S34 ⟨rfl, hC35, h⟩
                                          show xw _ _ 77 [some (.inr (some (0, 0))), some (.inl a1), some (.inl a2), some (.inl a3), some (.inl a4), some (.inl a5)] [.inr (some (5, k30)), .inr (some (12, 3))] _ _
                                          obtain ⟨z36, z37, h⟩ := h
                                          refine xw.ladd (nx := 80) rfl (Nat.le_of_ble_eq_true rfl) (by decide) z36 z37 ?_
                                          obtain ⟨S38, e39⟩ : ∃ s, s = xm_push 3 (5, k30) S34 := ⟨_, rfl⟩
                                          rw [← e39]
                                          replace h := h S38 e39
                                          refine xw.s (pc' := 81) (st' := []) rfl ?_
                                          refine xw.s (pc' := 82) (st' := [.inr (some (0, 0))]) rfl ?_
                                          refine xw.fr (c := 0) (j := 3) (e := 12) (nx := 85) (t := (some 3)) rfl rfl ((congrArg (fun s => xm_r s 0 0 3) e39).trans (xr_push.trans (hC35 3 (by decide)))) ?_
                                          show xw _ _ _ [some (.inr (some (0, 0))), some (.inl a1), some (.inl a2), some (.inl a3), some (.inl a4), some (.inl a5)] [.inr (some (12, 3))] _ _
                                          refine xw.lsz (nx := 88) (n := (xm_n S38 1 3)) rfl (Nat.le_of_ble_eq_true rfl) rfl ?_
                                          refine xw.s (pc' := 89) (st' := [.inl (1 : Int32), .inl (nI (xm_n S38 1 3))]) rfl ?_
                                          refine xw.s (pc' := 90) (st' := [.inl ((nI (xm_n S38 1 3)) - (1 : Int32))]) rfl ?_
                                          exact xw.ret (r := (some (.inl ((nI (xm_n S38 1 3)) - (1 : Int32))))) rfl h
                                        · skip
                                          refine xw.s (pc' := 51) (st' := [.inl (-3 : Int32)]) rfl ?_
                                          exact xw.ret (r := (some (.inl (-3 : Int32)))) rfl h
    · skip
      refine xw.s (pc' := 22) (st' := [.inl a1]) rfl ?_
      refine xw.s (pc' := 23) (st' := [.inl a2, .inl a1]) rfl ?_
      refine xw.s (pc' := 24) (st' := [.inl a3, .inl a2, .inl a1]) rfl ?_
      refine xw.s (pc' := 26) (st' := [.inl a4, .inl a3, .inl a2, .inl a1]) rfl ?_
      refine xw.s (pc' := 28) (st' := [.inl a5, .inl a4, .inl a3, .inl a2, .inl a1]) rfl ?_
      refine xw.call (m := 8) (as := [.inl a1, .inl a2, .inl a3, .inl a4, .inl a5]) (nx := 31) (L' := [some (.inr (some (0, 0))), some (.inl a1), some (.inl a2), some (.inl a3), some (.inl a4), some (.inl a5)]) (st' := []) rfl ?_
      show xw _ _ _ [some (.inl a1), some (.inl a2), some (.inl a3), some (.inl a4), some (.inl a5)] [] _ _
      refine xw.s (pc' := 1) (st' := [.inl a1]) rfl ?_
      refine xw.b (c := a1 < (0 : Int32)) (cd := .lt) (x := a1) (y := (0 : Int32)) 117 4 (st' := []) rfl (y_clt _ _) h (fun c40 h => ?_) (fun c40 h => ?_)
      · skip
        refine xw.s (pc' := 118) (st' := [.inl (0 : Int32)]) rfl ?_
        refine xw.retz (nx := 119) rfl (Or.inl rfl) ?_
        show xw _ _ 31 [some (.inr (some (0, 0))), some (.inl a1), some (.inl a2), some (.inl a3), some (.inl a4), some (.inl a5)] [.inl (0 : Int32)] S _
        refine xw.bf (cd := .ne) (x := (0 : Int32)) (y := (0 : Int32)) 37 34 (st' := []) rfl (y_cne _ _) (by decide) ?_
        refine xw.s (pc' := 36) (st' := [.inl (-2 : Int32)]) rfl ?_
        exact xw.ret (r := (some (.inl (-2 : Int32)))) rfl h
      · skip
        refine xw.s (pc' := 5) (st' := [.inl a1]) rfl ?_
        refine xw.s (pc' := 8) (st' := [.inr (some (16, 0)), .inl a1]) rfl ?_
        refine xw.aln (c := 16) (n := (xm_n S 26 0)) (nx := 9) rfl (by decide) rfl ?_
        refine xw.b (c := (nI (xm_n S 26 0)) ≤ a1) (cd := .ge) (x := a1) (y := (nI (xm_n S 26 0))) 117 12 (st' := []) rfl (y_cge _ _) h (fun c41 h => ?_) (fun c41 h => ?_)
        · skip
          refine xw.s (pc' := 118) (st' := [.inl (0 : Int32)]) rfl ?_
          refine xw.retz (nx := 119) rfl (Or.inl rfl) ?_
          show xw _ _ 31 [some (.inr (some (0, 0))), some (.inl a1), some (.inl a2), some (.inl a3), some (.inl a4), some (.inl a5)] [.inl (0 : Int32)] S _
          refine xw.bf (cd := .ne) (x := (0 : Int32)) (y := (0 : Int32)) 37 34 (st' := []) rfl (y_cne _ _) (by decide) ?_
          refine xw.s (pc' := 36) (st' := [.inl (-2 : Int32)]) rfl ?_
          exact xw.ret (r := (some (.inl (-2 : Int32)))) rfl h
        · skip
          refine xw.s (pc' := 13) (st' := [.inl a1]) rfl ?_
          refine xw.s (pc' := 16) (st' := [.inr (some (16, 1)), .inl a1]) rfl ?_
          refine xw.aln (c := 16) (n := (xm_n S 26 1)) (nx := 17) rfl (by decide) rfl ?_
          refine xw.b (c := (nI (xm_n S 26 1)) ≤ a1) (cd := .ge) (x := a1) (y := (nI (xm_n S 26 1))) 117 20 (st' := []) rfl (y_cge _ _) h (fun c42 h => ?_) (fun c42 h => ?_)
          · skip
            refine xw.s (pc' := 118) (st' := [.inl (0 : Int32)]) rfl ?_
            refine xw.retz (nx := 119) rfl (Or.inl rfl) ?_
            show xw _ _ 31 [some (.inr (some (0, 0))), some (.inl a1), some (.inl a2), some (.inl a3), some (.inl a4), some (.inl a5)] [.inl (0 : Int32)] S _
            refine xw.bf (cd := .ne) (x := (0 : Int32)) (y := (0 : Int32)) 37 34 (st' := []) rfl (y_cne _ _) (by decide) ?_
            refine xw.s (pc' := 36) (st' := [.inl (-2 : Int32)]) rfl ?_
            exact xw.ret (r := (some (.inl (-2 : Int32)))) rfl h
          · skip
            refine xw.s (pc' := 21) (st' := [.inl a1]) rfl ?_
            refine xw.s (pc' := 24) (st' := [.inr (some (16, 2)), .inl a1]) rfl ?_
            refine xw.aln (c := 16) (n := (xm_n S 26 2)) (nx := 25) rfl (by decide) rfl ?_
            refine xw.b (c := (nI (xm_n S 26 2)) ≤ a1) (cd := .ge) (x := a1) (y := (nI (xm_n S 26 2))) 117 28 (st' := []) rfl (y_cge _ _) h (fun c43 h => ?_) (fun c43 h => ?_)
            · skip
              refine xw.s (pc' := 118) (st' := [.inl (0 : Int32)]) rfl ?_
              refine xw.retz (nx := 119) rfl (Or.inl rfl) ?_
              show xw _ _ 31 [some (.inr (some (0, 0))), some (.inl a1), some (.inl a2), some (.inl a3), some (.inl a4), some (.inl a5)] [.inl (0 : Int32)] S _
              refine xw.bf (cd := .ne) (x := (0 : Int32)) (y := (0 : Int32)) 37 34 (st' := []) rfl (y_cne _ _) (by decide) ?_
              refine xw.s (pc' := 36) (st' := [.inl (-2 : Int32)]) rfl ?_
              exact xw.ret (r := (some (.inl (-2 : Int32)))) rfl h
            · skip
              refine xw.s (pc' := 29) (st' := [.inl a1]) rfl ?_
              refine xw.s (pc' := 32) (st' := [.inr (some (16, 3)), .inl a1]) rfl ?_
              refine xw.aln (c := 16) (n := (xm_n S 26 3)) (nx := 33) rfl (by decide) rfl ?_
              refine xw.b (c := (nI (xm_n S 26 3)) ≤ a1) (cd := .ge) (x := a1) (y := (nI (xm_n S 26 3))) 117 36 (st' := []) rfl (y_cge _ _) h (fun c44 h => ?_) (fun c44 h => ?_)
              · skip
                refine xw.s (pc' := 118) (st' := [.inl (0 : Int32)]) rfl ?_
                refine xw.retz (nx := 119) rfl (Or.inl rfl) ?_
                show xw _ _ 31 [some (.inr (some (0, 0))), some (.inl a1), some (.inl a2), some (.inl a3), some (.inl a4), some (.inl a5)] [.inl (0 : Int32)] S _
                refine xw.bf (cd := .ne) (x := (0 : Int32)) (y := (0 : Int32)) 37 34 (st' := []) rfl (y_cne _ _) (by decide) ?_
                refine xw.s (pc' := 36) (st' := [.inl (-2 : Int32)]) rfl ?_
                exact xw.ret (r := (some (.inl (-2 : Int32)))) rfl h
              · skip
                refine xw.s (pc' := 37) (st' := [.inl a1]) rfl ?_
                refine xw.s (pc' := 40) (st' := [.inr (some (16, 4)), .inl a1]) rfl ?_
                refine xw.aln (c := 16) (n := (xm_n S 26 4)) (nx := 41) rfl (by decide) rfl ?_
                refine xw.b (c := (nI (xm_n S 26 4)) ≤ a1) (cd := .ge) (x := a1) (y := (nI (xm_n S 26 4))) 117 44 (st' := []) rfl (y_cge _ _) h (fun c45 h => ?_) (fun c45 h => ?_)
                · skip
                  refine xw.s (pc' := 118) (st' := [.inl (0 : Int32)]) rfl ?_
                  refine xw.retz (nx := 119) rfl (Or.inl rfl) ?_
                  show xw _ _ 31 [some (.inr (some (0, 0))), some (.inl a1), some (.inl a2), some (.inl a3), some (.inl a4), some (.inl a5)] [.inl (0 : Int32)] S _
                  refine xw.bf (cd := .ne) (x := (0 : Int32)) (y := (0 : Int32)) 37 34 (st' := []) rfl (y_cne _ _) (by decide) ?_
                  refine xw.s (pc' := 36) (st' := [.inl (-2 : Int32)]) rfl ?_
                  exact xw.ret (r := (some (.inl (-2 : Int32)))) rfl h
                · skip
                  refine xw.s (pc' := 45) (st' := [.inl a1]) rfl ?_
                  refine xw.s (pc' := 48) (st' := [.inr (some (16, 5)), .inl a1]) rfl ?_
                  refine xw.aln (c := 16) (n := (xm_n S 26 5)) (nx := 49) rfl (by decide) rfl ?_
                  refine xw.b (c := (nI (xm_n S 26 5)) ≤ a1) (cd := .ge) (x := a1) (y := (nI (xm_n S 26 5))) 117 52 (st' := []) rfl (y_cge _ _) h (fun c46 h => ?_) (fun c46 h => ?_)
                  · skip
                    refine xw.s (pc' := 118) (st' := [.inl (0 : Int32)]) rfl ?_
                    refine xw.retz (nx := 119) rfl (Or.inl rfl) ?_
                    show xw _ _ 31 [some (.inr (some (0, 0))), some (.inl a1), some (.inl a2), some (.inl a3), some (.inl a4), some (.inl a5)] [.inl (0 : Int32)] S _
                    refine xw.bf (cd := .ne) (x := (0 : Int32)) (y := (0 : Int32)) 37 34 (st' := []) rfl (y_cne _ _) (by decide) ?_
                    refine xw.s (pc' := 36) (st' := [.inl (-2 : Int32)]) rfl ?_
                    exact xw.ret (r := (some (.inl (-2 : Int32)))) rfl h
                  · skip
                    refine xw.s (pc' := 53) (st' := [.inl a2]) rfl ?_
                    refine xw.s (pc' := 56) (st' := [.inr (some (16, 0)), .inl a2]) rfl ?_
                    refine xw.s (pc' := 57) (st' := [.inl a1, .inr (some (16, 0)), .inl a2]) rfl ?_
                    obtain ⟨z47, h⟩ := h
                    refine xw.ild (c := 16) (nx := 58) (v := (xm_i S 16 0 (y_ix a1))) rfl (by decide) z47 rfl ?_
                    refine xw.s (pc' := 61) (st' := [.inr (some (16, 1)), .inl (xm_i S 16 0 (y_ix a1)), .inl a2]) rfl ?_
                    refine xw.s (pc' := 62) (st' := [.inl a1, .inr (some (16, 1)), .inl (xm_i S 16 0 (y_ix a1)), .inl a2]) rfl ?_
                    obtain ⟨z48, h⟩ := h
                    refine xw.ild (c := 16) (nx := 63) (v := (xm_i S 16 1 (y_ix a1))) rfl (by decide) z48 rfl ?_
                    refine xw.call (m := 2) (as := [.inl a2, .inl (xm_i S 16 0 (y_ix a1)), .inl (xm_i S 16 1 (y_ix a1))]) (nx := 66) (L' := [some (.inl a1), some (.inl a2), some (.inl a3), some (.inl a4), some (.inl a5)]) (st' := []) rfl ?_
                    show xw _ _ _ [some (.inl a2), some (.inl (xm_i S 16 0 (y_ix a1))), some (.inl (xm_i S 16 1 (y_ix a1)))] [] _ _
                    refine xw.s (pc' := 1) (st' := [.inl a2]) rfl ?_
                    refine xw.s (pc' := 2) (st' := [.inl (xm_i S 16 0 (y_ix a1)), .inl a2]) rfl ?_
                    refine xw.b (c := a2 < (xm_i S 16 0 (y_ix a1))) (cd := .lt) (x := a2) (y := (xm_i S 16 0 (y_ix a1))) 14 5 (st' := []) rfl (y_clt _ _) h (fun c49 h => ?_) (fun c49 h => ?_)
                    · skip
                      refine xw.s (pc' := 15) (st' := [.inl (0 : Int32)]) rfl ?_
                      refine xw.retz (nx := 16) rfl (Or.inl rfl) ?_
                      show xw _ _ 66 [some (.inl a1), some (.inl a2), some (.inl a3), some (.inl a4), some (.inl a5)] [.inl (0 : Int32)] S _
                      refine xw.bt (cd := .eq) (x := (0 : Int32)) (y := (0 : Int32)) 117 69 (st' := []) rfl (y_ceq _ _) (by decide) ?_
                      refine xw.s (pc' := 118) (st' := [.inl (0 : Int32)]) rfl ?_
                      refine xw.retz (nx := 119) rfl (Or.inl rfl) ?_
                      show xw _ _ 31 [some (.inr (some (0, 0))), some (.inl a1), some (.inl a2), some (.inl a3), some (.inl a4), some (.inl a5)] [.inl (0 : Int32)] S _
                      refine xw.bf (cd := .ne) (x := (0 : Int32)) (y := (0 : Int32)) 37 34 (st' := []) rfl (y_cne _ _) (by decide) ?_
                      refine xw.s (pc' := 36) (st' := [.inl (-2 : Int32)]) rfl ?_
                      exact xw.ret (r := (some (.inl (-2 : Int32)))) rfl h
                    · skip
                      refine xw.s (pc' := 6) (st' := [.inl a2]) rfl ?_
                      refine xw.s (pc' := 7) (st' := [.inl (xm_i S 16 1 (y_ix a1)), .inl a2]) rfl ?_
                      refine xw.b (c := (xm_i S 16 1 (y_ix a1)) < a2) (cd := .gt) (x := a2) (y := (xm_i S 16 1 (y_ix a1))) 14 10 (st' := []) rfl (y_cgt _ _) h (fun c50 h => ?_) (fun c50 h => ?_)
                      · skip
                        refine xw.s (pc' := 15) (st' := [.inl (0 : Int32)]) rfl ?_
                        refine xw.retz (nx := 16) rfl (Or.inl rfl) ?_
                        show xw _ _ 66 [some (.inl a1), some (.inl a2), some (.inl a3), some (.inl a4), some (.inl a5)] [.inl (0 : Int32)] S _
                        refine xw.bt (cd := .eq) (x := (0 : Int32)) (y := (0 : Int32)) 117 69 (st' := []) rfl (y_ceq _ _) (by decide) ?_
                        refine xw.s (pc' := 118) (st' := [.inl (0 : Int32)]) rfl ?_
                        refine xw.retz (nx := 119) rfl (Or.inl rfl) ?_
                        show xw _ _ 31 [some (.inr (some (0, 0))), some (.inl a1), some (.inl a2), some (.inl a3), some (.inl a4), some (.inl a5)] [.inl (0 : Int32)] S _
                        refine xw.bf (cd := .ne) (x := (0 : Int32)) (y := (0 : Int32)) 37 34 (st' := []) rfl (y_cne _ _) (by decide) ?_
                        refine xw.s (pc' := 36) (st' := [.inl (-2 : Int32)]) rfl ?_
                        exact xw.ret (r := (some (.inl (-2 : Int32)))) rfl h
                      · skip
                        refine xw.s (pc' := 11) (st' := [.inl (1 : Int32)]) rfl ?_
                        refine xw.s (pc' := 15) (st' := [.inl (1 : Int32)]) rfl ?_
                        refine xw.retz (nx := 16) rfl (Or.inr rfl) ?_
                        show xw _ _ 66 [some (.inl a1), some (.inl a2), some (.inl a3), some (.inl a4), some (.inl a5)] [.inl (1 : Int32)] S _
                        refine xw.bf (cd := .eq) (x := (1 : Int32)) (y := (0 : Int32)) 117 69 (st' := []) rfl (y_ceq _ _) (by decide) ?_
                        refine xw.s (pc' := 70) (st' := [.inl a3]) rfl ?_
                        refine xw.s (pc' := 73) (st' := [.inr (some (16, 2)), .inl a3]) rfl ?_
                        refine xw.s (pc' := 74) (st' := [.inl a1, .inr (some (16, 2)), .inl a3]) rfl ?_
                        obtain ⟨z51, h⟩ := h
                        refine xw.ild (c := 16) (nx := 75) (v := (xm_i S 16 2 (y_ix a1))) rfl (by decide) z51 rfl ?_
                        refine xw.s (pc' := 78) (st' := [.inr (some (16, 3)), .inl (xm_i S 16 2 (y_ix a1)), .inl a3]) rfl ?_
                        refine xw.s (pc' := 79) (st' := [.inl a1, .inr (some (16, 3)), .inl (xm_i S 16 2 (y_ix a1)), .inl a3]) rfl ?_
                        obtain ⟨z52, h⟩ := h
                        refine xw.ild (c := 16) (nx := 80) (v := (xm_i S 16 3 (y_ix a1))) rfl (by decide) z52 rfl ?_
                        refine xw.call (m := 2) (as := [.inl a3, .inl (xm_i S 16 2 (y_ix a1)), .inl (xm_i S 16 3 (y_ix a1))]) (nx := 83) (L' := [some (.inl a1), some (.inl a2), some (.inl a3), some (.inl a4), some (.inl a5)]) (st' := []) rfl ?_
                        show xw _ _ _ [some (.inl a3), some (.inl (xm_i S 16 2 (y_ix a1))), some (.inl (xm_i S 16 3 (y_ix a1)))] [] _ _
                        refine xw.s (pc' := 1) (st' := [.inl a3]) rfl ?_
                        refine xw.s (pc' := 2) (st' := [.inl (xm_i S 16 2 (y_ix a1)), .inl a3]) rfl ?_
                        refine xw.b (c := a3 < (xm_i S 16 2 (y_ix a1))) (cd := .lt) (x := a3) (y := (xm_i S 16 2 (y_ix a1))) 14 5 (st' := []) rfl (y_clt _ _) h (fun c53 h => ?_) (fun c53 h => ?_)
                        · skip
                          refine xw.s (pc' := 15) (st' := [.inl (0 : Int32)]) rfl ?_
                          refine xw.retz (nx := 16) rfl (Or.inl rfl) ?_
                          show xw _ _ 83 [some (.inl a1), some (.inl a2), some (.inl a3), some (.inl a4), some (.inl a5)] [.inl (0 : Int32)] S _
                          refine xw.bt (cd := .eq) (x := (0 : Int32)) (y := (0 : Int32)) 117 86 (st' := []) rfl (y_ceq _ _) (by decide) ?_
                          refine xw.s (pc' := 118) (st' := [.inl (0 : Int32)]) rfl ?_
                          refine xw.retz (nx := 119) rfl (Or.inl rfl) ?_
                          show xw _ _ 31 [some (.inr (some (0, 0))), some (.inl a1), some (.inl a2), some (.inl a3), some (.inl a4), some (.inl a5)] [.inl (0 : Int32)] S _
                          refine xw.bf (cd := .ne) (x := (0 : Int32)) (y := (0 : Int32)) 37 34 (st' := []) rfl (y_cne _ _) (by decide) ?_
                          refine xw.s (pc' := 36) (st' := [.inl (-2 : Int32)]) rfl ?_
                          exact xw.ret (r := (some (.inl (-2 : Int32)))) rfl h
                        · skip
                          refine xw.s (pc' := 6) (st' := [.inl a3]) rfl ?_
                          refine xw.s (pc' := 7) (st' := [.inl (xm_i S 16 3 (y_ix a1)), .inl a3]) rfl ?_
                          refine xw.b (c := (xm_i S 16 3 (y_ix a1)) < a3) (cd := .gt) (x := a3) (y := (xm_i S 16 3 (y_ix a1))) 14 10 (st' := []) rfl (y_cgt _ _) h (fun c54 h => ?_) (fun c54 h => ?_)
                          · skip
                            refine xw.s (pc' := 15) (st' := [.inl (0 : Int32)]) rfl ?_
                            refine xw.retz (nx := 16) rfl (Or.inl rfl) ?_
                            show xw _ _ 83 [some (.inl a1), some (.inl a2), some (.inl a3), some (.inl a4), some (.inl a5)] [.inl (0 : Int32)] S _
                            refine xw.bt (cd := .eq) (x := (0 : Int32)) (y := (0 : Int32)) 117 86 (st' := []) rfl (y_ceq _ _) (by decide) ?_
                            refine xw.s (pc' := 118) (st' := [.inl (0 : Int32)]) rfl ?_
                            refine xw.retz (nx := 119) rfl (Or.inl rfl) ?_
                            show xw _ _ 31 [some (.inr (some (0, 0))), some (.inl a1), some (.inl a2), some (.inl a3), some (.inl a4), some (.inl a5)] [.inl (0 : Int32)] S _
                            refine xw.bf (cd := .ne) (x := (0 : Int32)) (y := (0 : Int32)) 37 34 (st' := []) rfl (y_cne _ _) (by decide) ?_
                            refine xw.s (pc' := 36) (st' := [.inl (-2 : Int32)]) rfl ?_
                            exact xw.ret (r := (some (.inl (-2 : Int32)))) rfl h
                          · skip
                            refine xw.s (pc' := 11) (st' := [.inl (1 : Int32)]) rfl ?_
                            refine xw.s (pc' := 15) (st' := [.inl (1 : Int32)]) rfl ?_
                            refine xw.retz (nx := 16) rfl (Or.inr rfl) ?_
                            show xw _ _ 83 [some (.inl a1), some (.inl a2), some (.inl a3), some (.inl a4), some (.inl a5)] [.inl (1 : Int32)] S _
                            refine xw.bf (cd := .eq) (x := (1 : Int32)) (y := (0 : Int32)) 117 86 (st' := []) rfl (y_ceq _ _) (by decide) ?_
                            refine xw.s (pc' := 87) (st' := [.inl a4]) rfl ?_
                            refine xw.s (pc' := 88) (st' := [.inl (0 : Int32), .inl a4]) rfl ?_
                            refine xw.s (pc' := 91) (st' := [.inr (some (16, 4)), .inl (0 : Int32), .inl a4]) rfl ?_
                            refine xw.s (pc' := 92) (st' := [.inl a1, .inr (some (16, 4)), .inl (0 : Int32), .inl a4]) rfl ?_
                            obtain ⟨z55, h⟩ := h
                            refine xw.ild (c := 16) (nx := 93) (v := (xm_i S 16 4 (y_ix a1))) rfl (by decide) z55 rfl ?_
                            refine xw.call (m := 2) (as := [.inl a4, .inl (0 : Int32), .inl (xm_i S 16 4 (y_ix a1))]) (nx := 96) (L' := [some (.inl a1), some (.inl a2), some (.inl a3), some (.inl a4), some (.inl a5)]) (st' := []) rfl ?_
                            show xw _ _ _ [some (.inl a4), some (.inl (0 : Int32)), some (.inl (xm_i S 16 4 (y_ix a1)))] [] _ _
                            refine xw.s (pc' := 1) (st' := [.inl a4]) rfl ?_
                            refine xw.s (pc' := 2) (st' := [.inl (0 : Int32), .inl a4]) rfl ?_
                            refine xw.b (c := a4 < (0 : Int32)) (cd := .lt) (x := a4) (y := (0 : Int32)) 14 5 (st' := []) rfl (y_clt _ _) h (fun c56 h => ?_) (fun c56 h => ?_)
                            · skip
                              refine xw.s (pc' := 15) (st' := [.inl (0 : Int32)]) rfl ?_
                              refine xw.retz (nx := 16) rfl (Or.inl rfl) ?_
                              show xw _ _ 96 [some (.inl a1), some (.inl a2), some (.inl a3), some (.inl a4), some (.inl a5)] [.inl (0 : Int32)] S _
                              refine xw.bt (cd := .eq) (x := (0 : Int32)) (y := (0 : Int32)) 117 99 (st' := []) rfl (y_ceq _ _) (by decide) ?_
                              refine xw.s (pc' := 118) (st' := [.inl (0 : Int32)]) rfl ?_
                              refine xw.retz (nx := 119) rfl (Or.inl rfl) ?_
                              show xw _ _ 31 [some (.inr (some (0, 0))), some (.inl a1), some (.inl a2), some (.inl a3), some (.inl a4), some (.inl a5)] [.inl (0 : Int32)] S _
                              refine xw.bf (cd := .ne) (x := (0 : Int32)) (y := (0 : Int32)) 37 34 (st' := []) rfl (y_cne _ _) (by decide) ?_
                              refine xw.s (pc' := 36) (st' := [.inl (-2 : Int32)]) rfl ?_
                              exact xw.ret (r := (some (.inl (-2 : Int32)))) rfl h
                            · skip
                              refine xw.s (pc' := 6) (st' := [.inl a4]) rfl ?_
                              refine xw.s (pc' := 7) (st' := [.inl (xm_i S 16 4 (y_ix a1)), .inl a4]) rfl ?_
                              refine xw.b (c := (xm_i S 16 4 (y_ix a1)) < a4) (cd := .gt) (x := a4) (y := (xm_i S 16 4 (y_ix a1))) 14 10 (st' := []) rfl (y_cgt _ _) h (fun c57 h => ?_) (fun c57 h => ?_)
                              · skip
                                refine xw.s (pc' := 15) (st' := [.inl (0 : Int32)]) rfl ?_
                                refine xw.retz (nx := 16) rfl (Or.inl rfl) ?_
                                show xw _ _ 96 [some (.inl a1), some (.inl a2), some (.inl a3), some (.inl a4), some (.inl a5)] [.inl (0 : Int32)] S _
                                refine xw.bt (cd := .eq) (x := (0 : Int32)) (y := (0 : Int32)) 117 99 (st' := []) rfl (y_ceq _ _) (by decide) ?_
                                refine xw.s (pc' := 118) (st' := [.inl (0 : Int32)]) rfl ?_
                                refine xw.retz (nx := 119) rfl (Or.inl rfl) ?_
                                show xw _ _ 31 [some (.inr (some (0, 0))), some (.inl a1), some (.inl a2), some (.inl a3), some (.inl a4), some (.inl a5)] [.inl (0 : Int32)] S _
                                refine xw.bf (cd := .ne) (x := (0 : Int32)) (y := (0 : Int32)) 37 34 (st' := []) rfl (y_cne _ _) (by decide) ?_
                                refine xw.s (pc' := 36) (st' := [.inl (-2 : Int32)]) rfl ?_
                                exact xw.ret (r := (some (.inl (-2 : Int32)))) rfl h
                              · skip
                                refine xw.s (pc' := 11) (st' := [.inl (1 : Int32)]) rfl ?_
                                refine xw.s (pc' := 15) (st' := [.inl (1 : Int32)]) rfl ?_
                                refine xw.retz (nx := 16) rfl (Or.inr rfl) ?_
                                show xw _ _ 96 [some (.inl a1), some (.inl a2), some (.inl a3), some (.inl a4), some (.inl a5)] [.inl (1 : Int32)] S _
                                refine xw.bf (cd := .eq) (x := (1 : Int32)) (y := (0 : Int32)) 117 99 (st' := []) rfl (y_ceq _ _) (by decide) ?_
                                refine xw.s (pc' := 101) (st' := [.inl a5]) rfl ?_
                                refine xw.s (pc' := 102) (st' := [.inl (0 : Int32), .inl a5]) rfl ?_
                                refine xw.s (pc' := 105) (st' := [.inr (some (16, 5)), .inl (0 : Int32), .inl a5]) rfl ?_
                                refine xw.s (pc' := 106) (st' := [.inl a1, .inr (some (16, 5)), .inl (0 : Int32), .inl a5]) rfl ?_
                                obtain ⟨z58, h⟩ := h
                                refine xw.ild (c := 16) (nx := 107) (v := (xm_i S 16 5 (y_ix a1))) rfl (by decide) z58 rfl ?_
                                refine xw.call (m := 2) (as := [.inl a5, .inl (0 : Int32), .inl (xm_i S 16 5 (y_ix a1))]) (nx := 110) (L' := [some (.inl a1), some (.inl a2), some (.inl a3), some (.inl a4), some (.inl a5)]) (st' := []) rfl ?_
                                show xw _ _ _ [some (.inl a5), some (.inl (0 : Int32)), some (.inl (xm_i S 16 5 (y_ix a1)))] [] _ _
                                refine xw.s (pc' := 1) (st' := [.inl a5]) rfl ?_
                                refine xw.s (pc' := 2) (st' := [.inl (0 : Int32), .inl a5]) rfl ?_
                                refine xw.b (c := a5 < (0 : Int32)) (cd := .lt) (x := a5) (y := (0 : Int32)) 14 5 (st' := []) rfl (y_clt _ _) h (fun c59 h => ?_) (fun c59 h => ?_)
                                · skip
                                  refine xw.s (pc' := 15) (st' := [.inl (0 : Int32)]) rfl ?_
                                  refine xw.retz (nx := 16) rfl (Or.inl rfl) ?_
                                  show xw _ _ 110 [some (.inl a1), some (.inl a2), some (.inl a3), some (.inl a4), some (.inl a5)] [.inl (0 : Int32)] S _
                                  refine xw.bt (cd := .eq) (x := (0 : Int32)) (y := (0 : Int32)) 117 113 (st' := []) rfl (y_ceq _ _) (by decide) ?_
                                  refine xw.s (pc' := 118) (st' := [.inl (0 : Int32)]) rfl ?_
                                  refine xw.retz (nx := 119) rfl (Or.inl rfl) ?_
                                  show xw _ _ 31 [some (.inr (some (0, 0))), some (.inl a1), some (.inl a2), some (.inl a3), some (.inl a4), some (.inl a5)] [.inl (0 : Int32)] S _
                                  refine xw.bf (cd := .ne) (x := (0 : Int32)) (y := (0 : Int32)) 37 34 (st' := []) rfl (y_cne _ _) (by decide) ?_
                                  refine xw.s (pc' := 36) (st' := [.inl (-2 : Int32)]) rfl ?_
                                  exact xw.ret (r := (some (.inl (-2 : Int32)))) rfl h
                                · skip
                                  refine xw.s (pc' := 6) (st' := [.inl a5]) rfl ?_
                                  refine xw.s (pc' := 7) (st' := [.inl (xm_i S 16 5 (y_ix a1)), .inl a5]) rfl ?_
                                  refine xw.b (c := (xm_i S 16 5 (y_ix a1)) < a5) (cd := .gt) (x := a5) (y := (xm_i S 16 5 (y_ix a1))) 14 10 (st' := []) rfl (y_cgt _ _) h (fun c60 h => ?_) (fun c60 h => ?_)
                                  · skip
                                    refine xw.s (pc' := 15) (st' := [.inl (0 : Int32)]) rfl ?_
                                    refine xw.retz (nx := 16) rfl (Or.inl rfl) ?_
                                    show xw _ _ 110 [some (.inl a1), some (.inl a2), some (.inl a3), some (.inl a4), some (.inl a5)] [.inl (0 : Int32)] S _
                                    refine xw.bt (cd := .eq) (x := (0 : Int32)) (y := (0 : Int32)) 117 113 (st' := []) rfl (y_ceq _ _) (by decide) ?_
                                    refine xw.s (pc' := 118) (st' := [.inl (0 : Int32)]) rfl ?_
                                    refine xw.retz (nx := 119) rfl (Or.inl rfl) ?_
                                    show xw _ _ 31 [some (.inr (some (0, 0))), some (.inl a1), some (.inl a2), some (.inl a3), some (.inl a4), some (.inl a5)] [.inl (0 : Int32)] S _
                                    refine xw.bf (cd := .ne) (x := (0 : Int32)) (y := (0 : Int32)) 37 34 (st' := []) rfl (y_cne _ _) (by decide) ?_
                                    refine xw.s (pc' := 36) (st' := [.inl (-2 : Int32)]) rfl ?_
                                    exact xw.ret (r := (some (.inl (-2 : Int32)))) rfl h
                                  · skip
                                    refine xw.s (pc' := 11) (st' := [.inl (1 : Int32)]) rfl ?_
                                    refine xw.s (pc' := 15) (st' := [.inl (1 : Int32)]) rfl ?_
                                    refine xw.retz (nx := 16) rfl (Or.inr rfl) ?_
                                    show xw _ _ 110 [some (.inl a1), some (.inl a2), some (.inl a3), some (.inl a4), some (.inl a5)] [.inl (1 : Int32)] S _
                                    refine xw.bf (cd := .eq) (x := (1 : Int32)) (y := (0 : Int32)) 117 113 (st' := []) rfl (y_ceq _ _) (by decide) ?_
                                    refine xw.s (pc' := 114) (st' := [.inl (1 : Int32)]) rfl ?_
                                    refine xw.s (pc' := 118) (st' := [.inl (1 : Int32)]) rfl ?_
                                    refine xw.retz (nx := 119) rfl (Or.inr rfl) ?_
                                    show xw _ _ 31 [some (.inr (some (0, 0))), some (.inl a1), some (.inl a2), some (.inl a3), some (.inl a4), some (.inl a5)] [.inl (1 : Int32)] S _
                                    refine xw.bt (cd := .ne) (x := (1 : Int32)) (y := (0 : Int32)) 37 34 (st' := []) rfl (y_cne _ _) (by decide) ?_
                                    refine xw.s (pc' := 38) (st' := [.inr (some (0, 0))]) rfl ?_
                                    refine xw.fr (c := 0) (j := 3) (e := 12) (nx := 41) (t := (some 3)) rfl rfl (hC 3 (by decide)) ?_
                                    show xw _ _ _ [some (.inr (some (0, 0))), some (.inl a1), some (.inl a2), some (.inl a3), some (.inl a4), some (.inl a5)] [.inr (some (12, 3))] _ _
                                    refine xw.lsz (nx := 44) (n := (xm_n S 1 3)) rfl (Nat.le_of_ble_eq_true rfl) rfl ?_
                                    refine xw.s (pc' := 46) (st' := [.inl (24 : Int32), .inl (nI (xm_n S 1 3))]) rfl ?_
                                    refine xw.b (c := (nI (xm_n S 1 3)) < (24 : Int32)) (cd := .lt) (x := (nI (xm_n S 1 3))) (y := (24 : Int32)) 52 49 (st' := []) rfl (y_clt _ _) h (fun c61 h => ?_) (fun c61 h => ?_)
                                    · skip
                                      refine xw.s (pc' := 53) (st' := [.inr (some (0, 0))]) rfl ?_
                                      refine xw.fr (c := 0) (j := 3) (e := 12) (nx := 56) (t := (some 3)) rfl rfl (hC 3 (by decide)) ?_
                                      show xw _ _ _ [some (.inr (some (0, 0))), some (.inl a1), some (.inl a2), some (.inl a3), some (.inl a4), some (.inl a5)] [.inr (some (12, 3))] _ _
                                      refine xw.s (pc' := 59) (st' := [.inr (some (5, (xm_n S 0 5))), .inr (some (12, 3))]) (S1 := xm_mk 5 15 S) rfl ?_
                                      obtain ⟨k62, q63⟩ : ∃ k, k = xm_n S 0 5 := ⟨_, rfl⟩
                                      rw [← q63]
                                      replace h := h k62 q63
                                      obtain ⟨S64, e65⟩ : ∃ s, s = xm_mk 5 15 S := ⟨_, rfl⟩
                                      rw [← e65]
                                      replace h := h S64 e65
                                      refine xw.s (pc' := 60) (st' := [.inr (some (5, k62)), .inr (some (5, k62)), .inr (some (12, 3))]) rfl ?_
                                      refine xw.s (pc' := 61) (st' := [.inr (some (0, 0)), .inr (some (5, k62)), .inr (some (5, k62)), .inr (some (12, 3))]) rfl ?_
                                      refine xw.fr (c := 0) (j := 3) (e := 12) (nx := 64) (t := (some 3)) rfl rfl ((congrArg (fun s => xm_r s 0 0 3) e65).trans ((xr_mk (by decide)).trans (hC 3 (by decide)))) ?_
                                      show xw _ _ _ [some (.inr (some (0, 0))), some (.inl a1), some (.inl a2), some (.inl a3), some (.inl a4), some (.inl a5)] [.inr (some (12, 3)), .inr (some (5, k62)), .inr (some (5, k62)), .inr (some (12, 3))] _ _
                                      refine xw.lsz (nx := 67) (n := (xm_n S64 1 3)) rfl (Nat.le_of_ble_eq_true rfl) rfl ?_
                                      refine xw.s (pc' := 68) (st' := [.inl a1, .inl (nI (xm_n S64 1 3)), .inr (some (5, k62)), .inr (some (5, k62)), .inr (some (12, 3))]) rfl ?_
                                      refine xw.s (pc' := 69) (st' := [.inl a2, .inl a1, .inl (nI (xm_n S64 1 3)), .inr (some (5, k62)), .inr (some (5, k62)), .inr (some (12, 3))]) rfl ?_
                                      refine xw.s (pc' := 70) (st' := [.inl a3, .inl a2, .inl a1, .inl (nI (xm_n S64 1 3)), .inr (some (5, k62)), .inr (some (5, k62)), .inr (some (12, 3))]) rfl ?_
                                      refine xw.s (pc' := 72) (st' := [.inl a4, .inl a3, .inl a2, .inl a1, .inl (nI (xm_n S64 1 3)), .inr (some (5, k62)), .inr (some (5, k62)), .inr (some (12, 3))]) rfl ?_
                                      refine xw.s (pc' := 74) (st' := [.inl a5, .inl a4, .inl a3, .inl a2, .inl a1, .inl (nI (xm_n S64 1 3)), .inr (some (5, k62)), .inr (some (5, k62)), .inr (some (12, 3))]) rfl ?_
                                      refine xw.call (m := 98) (as := [.inr (some (5, k62)), .inl (nI (xm_n S64 1 3)), .inl a1, .inl a2, .inl a3, .inl a4, .inl a5]) (nx := 77) (L' := [some (.inr (some (0, 0))), some (.inl a1), some (.inl a2), some (.inl a3), some (.inl a4), some (.inl a5)]) (st' := [.inr (some (5, k62)), .inr (some (12, 3))]) rfl (xc.mono h ?_)
                                      rintro r S66 ⟨rfl, hC67, h⟩
                                      show xw _ _ 77 [some (.inr (some (0, 0))), some (.inl a1), some (.inl a2), some (.inl a3), some (.inl a4), some (.inl a5)] [.inr (some (5, k62)), .inr (some (12, 3))] _ _
                                      obtain ⟨z68, z69, h⟩ := h
                                      refine xw.ladd (nx := 80) rfl (Nat.le_of_ble_eq_true rfl) (by decide) z68 z69 ?_
                                      obtain ⟨S70, e71⟩ : ∃ s, s = xm_push 3 (5, k62) S66 := ⟨_, rfl⟩
                                      rw [← e71]
                                      replace h := h S70 e71
                                      refine xw.s (pc' := 81) (st' := []) rfl ?_
                                      refine xw.s (pc' := 82) (st' := [.inr (some (0, 0))]) rfl ?_
                                      refine xw.fr (c := 0) (j := 3) (e := 12) (nx := 85) (t := (some 3)) rfl rfl ((congrArg (fun s => xm_r s 0 0 3) e71).trans (xr_push.trans (hC67 3 (by decide)))) ?_
                                      show xw _ _ _ [some (.inr (some (0, 0))), some (.inl a1), some (.inl a2), some (.inl a3), some (.inl a4), some (.inl a5)] [.inr (some (12, 3))] _ _
                                      refine xw.lsz (nx := 88) (n := (xm_n S70 1 3)) rfl (Nat.le_of_ble_eq_true rfl) rfl ?_
                                      refine xw.s (pc' := 89) (st' := [.inl (1 : Int32), .inl (nI (xm_n S70 1 3))]) rfl ?_
                                      refine xw.s (pc' := 90) (st' := [.inl ((nI (xm_n S70 1 3)) - (1 : Int32))]) rfl ?_
                                      exact xw.ret (r := (some (.inl ((nI (xm_n S70 1 3)) - (1 : Int32))))) rfl h
                                    · skip
                                      refine xw.s (pc' := 51) (st' := [.inl (-3 : Int32)]) rfl ?_
                                      exact xw.ret (r := (some (.inl (-3 : Int32)))) rfl h
  · skip
    refine xw.s (pc' := 22) (st' := [.inl a1]) rfl ?_
    refine xw.s (pc' := 23) (st' := [.inl a2, .inl a1]) rfl ?_
    refine xw.s (pc' := 24) (st' := [.inl a3, .inl a2, .inl a1]) rfl ?_
    refine xw.s (pc' := 26) (st' := [.inl a4, .inl a3, .inl a2, .inl a1]) rfl ?_
    refine xw.s (pc' := 28) (st' := [.inl a5, .inl a4, .inl a3, .inl a2, .inl a1]) rfl ?_
    refine xw.call (m := 8) (as := [.inl a1, .inl a2, .inl a3, .inl a4, .inl a5]) (nx := 31) (L' := [some (.inr (some (0, 0))), some (.inl a1), some (.inl a2), some (.inl a3), some (.inl a4), some (.inl a5)]) (st' := []) rfl ?_
    show xw _ _ _ [some (.inl a1), some (.inl a2), some (.inl a3), some (.inl a4), some (.inl a5)] [] _ _
    refine xw.s (pc' := 1) (st' := [.inl a1]) rfl ?_
    refine xw.b (c := a1 < (0 : Int32)) (cd := .lt) (x := a1) (y := (0 : Int32)) 117 4 (st' := []) rfl (y_clt _ _) h (fun c72 h => ?_) (fun c72 h => ?_)
    · skip
      refine xw.s (pc' := 118) (st' := [.inl (0 : Int32)]) rfl ?_
      refine xw.retz (nx := 119) rfl (Or.inl rfl) ?_
      show xw _ _ 31 [some (.inr (some (0, 0))), some (.inl a1), some (.inl a2), some (.inl a3), some (.inl a4), some (.inl a5)] [.inl (0 : Int32)] S _
      refine xw.bf (cd := .ne) (x := (0 : Int32)) (y := (0 : Int32)) 37 34 (st' := []) rfl (y_cne _ _) (by decide) ?_
      refine xw.s (pc' := 36) (st' := [.inl (-2 : Int32)]) rfl ?_
      exact xw.ret (r := (some (.inl (-2 : Int32)))) rfl h
    · skip
      refine xw.s (pc' := 5) (st' := [.inl a1]) rfl ?_
      refine xw.s (pc' := 8) (st' := [.inr (some (16, 0)), .inl a1]) rfl ?_
      refine xw.aln (c := 16) (n := (xm_n S 26 0)) (nx := 9) rfl (by decide) rfl ?_
      refine xw.b (c := (nI (xm_n S 26 0)) ≤ a1) (cd := .ge) (x := a1) (y := (nI (xm_n S 26 0))) 117 12 (st' := []) rfl (y_cge _ _) h (fun c73 h => ?_) (fun c73 h => ?_)
      · skip
        refine xw.s (pc' := 118) (st' := [.inl (0 : Int32)]) rfl ?_
        refine xw.retz (nx := 119) rfl (Or.inl rfl) ?_
        show xw _ _ 31 [some (.inr (some (0, 0))), some (.inl a1), some (.inl a2), some (.inl a3), some (.inl a4), some (.inl a5)] [.inl (0 : Int32)] S _
        refine xw.bf (cd := .ne) (x := (0 : Int32)) (y := (0 : Int32)) 37 34 (st' := []) rfl (y_cne _ _) (by decide) ?_
        refine xw.s (pc' := 36) (st' := [.inl (-2 : Int32)]) rfl ?_
        exact xw.ret (r := (some (.inl (-2 : Int32)))) rfl h
      · skip
        refine xw.s (pc' := 13) (st' := [.inl a1]) rfl ?_
        refine xw.s (pc' := 16) (st' := [.inr (some (16, 1)), .inl a1]) rfl ?_
        refine xw.aln (c := 16) (n := (xm_n S 26 1)) (nx := 17) rfl (by decide) rfl ?_
        refine xw.b (c := (nI (xm_n S 26 1)) ≤ a1) (cd := .ge) (x := a1) (y := (nI (xm_n S 26 1))) 117 20 (st' := []) rfl (y_cge _ _) h (fun c74 h => ?_) (fun c74 h => ?_)
        · skip
          refine xw.s (pc' := 118) (st' := [.inl (0 : Int32)]) rfl ?_
          refine xw.retz (nx := 119) rfl (Or.inl rfl) ?_
          show xw _ _ 31 [some (.inr (some (0, 0))), some (.inl a1), some (.inl a2), some (.inl a3), some (.inl a4), some (.inl a5)] [.inl (0 : Int32)] S _
          refine xw.bf (cd := .ne) (x := (0 : Int32)) (y := (0 : Int32)) 37 34 (st' := []) rfl (y_cne _ _) (by decide) ?_
          refine xw.s (pc' := 36) (st' := [.inl (-2 : Int32)]) rfl ?_
          exact xw.ret (r := (some (.inl (-2 : Int32)))) rfl h
        · skip
          refine xw.s (pc' := 21) (st' := [.inl a1]) rfl ?_
          refine xw.s (pc' := 24) (st' := [.inr (some (16, 2)), .inl a1]) rfl ?_
          refine xw.aln (c := 16) (n := (xm_n S 26 2)) (nx := 25) rfl (by decide) rfl ?_
          refine xw.b (c := (nI (xm_n S 26 2)) ≤ a1) (cd := .ge) (x := a1) (y := (nI (xm_n S 26 2))) 117 28 (st' := []) rfl (y_cge _ _) h (fun c75 h => ?_) (fun c75 h => ?_)
          · skip
            refine xw.s (pc' := 118) (st' := [.inl (0 : Int32)]) rfl ?_
            refine xw.retz (nx := 119) rfl (Or.inl rfl) ?_
            show xw _ _ 31 [some (.inr (some (0, 0))), some (.inl a1), some (.inl a2), some (.inl a3), some (.inl a4), some (.inl a5)] [.inl (0 : Int32)] S _
            refine xw.bf (cd := .ne) (x := (0 : Int32)) (y := (0 : Int32)) 37 34 (st' := []) rfl (y_cne _ _) (by decide) ?_
            refine xw.s (pc' := 36) (st' := [.inl (-2 : Int32)]) rfl ?_
            exact xw.ret (r := (some (.inl (-2 : Int32)))) rfl h
          · skip
            refine xw.s (pc' := 29) (st' := [.inl a1]) rfl ?_
            refine xw.s (pc' := 32) (st' := [.inr (some (16, 3)), .inl a1]) rfl ?_
            refine xw.aln (c := 16) (n := (xm_n S 26 3)) (nx := 33) rfl (by decide) rfl ?_
            refine xw.b (c := (nI (xm_n S 26 3)) ≤ a1) (cd := .ge) (x := a1) (y := (nI (xm_n S 26 3))) 117 36 (st' := []) rfl (y_cge _ _) h (fun c76 h => ?_) (fun c76 h => ?_)
            · skip
              refine xw.s (pc' := 118) (st' := [.inl (0 : Int32)]) rfl ?_
              refine xw.retz (nx := 119) rfl (Or.inl rfl) ?_
              show xw _ _ 31 [some (.inr (some (0, 0))), some (.inl a1), some (.inl a2), some (.inl a3), some (.inl a4), some (.inl a5)] [.inl (0 : Int32)] S _
              refine xw.bf (cd := .ne) (x := (0 : Int32)) (y := (0 : Int32)) 37 34 (st' := []) rfl (y_cne _ _) (by decide) ?_
              refine xw.s (pc' := 36) (st' := [.inl (-2 : Int32)]) rfl ?_
              exact xw.ret (r := (some (.inl (-2 : Int32)))) rfl h
            · skip
              refine xw.s (pc' := 37) (st' := [.inl a1]) rfl ?_
              refine xw.s (pc' := 40) (st' := [.inr (some (16, 4)), .inl a1]) rfl ?_
              refine xw.aln (c := 16) (n := (xm_n S 26 4)) (nx := 41) rfl (by decide) rfl ?_
              refine xw.b (c := (nI (xm_n S 26 4)) ≤ a1) (cd := .ge) (x := a1) (y := (nI (xm_n S 26 4))) 117 44 (st' := []) rfl (y_cge _ _) h (fun c77 h => ?_) (fun c77 h => ?_)
              · skip
                refine xw.s (pc' := 118) (st' := [.inl (0 : Int32)]) rfl ?_
                refine xw.retz (nx := 119) rfl (Or.inl rfl) ?_
                show xw _ _ 31 [some (.inr (some (0, 0))), some (.inl a1), some (.inl a2), some (.inl a3), some (.inl a4), some (.inl a5)] [.inl (0 : Int32)] S _
                refine xw.bf (cd := .ne) (x := (0 : Int32)) (y := (0 : Int32)) 37 34 (st' := []) rfl (y_cne _ _) (by decide) ?_
                refine xw.s (pc' := 36) (st' := [.inl (-2 : Int32)]) rfl ?_
                exact xw.ret (r := (some (.inl (-2 : Int32)))) rfl h
              · skip
                refine xw.s (pc' := 45) (st' := [.inl a1]) rfl ?_
                refine xw.s (pc' := 48) (st' := [.inr (some (16, 5)), .inl a1]) rfl ?_
                refine xw.aln (c := 16) (n := (xm_n S 26 5)) (nx := 49) rfl (by decide) rfl ?_
                refine xw.b (c := (nI (xm_n S 26 5)) ≤ a1) (cd := .ge) (x := a1) (y := (nI (xm_n S 26 5))) 117 52 (st' := []) rfl (y_cge _ _) h (fun c78 h => ?_) (fun c78 h => ?_)
                · skip
                  refine xw.s (pc' := 118) (st' := [.inl (0 : Int32)]) rfl ?_
                  refine xw.retz (nx := 119) rfl (Or.inl rfl) ?_
                  show xw _ _ 31 [some (.inr (some (0, 0))), some (.inl a1), some (.inl a2), some (.inl a3), some (.inl a4), some (.inl a5)] [.inl (0 : Int32)] S _
                  refine xw.bf (cd := .ne) (x := (0 : Int32)) (y := (0 : Int32)) 37 34 (st' := []) rfl (y_cne _ _) (by decide) ?_
                  refine xw.s (pc' := 36) (st' := [.inl (-2 : Int32)]) rfl ?_
                  exact xw.ret (r := (some (.inl (-2 : Int32)))) rfl h
                · skip
                  refine xw.s (pc' := 53) (st' := [.inl a2]) rfl ?_
                  refine xw.s (pc' := 56) (st' := [.inr (some (16, 0)), .inl a2]) rfl ?_
                  refine xw.s (pc' := 57) (st' := [.inl a1, .inr (some (16, 0)), .inl a2]) rfl ?_
                  obtain ⟨z79, h⟩ := h
                  refine xw.ild (c := 16) (nx := 58) (v := (xm_i S 16 0 (y_ix a1))) rfl (by decide) z79 rfl ?_
                  refine xw.s (pc' := 61) (st' := [.inr (some (16, 1)), .inl (xm_i S 16 0 (y_ix a1)), .inl a2]) rfl ?_
                  refine xw.s (pc' := 62) (st' := [.inl a1, .inr (some (16, 1)), .inl (xm_i S 16 0 (y_ix a1)), .inl a2]) rfl ?_
                  obtain ⟨z80, h⟩ := h
                  refine xw.ild (c := 16) (nx := 63) (v := (xm_i S 16 1 (y_ix a1))) rfl (by decide) z80 rfl ?_
                  refine xw.call (m := 2) (as := [.inl a2, .inl (xm_i S 16 0 (y_ix a1)), .inl (xm_i S 16 1 (y_ix a1))]) (nx := 66) (L' := [some (.inl a1), some (.inl a2), some (.inl a3), some (.inl a4), some (.inl a5)]) (st' := []) rfl ?_
                  show xw _ _ _ [some (.inl a2), some (.inl (xm_i S 16 0 (y_ix a1))), some (.inl (xm_i S 16 1 (y_ix a1)))] [] _ _
                  refine xw.s (pc' := 1) (st' := [.inl a2]) rfl ?_
                  refine xw.s (pc' := 2) (st' := [.inl (xm_i S 16 0 (y_ix a1)), .inl a2]) rfl ?_
                  refine xw.b (c := a2 < (xm_i S 16 0 (y_ix a1))) (cd := .lt) (x := a2) (y := (xm_i S 16 0 (y_ix a1))) 14 5 (st' := []) rfl (y_clt _ _) h (fun c81 h => ?_) (fun c81 h => ?_)
                  · skip
                    refine xw.s (pc' := 15) (st' := [.inl (0 : Int32)]) rfl ?_
                    refine xw.retz (nx := 16) rfl (Or.inl rfl) ?_
                    show xw _ _ 66 [some (.inl a1), some (.inl a2), some (.inl a3), some (.inl a4), some (.inl a5)] [.inl (0 : Int32)] S _
                    refine xw.bt (cd := .eq) (x := (0 : Int32)) (y := (0 : Int32)) 117 69 (st' := []) rfl (y_ceq _ _) (by decide) ?_
                    refine xw.s (pc' := 118) (st' := [.inl (0 : Int32)]) rfl ?_
                    refine xw.retz (nx := 119) rfl (Or.inl rfl) ?_
                    show xw _ _ 31 [some (.inr (some (0, 0))), some (.inl a1), some (.inl a2), some (.inl a3), some (.inl a4), some (.inl a5)] [.inl (0 : Int32)] S _
                    refine xw.bf (cd := .ne) (x := (0 : Int32)) (y := (0 : Int32)) 37 34 (st' := []) rfl (y_cne _ _) (by decide) ?_
                    refine xw.s (pc' := 36) (st' := [.inl (-2 : Int32)]) rfl ?_
                    exact xw.ret (r := (some (.inl (-2 : Int32)))) rfl h
                  · skip
                    refine xw.s (pc' := 6) (st' := [.inl a2]) rfl ?_
                    refine xw.s (pc' := 7) (st' := [.inl (xm_i S 16 1 (y_ix a1)), .inl a2]) rfl ?_
                    refine xw.b (c := (xm_i S 16 1 (y_ix a1)) < a2) (cd := .gt) (x := a2) (y := (xm_i S 16 1 (y_ix a1))) 14 10 (st' := []) rfl (y_cgt _ _) h (fun c82 h => ?_) (fun c82 h => ?_)
                    · skip
                      refine xw.s (pc' := 15) (st' := [.inl (0 : Int32)]) rfl ?_
                      refine xw.retz (nx := 16) rfl (Or.inl rfl) ?_
                      show xw _ _ 66 [some (.inl a1), some (.inl a2), some (.inl a3), some (.inl a4), some (.inl a5)] [.inl (0 : Int32)] S _
                      refine xw.bt (cd := .eq) (x := (0 : Int32)) (y := (0 : Int32)) 117 69 (st' := []) rfl (y_ceq _ _) (by decide) ?_
                      refine xw.s (pc' := 118) (st' := [.inl (0 : Int32)]) rfl ?_
                      refine xw.retz (nx := 119) rfl (Or.inl rfl) ?_
                      show xw _ _ 31 [some (.inr (some (0, 0))), some (.inl a1), some (.inl a2), some (.inl a3), some (.inl a4), some (.inl a5)] [.inl (0 : Int32)] S _
                      refine xw.bf (cd := .ne) (x := (0 : Int32)) (y := (0 : Int32)) 37 34 (st' := []) rfl (y_cne _ _) (by decide) ?_
                      refine xw.s (pc' := 36) (st' := [.inl (-2 : Int32)]) rfl ?_
                      exact xw.ret (r := (some (.inl (-2 : Int32)))) rfl h
                    · skip
                      refine xw.s (pc' := 11) (st' := [.inl (1 : Int32)]) rfl ?_
                      refine xw.s (pc' := 15) (st' := [.inl (1 : Int32)]) rfl ?_
                      refine xw.retz (nx := 16) rfl (Or.inr rfl) ?_
                      show xw _ _ 66 [some (.inl a1), some (.inl a2), some (.inl a3), some (.inl a4), some (.inl a5)] [.inl (1 : Int32)] S _
                      refine xw.bf (cd := .eq) (x := (1 : Int32)) (y := (0 : Int32)) 117 69 (st' := []) rfl (y_ceq _ _) (by decide) ?_
                      refine xw.s (pc' := 70) (st' := [.inl a3]) rfl ?_
                      refine xw.s (pc' := 73) (st' := [.inr (some (16, 2)), .inl a3]) rfl ?_
                      refine xw.s (pc' := 74) (st' := [.inl a1, .inr (some (16, 2)), .inl a3]) rfl ?_
                      obtain ⟨z83, h⟩ := h
                      refine xw.ild (c := 16) (nx := 75) (v := (xm_i S 16 2 (y_ix a1))) rfl (by decide) z83 rfl ?_
                      refine xw.s (pc' := 78) (st' := [.inr (some (16, 3)), .inl (xm_i S 16 2 (y_ix a1)), .inl a3]) rfl ?_
                      refine xw.s (pc' := 79) (st' := [.inl a1, .inr (some (16, 3)), .inl (xm_i S 16 2 (y_ix a1)), .inl a3]) rfl ?_
                      obtain ⟨z84, h⟩ := h
                      refine xw.ild (c := 16) (nx := 80) (v := (xm_i S 16 3 (y_ix a1))) rfl (by decide) z84 rfl ?_
                      refine xw.call (m := 2) (as := [.inl a3, .inl (xm_i S 16 2 (y_ix a1)), .inl (xm_i S 16 3 (y_ix a1))]) (nx := 83) (L' := [some (.inl a1), some (.inl a2), some (.inl a3), some (.inl a4), some (.inl a5)]) (st' := []) rfl ?_
                      show xw _ _ _ [some (.inl a3), some (.inl (xm_i S 16 2 (y_ix a1))), some (.inl (xm_i S 16 3 (y_ix a1)))] [] _ _
                      refine xw.s (pc' := 1) (st' := [.inl a3]) rfl ?_
                      refine xw.s (pc' := 2) (st' := [.inl (xm_i S 16 2 (y_ix a1)), .inl a3]) rfl ?_
                      refine xw.b (c := a3 < (xm_i S 16 2 (y_ix a1))) (cd := .lt) (x := a3) (y := (xm_i S 16 2 (y_ix a1))) 14 5 (st' := []) rfl (y_clt _ _) h (fun c85 h => ?_) (fun c85 h => ?_)
                      · skip
                        refine xw.s (pc' := 15) (st' := [.inl (0 : Int32)]) rfl ?_
                        refine xw.retz (nx := 16) rfl (Or.inl rfl) ?_
                        show xw _ _ 83 [some (.inl a1), some (.inl a2), some (.inl a3), some (.inl a4), some (.inl a5)] [.inl (0 : Int32)] S _
                        refine xw.bt (cd := .eq) (x := (0 : Int32)) (y := (0 : Int32)) 117 86 (st' := []) rfl (y_ceq _ _) (by decide) ?_
                        refine xw.s (pc' := 118) (st' := [.inl (0 : Int32)]) rfl ?_
                        refine xw.retz (nx := 119) rfl (Or.inl rfl) ?_
                        show xw _ _ 31 [some (.inr (some (0, 0))), some (.inl a1), some (.inl a2), some (.inl a3), some (.inl a4), some (.inl a5)] [.inl (0 : Int32)] S _
                        refine xw.bf (cd := .ne) (x := (0 : Int32)) (y := (0 : Int32)) 37 34 (st' := []) rfl (y_cne _ _) (by decide) ?_
                        refine xw.s (pc' := 36) (st' := [.inl (-2 : Int32)]) rfl ?_
                        exact xw.ret (r := (some (.inl (-2 : Int32)))) rfl h
                      · skip
                        refine xw.s (pc' := 6) (st' := [.inl a3]) rfl ?_
                        refine xw.s (pc' := 7) (st' := [.inl (xm_i S 16 3 (y_ix a1)), .inl a3]) rfl ?_
                        refine xw.b (c := (xm_i S 16 3 (y_ix a1)) < a3) (cd := .gt) (x := a3) (y := (xm_i S 16 3 (y_ix a1))) 14 10 (st' := []) rfl (y_cgt _ _) h (fun c86 h => ?_) (fun c86 h => ?_)
                        · skip
                          refine xw.s (pc' := 15) (st' := [.inl (0 : Int32)]) rfl ?_
                          refine xw.retz (nx := 16) rfl (Or.inl rfl) ?_
                          show xw _ _ 83 [some (.inl a1), some (.inl a2), some (.inl a3), some (.inl a4), some (.inl a5)] [.inl (0 : Int32)] S _
                          refine xw.bt (cd := .eq) (x := (0 : Int32)) (y := (0 : Int32)) 117 86 (st' := []) rfl (y_ceq _ _) (by decide) ?_
                          refine xw.s (pc' := 118) (st' := [.inl (0 : Int32)]) rfl ?_
                          refine xw.retz (nx := 119) rfl (Or.inl rfl) ?_
                          show xw _ _ 31 [some (.inr (some (0, 0))), some (.inl a1), some (.inl a2), some (.inl a3), some (.inl a4), some (.inl a5)] [.inl (0 : Int32)] S _
                          refine xw.bf (cd := .ne) (x := (0 : Int32)) (y := (0 : Int32)) 37 34 (st' := []) rfl (y_cne _ _) (by decide) ?_
                          refine xw.s (pc' := 36) (st' := [.inl (-2 : Int32)]) rfl ?_
                          exact xw.ret (r := (some (.inl (-2 : Int32)))) rfl h
                        · skip
                          refine xw.s (pc' := 11) (st' := [.inl (1 : Int32)]) rfl ?_
                          refine xw.s (pc' := 15) (st' := [.inl (1 : Int32)]) rfl ?_
                          refine xw.retz (nx := 16) rfl (Or.inr rfl) ?_
                          show xw _ _ 83 [some (.inl a1), some (.inl a2), some (.inl a3), some (.inl a4), some (.inl a5)] [.inl (1 : Int32)] S _
                          refine xw.bf (cd := .eq) (x := (1 : Int32)) (y := (0 : Int32)) 117 86 (st' := []) rfl (y_ceq _ _) (by decide) ?_
                          refine xw.s (pc' := 87) (st' := [.inl a4]) rfl ?_
                          refine xw.s (pc' := 88) (st' := [.inl (0 : Int32), .inl a4]) rfl ?_
                          refine xw.s (pc' := 91) (st' := [.inr (some (16, 4)), .inl (0 : Int32), .inl a4]) rfl ?_
                          refine xw.s (pc' := 92) (st' := [.inl a1, .inr (some (16, 4)), .inl (0 : Int32), .inl a4]) rfl ?_
                          obtain ⟨z87, h⟩ := h
                          refine xw.ild (c := 16) (nx := 93) (v := (xm_i S 16 4 (y_ix a1))) rfl (by decide) z87 rfl ?_
                          refine xw.call (m := 2) (as := [.inl a4, .inl (0 : Int32), .inl (xm_i S 16 4 (y_ix a1))]) (nx := 96) (L' := [some (.inl a1), some (.inl a2), some (.inl a3), some (.inl a4), some (.inl a5)]) (st' := []) rfl ?_
                          show xw _ _ _ [some (.inl a4), some (.inl (0 : Int32)), some (.inl (xm_i S 16 4 (y_ix a1)))] [] _ _
                          refine xw.s (pc' := 1) (st' := [.inl a4]) rfl ?_
                          refine xw.s (pc' := 2) (st' := [.inl (0 : Int32), .inl a4]) rfl ?_
                          refine xw.b (c := a4 < (0 : Int32)) (cd := .lt) (x := a4) (y := (0 : Int32)) 14 5 (st' := []) rfl (y_clt _ _) h (fun c88 h => ?_) (fun c88 h => ?_)
                          · skip
                            refine xw.s (pc' := 15) (st' := [.inl (0 : Int32)]) rfl ?_
                            refine xw.retz (nx := 16) rfl (Or.inl rfl) ?_
                            show xw _ _ 96 [some (.inl a1), some (.inl a2), some (.inl a3), some (.inl a4), some (.inl a5)] [.inl (0 : Int32)] S _
                            refine xw.bt (cd := .eq) (x := (0 : Int32)) (y := (0 : Int32)) 117 99 (st' := []) rfl (y_ceq _ _) (by decide) ?_
                            refine xw.s (pc' := 118) (st' := [.inl (0 : Int32)]) rfl ?_
                            refine xw.retz (nx := 119) rfl (Or.inl rfl) ?_
                            show xw _ _ 31 [some (.inr (some (0, 0))), some (.inl a1), some (.inl a2), some (.inl a3), some (.inl a4), some (.inl a5)] [.inl (0 : Int32)] S _
                            refine xw.bf (cd := .ne) (x := (0 : Int32)) (y := (0 : Int32)) 37 34 (st' := []) rfl (y_cne _ _) (by decide) ?_
                            refine xw.s (pc' := 36) (st' := [.inl (-2 : Int32)]) rfl ?_
                            exact xw.ret (r := (some (.inl (-2 : Int32)))) rfl h
                          · skip
                            refine xw.s (pc' := 6) (st' := [.inl a4]) rfl ?_
                            refine xw.s (pc' := 7) (st' := [.inl (xm_i S 16 4 (y_ix a1)), .inl a4]) rfl ?_
                            refine xw.b (c := (xm_i S 16 4 (y_ix a1)) < a4) (cd := .gt) (x := a4) (y := (xm_i S 16 4 (y_ix a1))) 14 10 (st' := []) rfl (y_cgt _ _) h (fun c89 h => ?_) (fun c89 h => ?_)
                            · skip
                              refine xw.s (pc' := 15) (st' := [.inl (0 : Int32)]) rfl ?_
                              refine xw.retz (nx := 16) rfl (Or.inl rfl) ?_
                              show xw _ _ 96 [some (.inl a1), some (.inl a2), some (.inl a3), some (.inl a4), some (.inl a5)] [.inl (0 : Int32)] S _
                              refine xw.bt (cd := .eq) (x := (0 : Int32)) (y := (0 : Int32)) 117 99 (st' := []) rfl (y_ceq _ _) (by decide) ?_
                              refine xw.s (pc' := 118) (st' := [.inl (0 : Int32)]) rfl ?_
                              refine xw.retz (nx := 119) rfl (Or.inl rfl) ?_
                              show xw _ _ 31 [some (.inr (some (0, 0))), some (.inl a1), some (.inl a2), some (.inl a3), some (.inl a4), some (.inl a5)] [.inl (0 : Int32)] S _
                              refine xw.bf (cd := .ne) (x := (0 : Int32)) (y := (0 : Int32)) 37 34 (st' := []) rfl (y_cne _ _) (by decide) ?_
                              refine xw.s (pc' := 36) (st' := [.inl (-2 : Int32)]) rfl ?_
                              exact xw.ret (r := (some (.inl (-2 : Int32)))) rfl h
                            · skip
                              refine xw.s (pc' := 11) (st' := [.inl (1 : Int32)]) rfl ?_
                              refine xw.s (pc' := 15) (st' := [.inl (1 : Int32)]) rfl ?_
                              refine xw.retz (nx := 16) rfl (Or.inr rfl) ?_
                              show xw _ _ 96 [some (.inl a1), some (.inl a2), some (.inl a3), some (.inl a4), some (.inl a5)] [.inl (1 : Int32)] S _
                              refine xw.bf (cd := .eq) (x := (1 : Int32)) (y := (0 : Int32)) 117 99 (st' := []) rfl (y_ceq _ _) (by decide) ?_
                              refine xw.s (pc' := 101) (st' := [.inl a5]) rfl ?_
                              refine xw.s (pc' := 102) (st' := [.inl (0 : Int32), .inl a5]) rfl ?_
                              refine xw.s (pc' := 105) (st' := [.inr (some (16, 5)), .inl (0 : Int32), .inl a5]) rfl ?_
                              refine xw.s (pc' := 106) (st' := [.inl a1, .inr (some (16, 5)), .inl (0 : Int32), .inl a5]) rfl ?_
                              obtain ⟨z90, h⟩ := h
                              refine xw.ild (c := 16) (nx := 107) (v := (xm_i S 16 5 (y_ix a1))) rfl (by decide) z90 rfl ?_
                              refine xw.call (m := 2) (as := [.inl a5, .inl (0 : Int32), .inl (xm_i S 16 5 (y_ix a1))]) (nx := 110) (L' := [some (.inl a1), some (.inl a2), some (.inl a3), some (.inl a4), some (.inl a5)]) (st' := []) rfl ?_
                              show xw _ _ _ [some (.inl a5), some (.inl (0 : Int32)), some (.inl (xm_i S 16 5 (y_ix a1)))] [] _ _
                              refine xw.s (pc' := 1) (st' := [.inl a5]) rfl ?_
                              refine xw.s (pc' := 2) (st' := [.inl (0 : Int32), .inl a5]) rfl ?_
                              refine xw.b (c := a5 < (0 : Int32)) (cd := .lt) (x := a5) (y := (0 : Int32)) 14 5 (st' := []) rfl (y_clt _ _) h (fun c91 h => ?_) (fun c91 h => ?_)
                              · skip
                                refine xw.s (pc' := 15) (st' := [.inl (0 : Int32)]) rfl ?_
                                refine xw.retz (nx := 16) rfl (Or.inl rfl) ?_
                                show xw _ _ 110 [some (.inl a1), some (.inl a2), some (.inl a3), some (.inl a4), some (.inl a5)] [.inl (0 : Int32)] S _
                                refine xw.bt (cd := .eq) (x := (0 : Int32)) (y := (0 : Int32)) 117 113 (st' := []) rfl (y_ceq _ _) (by decide) ?_
                                refine xw.s (pc' := 118) (st' := [.inl (0 : Int32)]) rfl ?_
                                refine xw.retz (nx := 119) rfl (Or.inl rfl) ?_
                                show xw _ _ 31 [some (.inr (some (0, 0))), some (.inl a1), some (.inl a2), some (.inl a3), some (.inl a4), some (.inl a5)] [.inl (0 : Int32)] S _
                                refine xw.bf (cd := .ne) (x := (0 : Int32)) (y := (0 : Int32)) 37 34 (st' := []) rfl (y_cne _ _) (by decide) ?_
                                refine xw.s (pc' := 36) (st' := [.inl (-2 : Int32)]) rfl ?_
                                exact xw.ret (r := (some (.inl (-2 : Int32)))) rfl h
                              · skip
                                refine xw.s (pc' := 6) (st' := [.inl a5]) rfl ?_
                                refine xw.s (pc' := 7) (st' := [.inl (xm_i S 16 5 (y_ix a1)), .inl a5]) rfl ?_
                                refine xw.b (c := (xm_i S 16 5 (y_ix a1)) < a5) (cd := .gt) (x := a5) (y := (xm_i S 16 5 (y_ix a1))) 14 10 (st' := []) rfl (y_cgt _ _) h (fun c92 h => ?_) (fun c92 h => ?_)
                                · skip
                                  refine xw.s (pc' := 15) (st' := [.inl (0 : Int32)]) rfl ?_
                                  refine xw.retz (nx := 16) rfl (Or.inl rfl) ?_
                                  show xw _ _ 110 [some (.inl a1), some (.inl a2), some (.inl a3), some (.inl a4), some (.inl a5)] [.inl (0 : Int32)] S _
                                  refine xw.bt (cd := .eq) (x := (0 : Int32)) (y := (0 : Int32)) 117 113 (st' := []) rfl (y_ceq _ _) (by decide) ?_
                                  refine xw.s (pc' := 118) (st' := [.inl (0 : Int32)]) rfl ?_
                                  refine xw.retz (nx := 119) rfl (Or.inl rfl) ?_
                                  show xw _ _ 31 [some (.inr (some (0, 0))), some (.inl a1), some (.inl a2), some (.inl a3), some (.inl a4), some (.inl a5)] [.inl (0 : Int32)] S _
                                  refine xw.bf (cd := .ne) (x := (0 : Int32)) (y := (0 : Int32)) 37 34 (st' := []) rfl (y_cne _ _) (by decide) ?_
                                  refine xw.s (pc' := 36) (st' := [.inl (-2 : Int32)]) rfl ?_
                                  exact xw.ret (r := (some (.inl (-2 : Int32)))) rfl h
                                · skip
                                  refine xw.s (pc' := 11) (st' := [.inl (1 : Int32)]) rfl ?_
                                  refine xw.s (pc' := 15) (st' := [.inl (1 : Int32)]) rfl ?_
                                  refine xw.retz (nx := 16) rfl (Or.inr rfl) ?_
                                  show xw _ _ 110 [some (.inl a1), some (.inl a2), some (.inl a3), some (.inl a4), some (.inl a5)] [.inl (1 : Int32)] S _
                                  refine xw.bf (cd := .eq) (x := (1 : Int32)) (y := (0 : Int32)) 117 113 (st' := []) rfl (y_ceq _ _) (by decide) ?_
                                  refine xw.s (pc' := 114) (st' := [.inl (1 : Int32)]) rfl ?_
                                  refine xw.s (pc' := 118) (st' := [.inl (1 : Int32)]) rfl ?_
                                  refine xw.retz (nx := 119) rfl (Or.inr rfl) ?_
                                  show xw _ _ 31 [some (.inr (some (0, 0))), some (.inl a1), some (.inl a2), some (.inl a3), some (.inl a4), some (.inl a5)] [.inl (1 : Int32)] S _
                                  refine xw.bt (cd := .ne) (x := (1 : Int32)) (y := (0 : Int32)) 37 34 (st' := []) rfl (y_cne _ _) (by decide) ?_
                                  refine xw.s (pc' := 38) (st' := [.inr (some (0, 0))]) rfl ?_
                                  refine xw.fr (c := 0) (j := 3) (e := 12) (nx := 41) (t := (some 3)) rfl rfl (hC 3 (by decide)) ?_
                                  show xw _ _ _ [some (.inr (some (0, 0))), some (.inl a1), some (.inl a2), some (.inl a3), some (.inl a4), some (.inl a5)] [.inr (some (12, 3))] _ _
                                  refine xw.lsz (nx := 44) (n := (xm_n S 1 3)) rfl (Nat.le_of_ble_eq_true rfl) rfl ?_
                                  refine xw.s (pc' := 46) (st' := [.inl (24 : Int32), .inl (nI (xm_n S 1 3))]) rfl ?_
                                  refine xw.b (c := (nI (xm_n S 1 3)) < (24 : Int32)) (cd := .lt) (x := (nI (xm_n S 1 3))) (y := (24 : Int32)) 52 49 (st' := []) rfl (y_clt _ _) h (fun c93 h => ?_) (fun c93 h => ?_)
                                  · skip
                                    refine xw.s (pc' := 53) (st' := [.inr (some (0, 0))]) rfl ?_
                                    refine xw.fr (c := 0) (j := 3) (e := 12) (nx := 56) (t := (some 3)) rfl rfl (hC 3 (by decide)) ?_
                                    show xw _ _ _ [some (.inr (some (0, 0))), some (.inl a1), some (.inl a2), some (.inl a3), some (.inl a4), some (.inl a5)] [.inr (some (12, 3))] _ _
                                    refine xw.s (pc' := 59) (st' := [.inr (some (5, (xm_n S 0 5))), .inr (some (12, 3))]) (S1 := xm_mk 5 15 S) rfl ?_
                                    obtain ⟨k94, q95⟩ : ∃ k, k = xm_n S 0 5 := ⟨_, rfl⟩
                                    rw [← q95]
                                    replace h := h k94 q95
                                    obtain ⟨S96, e97⟩ : ∃ s, s = xm_mk 5 15 S := ⟨_, rfl⟩
                                    rw [← e97]
                                    replace h := h S96 e97
                                    refine xw.s (pc' := 60) (st' := [.inr (some (5, k94)), .inr (some (5, k94)), .inr (some (12, 3))]) rfl ?_
                                    refine xw.s (pc' := 61) (st' := [.inr (some (0, 0)), .inr (some (5, k94)), .inr (some (5, k94)), .inr (some (12, 3))]) rfl ?_
                                    refine xw.fr (c := 0) (j := 3) (e := 12) (nx := 64) (t := (some 3)) rfl rfl ((congrArg (fun s => xm_r s 0 0 3) e97).trans ((xr_mk (by decide)).trans (hC 3 (by decide)))) ?_
                                    show xw _ _ _ [some (.inr (some (0, 0))), some (.inl a1), some (.inl a2), some (.inl a3), some (.inl a4), some (.inl a5)] [.inr (some (12, 3)), .inr (some (5, k94)), .inr (some (5, k94)), .inr (some (12, 3))] _ _
                                    refine xw.lsz (nx := 67) (n := (xm_n S96 1 3)) rfl (Nat.le_of_ble_eq_true rfl) rfl ?_
                                    refine xw.s (pc' := 68) (st' := [.inl a1, .inl (nI (xm_n S96 1 3)), .inr (some (5, k94)), .inr (some (5, k94)), .inr (some (12, 3))]) rfl ?_
                                    refine xw.s (pc' := 69) (st' := [.inl a2, .inl a1, .inl (nI (xm_n S96 1 3)), .inr (some (5, k94)), .inr (some (5, k94)), .inr (some (12, 3))]) rfl ?_
                                    refine xw.s (pc' := 70) (st' := [.inl a3, .inl a2, .inl a1, .inl (nI (xm_n S96 1 3)), .inr (some (5, k94)), .inr (some (5, k94)), .inr (some (12, 3))]) rfl ?_
                                    refine xw.s (pc' := 72) (st' := [.inl a4, .inl a3, .inl a2, .inl a1, .inl (nI (xm_n S96 1 3)), .inr (some (5, k94)), .inr (some (5, k94)), .inr (some (12, 3))]) rfl ?_
                                    refine xw.s (pc' := 74) (st' := [.inl a5, .inl a4, .inl a3, .inl a2, .inl a1, .inl (nI (xm_n S96 1 3)), .inr (some (5, k94)), .inr (some (5, k94)), .inr (some (12, 3))]) rfl ?_
                                    refine xw.call (m := 98) (as := [.inr (some (5, k94)), .inl (nI (xm_n S96 1 3)), .inl a1, .inl a2, .inl a3, .inl a4, .inl a5]) (nx := 77) (L' := [some (.inr (some (0, 0))), some (.inl a1), some (.inl a2), some (.inl a3), some (.inl a4), some (.inl a5)]) (st' := [.inr (some (5, k94)), .inr (some (12, 3))]) rfl (xc.mono h ?_)
                                    rintro r S98 ⟨rfl, hC99, h⟩
                                    show xw _ _ 77 [some (.inr (some (0, 0))), some (.inl a1), some (.inl a2), some (.inl a3), some (.inl a4), some (.inl a5)] [.inr (some (5, k94)), .inr (some (12, 3))] _ _
                                    obtain ⟨z100, z101, h⟩ := h
                                    refine xw.ladd (nx := 80) rfl (Nat.le_of_ble_eq_true rfl) (by decide) z100 z101 ?_
                                    obtain ⟨S102, e103⟩ : ∃ s, s = xm_push 3 (5, k94) S98 := ⟨_, rfl⟩
                                    rw [← e103]
                                    replace h := h S102 e103
                                    refine xw.s (pc' := 81) (st' := []) rfl ?_
                                    refine xw.s (pc' := 82) (st' := [.inr (some (0, 0))]) rfl ?_
                                    refine xw.fr (c := 0) (j := 3) (e := 12) (nx := 85) (t := (some 3)) rfl rfl ((congrArg (fun s => xm_r s 0 0 3) e103).trans (xr_push.trans (hC99 3 (by decide)))) ?_
                                    show xw _ _ _ [some (.inr (some (0, 0))), some (.inl a1), some (.inl a2), some (.inl a3), some (.inl a4), some (.inl a5)] [.inr (some (12, 3))] _ _
                                    refine xw.lsz (nx := 88) (n := (xm_n S102 1 3)) rfl (Nat.le_of_ble_eq_true rfl) rfl ?_
                                    refine xw.s (pc' := 89) (st' := [.inl (1 : Int32), .inl (nI (xm_n S102 1 3))]) rfl ?_
                                    refine xw.s (pc' := 90) (st' := [.inl ((nI (xm_n S102 1 3)) - (1 : Int32))]) rfl ?_
                                    exact xw.ret (r := (some (.inl ((nI (xm_n S102 1 3)) - (1 : Int32))))) rfl h
                                  · skip
                                    refine xw.s (pc' := 51) (st' := [.inl (-3 : Int32)]) rfl ?_
                                    exact xw.ret (r := (some (.inl (-3 : Int32)))) rfl h
/-- on -/
theorem cw_on {d : Nat} {a1 : Int32} {S : xm_S} {Q : Option xm_V → xm_S → Prop} (hC : xk_C S) (h : (a1 < (0 : Int32) → Q (some (.inl (-1 : Int32))) S) ∧ (¬ a1 < (0 : Int32) → ((nI (xm_n S 1 3)) ≤ a1 → Q (some (.inl (-1 : Int32))) S) ∧ (¬ (nI (xm_n S 1 3)) ≤ a1 → y_in a1 (xm_n S 1 3) ∧ (∃ k4, (xm_l S 3 (y_ix a1)) = (5, k4) ∧ (∀ t6, (xm_r S 0 0 12) = t6 → (∃ k8, t6 = some k8 ∧ (xc d 110 [.inr (some (10, k8)), .inl (xm_i S 5 k4 1)] S (fun r S9 => ∃ x11 : Int32, r = some (.inl x11) ∧ xk_C S9 ∧ ((x11 = (0 : Int32) → ∀ t13, (xm_r S9 0 0 12) = t13 → (∃ k15, t13 = some k15 ∧ (∀ t16, (xm_r S9 10 k15 0) = t16 → (∃ k18, t16 = some k18 ∧ (((nI (xm_n S9 1 k18)) < (5 : Int32) → xm_n S9 2 k18 ≠ 0 ∧ xm_n S9 1 k18 < 100000 ∧ (∀ S22, S22 = xm_push k18 (5, k4) S9 → (Q (some (.inl (nI (xm_n S22 1 k18)))) S22))) ∧ (¬ (nI (xm_n S9 1 k18)) < (5 : Int32) → Q (some (.inl (-3 : Int32))) S9)))))) ∧ (¬ x11 = (0 : Int32) → Q (some (.inl (-2 : Int32))) S9)))))))))) : xc (d + 1) 9 [.inr (some (0, 0)), .inl a1] S Q := by
  show xw _ _ _ [some (.inr (some (0, 0))), some (.inl a1), none] _ _ _
  refine xw.s (pc' := 1) (st' := [.inr (some (0, 0))]) rfl ?_
  refine xw.s (pc' := 2) (st' := [.inl a1, .inr (some (0, 0))]) rfl ?_
  refine xw.call (m := 10) (as := [.inr (some (0, 0)), .inl a1]) (nx := 5) (L' := [some (.inr (some (0, 0))), some (.inl a1), none]) (st' := []) rfl ?_
  show xw _ _ _ [some (.inr (some (0, 0))), some (.inl a1)] [] _ _
  refine xw.s (pc' := 1) (st' := [.inl a1]) rfl ?_
  refine xw.b (c := a1 < (0 : Int32)) (cd := .lt) (x := a1) (y := (0 : Int32)) 29 4 (st' := []) rfl (y_clt _ _) h (fun c1 h => ?_) (fun c1 h => ?_)
  · skip
    refine xw.s (pc' := 30) (st' := [.inr none]) rfl ?_
    refine xw.ret (r := some (.inr none)) rfl ?_
    show xw _ _ 5 [some (.inr (some (0, 0))), some (.inl a1), none] [.inr none] S _
    refine xw.s (pc' := 6) (st' := []) (L' := [some (.inr (some (0, 0))), some (.inl a1), some (.inr none)]) rfl ?_
    refine xw.s (pc' := 7) (st' := [.inr none]) rfl ?_
    refine xw.s (pc' := 10) (st' := []) rfl ?_
    refine xw.s (pc' := 11) (st' := [.inl (-1 : Int32)]) rfl ?_
    exact xw.ret (r := (some (.inl (-1 : Int32)))) rfl h
  · skip
    refine xw.s (pc' := 5) (st' := [.inl a1]) rfl ?_
    refine xw.s (pc' := 6) (st' := [.inr (some (0, 0)), .inl a1]) rfl ?_
    refine xw.fr (c := 0) (j := 3) (e := 12) (nx := 9) (t := (some 3)) rfl rfl (hC 3 (by decide)) ?_
    show xw _ _ _ [some (.inr (some (0, 0))), some (.inl a1)] [.inr (some (12, 3)), .inl a1] _ _
    refine xw.lsz (nx := 12) (n := (xm_n S 1 3)) rfl (Nat.le_of_ble_eq_true rfl) rfl ?_
    refine xw.b (c := (nI (xm_n S 1 3)) ≤ a1) (cd := .ge) (x := a1) (y := (nI (xm_n S 1 3))) 29 15 (st' := []) rfl (y_cge _ _) h (fun c2 h => ?_) (fun c2 h => ?_)
    · skip
      refine xw.s (pc' := 30) (st' := [.inr none]) rfl ?_
      refine xw.ret (r := some (.inr none)) rfl ?_
      show xw _ _ 5 [some (.inr (some (0, 0))), some (.inl a1), none] [.inr none] S _
      refine xw.s (pc' := 6) (st' := []) (L' := [some (.inr (some (0, 0))), some (.inl a1), some (.inr none)]) rfl ?_
      refine xw.s (pc' := 7) (st' := [.inr none]) rfl ?_
      refine xw.s (pc' := 10) (st' := []) rfl ?_
      refine xw.s (pc' := 11) (st' := [.inl (-1 : Int32)]) rfl ?_
      exact xw.ret (r := (some (.inl (-1 : Int32)))) rfl h
    · skip
      refine xw.s (pc' := 16) (st' := [.inr (some (0, 0))]) rfl ?_
      refine xw.fr (c := 0) (j := 3) (e := 12) (nx := 19) (t := (some 3)) rfl rfl (hC 3 (by decide)) ?_
      show xw _ _ _ [some (.inr (some (0, 0))), some (.inl a1)] [.inr (some (12, 3))] _ _
      refine xw.s (pc' := 20) (st' := [.inl a1, .inr (some (12, 3))]) rfl ?_
      obtain ⟨z3, h⟩ := h
      obtain ⟨k4, q5, h⟩ := h
      refine xw.get (nx := 23) (p := (5, k4)) rfl (Nat.le_of_ble_eq_true rfl) z3 q5 ?_
      refine xw.s (pc' := 26) (st' := [.inr (some (5, k4))]) rfl ?_
      refine xw.s (pc' := 30) (st' := [.inr (some (5, k4))]) rfl ?_
      refine xw.ret (r := some (.inr (some (5, k4)))) rfl ?_
      show xw _ _ 5 [some (.inr (some (0, 0))), some (.inl a1), none] [.inr (some (5, k4))] S _
      refine xw.s (pc' := 6) (st' := []) (L' := [some (.inr (some (0, 0))), some (.inl a1), some (.inr (some (5, k4)))]) rfl ?_
      refine xw.s (pc' := 7) (st' := [.inr (some (5, k4))]) rfl ?_
      refine xw.s (pc' := 12) (st' := []) rfl ?_
      refine xw.s (pc' := 13) (st' := [.inr (some (0, 0))]) rfl ?_
      obtain ⟨t6, q7⟩ : ∃ t, (xm_r S 0 0 12) = t := ⟨_, rfl⟩
      replace h := h t6 q7
      refine xw.fr (c := 0) (j := 12) (e := 10) (nx := 16) (t := t6) rfl rfl q7 ?_
      show xw _ _ _ [some (.inr (some (0, 0))), some (.inl a1), some (.inr (some (5, k4)))] [.inr (xo 10 t6)] _ _
      refine xw.s (pc' := 17) (st' := [.inr (some (5, k4)), .inr (xo 10 t6)]) rfl ?_
      refine xw.fi (c := 5) (j := 1) (ty := 0) (nx := 20) (v := (xm_i S 5 k4 1)) rfl rfl rfl ?_
      obtain ⟨k8, rfl, h⟩ := h
      refine xw.call (m := 110) (as := [.inr (some (10, k8)), .inl (xm_i S 5 k4 1)]) (nx := 23) (L' := [some (.inr (some (0, 0))), some (.inl a1), some (.inr (some (5, k4)))]) (st' := []) rfl (xc.mono h ?_)
      rintro r S9 ⟨x11, rfl, hC10, h⟩
      show xw _ _ 23 [some (.inr (some (0, 0))), some (.inl a1), some (.inr (some (5, k4)))] [.inl x11] _ _
      refine xw.b (c := x11 = (0 : Int32)) (cd := .eq) (x := x11) (y := (0 : Int32)) 29 26 (st' := []) rfl (y_ceq _ _) h (fun c12 h => ?_) (fun c12 h => ?_)
      · skip
        refine xw.s (pc' := 30) (st' := [.inr (some (0, 0))]) rfl ?_
        obtain ⟨t13, q14⟩ : ∃ t, (xm_r S9 0 0 12) = t := ⟨_, rfl⟩
        replace h := h t13 q14
        refine xw.fr (c := 0) (j := 12) (e := 10) (nx := 33) (t := t13) rfl rfl q14 ?_
        show xw _ _ _ [some (.inr (some (0, 0))), some (.inl a1), some (.inr (some (5, k4)))] [.inr (xo 10 t13)] _ _
        obtain ⟨k15, rfl, h⟩ := h
        obtain ⟨t16, q17⟩ : ∃ t, (xm_r S9 10 k15 0) = t := ⟨_, rfl⟩
        replace h := h t16 q17
        refine xw.fr (c := 10) (j := 0) (e := 12) (nx := 36) (t := t16) rfl rfl q17 ?_
        show xw _ _ _ [some (.inr (some (0, 0))), some (.inl a1), some (.inr (some (5, k4)))] [.inr (xo 12 t16)] _ _
        obtain ⟨k18, rfl, h⟩ := h
        refine xw.lsz (nx := 39) (n := (xm_n S9 1 k18)) rfl (Nat.le_of_ble_eq_true rfl) rfl ?_
        refine xw.s (pc' := 40) (st' := [.inl (5 : Int32), .inl (nI (xm_n S9 1 k18))]) rfl ?_
        refine xw.b (c := (nI (xm_n S9 1 k18)) < (5 : Int32)) (cd := .lt) (x := (nI (xm_n S9 1 k18))) (y := (5 : Int32)) 46 43 (st' := []) rfl (y_clt _ _) h (fun c19 h => ?_) (fun c19 h => ?_)
        · skip
          refine xw.s (pc' := 47) (st' := [.inr (some (0, 0))]) rfl ?_
          refine xw.fr (c := 0) (j := 12) (e := 10) (nx := 50) (t := (some k15)) rfl rfl q14 ?_
          show xw _ _ _ [some (.inr (some (0, 0))), some (.inl a1), some (.inr (some (5, k4)))] [.inr (some (10, k15))] _ _
          refine xw.fr (c := 10) (j := 0) (e := 12) (nx := 53) (t := (some k18)) rfl rfl q17 ?_
          show xw _ _ _ [some (.inr (some (0, 0))), some (.inl a1), some (.inr (some (5, k4)))] [.inr (some (12, k18))] _ _
          refine xw.s (pc' := 54) (st' := [.inr (some (5, k4)), .inr (some (12, k18))]) rfl ?_
          obtain ⟨z20, z21, h⟩ := h
          refine xw.ladd (nx := 57) rfl (Nat.le_of_ble_eq_true rfl) (by decide) z20 z21 ?_
          obtain ⟨S22, e23⟩ : ∃ s, s = xm_push k18 (5, k4) S9 := ⟨_, rfl⟩
          rw [← e23]
          replace h := h S22 e23
          refine xw.s (pc' := 58) (st' := []) rfl ?_
          refine xw.s (pc' := 59) (st' := [.inr (some (0, 0))]) rfl ?_
          refine xw.fr (c := 0) (j := 12) (e := 10) (nx := 62) (t := (some k15)) rfl rfl (((congrArg (fun s => xm_r s 0 0 12) e23).trans xr_push).trans q14) ?_
          show xw _ _ _ [some (.inr (some (0, 0))), some (.inl a1), some (.inr (some (5, k4)))] [.inr (some (10, k15))] _ _
          refine xw.fr (c := 10) (j := 0) (e := 12) (nx := 65) (t := (some k18)) rfl rfl (((congrArg (fun s => xm_r s 10 k15 0) e23).trans xr_push).trans q17) ?_
          show xw _ _ _ [some (.inr (some (0, 0))), some (.inl a1), some (.inr (some (5, k4)))] [.inr (some (12, k18))] _ _
          refine xw.lsz (nx := 68) (n := (xm_n S22 1 k18)) rfl (Nat.le_of_ble_eq_true rfl) rfl ?_
          exact xw.ret (r := (some (.inl (nI (xm_n S22 1 k18))))) rfl h
        · skip
          refine xw.s (pc' := 45) (st' := [.inl (-3 : Int32)]) rfl ?_
          exact xw.ret (r := (some (.inl (-3 : Int32)))) rfl h
      · skip
        refine xw.s (pc' := 28) (st' := [.inl (-2 : Int32)]) rfl ?_
        exact xw.ret (r := (some (.inl (-2 : Int32)))) rfl h
/-- tower -/
theorem cw_tower {d : Nat}  {S : xm_S} {Q : Option xm_V → xm_S → Prop} (hC : xk_C S) (h : ((nI (xm_n S 1 4)) < (10 : Int32) → ∀ t2, (xm_r S 0 0 12) = t2 → (∃ k4, t2 = some k4 ∧ (xm_n S 2 4 ≠ 0 ∧ xm_n S 1 4 < 100000 ∧ (∀ S7, S7 = xm_push 4 (10, k4) S → (∀ k9, k9 = xm_n S7 0 10 → (∀ S11, S11 = xm_mk 10 1 S7 → (xc d 109 [.inr (some (10, k9))] S11 (fun r S13 => r = none ∧ xk_C S13 ∧ (∀ S15, S15 = xm_sr S13 0 0 12 (some k9) → (Q (some (.inl ((nI (xm_n S13 1 4)) - (1 : Int32)))) S15)))))))))) ∧ (¬ (nI (xm_n S 1 4)) < (10 : Int32) → Q (some (.inl (-3 : Int32))) S)) : xc (d + 1) 11 [.inr (some (0, 0))] S Q := by
  show xw _ _ _ [some (.inr (some (0, 0)))] _ _ _
  refine xw.s (pc' := 1) (st' := [.inr (some (0, 0))]) rfl ?_
  refine xw.fr (c := 0) (j := 4) (e := 12) (nx := 4) (t := (some 4)) rfl rfl (hC 4 (by decide)) ?_
  show xw _ _ _ [some (.inr (some (0, 0)))] [.inr (some (12, 4))] _ _
  refine xw.lsz (nx := 7) (n := (xm_n S 1 4)) rfl (Nat.le_of_ble_eq_true rfl) rfl ?_
  refine xw.s (pc' := 9) (st' := [.inl (10 : Int32), .inl (nI (xm_n S 1 4))]) rfl ?_
  refine xw.b (c := (nI (xm_n S 1 4)) < (10 : Int32)) (cd := .lt) (x := (nI (xm_n S 1 4))) (y := (10 : Int32)) 15 12 (st' := []) rfl (y_clt _ _) h (fun c1 h => ?_) (fun c1 h => ?_)
  · skip
    refine xw.s (pc' := 16) (st' := [.inr (some (0, 0))]) rfl ?_
    refine xw.fr (c := 0) (j := 4) (e := 12) (nx := 19) (t := (some 4)) rfl rfl (hC 4 (by decide)) ?_
    show xw _ _ _ [some (.inr (some (0, 0)))] [.inr (some (12, 4))] _ _
    refine xw.s (pc' := 20) (st' := [.inr (some (0, 0)), .inr (some (12, 4))]) rfl ?_
    obtain ⟨t2, q3⟩ : ∃ t, (xm_r S 0 0 12) = t := ⟨_, rfl⟩
    replace h := h t2 q3
    refine xw.fr (c := 0) (j := 12) (e := 10) (nx := 23) (t := t2) rfl rfl q3 ?_
    show xw _ _ _ [some (.inr (some (0, 0)))] [.inr (xo 10 t2), .inr (some (12, 4))] _ _
    obtain ⟨k4, rfl, h⟩ := h
    obtain ⟨z5, z6, h⟩ := h
    refine xw.ladd (nx := 26) rfl (Nat.le_of_ble_eq_true rfl) (by decide) z5 z6 ?_
    obtain ⟨S7, e8⟩ : ∃ s, s = xm_push 4 (10, k4) S := ⟨_, rfl⟩
    rw [← e8]
    replace h := h S7 e8
    refine xw.s (pc' := 27) (st' := []) rfl ?_
    refine xw.s (pc' := 28) (st' := [.inr (some (0, 0))]) rfl ?_
    refine xw.s (pc' := 31) (st' := [.inr (some (10, (xm_n S7 0 10))), .inr (some (0, 0))]) (S1 := xm_mk 10 1 S7) rfl ?_
    obtain ⟨k9, q10⟩ : ∃ k, k = xm_n S7 0 10 := ⟨_, rfl⟩
    rw [← q10]
    replace h := h k9 q10
    obtain ⟨S11, e12⟩ : ∃ s, s = xm_mk 10 1 S7 := ⟨_, rfl⟩
    rw [← e12]
    replace h := h S11 e12
    refine xw.s (pc' := 32) (st' := [.inr (some (10, k9)), .inr (some (10, k9)), .inr (some (0, 0))]) rfl ?_
    refine xw.call (m := 109) (as := [.inr (some (10, k9))]) (nx := 35) (L' := [some (.inr (some (0, 0)))]) (st' := [.inr (some (10, k9)), .inr (some (0, 0))]) rfl (xc.mono h ?_)
    rintro r S13 ⟨rfl, hC14, h⟩
    show xw _ _ 35 [some (.inr (some (0, 0)))] [.inr (some (10, k9)), .inr (some (0, 0))] _ _
    refine xw.fq (c := 0) (j := 12) (e := 10) (nx := 38) (t := (some k9)) rfl rfl ?_
    obtain ⟨S15, e16⟩ : ∃ s, s = xm_sr S13 0 0 12 (some k9) := ⟨_, rfl⟩
    rw [← e16]
    replace h := h S15 e16
    refine xw.s (pc' := 39) (st' := [.inr (some (0, 0))]) rfl ?_
    refine xw.fr (c := 0) (j := 4) (e := 12) (nx := 42) (t := (some 4)) rfl rfl ((congrArg (fun s => xm_r s 0 0 4) e16).trans ((xr_sr (by decide)).trans (hC14 4 (by decide)))) ?_
    show xw _ _ _ [some (.inr (some (0, 0)))] [.inr (some (12, 4))] _ _
    refine xw.lsz (nx := 45) (n := (xm_n S13 1 4)) rfl (Nat.le_of_ble_eq_true rfl) ((congrArg (fun s => xm_n s 1 4) e16).trans rfl) ?_
    refine xw.s (pc' := 46) (st' := [.inl (1 : Int32), .inl (nI (xm_n S13 1 4))]) rfl ?_
    refine xw.s (pc' := 47) (st' := [.inl ((nI (xm_n S13 1 4)) - (1 : Int32))]) rfl ?_
    exact xw.ret (r := (some (.inl ((nI (xm_n S13 1 4)) - (1 : Int32))))) rfl h
  · skip
    refine xw.s (pc' := 14) (st' := [.inl (-3 : Int32)]) rfl ?_
    exact xw.ret (r := (some (.inl (-3 : Int32)))) rfl h
/-- order -/
theorem cw_order {d : Nat} {a1 : Int32} {a2 : Int32} {a3 : Int32} {a4 : Int32} {a5 : Int32} {S : xm_S} {Q : Option xm_V → xm_S → Prop} (hC : xk_C S) (h : (a1 < (0 : Int32) → (a2 < (0 : Int32) → Q (some (.inl (-1 : Int32))) S) ∧ (¬ a2 < (0 : Int32) → ((nI (xm_n S 1 0)) ≤ a2 → Q (some (.inl (-1 : Int32))) S) ∧ (¬ (nI (xm_n S 1 0)) ≤ a2 → y_in a2 (xm_n S 1 0) ∧ (∃ k5, (xm_l S 0 (y_ix a2)) = (9, k5) ∧ (Q (some (.inl (-1 : Int32))) S))))) ∧ (¬ a1 < (0 : Int32) → ((nI (xm_n S 1 4)) ≤ a1 → (a2 < (0 : Int32) → Q (some (.inl (-1 : Int32))) S) ∧ (¬ a2 < (0 : Int32) → ((nI (xm_n S 1 0)) ≤ a2 → Q (some (.inl (-1 : Int32))) S) ∧ (¬ (nI (xm_n S 1 0)) ≤ a2 → y_in a2 (xm_n S 1 0) ∧ (∃ k11, (xm_l S 0 (y_ix a2)) = (9, k11) ∧ (Q (some (.inl (-1 : Int32))) S))))) ∧ (¬ (nI (xm_n S 1 4)) ≤ a1 → y_in a1 (xm_n S 1 4) ∧ (∃ k14, (xm_l S 4 (y_ix a1)) = (10, k14) ∧ ((a2 < (0 : Int32) → Q (some (.inl (-1 : Int32))) S) ∧ (¬ a2 < (0 : Int32) → ((nI (xm_n S 1 0)) ≤ a2 → Q (some (.inl (-1 : Int32))) S) ∧ (¬ (nI (xm_n S 1 0)) ≤ a2 → y_in a2 (xm_n S 1 0) ∧ (∃ k19, (xm_l S 0 (y_ix a2)) = (9, k19) ∧ ((a3 < (0 : Int32) → Q (some (.inl (-2 : Int32))) S) ∧ (¬ a3 < (0 : Int32) → ((2 : Int32) < a3 → Q (some (.inl (-2 : Int32))) S) ∧ (¬ (2 : Int32) < a3 → (a3 = (0 : Int32) → (a4 < (0 : Int32) → Q (some (.inl (-2 : Int32))) S) ∧ (¬ a4 < (0 : Int32) → ((0 : Int32) < a4 → Q (some (.inl (-2 : Int32))) S) ∧ (¬ (0 : Int32) < a4 → ((0 : Int32) ≤ a5 → ((nI (xm_n S 1 5)) < (60 : Int32) → ∀ k28, k28 = xm_n S 0 6 → (∀ S30, S30 = xm_mk 6 7 S → (xc (d + 1) 102 [.inr (some (6, k28)), .inl (nI (xm_n S30 1 5)), .inr (some (10, k14)), .inr (some (9, k19)), .inl a3, .inl a4, .inl a5] S30 (fun r S32 => r = none ∧ xk_C S32 ∧ (xc (d + 1) 15 [.inr (some (0, 0)), .inr (some (6, k28))] S32 (fun r S34 => ∃ x36 : Int32, r = some (.inl x36) ∧ xk_C S34 ∧ (Q (some (.inl x36)) S34))))))) ∧ (¬ (nI (xm_n S 1 5)) < (60 : Int32) → Q (some (.inl (-3 : Int32))) S)) ∧ (¬ (0 : Int32) ≤ a5 → Q (some (.inl (-2 : Int32))) S)))) ∧ (¬ a3 = (0 : Int32) → (a4 < (0 : Int32) → Q (some (.inl (-2 : Int32))) S) ∧ (¬ a4 < (0 : Int32) → ((1000000 : Int32) < a4 → Q (some (.inl (-2 : Int32))) S) ∧ (¬ (1000000 : Int32) < a4 → ((0 : Int32) ≤ a5 → ((nI (xm_n S 1 5)) < (60 : Int32) → ∀ k41, k41 = xm_n S 0 6 → (∀ S43, S43 = xm_mk 6 7 S → (xc (d + 1) 102 [.inr (some (6, k41)), .inl (nI (xm_n S43 1 5)), .inr (some (10, k14)), .inr (some (9, k19)), .inl a3, .inl a4, .inl a5] S43 (fun r S45 => r = none ∧ xk_C S45 ∧ (xc (d + 1) 15 [.inr (some (0, 0)), .inr (some (6, k41))] S45 (fun r S47 => ∃ x49 : Int32, r = some (.inl x49) ∧ xk_C S47 ∧ (Q (some (.inl x49)) S47))))))) ∧ (¬ (nI (xm_n S 1 5)) < (60 : Int32) → Q (some (.inl (-3 : Int32))) S)) ∧ (¬ (0 : Int32) ≤ a5 → Q (some (.inl (-2 : Int32))) S))))))))))))))) : xc (d + 2) 12 [.inr (some (0, 0)), .inl a1, .inl a2, .inl a3, .inl a4, .inl a5] S Q := by
  show xw _ _ _ [some (.inr (some (0, 0))), some (.inl a1), some (.inl a2), some (.inl a3), some (.inl a4), some (.inl a5), none, none] _ _ _
  refine xw.s (pc' := 1) (st' := [.inr (some (0, 0))]) rfl ?_
  refine xw.s (pc' := 2) (st' := [.inl a1, .inr (some (0, 0))]) rfl ?_
  refine xw.call (m := 13) (as := [.inr (some (0, 0)), .inl a1]) (nx := 5) (L' := [some (.inr (some (0, 0))), some (.inl a1), some (.inl a2), some (.inl a3), some (.inl a4), some (.inl a5), none, none]) (st' := []) rfl ?_
  show xw _ _ _ [some (.inr (some (0, 0))), some (.inl a1)] [] _ _
  refine xw.s (pc' := 1) (st' := [.inl a1]) rfl ?_
  refine xw.b (c := a1 < (0 : Int32)) (cd := .lt) (x := a1) (y := (0 : Int32)) 29 4 (st' := []) rfl (y_clt _ _) h (fun c1 h => ?_) (fun c1 h => ?_)
  · skip
    refine xw.s (pc' := 30) (st' := [.inr none]) rfl ?_
    refine xw.ret (r := some (.inr none)) rfl ?_
    show xw _ _ 5 [some (.inr (some (0, 0))), some (.inl a1), some (.inl a2), some (.inl a3), some (.inl a4), some (.inl a5), none, none] [.inr none] S _
    refine xw.s (pc' := 7) (st' := []) (L' := [some (.inr (some (0, 0))), some (.inl a1), some (.inl a2), some (.inl a3), some (.inl a4), some (.inl a5), some (.inr none), none]) rfl ?_
    refine xw.s (pc' := 8) (st' := [.inr (some (0, 0))]) rfl ?_
    refine xw.s (pc' := 9) (st' := [.inl a2, .inr (some (0, 0))]) rfl ?_
    refine xw.call (m := 4) (as := [.inr (some (0, 0)), .inl a2]) (nx := 12) (L' := [some (.inr (some (0, 0))), some (.inl a1), some (.inl a2), some (.inl a3), some (.inl a4), some (.inl a5), some (.inr none), none]) (st' := []) rfl ?_
    show xw _ _ _ [some (.inr (some (0, 0))), some (.inl a2)] [] _ _
    refine xw.s (pc' := 1) (st' := [.inl a2]) rfl ?_
    refine xw.b (c := a2 < (0 : Int32)) (cd := .lt) (x := a2) (y := (0 : Int32)) 29 4 (st' := []) rfl (y_clt _ _) h (fun c2 h => ?_) (fun c2 h => ?_)
    · skip
      refine xw.s (pc' := 30) (st' := [.inr none]) rfl ?_
      refine xw.ret (r := some (.inr none)) rfl ?_
      show xw _ _ 12 [some (.inr (some (0, 0))), some (.inl a1), some (.inl a2), some (.inl a3), some (.inl a4), some (.inl a5), some (.inr none), none] [.inr none] S _
      refine xw.s (pc' := 14) (st' := []) (L' := [some (.inr (some (0, 0))), some (.inl a1), some (.inl a2), some (.inl a3), some (.inl a4), some (.inl a5), some (.inr none), some (.inr none)]) rfl ?_
      refine xw.s (pc' := 16) (st' := [.inr none]) rfl ?_
      refine xw.s (pc' := 24) (st' := []) rfl ?_
      refine xw.s (pc' := 25) (st' := [.inl (-1 : Int32)]) rfl ?_
      exact xw.ret (r := (some (.inl (-1 : Int32)))) rfl h
    · skip
      refine xw.s (pc' := 5) (st' := [.inl a2]) rfl ?_
      refine xw.s (pc' := 6) (st' := [.inr (some (0, 0)), .inl a2]) rfl ?_
      refine xw.fr (c := 0) (j := 0) (e := 12) (nx := 9) (t := (some 0)) rfl rfl (hC 0 (by decide)) ?_
      show xw _ _ _ [some (.inr (some (0, 0))), some (.inl a2)] [.inr (some (12, 0)), .inl a2] _ _
      refine xw.lsz (nx := 12) (n := (xm_n S 1 0)) rfl (Nat.le_of_ble_eq_true rfl) rfl ?_
      refine xw.b (c := (nI (xm_n S 1 0)) ≤ a2) (cd := .ge) (x := a2) (y := (nI (xm_n S 1 0))) 29 15 (st' := []) rfl (y_cge _ _) h (fun c3 h => ?_) (fun c3 h => ?_)
      · skip
        refine xw.s (pc' := 30) (st' := [.inr none]) rfl ?_
        refine xw.ret (r := some (.inr none)) rfl ?_
        show xw _ _ 12 [some (.inr (some (0, 0))), some (.inl a1), some (.inl a2), some (.inl a3), some (.inl a4), some (.inl a5), some (.inr none), none] [.inr none] S _
        refine xw.s (pc' := 14) (st' := []) (L' := [some (.inr (some (0, 0))), some (.inl a1), some (.inl a2), some (.inl a3), some (.inl a4), some (.inl a5), some (.inr none), some (.inr none)]) rfl ?_
        refine xw.s (pc' := 16) (st' := [.inr none]) rfl ?_
        refine xw.s (pc' := 24) (st' := []) rfl ?_
        refine xw.s (pc' := 25) (st' := [.inl (-1 : Int32)]) rfl ?_
        exact xw.ret (r := (some (.inl (-1 : Int32)))) rfl h
      · skip
        refine xw.s (pc' := 16) (st' := [.inr (some (0, 0))]) rfl ?_
        refine xw.fr (c := 0) (j := 0) (e := 12) (nx := 19) (t := (some 0)) rfl rfl (hC 0 (by decide)) ?_
        show xw _ _ _ [some (.inr (some (0, 0))), some (.inl a2)] [.inr (some (12, 0))] _ _
        refine xw.s (pc' := 20) (st' := [.inl a2, .inr (some (12, 0))]) rfl ?_
        obtain ⟨z4, h⟩ := h
        obtain ⟨k5, q6, h⟩ := h
        refine xw.get (nx := 23) (p := (9, k5)) rfl (Nat.le_of_ble_eq_true rfl) z4 q6 ?_
        refine xw.s (pc' := 26) (st' := [.inr (some (9, k5))]) rfl ?_
        refine xw.s (pc' := 30) (st' := [.inr (some (9, k5))]) rfl ?_
        refine xw.ret (r := some (.inr (some (9, k5)))) rfl ?_
        show xw _ _ 12 [some (.inr (some (0, 0))), some (.inl a1), some (.inl a2), some (.inl a3), some (.inl a4), some (.inl a5), some (.inr none), none] [.inr (some (9, k5))] S _
        refine xw.s (pc' := 14) (st' := []) (L' := [some (.inr (some (0, 0))), some (.inl a1), some (.inl a2), some (.inl a3), some (.inl a4), some (.inl a5), some (.inr none), some (.inr (some (9, k5)))]) rfl ?_
        refine xw.s (pc' := 16) (st' := [.inr none]) rfl ?_
        refine xw.s (pc' := 24) (st' := []) rfl ?_
        refine xw.s (pc' := 25) (st' := [.inl (-1 : Int32)]) rfl ?_
        exact xw.ret (r := (some (.inl (-1 : Int32)))) rfl h
  · skip
    refine xw.s (pc' := 5) (st' := [.inl a1]) rfl ?_
    refine xw.s (pc' := 6) (st' := [.inr (some (0, 0)), .inl a1]) rfl ?_
    refine xw.fr (c := 0) (j := 4) (e := 12) (nx := 9) (t := (some 4)) rfl rfl (hC 4 (by decide)) ?_
    show xw _ _ _ [some (.inr (some (0, 0))), some (.inl a1)] [.inr (some (12, 4)), .inl a1] _ _
    refine xw.lsz (nx := 12) (n := (xm_n S 1 4)) rfl (Nat.le_of_ble_eq_true rfl) rfl ?_
    refine xw.b (c := (nI (xm_n S 1 4)) ≤ a1) (cd := .ge) (x := a1) (y := (nI (xm_n S 1 4))) 29 15 (st' := []) rfl (y_cge _ _) h (fun c7 h => ?_) (fun c7 h => ?_)
    · skip
      refine xw.s (pc' := 30) (st' := [.inr none]) rfl ?_
      refine xw.ret (r := some (.inr none)) rfl ?_
      show xw _ _ 5 [some (.inr (some (0, 0))), some (.inl a1), some (.inl a2), some (.inl a3), some (.inl a4), some (.inl a5), none, none] [.inr none] S _
      refine xw.s (pc' := 7) (st' := []) (L' := [some (.inr (some (0, 0))), some (.inl a1), some (.inl a2), some (.inl a3), some (.inl a4), some (.inl a5), some (.inr none), none]) rfl ?_
      refine xw.s (pc' := 8) (st' := [.inr (some (0, 0))]) rfl ?_
      refine xw.s (pc' := 9) (st' := [.inl a2, .inr (some (0, 0))]) rfl ?_
      refine xw.call (m := 4) (as := [.inr (some (0, 0)), .inl a2]) (nx := 12) (L' := [some (.inr (some (0, 0))), some (.inl a1), some (.inl a2), some (.inl a3), some (.inl a4), some (.inl a5), some (.inr none), none]) (st' := []) rfl ?_
      show xw _ _ _ [some (.inr (some (0, 0))), some (.inl a2)] [] _ _
      refine xw.s (pc' := 1) (st' := [.inl a2]) rfl ?_
      refine xw.b (c := a2 < (0 : Int32)) (cd := .lt) (x := a2) (y := (0 : Int32)) 29 4 (st' := []) rfl (y_clt _ _) h (fun c8 h => ?_) (fun c8 h => ?_)
      · skip
        refine xw.s (pc' := 30) (st' := [.inr none]) rfl ?_
        refine xw.ret (r := some (.inr none)) rfl ?_
        show xw _ _ 12 [some (.inr (some (0, 0))), some (.inl a1), some (.inl a2), some (.inl a3), some (.inl a4), some (.inl a5), some (.inr none), none] [.inr none] S _
        refine xw.s (pc' := 14) (st' := []) (L' := [some (.inr (some (0, 0))), some (.inl a1), some (.inl a2), some (.inl a3), some (.inl a4), some (.inl a5), some (.inr none), some (.inr none)]) rfl ?_
        refine xw.s (pc' := 16) (st' := [.inr none]) rfl ?_
        refine xw.s (pc' := 24) (st' := []) rfl ?_
        refine xw.s (pc' := 25) (st' := [.inl (-1 : Int32)]) rfl ?_
        exact xw.ret (r := (some (.inl (-1 : Int32)))) rfl h
      · skip
        refine xw.s (pc' := 5) (st' := [.inl a2]) rfl ?_
        refine xw.s (pc' := 6) (st' := [.inr (some (0, 0)), .inl a2]) rfl ?_
        refine xw.fr (c := 0) (j := 0) (e := 12) (nx := 9) (t := (some 0)) rfl rfl (hC 0 (by decide)) ?_
        show xw _ _ _ [some (.inr (some (0, 0))), some (.inl a2)] [.inr (some (12, 0)), .inl a2] _ _
        refine xw.lsz (nx := 12) (n := (xm_n S 1 0)) rfl (Nat.le_of_ble_eq_true rfl) rfl ?_
        refine xw.b (c := (nI (xm_n S 1 0)) ≤ a2) (cd := .ge) (x := a2) (y := (nI (xm_n S 1 0))) 29 15 (st' := []) rfl (y_cge _ _) h (fun c9 h => ?_) (fun c9 h => ?_)
        · skip
          refine xw.s (pc' := 30) (st' := [.inr none]) rfl ?_
          refine xw.ret (r := some (.inr none)) rfl ?_
          show xw _ _ 12 [some (.inr (some (0, 0))), some (.inl a1), some (.inl a2), some (.inl a3), some (.inl a4), some (.inl a5), some (.inr none), none] [.inr none] S _
          refine xw.s (pc' := 14) (st' := []) (L' := [some (.inr (some (0, 0))), some (.inl a1), some (.inl a2), some (.inl a3), some (.inl a4), some (.inl a5), some (.inr none), some (.inr none)]) rfl ?_
          refine xw.s (pc' := 16) (st' := [.inr none]) rfl ?_
          refine xw.s (pc' := 24) (st' := []) rfl ?_
          refine xw.s (pc' := 25) (st' := [.inl (-1 : Int32)]) rfl ?_
          exact xw.ret (r := (some (.inl (-1 : Int32)))) rfl h
        · skip
          refine xw.s (pc' := 16) (st' := [.inr (some (0, 0))]) rfl ?_
          refine xw.fr (c := 0) (j := 0) (e := 12) (nx := 19) (t := (some 0)) rfl rfl (hC 0 (by decide)) ?_
          show xw _ _ _ [some (.inr (some (0, 0))), some (.inl a2)] [.inr (some (12, 0))] _ _
          refine xw.s (pc' := 20) (st' := [.inl a2, .inr (some (12, 0))]) rfl ?_
          obtain ⟨z10, h⟩ := h
          obtain ⟨k11, q12, h⟩ := h
          refine xw.get (nx := 23) (p := (9, k11)) rfl (Nat.le_of_ble_eq_true rfl) z10 q12 ?_
          refine xw.s (pc' := 26) (st' := [.inr (some (9, k11))]) rfl ?_
          refine xw.s (pc' := 30) (st' := [.inr (some (9, k11))]) rfl ?_
          refine xw.ret (r := some (.inr (some (9, k11)))) rfl ?_
          show xw _ _ 12 [some (.inr (some (0, 0))), some (.inl a1), some (.inl a2), some (.inl a3), some (.inl a4), some (.inl a5), some (.inr none), none] [.inr (some (9, k11))] S _
          refine xw.s (pc' := 14) (st' := []) (L' := [some (.inr (some (0, 0))), some (.inl a1), some (.inl a2), some (.inl a3), some (.inl a4), some (.inl a5), some (.inr none), some (.inr (some (9, k11)))]) rfl ?_
          refine xw.s (pc' := 16) (st' := [.inr none]) rfl ?_
          refine xw.s (pc' := 24) (st' := []) rfl ?_
          refine xw.s (pc' := 25) (st' := [.inl (-1 : Int32)]) rfl ?_
          exact xw.ret (r := (some (.inl (-1 : Int32)))) rfl h
    · skip
      refine xw.s (pc' := 16) (st' := [.inr (some (0, 0))]) rfl ?_
      refine xw.fr (c := 0) (j := 4) (e := 12) (nx := 19) (t := (some 4)) rfl rfl (hC 4 (by decide)) ?_
      show xw _ _ _ [some (.inr (some (0, 0))), some (.inl a1)] [.inr (some (12, 4))] _ _
      refine xw.s (pc' := 20) (st' := [.inl a1, .inr (some (12, 4))]) rfl ?_
      obtain ⟨z13, h⟩ := h
      obtain ⟨k14, q15, h⟩ := h
      refine xw.get (nx := 23) (p := (10, k14)) rfl (Nat.le_of_ble_eq_true rfl) z13 q15 ?_
      refine xw.s (pc' := 26) (st' := [.inr (some (10, k14))]) rfl ?_
      refine xw.s (pc' := 30) (st' := [.inr (some (10, k14))]) rfl ?_
      refine xw.ret (r := some (.inr (some (10, k14)))) rfl ?_
      show xw _ _ 5 [some (.inr (some (0, 0))), some (.inl a1), some (.inl a2), some (.inl a3), some (.inl a4), some (.inl a5), none, none] [.inr (some (10, k14))] S _
      refine xw.s (pc' := 7) (st' := []) (L' := [some (.inr (some (0, 0))), some (.inl a1), some (.inl a2), some (.inl a3), some (.inl a4), some (.inl a5), some (.inr (some (10, k14))), none]) rfl ?_
      refine xw.s (pc' := 8) (st' := [.inr (some (0, 0))]) rfl ?_
      refine xw.s (pc' := 9) (st' := [.inl a2, .inr (some (0, 0))]) rfl ?_
      refine xw.call (m := 4) (as := [.inr (some (0, 0)), .inl a2]) (nx := 12) (L' := [some (.inr (some (0, 0))), some (.inl a1), some (.inl a2), some (.inl a3), some (.inl a4), some (.inl a5), some (.inr (some (10, k14))), none]) (st' := []) rfl ?_
      show xw _ _ _ [some (.inr (some (0, 0))), some (.inl a2)] [] _ _
      refine xw.s (pc' := 1) (st' := [.inl a2]) rfl ?_
      refine xw.b (c := a2 < (0 : Int32)) (cd := .lt) (x := a2) (y := (0 : Int32)) 29 4 (st' := []) rfl (y_clt _ _) h (fun c16 h => ?_) (fun c16 h => ?_)
      · skip
        refine xw.s (pc' := 30) (st' := [.inr none]) rfl ?_
        refine xw.ret (r := some (.inr none)) rfl ?_
        show xw _ _ 12 [some (.inr (some (0, 0))), some (.inl a1), some (.inl a2), some (.inl a3), some (.inl a4), some (.inl a5), some (.inr (some (10, k14))), none] [.inr none] S _
        refine xw.s (pc' := 14) (st' := []) (L' := [some (.inr (some (0, 0))), some (.inl a1), some (.inl a2), some (.inl a3), some (.inl a4), some (.inl a5), some (.inr (some (10, k14))), some (.inr none)]) rfl ?_
        refine xw.s (pc' := 16) (st' := [.inr (some (10, k14))]) rfl ?_
        refine xw.s (pc' := 19) (st' := []) rfl ?_
        refine xw.s (pc' := 21) (st' := [.inr none]) rfl ?_
        refine xw.s (pc' := 24) (st' := []) rfl ?_
        refine xw.s (pc' := 25) (st' := [.inl (-1 : Int32)]) rfl ?_
        exact xw.ret (r := (some (.inl (-1 : Int32)))) rfl h
      · skip
        refine xw.s (pc' := 5) (st' := [.inl a2]) rfl ?_
        refine xw.s (pc' := 6) (st' := [.inr (some (0, 0)), .inl a2]) rfl ?_
        refine xw.fr (c := 0) (j := 0) (e := 12) (nx := 9) (t := (some 0)) rfl rfl (hC 0 (by decide)) ?_
        show xw _ _ _ [some (.inr (some (0, 0))), some (.inl a2)] [.inr (some (12, 0)), .inl a2] _ _
        refine xw.lsz (nx := 12) (n := (xm_n S 1 0)) rfl (Nat.le_of_ble_eq_true rfl) rfl ?_
        refine xw.b (c := (nI (xm_n S 1 0)) ≤ a2) (cd := .ge) (x := a2) (y := (nI (xm_n S 1 0))) 29 15 (st' := []) rfl (y_cge _ _) h (fun c17 h => ?_) (fun c17 h => ?_)
        · skip
          refine xw.s (pc' := 30) (st' := [.inr none]) rfl ?_
          refine xw.ret (r := some (.inr none)) rfl ?_
          show xw _ _ 12 [some (.inr (some (0, 0))), some (.inl a1), some (.inl a2), some (.inl a3), some (.inl a4), some (.inl a5), some (.inr (some (10, k14))), none] [.inr none] S _
          refine xw.s (pc' := 14) (st' := []) (L' := [some (.inr (some (0, 0))), some (.inl a1), some (.inl a2), some (.inl a3), some (.inl a4), some (.inl a5), some (.inr (some (10, k14))), some (.inr none)]) rfl ?_
          refine xw.s (pc' := 16) (st' := [.inr (some (10, k14))]) rfl ?_
          refine xw.s (pc' := 19) (st' := []) rfl ?_
          refine xw.s (pc' := 21) (st' := [.inr none]) rfl ?_
          refine xw.s (pc' := 24) (st' := []) rfl ?_
          refine xw.s (pc' := 25) (st' := [.inl (-1 : Int32)]) rfl ?_
          exact xw.ret (r := (some (.inl (-1 : Int32)))) rfl h
        · skip
          refine xw.s (pc' := 16) (st' := [.inr (some (0, 0))]) rfl ?_
          refine xw.fr (c := 0) (j := 0) (e := 12) (nx := 19) (t := (some 0)) rfl rfl (hC 0 (by decide)) ?_
          show xw _ _ _ [some (.inr (some (0, 0))), some (.inl a2)] [.inr (some (12, 0))] _ _
          refine xw.s (pc' := 20) (st' := [.inl a2, .inr (some (12, 0))]) rfl ?_
          obtain ⟨z18, h⟩ := h
          obtain ⟨k19, q20, h⟩ := h
          refine xw.get (nx := 23) (p := (9, k19)) rfl (Nat.le_of_ble_eq_true rfl) z18 q20 ?_
          refine xw.s (pc' := 26) (st' := [.inr (some (9, k19))]) rfl ?_
          refine xw.s (pc' := 30) (st' := [.inr (some (9, k19))]) rfl ?_
          refine xw.ret (r := some (.inr (some (9, k19)))) rfl ?_
          show xw _ _ 12 [some (.inr (some (0, 0))), some (.inl a1), some (.inl a2), some (.inl a3), some (.inl a4), some (.inl a5), some (.inr (some (10, k14))), none] [.inr (some (9, k19))] S _
          refine xw.s (pc' := 14) (st' := []) (L' := [some (.inr (some (0, 0))), some (.inl a1), some (.inl a2), some (.inl a3), some (.inl a4), some (.inl a5), some (.inr (some (10, k14))), some (.inr (some (9, k19)))]) rfl ?_
          refine xw.s (pc' := 16) (st' := [.inr (some (10, k14))]) rfl ?_
          refine xw.s (pc' := 19) (st' := []) rfl ?_
          refine xw.s (pc' := 21) (st' := [.inr (some (9, k19))]) rfl ?_
          refine xw.s (pc' := 26) (st' := []) rfl ?_
          refine xw.s (pc' := 27) (st' := [.inl a3]) rfl ?_
          refine xw.s (pc' := 29) (st' := [.inl a4, .inl a3]) rfl ?_
          refine xw.call (m := 14) (as := [.inl a3, .inl a4]) (nx := 32) (L' := [some (.inr (some (0, 0))), some (.inl a1), some (.inl a2), some (.inl a3), some (.inl a4), some (.inl a5), some (.inr (some (10, k14))), some (.inr (some (9, k19)))]) (st' := []) rfl ?_
          show xw _ _ _ [some (.inl a3), some (.inl a4)] [] _ _
          refine xw.s (pc' := 1) (st' := [.inl a3]) rfl ?_
          refine xw.s (pc' := 2) (st' := [.inl (0 : Int32), .inl a3]) rfl ?_
          refine xw.s (pc' := 3) (st' := [.inl (2 : Int32), .inl (0 : Int32), .inl a3]) rfl ?_
          refine xw.call (m := 2) (as := [.inl a3, .inl (0 : Int32), .inl (2 : Int32)]) (nx := 6) (L' := [some (.inl a3), some (.inl a4)]) (st' := []) rfl ?_
          show xw _ _ _ [some (.inl a3), some (.inl (0 : Int32)), some (.inl (2 : Int32))] [] _ _
          refine xw.s (pc' := 1) (st' := [.inl a3]) rfl ?_
          refine xw.s (pc' := 2) (st' := [.inl (0 : Int32), .inl a3]) rfl ?_
          refine xw.b (c := a3 < (0 : Int32)) (cd := .lt) (x := a3) (y := (0 : Int32)) 14 5 (st' := []) rfl (y_clt _ _) h (fun c21 h => ?_) (fun c21 h => ?_)
          · skip
            refine xw.s (pc' := 15) (st' := [.inl (0 : Int32)]) rfl ?_
            refine xw.retz (nx := 16) rfl (Or.inl rfl) ?_
            show xw _ _ 6 [some (.inl a3), some (.inl a4)] [.inl (0 : Int32)] S _
            refine xw.bt (cd := .eq) (x := (0 : Int32)) (y := (0 : Int32)) 31 9 (st' := []) rfl (y_ceq _ _) (by decide) ?_
            refine xw.s (pc' := 32) (st' := [.inl (0 : Int32)]) rfl ?_
            refine xw.retz (nx := 33) rfl (Or.inl rfl) ?_
            show xw _ _ 32 [some (.inr (some (0, 0))), some (.inl a1), some (.inl a2), some (.inl a3), some (.inl a4), some (.inl a5), some (.inr (some (10, k14))), some (.inr (some (9, k19)))] [.inl (0 : Int32)] S _
            refine xw.bt (cd := .eq) (x := (0 : Int32)) (y := (0 : Int32)) 40 35 (st' := []) rfl (y_ceq _ _) (by decide) ?_
            refine xw.s (pc' := 42) (st' := [.inl (-2 : Int32)]) rfl ?_
            exact xw.ret (r := (some (.inl (-2 : Int32)))) rfl h
          · skip
            refine xw.s (pc' := 6) (st' := [.inl a3]) rfl ?_
            refine xw.s (pc' := 7) (st' := [.inl (2 : Int32), .inl a3]) rfl ?_
            refine xw.b (c := (2 : Int32) < a3) (cd := .gt) (x := a3) (y := (2 : Int32)) 14 10 (st' := []) rfl (y_cgt _ _) h (fun c22 h => ?_) (fun c22 h => ?_)
            · skip
              refine xw.s (pc' := 15) (st' := [.inl (0 : Int32)]) rfl ?_
              refine xw.retz (nx := 16) rfl (Or.inl rfl) ?_
              show xw _ _ 6 [some (.inl a3), some (.inl a4)] [.inl (0 : Int32)] S _
              refine xw.bt (cd := .eq) (x := (0 : Int32)) (y := (0 : Int32)) 31 9 (st' := []) rfl (y_ceq _ _) (by decide) ?_
              refine xw.s (pc' := 32) (st' := [.inl (0 : Int32)]) rfl ?_
              refine xw.retz (nx := 33) rfl (Or.inl rfl) ?_
              show xw _ _ 32 [some (.inr (some (0, 0))), some (.inl a1), some (.inl a2), some (.inl a3), some (.inl a4), some (.inl a5), some (.inr (some (10, k14))), some (.inr (some (9, k19)))] [.inl (0 : Int32)] S _
              refine xw.bt (cd := .eq) (x := (0 : Int32)) (y := (0 : Int32)) 40 35 (st' := []) rfl (y_ceq _ _) (by decide) ?_
              refine xw.s (pc' := 42) (st' := [.inl (-2 : Int32)]) rfl ?_
              exact xw.ret (r := (some (.inl (-2 : Int32)))) rfl h
            · skip
              refine xw.s (pc' := 11) (st' := [.inl (1 : Int32)]) rfl ?_
              refine xw.s (pc' := 15) (st' := [.inl (1 : Int32)]) rfl ?_
              refine xw.retz (nx := 16) rfl (Or.inr rfl) ?_
              show xw _ _ 6 [some (.inl a3), some (.inl a4)] [.inl (1 : Int32)] S _
              refine xw.bf (cd := .eq) (x := (1 : Int32)) (y := (0 : Int32)) 31 9 (st' := []) rfl (y_ceq _ _) (by decide) ?_
              refine xw.s (pc' := 10) (st' := [.inl a4]) rfl ?_
              refine xw.s (pc' := 11) (st' := [.inl (0 : Int32), .inl a4]) rfl ?_
              refine xw.s (pc' := 12) (st' := [.inl a3, .inl (0 : Int32), .inl a4]) rfl ?_
              refine xw.bn (c := a3 = (0 : Int32)) (cd := .ne) (x := a3) (y := (0 : Int32)) 19 15 (st' := [.inl (0 : Int32), .inl a4]) rfl (y_cne _ _) h (fun c23 h => ?_) (fun c23 h => ?_)
              · skip
                refine xw.s (pc' := 16) (st' := [.inl (0 : Int32), .inl (0 : Int32), .inl a4]) rfl ?_
                refine xw.s (pc' := 21) (st' := [.inl (0 : Int32), .inl (0 : Int32), .inl a4]) rfl ?_
                refine xw.call (m := 2) (as := [.inl a4, .inl (0 : Int32), .inl (0 : Int32)]) (nx := 24) (L' := [some (.inl a3), some (.inl a4)]) (st' := []) rfl ?_
                show xw _ _ _ [some (.inl a4), some (.inl (0 : Int32)), some (.inl (0 : Int32))] [] _ _
                refine xw.s (pc' := 1) (st' := [.inl a4]) rfl ?_
                refine xw.s (pc' := 2) (st' := [.inl (0 : Int32), .inl a4]) rfl ?_
                refine xw.b (c := a4 < (0 : Int32)) (cd := .lt) (x := a4) (y := (0 : Int32)) 14 5 (st' := []) rfl (y_clt _ _) h (fun c24 h => ?_) (fun c24 h => ?_)
                · skip
                  refine xw.s (pc' := 15) (st' := [.inl (0 : Int32)]) rfl ?_
                  refine xw.retz (nx := 16) rfl (Or.inl rfl) ?_
                  show xw _ _ 24 [some (.inl a3), some (.inl a4)] [.inl (0 : Int32)] S _
                  refine xw.bt (cd := .eq) (x := (0 : Int32)) (y := (0 : Int32)) 31 27 (st' := []) rfl (y_ceq _ _) (by decide) ?_
                  refine xw.s (pc' := 32) (st' := [.inl (0 : Int32)]) rfl ?_
                  refine xw.retz (nx := 33) rfl (Or.inl rfl) ?_
                  show xw _ _ 32 [some (.inr (some (0, 0))), some (.inl a1), some (.inl a2), some (.inl a3), some (.inl a4), some (.inl a5), some (.inr (some (10, k14))), some (.inr (some (9, k19)))] [.inl (0 : Int32)] S _
                  refine xw.bt (cd := .eq) (x := (0 : Int32)) (y := (0 : Int32)) 40 35 (st' := []) rfl (y_ceq _ _) (by decide) ?_
                  refine xw.s (pc' := 42) (st' := [.inl (-2 : Int32)]) rfl ?_
                  exact xw.ret (r := (some (.inl (-2 : Int32)))) rfl h
                · skip
                  refine xw.s (pc' := 6) (st' := [.inl a4]) rfl ?_
                  refine xw.s (pc' := 7) (st' := [.inl (0 : Int32), .inl a4]) rfl ?_
                  refine xw.b (c := (0 : Int32) < a4) (cd := .gt) (x := a4) (y := (0 : Int32)) 14 10 (st' := []) rfl (y_cgt _ _) h (fun c25 h => ?_) (fun c25 h => ?_)
                  · skip
                    refine xw.s (pc' := 15) (st' := [.inl (0 : Int32)]) rfl ?_
                    refine xw.retz (nx := 16) rfl (Or.inl rfl) ?_
                    show xw _ _ 24 [some (.inl a3), some (.inl a4)] [.inl (0 : Int32)] S _
                    refine xw.bt (cd := .eq) (x := (0 : Int32)) (y := (0 : Int32)) 31 27 (st' := []) rfl (y_ceq _ _) (by decide) ?_
                    refine xw.s (pc' := 32) (st' := [.inl (0 : Int32)]) rfl ?_
                    refine xw.retz (nx := 33) rfl (Or.inl rfl) ?_
                    show xw _ _ 32 [some (.inr (some (0, 0))), some (.inl a1), some (.inl a2), some (.inl a3), some (.inl a4), some (.inl a5), some (.inr (some (10, k14))), some (.inr (some (9, k19)))] [.inl (0 : Int32)] S _
                    refine xw.bt (cd := .eq) (x := (0 : Int32)) (y := (0 : Int32)) 40 35 (st' := []) rfl (y_ceq _ _) (by decide) ?_
                    refine xw.s (pc' := 42) (st' := [.inl (-2 : Int32)]) rfl ?_
                    exact xw.ret (r := (some (.inl (-2 : Int32)))) rfl h
                  · skip
                    refine xw.s (pc' := 11) (st' := [.inl (1 : Int32)]) rfl ?_
                    refine xw.s (pc' := 15) (st' := [.inl (1 : Int32)]) rfl ?_
                    refine xw.retz (nx := 16) rfl (Or.inr rfl) ?_
                    show xw _ _ 24 [some (.inl a3), some (.inl a4)] [.inl (1 : Int32)] S _
                    refine xw.bf (cd := .eq) (x := (1 : Int32)) (y := (0 : Int32)) 31 27 (st' := []) rfl (y_ceq _ _) (by decide) ?_
                    refine xw.s (pc' := 28) (st' := [.inl (1 : Int32)]) rfl ?_
                    refine xw.s (pc' := 32) (st' := [.inl (1 : Int32)]) rfl ?_
                    refine xw.retz (nx := 33) rfl (Or.inr rfl) ?_
                    show xw _ _ 32 [some (.inr (some (0, 0))), some (.inl a1), some (.inl a2), some (.inl a3), some (.inl a4), some (.inl a5), some (.inr (some (10, k14))), some (.inr (some (9, k19)))] [.inl (1 : Int32)] S _
                    refine xw.bf (cd := .eq) (x := (1 : Int32)) (y := (0 : Int32)) 40 35 (st' := []) rfl (y_ceq _ _) (by decide) ?_
                    refine xw.s (pc' := 37) (st' := [.inl a5]) rfl ?_
                    refine xw.b (c := (0 : Int32) ≤ a5) (cd := .ge) (x := a5) (y := (0 : Int32)) 43 40 (st' := []) rfl (y_cge _ _) h (fun c26 h => ?_) (fun c26 h => ?_)
                    · skip
                      refine xw.s (pc' := 44) (st' := [.inr (some (0, 0))]) rfl ?_
                      refine xw.fr (c := 0) (j := 5) (e := 12) (nx := 47) (t := (some 5)) rfl rfl (hC 5 (by decide)) ?_
                      show xw _ _ _ [some (.inr (some (0, 0))), some (.inl a1), some (.inl a2), some (.inl a3), some (.inl a4), some (.inl a5), some (.inr (some (10, k14))), some (.inr (some (9, k19)))] [.inr (some (12, 5))] _ _
                      refine xw.lsz (nx := 50) (n := (xm_n S 1 5)) rfl (Nat.le_of_ble_eq_true rfl) rfl ?_
                      refine xw.s (pc' := 52) (st' := [.inl (60 : Int32), .inl (nI (xm_n S 1 5))]) rfl ?_
                      refine xw.b (c := (nI (xm_n S 1 5)) < (60 : Int32)) (cd := .lt) (x := (nI (xm_n S 1 5))) (y := (60 : Int32)) 58 55 (st' := []) rfl (y_clt _ _) h (fun c27 h => ?_) (fun c27 h => ?_)
                      · skip
                        refine xw.s (pc' := 59) (st' := [.inr (some (0, 0))]) rfl ?_
                        refine xw.s (pc' := 62) (st' := [.inr (some (6, (xm_n S 0 6))), .inr (some (0, 0))]) (S1 := xm_mk 6 7 S) rfl ?_
                        obtain ⟨k28, q29⟩ : ∃ k, k = xm_n S 0 6 := ⟨_, rfl⟩
                        rw [← q29]
                        replace h := h k28 q29
                        obtain ⟨S30, e31⟩ : ∃ s, s = xm_mk 6 7 S := ⟨_, rfl⟩
                        rw [← e31]
                        replace h := h S30 e31
                        refine xw.s (pc' := 63) (st' := [.inr (some (6, k28)), .inr (some (6, k28)), .inr (some (0, 0))]) rfl ?_
                        refine xw.s (pc' := 64) (st' := [.inr (some (0, 0)), .inr (some (6, k28)), .inr (some (6, k28)), .inr (some (0, 0))]) rfl ?_
                        refine xw.fr (c := 0) (j := 5) (e := 12) (nx := 67) (t := (some 5)) rfl rfl ((congrArg (fun s => xm_r s 0 0 5) e31).trans ((xr_mk (by decide)).trans (hC 5 (by decide)))) ?_
                        show xw _ _ _ [some (.inr (some (0, 0))), some (.inl a1), some (.inl a2), some (.inl a3), some (.inl a4), some (.inl a5), some (.inr (some (10, k14))), some (.inr (some (9, k19)))] [.inr (some (12, 5)), .inr (some (6, k28)), .inr (some (6, k28)), .inr (some (0, 0))] _ _
                        refine xw.lsz (nx := 70) (n := (xm_n S30 1 5)) rfl (Nat.le_of_ble_eq_true rfl) rfl ?_
                        refine xw.s (pc' := 72) (st' := [.inr (some (10, k14)), .inl (nI (xm_n S30 1 5)), .inr (some (6, k28)), .inr (some (6, k28)), .inr (some (0, 0))]) rfl ?_
                        refine xw.s (pc' := 74) (st' := [.inr (some (9, k19)), .inr (some (10, k14)), .inl (nI (xm_n S30 1 5)), .inr (some (6, k28)), .inr (some (6, k28)), .inr (some (0, 0))]) rfl ?_
                        refine xw.s (pc' := 75) (st' := [.inl a3, .inr (some (9, k19)), .inr (some (10, k14)), .inl (nI (xm_n S30 1 5)), .inr (some (6, k28)), .inr (some (6, k28)), .inr (some (0, 0))]) rfl ?_
                        refine xw.s (pc' := 77) (st' := [.inl a4, .inl a3, .inr (some (9, k19)), .inr (some (10, k14)), .inl (nI (xm_n S30 1 5)), .inr (some (6, k28)), .inr (some (6, k28)), .inr (some (0, 0))]) rfl ?_
                        refine xw.s (pc' := 79) (st' := [.inl a5, .inl a4, .inl a3, .inr (some (9, k19)), .inr (some (10, k14)), .inl (nI (xm_n S30 1 5)), .inr (some (6, k28)), .inr (some (6, k28)), .inr (some (0, 0))]) rfl ?_
                        refine xw.call (m := 102) (as := [.inr (some (6, k28)), .inl (nI (xm_n S30 1 5)), .inr (some (10, k14)), .inr (some (9, k19)), .inl a3, .inl a4, .inl a5]) (nx := 82) (L' := [some (.inr (some (0, 0))), some (.inl a1), some (.inl a2), some (.inl a3), some (.inl a4), some (.inl a5), some (.inr (some (10, k14))), some (.inr (some (9, k19)))]) (st' := [.inr (some (6, k28)), .inr (some (0, 0))]) rfl (xc.mono h ?_)
                        rintro r S32 ⟨rfl, hC33, h⟩
                        show xw _ _ 82 [some (.inr (some (0, 0))), some (.inl a1), some (.inl a2), some (.inl a3), some (.inl a4), some (.inl a5), some (.inr (some (10, k14))), some (.inr (some (9, k19)))] [.inr (some (6, k28)), .inr (some (0, 0))] _ _
                        refine xw.call (m := 15) (as := [.inr (some (0, 0)), .inr (some (6, k28))]) (nx := 85) (L' := [some (.inr (some (0, 0))), some (.inl a1), some (.inl a2), some (.inl a3), some (.inl a4), some (.inl a5), some (.inr (some (10, k14))), some (.inr (some (9, k19)))]) (st' := []) rfl (xc.mono h ?_)
                        rintro r S34 ⟨x36, rfl, hC35, h⟩
                        show xw _ _ 85 [some (.inr (some (0, 0))), some (.inl a1), some (.inl a2), some (.inl a3), some (.inl a4), some (.inl a5), some (.inr (some (10, k14))), some (.inr (some (9, k19)))] [.inl x36] _ _
                        exact xw.ret (r := (some (.inl x36))) rfl h
                      · skip
                        refine xw.s (pc' := 57) (st' := [.inl (-3 : Int32)]) rfl ?_
                        exact xw.ret (r := (some (.inl (-3 : Int32)))) rfl h
                    · skip
                      refine xw.s (pc' := 42) (st' := [.inl (-2 : Int32)]) rfl ?_
                      exact xw.ret (r := (some (.inl (-2 : Int32)))) rfl h
              · skip
                refine xw.s (pc' := 21) (st' := [.inl (1000000 : Int32), .inl (0 : Int32), .inl a4]) rfl ?_
                refine xw.call (m := 2) (as := [.inl a4, .inl (0 : Int32), .inl (1000000 : Int32)]) (nx := 24) (L' := [some (.inl a3), some (.inl a4)]) (st' := []) rfl ?_
                show xw _ _ _ [some (.inl a4), some (.inl (0 : Int32)), some (.inl (1000000 : Int32))] [] _ _
                refine xw.s (pc' := 1) (st' := [.inl a4]) rfl ?_
                refine xw.s (pc' := 2) (st' := [.inl (0 : Int32), .inl a4]) rfl ?_
                refine xw.b (c := a4 < (0 : Int32)) (cd := .lt) (x := a4) (y := (0 : Int32)) 14 5 (st' := []) rfl (y_clt _ _) h (fun c37 h => ?_) (fun c37 h => ?_)
                · skip
                  refine xw.s (pc' := 15) (st' := [.inl (0 : Int32)]) rfl ?_
                  refine xw.retz (nx := 16) rfl (Or.inl rfl) ?_
                  show xw _ _ 24 [some (.inl a3), some (.inl a4)] [.inl (0 : Int32)] S _
                  refine xw.bt (cd := .eq) (x := (0 : Int32)) (y := (0 : Int32)) 31 27 (st' := []) rfl (y_ceq _ _) (by decide) ?_
                  refine xw.s (pc' := 32) (st' := [.inl (0 : Int32)]) rfl ?_
                  refine xw.retz (nx := 33) rfl (Or.inl rfl) ?_
                  show xw _ _ 32 [some (.inr (some (0, 0))), some (.inl a1), some (.inl a2), some (.inl a3), some (.inl a4), some (.inl a5), some (.inr (some (10, k14))), some (.inr (some (9, k19)))] [.inl (0 : Int32)] S _
                  refine xw.bt (cd := .eq) (x := (0 : Int32)) (y := (0 : Int32)) 40 35 (st' := []) rfl (y_ceq _ _) (by decide) ?_
                  refine xw.s (pc' := 42) (st' := [.inl (-2 : Int32)]) rfl ?_
                  exact xw.ret (r := (some (.inl (-2 : Int32)))) rfl h
                · skip
                  refine xw.s (pc' := 6) (st' := [.inl a4]) rfl ?_
                  refine xw.s (pc' := 7) (st' := [.inl (1000000 : Int32), .inl a4]) rfl ?_
                  refine xw.b (c := (1000000 : Int32) < a4) (cd := .gt) (x := a4) (y := (1000000 : Int32)) 14 10 (st' := []) rfl (y_cgt _ _) h (fun c38 h => ?_) (fun c38 h => ?_)
                  · skip
                    refine xw.s (pc' := 15) (st' := [.inl (0 : Int32)]) rfl ?_
                    refine xw.retz (nx := 16) rfl (Or.inl rfl) ?_
                    show xw _ _ 24 [some (.inl a3), some (.inl a4)] [.inl (0 : Int32)] S _
                    refine xw.bt (cd := .eq) (x := (0 : Int32)) (y := (0 : Int32)) 31 27 (st' := []) rfl (y_ceq _ _) (by decide) ?_
                    refine xw.s (pc' := 32) (st' := [.inl (0 : Int32)]) rfl ?_
                    refine xw.retz (nx := 33) rfl (Or.inl rfl) ?_
                    show xw _ _ 32 [some (.inr (some (0, 0))), some (.inl a1), some (.inl a2), some (.inl a3), some (.inl a4), some (.inl a5), some (.inr (some (10, k14))), some (.inr (some (9, k19)))] [.inl (0 : Int32)] S _
                    refine xw.bt (cd := .eq) (x := (0 : Int32)) (y := (0 : Int32)) 40 35 (st' := []) rfl (y_ceq _ _) (by decide) ?_
                    refine xw.s (pc' := 42) (st' := [.inl (-2 : Int32)]) rfl ?_
                    exact xw.ret (r := (some (.inl (-2 : Int32)))) rfl h
                  · skip
                    refine xw.s (pc' := 11) (st' := [.inl (1 : Int32)]) rfl ?_
                    refine xw.s (pc' := 15) (st' := [.inl (1 : Int32)]) rfl ?_
                    refine xw.retz (nx := 16) rfl (Or.inr rfl) ?_
                    show xw _ _ 24 [some (.inl a3), some (.inl a4)] [.inl (1 : Int32)] S _
                    refine xw.bf (cd := .eq) (x := (1 : Int32)) (y := (0 : Int32)) 31 27 (st' := []) rfl (y_ceq _ _) (by decide) ?_
                    refine xw.s (pc' := 28) (st' := [.inl (1 : Int32)]) rfl ?_
                    refine xw.s (pc' := 32) (st' := [.inl (1 : Int32)]) rfl ?_
                    refine xw.retz (nx := 33) rfl (Or.inr rfl) ?_
                    show xw _ _ 32 [some (.inr (some (0, 0))), some (.inl a1), some (.inl a2), some (.inl a3), some (.inl a4), some (.inl a5), some (.inr (some (10, k14))), some (.inr (some (9, k19)))] [.inl (1 : Int32)] S _
                    refine xw.bf (cd := .eq) (x := (1 : Int32)) (y := (0 : Int32)) 40 35 (st' := []) rfl (y_ceq _ _) (by decide) ?_
                    refine xw.s (pc' := 37) (st' := [.inl a5]) rfl ?_
                    refine xw.b (c := (0 : Int32) ≤ a5) (cd := .ge) (x := a5) (y := (0 : Int32)) 43 40 (st' := []) rfl (y_cge _ _) h (fun c39 h => ?_) (fun c39 h => ?_)
                    · skip
                      refine xw.s (pc' := 44) (st' := [.inr (some (0, 0))]) rfl ?_
                      refine xw.fr (c := 0) (j := 5) (e := 12) (nx := 47) (t := (some 5)) rfl rfl (hC 5 (by decide)) ?_
                      show xw _ _ _ [some (.inr (some (0, 0))), some (.inl a1), some (.inl a2), some (.inl a3), some (.inl a4), some (.inl a5), some (.inr (some (10, k14))), some (.inr (some (9, k19)))] [.inr (some (12, 5))] _ _
                      refine xw.lsz (nx := 50) (n := (xm_n S 1 5)) rfl (Nat.le_of_ble_eq_true rfl) rfl ?_
                      refine xw.s (pc' := 52) (st' := [.inl (60 : Int32), .inl (nI (xm_n S 1 5))]) rfl ?_
                      refine xw.b (c := (nI (xm_n S 1 5)) < (60 : Int32)) (cd := .lt) (x := (nI (xm_n S 1 5))) (y := (60 : Int32)) 58 55 (st' := []) rfl (y_clt _ _) h (fun c40 h => ?_) (fun c40 h => ?_)
                      · skip
                        refine xw.s (pc' := 59) (st' := [.inr (some (0, 0))]) rfl ?_
                        refine xw.s (pc' := 62) (st' := [.inr (some (6, (xm_n S 0 6))), .inr (some (0, 0))]) (S1 := xm_mk 6 7 S) rfl ?_
                        obtain ⟨k41, q42⟩ : ∃ k, k = xm_n S 0 6 := ⟨_, rfl⟩
                        rw [← q42]
                        replace h := h k41 q42
                        obtain ⟨S43, e44⟩ : ∃ s, s = xm_mk 6 7 S := ⟨_, rfl⟩
                        rw [← e44]
                        replace h := h S43 e44
                        refine xw.s (pc' := 63) (st' := [.inr (some (6, k41)), .inr (some (6, k41)), .inr (some (0, 0))]) rfl ?_
                        refine xw.s (pc' := 64) (st' := [.inr (some (0, 0)), .inr (some (6, k41)), .inr (some (6, k41)), .inr (some (0, 0))]) rfl ?_
                        refine xw.fr (c := 0) (j := 5) (e := 12) (nx := 67) (t := (some 5)) rfl rfl ((congrArg (fun s => xm_r s 0 0 5) e44).trans ((xr_mk (by decide)).trans (hC 5 (by decide)))) ?_
                        show xw _ _ _ [some (.inr (some (0, 0))), some (.inl a1), some (.inl a2), some (.inl a3), some (.inl a4), some (.inl a5), some (.inr (some (10, k14))), some (.inr (some (9, k19)))] [.inr (some (12, 5)), .inr (some (6, k41)), .inr (some (6, k41)), .inr (some (0, 0))] _ _
                        refine xw.lsz (nx := 70) (n := (xm_n S43 1 5)) rfl (Nat.le_of_ble_eq_true rfl) rfl ?_
                        refine xw.s (pc' := 72) (st' := [.inr (some (10, k14)), .inl (nI (xm_n S43 1 5)), .inr (some (6, k41)), .inr (some (6, k41)), .inr (some (0, 0))]) rfl ?_
                        refine xw.s (pc' := 74) (st' := [.inr (some (9, k19)), .inr (some (10, k14)), .inl (nI (xm_n S43 1 5)), .inr (some (6, k41)), .inr (some (6, k41)), .inr (some (0, 0))]) rfl ?_
                        refine xw.s (pc' := 75) (st' := [.inl a3, .inr (some (9, k19)), .inr (some (10, k14)), .inl (nI (xm_n S43 1 5)), .inr (some (6, k41)), .inr (some (6, k41)), .inr (some (0, 0))]) rfl ?_
                        refine xw.s (pc' := 77) (st' := [.inl a4, .inl a3, .inr (some (9, k19)), .inr (some (10, k14)), .inl (nI (xm_n S43 1 5)), .inr (some (6, k41)), .inr (some (6, k41)), .inr (some (0, 0))]) rfl ?_
                        refine xw.s (pc' := 79) (st' := [.inl a5, .inl a4, .inl a3, .inr (some (9, k19)), .inr (some (10, k14)), .inl (nI (xm_n S43 1 5)), .inr (some (6, k41)), .inr (some (6, k41)), .inr (some (0, 0))]) rfl ?_
                        refine xw.call (m := 102) (as := [.inr (some (6, k41)), .inl (nI (xm_n S43 1 5)), .inr (some (10, k14)), .inr (some (9, k19)), .inl a3, .inl a4, .inl a5]) (nx := 82) (L' := [some (.inr (some (0, 0))), some (.inl a1), some (.inl a2), some (.inl a3), some (.inl a4), some (.inl a5), some (.inr (some (10, k14))), some (.inr (some (9, k19)))]) (st' := [.inr (some (6, k41)), .inr (some (0, 0))]) rfl (xc.mono h ?_)
                        rintro r S45 ⟨rfl, hC46, h⟩
                        show xw _ _ 82 [some (.inr (some (0, 0))), some (.inl a1), some (.inl a2), some (.inl a3), some (.inl a4), some (.inl a5), some (.inr (some (10, k14))), some (.inr (some (9, k19)))] [.inr (some (6, k41)), .inr (some (0, 0))] _ _
                        refine xw.call (m := 15) (as := [.inr (some (0, 0)), .inr (some (6, k41))]) (nx := 85) (L' := [some (.inr (some (0, 0))), some (.inl a1), some (.inl a2), some (.inl a3), some (.inl a4), some (.inl a5), some (.inr (some (10, k14))), some (.inr (some (9, k19)))]) (st' := []) rfl (xc.mono h ?_)
                        rintro r S47 ⟨x49, rfl, hC48, h⟩
                        show xw _ _ 85 [some (.inr (some (0, 0))), some (.inl a1), some (.inl a2), some (.inl a3), some (.inl a4), some (.inl a5), some (.inr (some (10, k14))), some (.inr (some (9, k19)))] [.inl x49] _ _
                        exact xw.ret (r := (some (.inl x49))) rfl h
                      · skip
                        refine xw.s (pc' := 57) (st' := [.inl (-3 : Int32)]) rfl ?_
                        exact xw.ret (r := (some (.inl (-3 : Int32)))) rfl h
                    · skip
                      refine xw.s (pc' := 42) (st' := [.inl (-2 : Int32)]) rfl ?_
                      exact xw.ret (r := (some (.inl (-2 : Int32)))) rfl h
/-- startOrder -/
theorem cw_startOrder {d : Nat} {a1 : Nat} {S : xm_S} {Q : Option xm_V → xm_S → Prop} (hC : xk_C S) (h : xm_n S 2 5 ≠ 0 ∧ xm_n S 1 5 < 100000 ∧ (∀ S3, S3 = xm_push 5 (6, a1) S → (xc d 16 [.inr (some (0, 0)), .inr (some (6, a1)), .inr none] S3 (fun r S5 => r = none ∧ xk_C S5 ∧ (Q (some (.inl (xm_i S5 6 a1 0))) S5))))) : xc (d + 1) 15 [.inr (some (0, 0)), .inr (some (6, a1))] S Q := by
  show xw _ _ _ [some (.inr (some (0, 0))), some (.inr (some (6, a1)))] _ _ _
  refine xw.s (pc' := 1) (st' := [.inr (some (0, 0))]) rfl ?_
  refine xw.fr (c := 0) (j := 5) (e := 12) (nx := 4) (t := (some 5)) rfl rfl (hC 5 (by decide)) ?_
  show xw _ _ _ [some (.inr (some (0, 0))), some (.inr (some (6, a1)))] [.inr (some (12, 5))] _ _
  refine xw.s (pc' := 5) (st' := [.inr (some (6, a1)), .inr (some (12, 5))]) rfl ?_
  obtain ⟨z1, z2, h⟩ := h
  refine xw.ladd (nx := 8) rfl (Nat.le_of_ble_eq_true rfl) (by decide) z1 z2 ?_
  obtain ⟨S3, e4⟩ : ∃ s, s = xm_push 5 (6, a1) S := ⟨_, rfl⟩
  rw [← e4]
  replace h := h S3 e4
  refine xw.s (pc' := 9) (st' := []) rfl ?_
  refine xw.s (pc' := 10) (st' := [.inr (some (0, 0))]) rfl ?_
  refine xw.s (pc' := 11) (st' := [.inr (some (6, a1)), .inr (some (0, 0))]) rfl ?_
  refine xw.s (pc' := 12) (st' := [.inr none, .inr (some (6, a1)), .inr (some (0, 0))]) rfl ?_
  refine xw.call (m := 16) (as := [.inr (some (0, 0)), .inr (some (6, a1)), .inr none]) (nx := 15) (L' := [some (.inr (some (0, 0))), some (.inr (some (6, a1)))]) (st' := []) rfl (xc.mono h ?_)
  rintro r S5 ⟨rfl, hC6, h⟩
  show xw _ _ 15 [some (.inr (some (0, 0))), some (.inr (some (6, a1)))] [] _ _
  refine xw.s (pc' := 16) (st' := [.inr (some (6, a1))]) rfl ?_
  refine xw.fi (c := 6) (j := 0) (ty := 0) (nx := 19) (v := (xm_i S5 6 a1 0)) rfl rfl rfl ?_
  exact xw.ret (r := (some (.inl (xm_i S5 6 a1 0)))) rfl h
/-- begin -/
theorem cw_begin {d : Nat} {a1 : Nat} {a2 : Option Nat} {S : xm_S} {Q : Option xm_V → xm_S → Prop} (hC : xk_C S) (h : (a2 = none → ∀ t2, (xm_r S 6 a1 1) = t2 → (∃ k4, t2 = some k4 ∧ (∀ t5, (xm_r S 10 k4 0) = t5 → (∃ k7, t5 = some k7 ∧ (((nI (xm_n S 1 k7)) ≤ (0 : Int32) → xc d 17 [.inr (some (0, 0)), .inr (some (6, a1)), .inr none, .inr none] S (fun r S9 => ∃ t11 : Option Nat, r = some (.inr (xo 2 t11)) ∧ xk_C S9 ∧ (∀ t12, (xm_r S9 6 a1 2) = t12 → (xc d 18 [.inr (some (0, 0)), .inr (xo 2 t11), .inr (xo 9 t12)] S9 (fun r S14 => r = none ∧ xk_C S14 ∧ (Q none S14)))))) ∧ (¬ (nI (xm_n S 1 k7)) ≤ (0 : Int32) → y_in (0 : Int32) (xm_n S 1 k7) ∧ (∃ k17, (xm_l S k7 (y_ix (0 : Int32))) = (5, k17) ∧ (xc d 17 [.inr (some (0, 0)), .inr (some (6, a1)), .inr none, .inr (some (5, k17))] S (fun r S19 => ∃ t21 : Option Nat, r = some (.inr (xo 2 t21)) ∧ xk_C S19 ∧ (xc d 19 [.inr (some (0, 0)), .inr (xo 2 t21), .inr (some (5, k17))] S19 (fun r S22 => r = none ∧ xk_C S22 ∧ (Q none S22)))))))))))) ∧ (∀ k1, a2 = some k1 → ∀ t24, (xm_r S 6 a1 1) = t24 → (∃ k26, t24 = some k26 ∧ ((((xm_i S 2 k1 3) + (1 : Int32)) < (0 : Int32) → xc d 17 [.inr (some (0, 0)), .inr (some (6, a1)), .inr (some (2, k1)), .inr none] S (fun r S28 => ∃ t30 : Option Nat, r = some (.inr (xo 2 t30)) ∧ xk_C S28 ∧ (∀ t31, (xm_r S28 6 a1 2) = t31 → (xc d 18 [.inr (some (0, 0)), .inr (xo 2 t30), .inr (xo 9 t31)] S28 (fun r S33 => r = none ∧ xk_C S33 ∧ (Q none S33)))))) ∧ (¬ ((xm_i S 2 k1 3) + (1 : Int32)) < (0 : Int32) → ∀ t35, (xm_r S 10 k26 0) = t35 → (∃ k37, t35 = some k37 ∧ (((nI (xm_n S 1 k37)) ≤ ((xm_i S 2 k1 3) + (1 : Int32)) → xc d 17 [.inr (some (0, 0)), .inr (some (6, a1)), .inr (some (2, k1)), .inr none] S (fun r S39 => ∃ t41 : Option Nat, r = some (.inr (xo 2 t41)) ∧ xk_C S39 ∧ (∀ t42, (xm_r S39 6 a1 2) = t42 → (xc d 18 [.inr (some (0, 0)), .inr (xo 2 t41), .inr (xo 9 t42)] S39 (fun r S44 => r = none ∧ xk_C S44 ∧ (Q none S44)))))) ∧ (¬ (nI (xm_n S 1 k37)) ≤ ((xm_i S 2 k1 3) + (1 : Int32)) → y_in ((xm_i S 2 k1 3) + (1 : Int32)) (xm_n S 1 k37) ∧ (∃ k47, (xm_l S k37 (y_ix ((xm_i S 2 k1 3) + (1 : Int32)))) = (5, k47) ∧ (xc d 17 [.inr (some (0, 0)), .inr (some (6, a1)), .inr (some (2, k1)), .inr (some (5, k47))] S (fun r S49 => ∃ t51 : Option Nat, r = some (.inr (xo 2 t51)) ∧ xk_C S49 ∧ (xc d 19 [.inr (some (0, 0)), .inr (xo 2 t51), .inr (some (5, k47))] S49 (fun r S52 => r = none ∧ xk_C S52 ∧ (Q none S52)))))))))))))) : xc (d + 1) 16 [.inr (some (0, 0)), .inr (some (6, a1)), .inr (xo 2 a2)] S Q := by
  show xw _ _ _ [some (.inr (some (0, 0))), some (.inr (some (6, a1))), some (.inr (xo 2 a2)), none, none, none] _ _ _
  refine xw.s (pc' := 1) (st' := [.inr (xo 2 a2)]) rfl ?_
  refine xw.nnul (o := a2) (t := 8) (nx := 4) rfl rfl ?_
  rcases a2 with _ | k1
  · replace h := h.1 rfl
    show xw _ _ 4 [some (.inr (some (0, 0))), some (.inr (some (6, a1))), some (.inr none), none, none, none] [] _ _
    refine xw.s (pc' := 5) (st' := [.inl (0 : Int32)]) rfl ?_
    refine xw.s (pc' := 14) (st' := [.inl (0 : Int32)]) rfl ?_
    refine xw.s (pc' := 15) (st' := []) (L' := [some (.inr (some (0, 0))), some (.inr (some (6, a1))), some (.inr none), some (.inl (0 : Int32)), none, none]) rfl ?_
    refine xw.s (pc' := 16) (st' := [.inr (some (6, a1))]) rfl ?_
    obtain ⟨t2, q3⟩ : ∃ t, (xm_r S 6 a1 1) = t := ⟨_, rfl⟩
    replace h := h t2 q3
    refine xw.fr (c := 6) (j := 1) (e := 10) (nx := 19) (t := t2) rfl rfl q3 ?_
    show xw _ _ _ [some (.inr (some (0, 0))), some (.inr (some (6, a1))), some (.inr none), some (.inl (0 : Int32)), none, none] [.inr (xo 10 t2)] _ _
    refine xw.s (pc' := 20) (st' := [.inl (0 : Int32), .inr (xo 10 t2)]) rfl ?_
    obtain ⟨k4, rfl, h⟩ := h
    refine xw.call (m := 111) (as := [.inr (some (10, k4)), .inl (0 : Int32)]) (nx := 23) (L' := [some (.inr (some (0, 0))), some (.inr (some (6, a1))), some (.inr none), some (.inl (0 : Int32)), none, none]) (st' := []) rfl ?_
    show xw _ _ _ [some (.inr (some (10, k4))), some (.inl (0 : Int32))] [] _ _
    refine xw.s (pc' := 1) (st' := [.inl (0 : Int32)]) rfl ?_
    refine xw.bf (cd := .lt) (x := (0 : Int32)) (y := (0 : Int32)) 29 4 (st' := []) rfl (y_clt _ _) (by decide) ?_
    refine xw.s (pc' := 5) (st' := [.inl (0 : Int32)]) rfl ?_
    refine xw.s (pc' := 6) (st' := [.inr (some (10, k4)), .inl (0 : Int32)]) rfl ?_
    obtain ⟨t5, q6⟩ : ∃ t, (xm_r S 10 k4 0) = t := ⟨_, rfl⟩
    replace h := h t5 q6
    refine xw.fr (c := 10) (j := 0) (e := 12) (nx := 9) (t := t5) rfl rfl q6 ?_
    show xw _ _ _ [some (.inr (some (10, k4))), some (.inl (0 : Int32))] [.inr (xo 12 t5), .inl (0 : Int32)] _ _
    obtain ⟨k7, rfl, h⟩ := h
    refine xw.lsz (nx := 12) (n := (xm_n S 1 k7)) rfl (Nat.le_of_ble_eq_true rfl) rfl ?_
    refine xw.b (c := (nI (xm_n S 1 k7)) ≤ (0 : Int32)) (cd := .ge) (x := (0 : Int32)) (y := (nI (xm_n S 1 k7))) 29 15 (st' := []) rfl (y_cge _ _) h (fun c8 h => ?_) (fun c8 h => ?_)
    · skip
      refine xw.s (pc' := 30) (st' := [.inr none]) rfl ?_
      refine xw.ret (r := some (.inr none)) rfl ?_
      show xw _ _ 23 [some (.inr (some (0, 0))), some (.inr (some (6, a1))), some (.inr none), some (.inl (0 : Int32)), none, none] [.inr none] S _
      refine xw.s (pc' := 25) (st' := []) (L' := [some (.inr (some (0, 0))), some (.inr (some (6, a1))), some (.inr none), some (.inl (0 : Int32)), some (.inr none), none]) rfl ?_
      refine xw.s (pc' := 26) (st' := [.inr (some (0, 0))]) rfl ?_
      refine xw.s (pc' := 27) (st' := [.inr (some (6, a1)), .inr (some (0, 0))]) rfl ?_
      refine xw.s (pc' := 28) (st' := [.inr none, .inr (some (6, a1)), .inr (some (0, 0))]) rfl ?_
      refine xw.s (pc' := 30) (st' := [.inr none, .inr none, .inr (some (6, a1)), .inr (some (0, 0))]) rfl ?_
      refine xw.call (m := 17) (as := [.inr (some (0, 0)), .inr (some (6, a1)), .inr none, .inr none]) (nx := 33) (L' := [some (.inr (some (0, 0))), some (.inr (some (6, a1))), some (.inr none), some (.inl (0 : Int32)), some (.inr none), none]) (st' := []) rfl (xc.mono h ?_)
      rintro r S9 ⟨t11, rfl, hC10, h⟩
      show xw _ _ 33 [some (.inr (some (0, 0))), some (.inr (some (6, a1))), some (.inr none), some (.inl (0 : Int32)), some (.inr none), none] [.inr (xo 2 t11)] _ _
      refine xw.s (pc' := 35) (st' := []) (L' := [some (.inr (some (0, 0))), some (.inr (some (6, a1))), some (.inr none), some (.inl (0 : Int32)), some (.inr none), some (.inr (xo 2 t11))]) rfl ?_
      refine xw.s (pc' := 37) (st' := [.inr none]) rfl ?_
      refine xw.s (pc' := 40) (st' := []) rfl ?_
      refine xw.s (pc' := 41) (st' := [.inr (some (0, 0))]) rfl ?_
      refine xw.s (pc' := 43) (st' := [.inr (xo 2 t11), .inr (some (0, 0))]) rfl ?_
      refine xw.s (pc' := 44) (st' := [.inr (some (6, a1)), .inr (xo 2 t11), .inr (some (0, 0))]) rfl ?_
      obtain ⟨t12, q13⟩ : ∃ t, (xm_r S9 6 a1 2) = t := ⟨_, rfl⟩
      replace h := h t12 q13
      refine xw.fr (c := 6) (j := 2) (e := 9) (nx := 47) (t := t12) rfl rfl q13 ?_
      show xw _ _ _ [some (.inr (some (0, 0))), some (.inr (some (6, a1))), some (.inr none), some (.inl (0 : Int32)), some (.inr none), some (.inr (xo 2 t11))] [.inr (xo 9 t12), .inr (xo 2 t11), .inr (some (0, 0))] _ _
      refine xw.call (m := 18) (as := [.inr (some (0, 0)), .inr (xo 2 t11), .inr (xo 9 t12)]) (nx := 50) (L' := [some (.inr (some (0, 0))), some (.inr (some (6, a1))), some (.inr none), some (.inl (0 : Int32)), some (.inr none), some (.inr (xo 2 t11))]) (st' := []) rfl (xc.mono h ?_)
      rintro r S14 ⟨rfl, hC15, h⟩
      show xw _ _ 50 [some (.inr (some (0, 0))), some (.inr (some (6, a1))), some (.inr none), some (.inl (0 : Int32)), some (.inr none), some (.inr (xo 2 t11))] [] _ _
      refine xw.s (pc' := 61) (st' := []) rfl ?_
      exact xw.ret (r := none) rfl h
    · skip
      refine xw.s (pc' := 16) (st' := [.inr (some (10, k4))]) rfl ?_
      refine xw.fr (c := 10) (j := 0) (e := 12) (nx := 19) (t := (some k7)) rfl rfl q6 ?_
      show xw _ _ _ [some (.inr (some (10, k4))), some (.inl (0 : Int32))] [.inr (some (12, k7))] _ _
      refine xw.s (pc' := 20) (st' := [.inl (0 : Int32), .inr (some (12, k7))]) rfl ?_
      obtain ⟨z16, h⟩ := h
      obtain ⟨k17, q18, h⟩ := h
      refine xw.get (nx := 23) (p := (5, k17)) rfl (Nat.le_of_ble_eq_true rfl) z16 q18 ?_
      refine xw.s (pc' := 26) (st' := [.inr (some (5, k17))]) rfl ?_
      refine xw.s (pc' := 30) (st' := [.inr (some (5, k17))]) rfl ?_
      refine xw.ret (r := some (.inr (some (5, k17)))) rfl ?_
      show xw _ _ 23 [some (.inr (some (0, 0))), some (.inr (some (6, a1))), some (.inr none), some (.inl (0 : Int32)), none, none] [.inr (some (5, k17))] S _
      refine xw.s (pc' := 25) (st' := []) (L' := [some (.inr (some (0, 0))), some (.inr (some (6, a1))), some (.inr none), some (.inl (0 : Int32)), some (.inr (some (5, k17))), none]) rfl ?_
      refine xw.s (pc' := 26) (st' := [.inr (some (0, 0))]) rfl ?_
      refine xw.s (pc' := 27) (st' := [.inr (some (6, a1)), .inr (some (0, 0))]) rfl ?_
      refine xw.s (pc' := 28) (st' := [.inr none, .inr (some (6, a1)), .inr (some (0, 0))]) rfl ?_
      refine xw.s (pc' := 30) (st' := [.inr (some (5, k17)), .inr none, .inr (some (6, a1)), .inr (some (0, 0))]) rfl ?_
      refine xw.call (m := 17) (as := [.inr (some (0, 0)), .inr (some (6, a1)), .inr none, .inr (some (5, k17))]) (nx := 33) (L' := [some (.inr (some (0, 0))), some (.inr (some (6, a1))), some (.inr none), some (.inl (0 : Int32)), some (.inr (some (5, k17))), none]) (st' := []) rfl (xc.mono h ?_)
      rintro r S19 ⟨t21, rfl, hC20, h⟩
      show xw _ _ 33 [some (.inr (some (0, 0))), some (.inr (some (6, a1))), some (.inr none), some (.inl (0 : Int32)), some (.inr (some (5, k17))), none] [.inr (xo 2 t21)] _ _
      refine xw.s (pc' := 35) (st' := []) (L' := [some (.inr (some (0, 0))), some (.inr (some (6, a1))), some (.inr none), some (.inl (0 : Int32)), some (.inr (some (5, k17))), some (.inr (xo 2 t21))]) rfl ?_
      refine xw.s (pc' := 37) (st' := [.inr (some (5, k17))]) rfl ?_
      refine xw.s (pc' := 53) (st' := []) rfl ?_
      refine xw.s (pc' := 54) (st' := [.inr (some (0, 0))]) rfl ?_
      refine xw.s (pc' := 56) (st' := [.inr (xo 2 t21), .inr (some (0, 0))]) rfl ?_
      refine xw.s (pc' := 58) (st' := [.inr (some (5, k17)), .inr (xo 2 t21), .inr (some (0, 0))]) rfl ?_
      refine xw.call (m := 19) (as := [.inr (some (0, 0)), .inr (xo 2 t21), .inr (some (5, k17))]) (nx := 61) (L' := [some (.inr (some (0, 0))), some (.inr (some (6, a1))), some (.inr none), some (.inl (0 : Int32)), some (.inr (some (5, k17))), some (.inr (xo 2 t21))]) (st' := []) rfl (xc.mono h ?_)
      rintro r S22 ⟨rfl, hC23, h⟩
      show xw _ _ 61 [some (.inr (some (0, 0))), some (.inr (some (6, a1))), some (.inr none), some (.inl (0 : Int32)), some (.inr (some (5, k17))), some (.inr (xo 2 t21))] [] _ _
      exact xw.ret (r := none) rfl h
  · replace h := h.2 k1 rfl
    show xw _ _ 8 [some (.inr (some (0, 0))), some (.inr (some (6, a1))), some (.inr (some (2, k1))), none, none, none] [] _ _
    refine xw.s (pc' := 9) (st' := [.inr (some (2, k1))]) rfl ?_
    refine xw.fi (c := 2) (j := 3) (ty := 0) (nx := 12) (v := (xm_i S 2 k1 3)) rfl rfl rfl ?_
    refine xw.s (pc' := 13) (st' := [.inl (1 : Int32), .inl (xm_i S 2 k1 3)]) rfl ?_
    refine xw.s (pc' := 14) (st' := [.inl ((xm_i S 2 k1 3) + (1 : Int32))]) rfl ?_
    refine xw.s (pc' := 15) (st' := []) (L' := [some (.inr (some (0, 0))), some (.inr (some (6, a1))), some (.inr (some (2, k1))), some (.inl ((xm_i S 2 k1 3) + (1 : Int32))), none, none]) rfl ?_
    refine xw.s (pc' := 16) (st' := [.inr (some (6, a1))]) rfl ?_
    obtain ⟨t24, q25⟩ : ∃ t, (xm_r S 6 a1 1) = t := ⟨_, rfl⟩
    replace h := h t24 q25
    refine xw.fr (c := 6) (j := 1) (e := 10) (nx := 19) (t := t24) rfl rfl q25 ?_
    show xw _ _ _ [some (.inr (some (0, 0))), some (.inr (some (6, a1))), some (.inr (some (2, k1))), some (.inl ((xm_i S 2 k1 3) + (1 : Int32))), none, none] [.inr (xo 10 t24)] _ _
    refine xw.s (pc' := 20) (st' := [.inl ((xm_i S 2 k1 3) + (1 : Int32)), .inr (xo 10 t24)]) rfl ?_
    obtain ⟨k26, rfl, h⟩ := h
    refine xw.call (m := 111) (as := [.inr (some (10, k26)), .inl ((xm_i S 2 k1 3) + (1 : Int32))]) (nx := 23) (L' := [some (.inr (some (0, 0))), some (.inr (some (6, a1))), some (.inr (some (2, k1))), some (.inl ((xm_i S 2 k1 3) + (1 : Int32))), none, none]) (st' := []) rfl ?_
    show xw _ _ _ [some (.inr (some (10, k26))), some (.inl ((xm_i S 2 k1 3) + (1 : Int32)))] [] _ _
    refine xw.s (pc' := 1) (st' := [.inl ((xm_i S 2 k1 3) + (1 : Int32))]) rfl ?_
    refine xw.b (c := ((xm_i S 2 k1 3) + (1 : Int32)) < (0 : Int32)) (cd := .lt) (x := ((xm_i S 2 k1 3) + (1 : Int32))) (y := (0 : Int32)) 29 4 (st' := []) rfl (y_clt _ _) h (fun c27 h => ?_) (fun c27 h => ?_)
    · skip
      refine xw.s (pc' := 30) (st' := [.inr none]) rfl ?_
      refine xw.ret (r := some (.inr none)) rfl ?_
      show xw _ _ 23 [some (.inr (some (0, 0))), some (.inr (some (6, a1))), some (.inr (some (2, k1))), some (.inl ((xm_i S 2 k1 3) + (1 : Int32))), none, none] [.inr none] S _
      refine xw.s (pc' := 25) (st' := []) (L' := [some (.inr (some (0, 0))), some (.inr (some (6, a1))), some (.inr (some (2, k1))), some (.inl ((xm_i S 2 k1 3) + (1 : Int32))), some (.inr none), none]) rfl ?_
      refine xw.s (pc' := 26) (st' := [.inr (some (0, 0))]) rfl ?_
      refine xw.s (pc' := 27) (st' := [.inr (some (6, a1)), .inr (some (0, 0))]) rfl ?_
      refine xw.s (pc' := 28) (st' := [.inr (some (2, k1)), .inr (some (6, a1)), .inr (some (0, 0))]) rfl ?_
      refine xw.s (pc' := 30) (st' := [.inr none, .inr (some (2, k1)), .inr (some (6, a1)), .inr (some (0, 0))]) rfl ?_
      refine xw.call (m := 17) (as := [.inr (some (0, 0)), .inr (some (6, a1)), .inr (some (2, k1)), .inr none]) (nx := 33) (L' := [some (.inr (some (0, 0))), some (.inr (some (6, a1))), some (.inr (some (2, k1))), some (.inl ((xm_i S 2 k1 3) + (1 : Int32))), some (.inr none), none]) (st' := []) rfl (xc.mono h ?_)
      rintro r S28 ⟨t30, rfl, hC29, h⟩
      show xw _ _ 33 [some (.inr (some (0, 0))), some (.inr (some (6, a1))), some (.inr (some (2, k1))), some (.inl ((xm_i S 2 k1 3) + (1 : Int32))), some (.inr none), none] [.inr (xo 2 t30)] _ _
      refine xw.s (pc' := 35) (st' := []) (L' := [some (.inr (some (0, 0))), some (.inr (some (6, a1))), some (.inr (some (2, k1))), some (.inl ((xm_i S 2 k1 3) + (1 : Int32))), some (.inr none), some (.inr (xo 2 t30))]) rfl ?_
      refine xw.s (pc' := 37) (st' := [.inr none]) rfl ?_
      refine xw.s (pc' := 40) (st' := []) rfl ?_
      refine xw.s (pc' := 41) (st' := [.inr (some (0, 0))]) rfl ?_
      refine xw.s (pc' := 43) (st' := [.inr (xo 2 t30), .inr (some (0, 0))]) rfl ?_
      refine xw.s (pc' := 44) (st' := [.inr (some (6, a1)), .inr (xo 2 t30), .inr (some (0, 0))]) rfl ?_
      obtain ⟨t31, q32⟩ : ∃ t, (xm_r S28 6 a1 2) = t := ⟨_, rfl⟩
      replace h := h t31 q32
      refine xw.fr (c := 6) (j := 2) (e := 9) (nx := 47) (t := t31) rfl rfl q32 ?_
      show xw _ _ _ [some (.inr (some (0, 0))), some (.inr (some (6, a1))), some (.inr (some (2, k1))), some (.inl ((xm_i S 2 k1 3) + (1 : Int32))), some (.inr none), some (.inr (xo 2 t30))] [.inr (xo 9 t31), .inr (xo 2 t30), .inr (some (0, 0))] _ _
      refine xw.call (m := 18) (as := [.inr (some (0, 0)), .inr (xo 2 t30), .inr (xo 9 t31)]) (nx := 50) (L' := [some (.inr (some (0, 0))), some (.inr (some (6, a1))), some (.inr (some (2, k1))), some (.inl ((xm_i S 2 k1 3) + (1 : Int32))), some (.inr none), some (.inr (xo 2 t30))]) (st' := []) rfl (xc.mono h ?_)
      rintro r S33 ⟨rfl, hC34, h⟩
      show xw _ _ 50 [some (.inr (some (0, 0))), some (.inr (some (6, a1))), some (.inr (some (2, k1))), some (.inl ((xm_i S 2 k1 3) + (1 : Int32))), some (.inr none), some (.inr (xo 2 t30))] [] _ _
      refine xw.s (pc' := 61) (st' := []) rfl ?_
      exact xw.ret (r := none) rfl h
    · skip
      refine xw.s (pc' := 5) (st' := [.inl ((xm_i S 2 k1 3) + (1 : Int32))]) rfl ?_
      refine xw.s (pc' := 6) (st' := [.inr (some (10, k26)), .inl ((xm_i S 2 k1 3) + (1 : Int32))]) rfl ?_
      obtain ⟨t35, q36⟩ : ∃ t, (xm_r S 10 k26 0) = t := ⟨_, rfl⟩
      replace h := h t35 q36
      refine xw.fr (c := 10) (j := 0) (e := 12) (nx := 9) (t := t35) rfl rfl q36 ?_
      show xw _ _ _ [some (.inr (some (10, k26))), some (.inl ((xm_i S 2 k1 3) + (1 : Int32)))] [.inr (xo 12 t35), .inl ((xm_i S 2 k1 3) + (1 : Int32))] _ _
      obtain ⟨k37, rfl, h⟩ := h
      refine xw.lsz (nx := 12) (n := (xm_n S 1 k37)) rfl (Nat.le_of_ble_eq_true rfl) rfl ?_
      refine xw.b (c := (nI (xm_n S 1 k37)) ≤ ((xm_i S 2 k1 3) + (1 : Int32))) (cd := .ge) (x := ((xm_i S 2 k1 3) + (1 : Int32))) (y := (nI (xm_n S 1 k37))) 29 15 (st' := []) rfl (y_cge _ _) h (fun c38 h => ?_) (fun c38 h => ?_)
      · skip
        refine xw.s (pc' := 30) (st' := [.inr none]) rfl ?_
        refine xw.ret (r := some (.inr none)) rfl ?_
        show xw _ _ 23 [some (.inr (some (0, 0))), some (.inr (some (6, a1))), some (.inr (some (2, k1))), some (.inl ((xm_i S 2 k1 3) + (1 : Int32))), none, none] [.inr none] S _
        refine xw.s (pc' := 25) (st' := []) (L' := [some (.inr (some (0, 0))), some (.inr (some (6, a1))), some (.inr (some (2, k1))), some (.inl ((xm_i S 2 k1 3) + (1 : Int32))), some (.inr none), none]) rfl ?_
        refine xw.s (pc' := 26) (st' := [.inr (some (0, 0))]) rfl ?_
        refine xw.s (pc' := 27) (st' := [.inr (some (6, a1)), .inr (some (0, 0))]) rfl ?_
        refine xw.s (pc' := 28) (st' := [.inr (some (2, k1)), .inr (some (6, a1)), .inr (some (0, 0))]) rfl ?_
        refine xw.s (pc' := 30) (st' := [.inr none, .inr (some (2, k1)), .inr (some (6, a1)), .inr (some (0, 0))]) rfl ?_
        refine xw.call (m := 17) (as := [.inr (some (0, 0)), .inr (some (6, a1)), .inr (some (2, k1)), .inr none]) (nx := 33) (L' := [some (.inr (some (0, 0))), some (.inr (some (6, a1))), some (.inr (some (2, k1))), some (.inl ((xm_i S 2 k1 3) + (1 : Int32))), some (.inr none), none]) (st' := []) rfl (xc.mono h ?_)
        rintro r S39 ⟨t41, rfl, hC40, h⟩
        show xw _ _ 33 [some (.inr (some (0, 0))), some (.inr (some (6, a1))), some (.inr (some (2, k1))), some (.inl ((xm_i S 2 k1 3) + (1 : Int32))), some (.inr none), none] [.inr (xo 2 t41)] _ _
        refine xw.s (pc' := 35) (st' := []) (L' := [some (.inr (some (0, 0))), some (.inr (some (6, a1))), some (.inr (some (2, k1))), some (.inl ((xm_i S 2 k1 3) + (1 : Int32))), some (.inr none), some (.inr (xo 2 t41))]) rfl ?_
        refine xw.s (pc' := 37) (st' := [.inr none]) rfl ?_
        refine xw.s (pc' := 40) (st' := []) rfl ?_
        refine xw.s (pc' := 41) (st' := [.inr (some (0, 0))]) rfl ?_
        refine xw.s (pc' := 43) (st' := [.inr (xo 2 t41), .inr (some (0, 0))]) rfl ?_
        refine xw.s (pc' := 44) (st' := [.inr (some (6, a1)), .inr (xo 2 t41), .inr (some (0, 0))]) rfl ?_
        obtain ⟨t42, q43⟩ : ∃ t, (xm_r S39 6 a1 2) = t := ⟨_, rfl⟩
        replace h := h t42 q43
        refine xw.fr (c := 6) (j := 2) (e := 9) (nx := 47) (t := t42) rfl rfl q43 ?_
        show xw _ _ _ [some (.inr (some (0, 0))), some (.inr (some (6, a1))), some (.inr (some (2, k1))), some (.inl ((xm_i S 2 k1 3) + (1 : Int32))), some (.inr none), some (.inr (xo 2 t41))] [.inr (xo 9 t42), .inr (xo 2 t41), .inr (some (0, 0))] _ _
        refine xw.call (m := 18) (as := [.inr (some (0, 0)), .inr (xo 2 t41), .inr (xo 9 t42)]) (nx := 50) (L' := [some (.inr (some (0, 0))), some (.inr (some (6, a1))), some (.inr (some (2, k1))), some (.inl ((xm_i S 2 k1 3) + (1 : Int32))), some (.inr none), some (.inr (xo 2 t41))]) (st' := []) rfl (xc.mono h ?_)
        rintro r S44 ⟨rfl, hC45, h⟩
        show xw _ _ 50 [some (.inr (some (0, 0))), some (.inr (some (6, a1))), some (.inr (some (2, k1))), some (.inl ((xm_i S 2 k1 3) + (1 : Int32))), some (.inr none), some (.inr (xo 2 t41))] [] _ _
        refine xw.s (pc' := 61) (st' := []) rfl ?_
        exact xw.ret (r := none) rfl h
      · skip
        refine xw.s (pc' := 16) (st' := [.inr (some (10, k26))]) rfl ?_
        refine xw.fr (c := 10) (j := 0) (e := 12) (nx := 19) (t := (some k37)) rfl rfl q36 ?_
        show xw _ _ _ [some (.inr (some (10, k26))), some (.inl ((xm_i S 2 k1 3) + (1 : Int32)))] [.inr (some (12, k37))] _ _
        refine xw.s (pc' := 20) (st' := [.inl ((xm_i S 2 k1 3) + (1 : Int32)), .inr (some (12, k37))]) rfl ?_
        obtain ⟨z46, h⟩ := h
        obtain ⟨k47, q48, h⟩ := h
        refine xw.get (nx := 23) (p := (5, k47)) rfl (Nat.le_of_ble_eq_true rfl) z46 q48 ?_
        refine xw.s (pc' := 26) (st' := [.inr (some (5, k47))]) rfl ?_
        refine xw.s (pc' := 30) (st' := [.inr (some (5, k47))]) rfl ?_
        refine xw.ret (r := some (.inr (some (5, k47)))) rfl ?_
        show xw _ _ 23 [some (.inr (some (0, 0))), some (.inr (some (6, a1))), some (.inr (some (2, k1))), some (.inl ((xm_i S 2 k1 3) + (1 : Int32))), none, none] [.inr (some (5, k47))] S _
        refine xw.s (pc' := 25) (st' := []) (L' := [some (.inr (some (0, 0))), some (.inr (some (6, a1))), some (.inr (some (2, k1))), some (.inl ((xm_i S 2 k1 3) + (1 : Int32))), some (.inr (some (5, k47))), none]) rfl ?_
        refine xw.s (pc' := 26) (st' := [.inr (some (0, 0))]) rfl ?_
        refine xw.s (pc' := 27) (st' := [.inr (some (6, a1)), .inr (some (0, 0))]) rfl ?_
        refine xw.s (pc' := 28) (st' := [.inr (some (2, k1)), .inr (some (6, a1)), .inr (some (0, 0))]) rfl ?_
        refine xw.s (pc' := 30) (st' := [.inr (some (5, k47)), .inr (some (2, k1)), .inr (some (6, a1)), .inr (some (0, 0))]) rfl ?_
        refine xw.call (m := 17) (as := [.inr (some (0, 0)), .inr (some (6, a1)), .inr (some (2, k1)), .inr (some (5, k47))]) (nx := 33) (L' := [some (.inr (some (0, 0))), some (.inr (some (6, a1))), some (.inr (some (2, k1))), some (.inl ((xm_i S 2 k1 3) + (1 : Int32))), some (.inr (some (5, k47))), none]) (st' := []) rfl (xc.mono h ?_)
        rintro r S49 ⟨t51, rfl, hC50, h⟩
        show xw _ _ 33 [some (.inr (some (0, 0))), some (.inr (some (6, a1))), some (.inr (some (2, k1))), some (.inl ((xm_i S 2 k1 3) + (1 : Int32))), some (.inr (some (5, k47))), none] [.inr (xo 2 t51)] _ _
        refine xw.s (pc' := 35) (st' := []) (L' := [some (.inr (some (0, 0))), some (.inr (some (6, a1))), some (.inr (some (2, k1))), some (.inl ((xm_i S 2 k1 3) + (1 : Int32))), some (.inr (some (5, k47))), some (.inr (xo 2 t51))]) rfl ?_
        refine xw.s (pc' := 37) (st' := [.inr (some (5, k47))]) rfl ?_
        refine xw.s (pc' := 53) (st' := []) rfl ?_
        refine xw.s (pc' := 54) (st' := [.inr (some (0, 0))]) rfl ?_
        refine xw.s (pc' := 56) (st' := [.inr (xo 2 t51), .inr (some (0, 0))]) rfl ?_
        refine xw.s (pc' := 58) (st' := [.inr (some (5, k47)), .inr (xo 2 t51), .inr (some (0, 0))]) rfl ?_
        refine xw.call (m := 19) (as := [.inr (some (0, 0)), .inr (xo 2 t51), .inr (some (5, k47))]) (nx := 61) (L' := [some (.inr (some (0, 0))), some (.inr (some (6, a1))), some (.inr (some (2, k1))), some (.inl ((xm_i S 2 k1 3) + (1 : Int32))), some (.inr (some (5, k47))), some (.inr (xo 2 t51))]) (st' := []) rfl (xc.mono h ?_)
        rintro r S52 ⟨rfl, hC53, h⟩
        show xw _ _ 61 [some (.inr (some (0, 0))), some (.inr (some (6, a1))), some (.inr (some (2, k1))), some (.inl ((xm_i S 2 k1 3) + (1 : Int32))), some (.inr (some (5, k47))), some (.inr (xo 2 t51))] [] _ _
        exact xw.ret (r := none) rfl h
/-- addCall -/
theorem cw_addCall {d : Nat} {a1 : Nat} {a2 : Option Nat} {a3 : Option Nat} {S : xm_S} {Q : Option xm_V → xm_S → Prop} (hC : xk_C S) (h : ∀ k1, k1 = xm_n S 0 2 → (∀ S3, S3 = xm_mk 2 20 S → (xc d 93 [.inr (some (2, k1)), .inl (nI (xm_n S3 1 6)), .inr (some (6, a1)), .inr (xo 2 a2), .inr (xo 5 a3), .inl (xm_i S 0 0 13)] S3 (fun r S5 => r = none ∧ xk_C S5 ∧ (xm_n S5 2 6 ≠ 0 ∧ xm_n S5 1 6 < 100000 ∧ (∀ S9, S9 = xm_push 6 (2, k1) S5 → (xm_n S9 2 7 ≠ 0 ∧ xm_n S9 1 7 < 100000 ∧ (∀ S13, S13 = xm_push 7 (2, k1) S9 → ((a2 = none → ∀ S16, S16 = xm_sr S13 6 a1 6 (some k1) → (Q (some (.inr (some (2, k1)))) S16)) ∧ (∀ k15, a2 = some k15 → ∀ t18, (xm_r S5 2 k15 17) = t18 → (∀ S20, S20 = xm_sr S13 2 k1 18 t18 → (∀ S22, S22 = xm_sr S20 2 k15 17 (some k1) → (∀ S24, S24 = xm_si S22 2 k15 16 ((xm_i S5 2 k15 16) + (1 : Int32)) → (Q (some (.inr (some (2, k1)))) S24)))))))))))))) : xc (d + 1) 17 [.inr (some (0, 0)), .inr (some (6, a1)), .inr (xo 2 a2), .inr (xo 5 a3)] S Q := by
  show xw _ _ _ [some (.inr (some (0, 0))), some (.inr (some (6, a1))), some (.inr (xo 2 a2)), some (.inr (xo 5 a3)), none] _ _ _
  refine xw.s (pc' := 3) (st' := [.inr (some (2, (xm_n S 0 2)))]) (S1 := xm_mk 2 20 S) rfl ?_
  obtain ⟨k1, q2⟩ : ∃ k, k = xm_n S 0 2 := ⟨_, rfl⟩
  rw [← q2]
  replace h := h k1 q2
  obtain ⟨S3, e4⟩ : ∃ s, s = xm_mk 2 20 S := ⟨_, rfl⟩
  rw [← e4]
  replace h := h S3 e4
  refine xw.s (pc' := 4) (st' := [.inr (some (2, k1)), .inr (some (2, k1))]) rfl ?_
  refine xw.s (pc' := 5) (st' := [.inr (some (0, 0)), .inr (some (2, k1)), .inr (some (2, k1))]) rfl ?_
  refine xw.fr (c := 0) (j := 6) (e := 12) (nx := 8) (t := (some 6)) rfl rfl ((congrArg (fun s => xm_r s 0 0 6) e4).trans ((xr_mk (by decide)).trans (hC 6 (by decide)))) ?_
  show xw _ _ _ [some (.inr (some (0, 0))), some (.inr (some (6, a1))), some (.inr (xo 2 a2)), some (.inr (xo 5 a3)), none] [.inr (some (12, 6)), .inr (some (2, k1)), .inr (some (2, k1))] _ _
  refine xw.lsz (nx := 11) (n := (xm_n S3 1 6)) rfl (Nat.le_of_ble_eq_true rfl) rfl ?_
  refine xw.s (pc' := 12) (st' := [.inr (some (6, a1)), .inl (nI (xm_n S3 1 6)), .inr (some (2, k1)), .inr (some (2, k1))]) rfl ?_
  refine xw.s (pc' := 13) (st' := [.inr (xo 2 a2), .inr (some (6, a1)), .inl (nI (xm_n S3 1 6)), .inr (some (2, k1)), .inr (some (2, k1))]) rfl ?_
  refine xw.s (pc' := 14) (st' := [.inr (xo 5 a3), .inr (xo 2 a2), .inr (some (6, a1)), .inl (nI (xm_n S3 1 6)), .inr (some (2, k1)), .inr (some (2, k1))]) rfl ?_
  refine xw.s (pc' := 15) (st' := [.inr (some (0, 0)), .inr (xo 5 a3), .inr (xo 2 a2), .inr (some (6, a1)), .inl (nI (xm_n S3 1 6)), .inr (some (2, k1)), .inr (some (2, k1))]) rfl ?_
  refine xw.fi (c := 0) (j := 13) (ty := 0) (nx := 18) (v := (xm_i S 0 0 13)) rfl rfl ((congrArg (fun s => xm_i s 0 0 13) e4).trans (xi_mk (by decide))) ?_
  refine xw.call (m := 93) (as := [.inr (some (2, k1)), .inl (nI (xm_n S3 1 6)), .inr (some (6, a1)), .inr (xo 2 a2), .inr (xo 5 a3), .inl (xm_i S 0 0 13)]) (nx := 21) (L' := [some (.inr (some (0, 0))), some (.inr (some (6, a1))), some (.inr (xo 2 a2)), some (.inr (xo 5 a3)), none]) (st' := [.inr (some (2, k1))]) rfl (xc.mono h ?_)
  rintro r S5 ⟨rfl, hC6, h⟩
  show xw _ _ 21 [some (.inr (some (0, 0))), some (.inr (some (6, a1))), some (.inr (xo 2 a2)), some (.inr (xo 5 a3)), none] [.inr (some (2, k1))] _ _
  refine xw.s (pc' := 23) (st' := []) (L' := [some (.inr (some (0, 0))), some (.inr (some (6, a1))), some (.inr (xo 2 a2)), some (.inr (xo 5 a3)), some (.inr (some (2, k1)))]) rfl ?_
  refine xw.s (pc' := 24) (st' := [.inr (some (0, 0))]) rfl ?_
  refine xw.fr (c := 0) (j := 6) (e := 12) (nx := 27) (t := (some 6)) rfl rfl (hC6 6 (by decide)) ?_
  show xw _ _ _ [some (.inr (some (0, 0))), some (.inr (some (6, a1))), some (.inr (xo 2 a2)), some (.inr (xo 5 a3)), some (.inr (some (2, k1)))] [.inr (some (12, 6))] _ _
  refine xw.s (pc' := 29) (st' := [.inr (some (2, k1)), .inr (some (12, 6))]) rfl ?_
  obtain ⟨z7, z8, h⟩ := h
  refine xw.ladd (nx := 32) rfl (Nat.le_of_ble_eq_true rfl) (by decide) z7 z8 ?_
  obtain ⟨S9, e10⟩ : ∃ s, s = xm_push 6 (2, k1) S5 := ⟨_, rfl⟩
  rw [← e10]
  replace h := h S9 e10
  refine xw.s (pc' := 33) (st' := []) rfl ?_
  refine xw.s (pc' := 34) (st' := [.inr (some (0, 0))]) rfl ?_
  refine xw.fr (c := 0) (j := 7) (e := 12) (nx := 37) (t := (some 7)) rfl rfl ((congrArg (fun s => xm_r s 0 0 7) e10).trans (xr_push.trans (hC6 7 (by decide)))) ?_
  show xw _ _ _ [some (.inr (some (0, 0))), some (.inr (some (6, a1))), some (.inr (xo 2 a2)), some (.inr (xo 5 a3)), some (.inr (some (2, k1)))] [.inr (some (12, 7))] _ _
  refine xw.s (pc' := 39) (st' := [.inr (some (2, k1)), .inr (some (12, 7))]) rfl ?_
  obtain ⟨z11, z12, h⟩ := h
  refine xw.ladd (nx := 42) rfl (Nat.le_of_ble_eq_true rfl) (by decide) z11 z12 ?_
  obtain ⟨S13, e14⟩ : ∃ s, s = xm_push 7 (2, k1) S9 := ⟨_, rfl⟩
  rw [← e14]
  replace h := h S13 e14
  refine xw.s (pc' := 43) (st' := []) rfl ?_
  refine xw.s (pc' := 44) (st' := [.inr (xo 2 a2)]) rfl ?_
  refine xw.nnul (o := a2) (t := 56) (nx := 47) rfl rfl ?_
  rcases a2 with _ | k15
  · replace h := h.1 rfl
    show xw _ _ 47 [some (.inr (some (0, 0))), some (.inr (some (6, a1))), some (.inr none), some (.inr (xo 5 a3)), some (.inr (some (2, k1)))] [] _ _
    refine xw.s (pc' := 48) (st' := [.inr (some (6, a1))]) rfl ?_
    refine xw.s (pc' := 50) (st' := [.inr (some (2, k1)), .inr (some (6, a1))]) rfl ?_
    refine xw.fq (c := 6) (j := 6) (e := 2) (nx := 53) (t := (some k1)) rfl rfl ?_
    obtain ⟨S16, e17⟩ : ∃ s, s = xm_sr S13 6 a1 6 (some k1) := ⟨_, rfl⟩
    rw [← e17]
    replace h := h S16 e17
    refine xw.s (pc' := 81) (st' := []) rfl ?_
    refine xw.s (pc' := 83) (st' := [.inr (some (2, k1))]) rfl ?_
    exact xw.ret (r := (some (.inr (some (2, k1))))) rfl h
  · replace h := h.2 k15 rfl
    show xw _ _ 56 [some (.inr (some (0, 0))), some (.inr (some (6, a1))), some (.inr (some (2, k15))), some (.inr (xo 5 a3)), some (.inr (some (2, k1)))] [] _ _
    refine xw.s (pc' := 58) (st' := [.inr (some (2, k1))]) rfl ?_
    refine xw.s (pc' := 59) (st' := [.inr (some (2, k15)), .inr (some (2, k1))]) rfl ?_
    obtain ⟨t18, q19⟩ : ∃ t, (xm_r S5 2 k15 17) = t := ⟨_, rfl⟩
    replace h := h t18 q19
    refine xw.fr (c := 2) (j := 17) (e := 2) (nx := 62) (t := t18) rfl rfl (((congrArg (fun s => xm_r s 2 k15 17) e14).trans (xr_push.trans ((congrArg (fun s => xm_r s 2 k15 17) e10).trans xr_push))).trans q19) ?_
    show xw _ _ _ [some (.inr (some (0, 0))), some (.inr (some (6, a1))), some (.inr (some (2, k15))), some (.inr (xo 5 a3)), some (.inr (some (2, k1)))] [.inr (xo 2 t18), .inr (some (2, k1))] _ _
    refine xw.fq (c := 2) (j := 18) (e := 2) (nx := 65) (t := t18) rfl rfl ?_
    obtain ⟨S20, e21⟩ : ∃ s, s = xm_sr S13 2 k1 18 t18 := ⟨_, rfl⟩
    rw [← e21]
    replace h := h S20 e21
    refine xw.s (pc' := 66) (st' := [.inr (some (2, k15))]) rfl ?_
    refine xw.s (pc' := 68) (st' := [.inr (some (2, k1)), .inr (some (2, k15))]) rfl ?_
    refine xw.fq (c := 2) (j := 17) (e := 2) (nx := 71) (t := (some k1)) rfl rfl ?_
    obtain ⟨S22, e23⟩ : ∃ s, s = xm_sr S20 2 k15 17 (some k1) := ⟨_, rfl⟩
    rw [← e23]
    replace h := h S22 e23
    refine xw.s (pc' := 72) (st' := [.inr (some (2, k15))]) rfl ?_
    refine xw.s (pc' := 73) (st' := [.inr (some (2, k15)), .inr (some (2, k15))]) rfl ?_
    refine xw.fi (c := 2) (j := 16) (ty := 0) (nx := 76) (v := (xm_i S5 2 k15 16)) rfl rfl ((congrArg (fun s => xm_i s 2 k15 16) e23).trans ((congrArg (fun s => xm_i s 2 k15 16) e21).trans ((congrArg (fun s => xm_i s 2 k15 16) e14).trans (xi_push.trans ((congrArg (fun s => xm_i s 2 k15 16) e10).trans xi_push))))) ?_
    refine xw.s (pc' := 77) (st' := [.inl (1 : Int32), .inl (xm_i S5 2 k15 16), .inr (some (2, k15))]) rfl ?_
    refine xw.s (pc' := 78) (st' := [.inl ((xm_i S5 2 k15 16) + (1 : Int32)), .inr (some (2, k15))]) rfl ?_
    refine xw.fp (c := 2) (j := 16) (ty := 0) (nx := 81) rfl rfl (Or.inl rfl) ?_
    obtain ⟨S24, e25⟩ : ∃ s, s = xm_si S22 2 k15 16 ((xm_i S5 2 k15 16) + (1 : Int32)) := ⟨_, rfl⟩
    rw [← e25]
    replace h := h S24 e25
    refine xw.s (pc' := 83) (st' := [.inr (some (2, k1))]) rfl ?_
    exact xw.ret (r := (some (.inr (some (2, k1))))) rfl h
/-- startTry -/
theorem cw_startTry {d : Nat} {a1 : Nat} {a2 : Nat} {S : xm_S} {Q : Option xm_V → xm_S → Prop} (hC : xk_C S) (h : xw (d + 1) 18 8 [some (.inr (some (0, 0))), some (.inr (some (2, a1))), some (.inr (some (9, a2))), some (.inl (xm_i S 9 a2 2)), some (.inl (0 : Int32))] [] S Q) : xc (d + 1) 18 [.inr (some (0, 0)), .inr (some (2, a1)), .inr (some (9, a2))] S Q := by
  show xw _ _ _ [some (.inr (some (0, 0))), some (.inr (some (2, a1))), some (.inr (some (9, a2))), none, none] _ _ _
  refine xw.s (pc' := 1) (st' := [.inr (some (9, a2))]) rfl ?_
  refine xw.fi (c := 9) (j := 2) (ty := 0) (nx := 4) (v := (xm_i S 9 a2 2)) rfl rfl rfl ?_
  refine xw.s (pc' := 5) (st' := []) (L' := [some (.inr (some (0, 0))), some (.inr (some (2, a1))), some (.inr (some (9, a2))), some (.inl (xm_i S 9 a2 2)), none]) rfl ?_
  refine xw.s (pc' := 6) (st' := [.inl (0 : Int32)]) rfl ?_
  refine xw.s (pc' := 8) (st' := []) (L' := [some (.inr (some (0, 0))), some (.inr (some (2, a1))), some (.inr (some (9, a2))), some (.inl (xm_i S 9 a2 2)), some (.inl (0 : Int32))]) rfl ?_
  exact h
theorem cw_startTry_8 {d : Nat} {l1 : Nat} {l2 : Nat} {l3 : Int32} {l4 : Int32} {S : xm_S} {Q : Option xm_V → xm_S → Prop} (hC : xk_C S) (h : ((nI (xm_n S 1 2)) ≤ l4 → ∀ S2, S2 = xm_sr S 2 l1 6 (some l2) → (∀ S4, S4 = xm_si S2 2 l1 12 ((xm_i S 0 0 13) + l3) → (Q none S4))) ∧ (¬ (nI (xm_n S 1 2)) ≤ l4 → y_in l4 (xm_n S 1 2) ∧ (∃ k7, (xm_l S 2 (y_ix l4)) = (8, k7) ∧ (∀ t9, (xm_r S 2 l1 1) = t9 → (∃ k11, t9 = some k11 ∧ (∀ t12, (xm_r S 8 k7 0) = t12 → ((t12 = some l2 → ((xm_i S 8 k7 1) = (xm_i S 6 k11 3) → ((xm_i S 0 0 13) < (xm_i S 8 k7 2) → xw (d + 1) 18 8 [some (.inr (some (0, 0))), some (.inr (some (2, l1))), some (.inr (some (9, l2))), some (.inl l3), some (.inl (l4 + (1 : Int32)))] [] S Q) ∧ (¬ (xm_i S 0 0 13) < (xm_i S 8 k7 2) → ((xm_i S 8 k7 3) < (xm_i S 0 0 13) → xw (d + 1) 18 8 [some (.inr (some (0, 0))), some (.inr (some (2, l1))), some (.inr (some (9, l2))), some (.inl l3), some (.inl (l4 + (1 : Int32)))] [] S Q) ∧ (¬ (xm_i S 8 k7 3) < (xm_i S 0 0 13) → y_in l4 (xm_n S 1 2) ∧ (xw (d + 1) 18 8 [some (.inr (some (0, 0))), some (.inr (some (2, l1))), some (.inr (some (9, l2))), some (.inl (l3 + (xm_i S 8 k7 4))), some (.inl (l4 + (1 : Int32)))] [] S Q)))) ∧ (¬ (xm_i S 8 k7 1) = (xm_i S 6 k11 3) → xw (d + 1) 18 8 [some (.inr (some (0, 0))), some (.inr (some (2, l1))), some (.inr (some (9, l2))), some (.inl l3), some (.inl (l4 + (1 : Int32)))] [] S Q)) ∧ (¬ t12 = some l2 → xw (d + 1) 18 8 [some (.inr (some (0, 0))), some (.inr (some (2, l1))), some (.inr (some (9, l2))), some (.inl l3), some (.inl (l4 + (1 : Int32)))] [] S Q)))))))) : xw (d + 1) 18 8 [some (.inr (some (0, 0))), some (.inr (some (2, l1))), some (.inr (some (9, l2))), some (.inl l3), some (.inl l4)] [] S Q := by
  refine xw.s (pc' := 10) (st' := [.inl l4]) rfl ?_
  refine xw.s (pc' := 11) (st' := [.inr (some (0, 0)), .inl l4]) rfl ?_
  refine xw.fr (c := 0) (j := 2) (e := 12) (nx := 14) (t := (some 2)) rfl rfl (hC 2 (by decide)) ?_
  show xw _ _ _ [some (.inr (some (0, 0))), some (.inr (some (2, l1))), some (.inr (some (9, l2))), some (.inl l3), some (.inl l4)] [.inr (some (12, 2)), .inl l4] _ _
  refine xw.lsz (nx := 17) (n := (xm_n S 1 2)) rfl (Nat.le_of_ble_eq_true rfl) rfl ?_
  refine xw.b (c := (nI (xm_n S 1 2)) ≤ l4) (cd := .ge) (x := l4) (y := (nI (xm_n S 1 2))) 74 20 (st' := []) rfl (y_cge _ _) h (fun c1 h => ?_) (fun c1 h => ?_)
  · skip
    refine xw.s (pc' := 75) (st' := [.inr (some (2, l1))]) rfl ?_
    refine xw.s (pc' := 76) (st' := [.inr (some (9, l2)), .inr (some (2, l1))]) rfl ?_
    refine xw.fq (c := 2) (j := 6) (e := 9) (nx := 79) (t := (some l2)) rfl rfl ?_
    obtain ⟨S2, e3⟩ : ∃ s, s = xm_sr S 2 l1 6 (some l2) := ⟨_, rfl⟩
    rw [← e3]
    replace h := h S2 e3
    refine xw.s (pc' := 80) (st' := [.inr (some (2, l1))]) rfl ?_
    refine xw.s (pc' := 81) (st' := [.inr (some (0, 0)), .inr (some (2, l1))]) rfl ?_
    refine xw.fi (c := 0) (j := 13) (ty := 0) (nx := 84) (v := (xm_i S 0 0 13)) rfl rfl ((congrArg (fun s => xm_i s 0 0 13) e3).trans rfl) ?_
    refine xw.s (pc' := 85) (st' := [.inl l3, .inl (xm_i S 0 0 13), .inr (some (2, l1))]) rfl ?_
    refine xw.s (pc' := 86) (st' := [.inl ((xm_i S 0 0 13) + l3), .inr (some (2, l1))]) rfl ?_
    refine xw.fp (c := 2) (j := 12) (ty := 0) (nx := 89) rfl rfl (Or.inl rfl) ?_
    obtain ⟨S4, e5⟩ : ∃ s, s = xm_si S2 2 l1 12 ((xm_i S 0 0 13) + l3) := ⟨_, rfl⟩
    rw [← e5]
    replace h := h S4 e5
    exact xw.ret (r := none) rfl h
  · skip
    refine xw.s (pc' := 21) (st' := [.inr (some (0, 0))]) rfl ?_
    refine xw.fr (c := 0) (j := 2) (e := 12) (nx := 24) (t := (some 2)) rfl rfl (hC 2 (by decide)) ?_
    show xw _ _ _ [some (.inr (some (0, 0))), some (.inr (some (2, l1))), some (.inr (some (9, l2))), some (.inl l3), some (.inl l4)] [.inr (some (12, 2))] _ _
    refine xw.s (pc' := 26) (st' := [.inl l4, .inr (some (12, 2))]) rfl ?_
    obtain ⟨z6, h⟩ := h
    obtain ⟨k7, q8, h⟩ := h
    refine xw.get (nx := 29) (p := (8, k7)) rfl (Nat.le_of_ble_eq_true rfl) z6 q8 ?_
    refine xw.s (pc' := 32) (st' := [.inr (some (8, k7))]) rfl ?_
    refine xw.s (pc' := 33) (st' := [.inr (some (9, l2)), .inr (some (8, k7))]) rfl ?_
    refine xw.s (pc' := 34) (st' := [.inr (some (2, l1)), .inr (some (9, l2)), .inr (some (8, k7))]) rfl ?_
    obtain ⟨t9, q10⟩ : ∃ t, (xm_r S 2 l1 1) = t := ⟨_, rfl⟩
    replace h := h t9 q10
    refine xw.fr (c := 2) (j := 1) (e := 6) (nx := 37) (t := t9) rfl rfl q10 ?_
    show xw _ _ _ [some (.inr (some (0, 0))), some (.inr (some (2, l1))), some (.inr (some (9, l2))), some (.inl l3), some (.inl l4)] [.inr (xo 6 t9), .inr (some (9, l2)), .inr (some (8, k7))] _ _
    obtain ⟨k11, rfl, h⟩ := h
    refine xw.fi (c := 6) (j := 3) (ty := 0) (nx := 40) (v := (xm_i S 6 k11 3)) rfl rfl rfl ?_
    refine xw.s (pc' := 41) (st' := [.inr (some (0, 0)), .inl (xm_i S 6 k11 3), .inr (some (9, l2)), .inr (some (8, k7))]) rfl ?_
    refine xw.fi (c := 0) (j := 13) (ty := 0) (nx := 44) (v := (xm_i S 0 0 13)) rfl rfl rfl ?_
    refine xw.call (m := 107) (as := [.inr (some (8, k7)), .inr (some (9, l2)), .inl (xm_i S 6 k11 3), .inl (xm_i S 0 0 13)]) (nx := 47) (L' := [some (.inr (some (0, 0))), some (.inr (some (2, l1))), some (.inr (some (9, l2))), some (.inl l3), some (.inl l4)]) (st' := []) rfl ?_
    show xw _ _ _ [some (.inr (some (8, k7))), some (.inr (some (9, l2))), some (.inl (xm_i S 6 k11 3)), some (.inl (xm_i S 0 0 13))] [] _ _
    refine xw.s (pc' := 1) (st' := [.inr (some (8, k7))]) rfl ?_
    obtain ⟨t12, q13⟩ : ∃ t, (xm_r S 8 k7 0) = t := ⟨_, rfl⟩
    replace h := h t12 q13
    refine xw.fr (c := 8) (j := 0) (e := 9) (nx := 4) (t := t12) rfl rfl q13 ?_
    show xw _ _ _ [some (.inr (some (8, k7))), some (.inr (some (9, l2))), some (.inl (xm_i S 6 k11 3)), some (.inl (xm_i S 0 0 13))] [.inr (xo 9 t12)] _ _
    refine xw.s (pc' := 5) (st' := [.inr (some (9, l2)), .inr (xo 9 t12)]) rfl ?_
    refine xw.an (c := 9) (a := t12) (b := (some l2)) (cn := t12 = some l2) (t := 36) (nx := 8) rfl rfl (by decide) Iff.rfl h (fun c14 h => ?_) (fun c14 h => ?_)
    · skip
      refine xw.s (pc' := 9) (st' := [.inr (some (8, k7))]) rfl ?_
      refine xw.fi (c := 8) (j := 1) (ty := 0) (nx := 12) (v := (xm_i S 8 k7 1)) rfl rfl rfl ?_
      refine xw.s (pc' := 13) (st' := [.inl (xm_i S 6 k11 3), .inl (xm_i S 8 k7 1)]) rfl ?_
      refine xw.bn (c := (xm_i S 8 k7 1) = (xm_i S 6 k11 3)) (cd := .ne) (x := (xm_i S 8 k7 1)) (y := (xm_i S 6 k11 3)) 36 16 (st' := []) rfl (y_cne _ _) h (fun c15 h => ?_) (fun c15 h => ?_)
      · skip
        refine xw.s (pc' := 17) (st' := [.inl (xm_i S 0 0 13)]) rfl ?_
        refine xw.s (pc' := 18) (st' := [.inr (some (8, k7)), .inl (xm_i S 0 0 13)]) rfl ?_
        refine xw.fi (c := 8) (j := 2) (ty := 0) (nx := 21) (v := (xm_i S 8 k7 2)) rfl rfl rfl ?_
        refine xw.b (c := (xm_i S 0 0 13) < (xm_i S 8 k7 2)) (cd := .lt) (x := (xm_i S 0 0 13)) (y := (xm_i S 8 k7 2)) 36 24 (st' := []) rfl (y_clt _ _) h (fun c16 h => ?_) (fun c16 h => ?_)
        · skip
          refine xw.s (pc' := 37) (st' := [.inl (0 : Int32)]) rfl ?_
          refine xw.retz (nx := 38) rfl (Or.inl rfl) ?_
          show xw _ _ 47 [some (.inr (some (0, 0))), some (.inr (some (2, l1))), some (.inr (some (9, l2))), some (.inl l3), some (.inl l4)] [.inl (0 : Int32)] S _
          refine xw.bt (cd := .eq) (x := (0 : Int32)) (y := (0 : Int32)) 68 50 (st' := []) rfl (y_ceq _ _) (by decide) ?_
          refine xw.s (pc' := 71) (st' := []) (L' := [some (.inr (some (0, 0))), some (.inr (some (2, l1))), some (.inr (some (9, l2))), some (.inl l3), some (.inl (l4 + (1 : Int32)))]) rfl ?_
          refine xw.s (pc' := 8) (st' := []) rfl ?_
          exact h
        · skip
          refine xw.s (pc' := 25) (st' := [.inl (xm_i S 0 0 13)]) rfl ?_
          refine xw.s (pc' := 26) (st' := [.inr (some (8, k7)), .inl (xm_i S 0 0 13)]) rfl ?_
          refine xw.fi (c := 8) (j := 3) (ty := 0) (nx := 29) (v := (xm_i S 8 k7 3)) rfl rfl rfl ?_
          refine xw.b (c := (xm_i S 8 k7 3) < (xm_i S 0 0 13)) (cd := .gt) (x := (xm_i S 0 0 13)) (y := (xm_i S 8 k7 3)) 36 32 (st' := []) rfl (y_cgt _ _) h (fun c17 h => ?_) (fun c17 h => ?_)
          · skip
            refine xw.s (pc' := 37) (st' := [.inl (0 : Int32)]) rfl ?_
            refine xw.retz (nx := 38) rfl (Or.inl rfl) ?_
            show xw _ _ 47 [some (.inr (some (0, 0))), some (.inr (some (2, l1))), some (.inr (some (9, l2))), some (.inl l3), some (.inl l4)] [.inl (0 : Int32)] S _
            refine xw.bt (cd := .eq) (x := (0 : Int32)) (y := (0 : Int32)) 68 50 (st' := []) rfl (y_ceq _ _) (by decide) ?_
            refine xw.s (pc' := 71) (st' := []) (L' := [some (.inr (some (0, 0))), some (.inr (some (2, l1))), some (.inr (some (9, l2))), some (.inl l3), some (.inl (l4 + (1 : Int32)))]) rfl ?_
            refine xw.s (pc' := 8) (st' := []) rfl ?_
            exact h
          · skip
            refine xw.s (pc' := 33) (st' := [.inl (1 : Int32)]) rfl ?_
            refine xw.s (pc' := 37) (st' := [.inl (1 : Int32)]) rfl ?_
            refine xw.retz (nx := 38) rfl (Or.inr rfl) ?_
            show xw _ _ 47 [some (.inr (some (0, 0))), some (.inr (some (2, l1))), some (.inr (some (9, l2))), some (.inl l3), some (.inl l4)] [.inl (1 : Int32)] S _
            refine xw.bf (cd := .eq) (x := (1 : Int32)) (y := (0 : Int32)) 68 50 (st' := []) rfl (y_ceq _ _) (by decide) ?_
            refine xw.s (pc' := 51) (st' := [.inl l3]) rfl ?_
            refine xw.s (pc' := 52) (st' := [.inr (some (0, 0)), .inl l3]) rfl ?_
            refine xw.fr (c := 0) (j := 2) (e := 12) (nx := 55) (t := (some 2)) rfl rfl (hC 2 (by decide)) ?_
            show xw _ _ _ [some (.inr (some (0, 0))), some (.inr (some (2, l1))), some (.inr (some (9, l2))), some (.inl l3), some (.inl l4)] [.inr (some (12, 2)), .inl l3] _ _
            refine xw.s (pc' := 57) (st' := [.inl l4, .inr (some (12, 2)), .inl l3]) rfl ?_
            obtain ⟨z18, h⟩ := h
            refine xw.get (nx := 60) (p := (8, k7)) rfl (Nat.le_of_ble_eq_true rfl) z18 q8 ?_
            refine xw.s (pc' := 63) (st' := [.inr (some (8, k7)), .inl l3]) rfl ?_
            refine xw.fi (c := 8) (j := 4) (ty := 0) (nx := 66) (v := (xm_i S 8 k7 4)) rfl rfl rfl ?_
            refine xw.s (pc' := 67) (st' := [.inl (l3 + (xm_i S 8 k7 4))]) rfl ?_
            refine xw.s (pc' := 68) (st' := []) (L' := [some (.inr (some (0, 0))), some (.inr (some (2, l1))), some (.inr (some (9, l2))), some (.inl (l3 + (xm_i S 8 k7 4))), some (.inl l4)]) rfl ?_
            refine xw.s (pc' := 71) (st' := []) (L' := [some (.inr (some (0, 0))), some (.inr (some (2, l1))), some (.inr (some (9, l2))), some (.inl (l3 + (xm_i S 8 k7 4))), some (.inl (l4 + (1 : Int32)))]) rfl ?_
            refine xw.s (pc' := 8) (st' := []) rfl ?_
            exact h
      · skip
        refine xw.s (pc' := 37) (st' := [.inl (0 : Int32)]) rfl ?_
        refine xw.retz (nx := 38) rfl (Or.inl rfl) ?_
        show xw _ _ 47 [some (.inr (some (0, 0))), some (.inr (some (2, l1))), some (.inr (some (9, l2))), some (.inl l3), some (.inl l4)] [.inl (0 : Int32)] S _
        refine xw.bt (cd := .eq) (x := (0 : Int32)) (y := (0 : Int32)) 68 50 (st' := []) rfl (y_ceq _ _) (by decide) ?_
        refine xw.s (pc' := 71) (st' := []) (L' := [some (.inr (some (0, 0))), some (.inr (some (2, l1))), some (.inr (some (9, l2))), some (.inl l3), some (.inl (l4 + (1 : Int32)))]) rfl ?_
        refine xw.s (pc' := 8) (st' := []) rfl ?_
        exact h
    · skip
      refine xw.s (pc' := 37) (st' := [.inl (0 : Int32)]) rfl ?_
      refine xw.retz (nx := 38) rfl (Or.inl rfl) ?_
      show xw _ _ 47 [some (.inr (some (0, 0))), some (.inr (some (2, l1))), some (.inr (some (9, l2))), some (.inl l3), some (.inl l4)] [.inl (0 : Int32)] S _
      refine xw.bt (cd := .eq) (x := (0 : Int32)) (y := (0 : Int32)) 68 50 (st' := []) rfl (y_ceq _ _) (by decide) ?_
      refine xw.s (pc' := 71) (st' := []) (L' := [some (.inr (some (0, 0))), some (.inr (some (2, l1))), some (.inr (some (9, l2))), some (.inl l3), some (.inl (l4 + (1 : Int32)))]) rfl ?_
      refine xw.s (pc' := 8) (st' := []) rfl ?_
      exact h
/-- enter -/
theorem cw_enter {d : Nat} {a1 : Nat} {a2 : Nat} {S : xm_S} {Q : Option xm_V → xm_S → Prop} (hC : xk_C S) (h : ((xm_i S 5 a2 1) = (0 : Int32) → xc (d + 1) 20 [.inr (some (0, 0)), .inr (some (2, a1)), .inr (some (5, a2))] S (fun r S2 => r = none ∧ xk_C S2 ∧ (Q none S2))) ∧ (¬ (xm_i S 5 a2 1) = (0 : Int32) → ((xm_i S 5 a2 1) = (1 : Int32) → xc (d + 1) 42 [.inr (some (0, 0)), .inr (some (2, a1)), .inr (some (5, a2))] S (fun r S5 => r = none ∧ xk_C S5 ∧ (Q none S5))) ∧ (¬ (xm_i S 5 a2 1) = (1 : Int32) → ((xm_i S 5 a2 1) = (2 : Int32) → xc (d + 1) 43 [.inr (some (0, 0)), .inr (some (2, a1)), .inr (some (5, a2))] S (fun r S8 => r = none ∧ xk_C S8 ∧ (Q none S8))) ∧ (¬ (xm_i S 5 a2 1) = (2 : Int32) → ((xm_i S 5 a2 1) = (3 : Int32) → ∀ S11, S11 = xm_si S 2 a1 12 ((xm_i S 0 0 13) + (xm_i S 5 a2 2)) → (∀ t13, (xm_r S 2 a1 1) = t13 → (xc d 16 [.inr (some (0, 0)), .inr (xo 6 t13), .inr (some (2, a1))] S11 (fun r S15 => r = none ∧ xk_C S15 ∧ (Q none S15))))) ∧ (¬ (xm_i S 5 a2 1) = (3 : Int32) → ((xm_i S 5 a2 1) = (4 : Int32) → ∀ t18, (xm_r S 2 a1 1) = t18 → (xc d 16 [.inr (some (0, 0)), .inr (xo 6 t18), .inr (some (2, a1))] S (fun r S20 => r = none ∧ xk_C S20 ∧ (Q none S20)))) ∧ (¬ (xm_i S 5 a2 1) = (4 : Int32) → ((xm_i S 5 a2 1) = (5 : Int32) → ∀ S23, S23 = xm_si S 2 a1 12 ((xm_i S 0 0 13) + (xm_i S 5 a2 2)) → (∀ t25, (xm_r S 2 a1 1) = t25 → (xc d 16 [.inr (some (0, 0)), .inr (xo 6 t25), .inr (some (2, a1))] S23 (fun r S27 => r = none ∧ xk_C S27 ∧ (Q none S27))))) ∧ (¬ (xm_i S 5 a2 1) = (5 : Int32) → ((xm_i S 5 a2 1) = (6 : Int32) → ∀ t30, (xm_r S 2 a1 1) = t30 → (xc d 16 [.inr (some (0, 0)), .inr (xo 6 t30), .inr (some (2, a1))] S (fun r S32 => r = none ∧ xk_C S32 ∧ (Q none S32)))) ∧ (¬ (xm_i S 5 a2 1) = (6 : Int32) → ((xm_i S 5 a2 1) = (7 : Int32) → xc (d + 1) 44 [.inr (some (0, 0)), .inr (some (2, a1)), .inr (some (5, a2))] S (fun r S35 => r = none ∧ xk_C S35 ∧ (Q none S35))) ∧ (¬ (xm_i S 5 a2 1) = (7 : Int32) → ((xm_i S 5 a2 1) = (8 : Int32) → xc (d + 1) 45 [.inr (some (0, 0)), .inr (some (2, a1)), .inr (some (5, a2))] S (fun r S38 => r = none ∧ xk_C S38 ∧ (Q none S38))) ∧ (¬ (xm_i S 5 a2 1) = (8 : Int32) → ∀ t40, (xm_r S 2 a1 1) = t40 → (xc d 16 [.inr (some (0, 0)), .inr (xo 6 t40), .inr (some (2, a1))] S (fun r S42 => r = none ∧ xk_C S42 ∧ (Q none S42))))))))))))) : xc (d + 2) 19 [.inr (some (0, 0)), .inr (some (2, a1)), .inr (some (5, a2))] S Q := by
  show xw _ _ _ [some (.inr (some (0, 0))), some (.inr (some (2, a1))), some (.inr (some (5, a2)))] _ _ _
  refine xw.s (pc' := 1) (st' := [.inr (some (5, a2))]) rfl ?_
  refine xw.fi (c := 5) (j := 1) (ty := 0) (nx := 4) (v := (xm_i S 5 a2 1)) rfl rfl rfl ?_
  refine xw.ts1 rfl rfl ?_
  refine xw.bw (0 : Int32) rfl h (fun c1 h => ?_) (fun c1 h => ?_)
  · skip
    refine xw.s (pc' := 57) (st' := [.inr (some (0, 0))]) rfl ?_
    refine xw.s (pc' := 58) (st' := [.inr (some (2, a1)), .inr (some (0, 0))]) rfl ?_
    refine xw.s (pc' := 59) (st' := [.inr (some (5, a2)), .inr (some (2, a1)), .inr (some (0, 0))]) rfl ?_
    refine xw.call (m := 20) (as := [.inr (some (0, 0)), .inr (some (2, a1)), .inr (some (5, a2))]) (nx := 62) (L' := [some (.inr (some (0, 0))), some (.inr (some (2, a1))), some (.inr (some (5, a2)))]) (st' := []) rfl (xc.mono h ?_)
    rintro r S2 ⟨rfl, hC3, h⟩
    show xw _ _ 62 [some (.inr (some (0, 0))), some (.inr (some (2, a1))), some (.inr (some (5, a2)))] [] _ _
    refine xw.s (pc' := 127) (st' := []) rfl ?_
    exact xw.ret (r := none) rfl h
  · skip
    refine xw.bw (1 : Int32) rfl h (fun c4 h => ?_) (fun c4 h => ?_)
    · skip
      refine xw.s (pc' := 66) (st' := [.inr (some (0, 0))]) rfl ?_
      refine xw.s (pc' := 67) (st' := [.inr (some (2, a1)), .inr (some (0, 0))]) rfl ?_
      refine xw.s (pc' := 68) (st' := [.inr (some (5, a2)), .inr (some (2, a1)), .inr (some (0, 0))]) rfl ?_
      refine xw.call (m := 42) (as := [.inr (some (0, 0)), .inr (some (2, a1)), .inr (some (5, a2))]) (nx := 71) (L' := [some (.inr (some (0, 0))), some (.inr (some (2, a1))), some (.inr (some (5, a2)))]) (st' := []) rfl (xc.mono h ?_)
      rintro r S5 ⟨rfl, hC6, h⟩
      show xw _ _ 71 [some (.inr (some (0, 0))), some (.inr (some (2, a1))), some (.inr (some (5, a2)))] [] _ _
      refine xw.s (pc' := 127) (st' := []) rfl ?_
      exact xw.ret (r := none) rfl h
    · skip
      refine xw.bw (2 : Int32) rfl h (fun c7 h => ?_) (fun c7 h => ?_)
      · skip
        refine xw.s (pc' := 75) (st' := [.inr (some (0, 0))]) rfl ?_
        refine xw.s (pc' := 76) (st' := [.inr (some (2, a1)), .inr (some (0, 0))]) rfl ?_
        refine xw.s (pc' := 77) (st' := [.inr (some (5, a2)), .inr (some (2, a1)), .inr (some (0, 0))]) rfl ?_
        refine xw.call (m := 43) (as := [.inr (some (0, 0)), .inr (some (2, a1)), .inr (some (5, a2))]) (nx := 80) (L' := [some (.inr (some (0, 0))), some (.inr (some (2, a1))), some (.inr (some (5, a2)))]) (st' := []) rfl (xc.mono h ?_)
        rintro r S8 ⟨rfl, hC9, h⟩
        show xw _ _ 80 [some (.inr (some (0, 0))), some (.inr (some (2, a1))), some (.inr (some (5, a2)))] [] _ _
        refine xw.s (pc' := 127) (st' := []) rfl ?_
        exact xw.ret (r := none) rfl h
      · skip
        refine xw.bw (3 : Int32) rfl h (fun c10 h => ?_) (fun c10 h => ?_)
        · skip
          refine xw.s (pc' := 84) (st' := [.inr (some (2, a1))]) rfl ?_
          refine xw.s (pc' := 85) (st' := [.inr (some (0, 0)), .inr (some (2, a1))]) rfl ?_
          refine xw.fi (c := 0) (j := 13) (ty := 0) (nx := 88) (v := (xm_i S 0 0 13)) rfl rfl rfl ?_
          refine xw.s (pc' := 89) (st' := [.inr (some (5, a2)), .inl (xm_i S 0 0 13), .inr (some (2, a1))]) rfl ?_
          refine xw.fi (c := 5) (j := 2) (ty := 0) (nx := 92) (v := (xm_i S 5 a2 2)) rfl rfl rfl ?_
          refine xw.s (pc' := 93) (st' := [.inl ((xm_i S 0 0 13) + (xm_i S 5 a2 2)), .inr (some (2, a1))]) rfl ?_
          refine xw.fp (c := 2) (j := 12) (ty := 0) (nx := 96) rfl rfl (Or.inl rfl) ?_
          obtain ⟨S11, e12⟩ : ∃ s, s = xm_si S 2 a1 12 ((xm_i S 0 0 13) + (xm_i S 5 a2 2)) := ⟨_, rfl⟩
          rw [← e12]
          replace h := h S11 e12
          refine xw.s (pc' := 97) (st' := [.inr (some (0, 0))]) rfl ?_
          refine xw.s (pc' := 98) (st' := [.inr (some (2, a1)), .inr (some (0, 0))]) rfl ?_
          refine xw.call (m := 41) (as := [.inr (some (0, 0)), .inr (some (2, a1))]) (nx := 101) (L' := [some (.inr (some (0, 0))), some (.inr (some (2, a1))), some (.inr (some (5, a2)))]) (st' := []) rfl ?_
          show xw _ _ _ [some (.inr (some (0, 0))), some (.inr (some (2, a1)))] [] _ _
          refine xw.s (pc' := 1) (st' := [.inr (some (0, 0))]) rfl ?_
          refine xw.s (pc' := 2) (st' := [.inr (some (2, a1)), .inr (some (0, 0))]) rfl ?_
          obtain ⟨t13, q14⟩ : ∃ t, (xm_r S 2 a1 1) = t := ⟨_, rfl⟩
          replace h := h t13 q14
          refine xw.fr (c := 2) (j := 1) (e := 6) (nx := 5) (t := t13) rfl rfl (((congrArg (fun s => xm_r s 2 a1 1) e12).trans rfl).trans q14) ?_
          show xw _ _ _ [some (.inr (some (0, 0))), some (.inr (some (2, a1)))] [.inr (xo 6 t13), .inr (some (0, 0))] _ _
          refine xw.s (pc' := 6) (st' := [.inr (some (2, a1)), .inr (xo 6 t13), .inr (some (0, 0))]) rfl ?_
          refine xw.call (m := 16) (as := [.inr (some (0, 0)), .inr (xo 6 t13), .inr (some (2, a1))]) (nx := 9) (L' := [some (.inr (some (0, 0))), some (.inr (some (2, a1)))]) (st' := []) rfl (xc.mono h ?_)
          rintro r S15 ⟨rfl, hC16, h⟩
          show xw _ _ 9 [some (.inr (some (0, 0))), some (.inr (some (2, a1)))] [] _ _
          refine xw.ret (r := none) rfl ?_
          show xw _ _ 101 [some (.inr (some (0, 0))), some (.inr (some (2, a1))), some (.inr (some (5, a2)))] [] S15 _
          refine xw.s (pc' := 127) (st' := []) rfl ?_
          exact xw.ret (r := none) rfl h
        · skip
          refine xw.bw (4 : Int32) rfl h (fun c17 h => ?_) (fun c17 h => ?_)
          · skip
            refine xw.s (pc' := 123) (st' := [.inr (some (0, 0))]) rfl ?_
            refine xw.s (pc' := 124) (st' := [.inr (some (2, a1)), .inr (some (0, 0))]) rfl ?_
            refine xw.call (m := 41) (as := [.inr (some (0, 0)), .inr (some (2, a1))]) (nx := 127) (L' := [some (.inr (some (0, 0))), some (.inr (some (2, a1))), some (.inr (some (5, a2)))]) (st' := []) rfl ?_
            show xw _ _ _ [some (.inr (some (0, 0))), some (.inr (some (2, a1)))] [] _ _
            refine xw.s (pc' := 1) (st' := [.inr (some (0, 0))]) rfl ?_
            refine xw.s (pc' := 2) (st' := [.inr (some (2, a1)), .inr (some (0, 0))]) rfl ?_
            obtain ⟨t18, q19⟩ : ∃ t, (xm_r S 2 a1 1) = t := ⟨_, rfl⟩
            replace h := h t18 q19
            refine xw.fr (c := 2) (j := 1) (e := 6) (nx := 5) (t := t18) rfl rfl q19 ?_
            show xw _ _ _ [some (.inr (some (0, 0))), some (.inr (some (2, a1)))] [.inr (xo 6 t18), .inr (some (0, 0))] _ _
            refine xw.s (pc' := 6) (st' := [.inr (some (2, a1)), .inr (xo 6 t18), .inr (some (0, 0))]) rfl ?_
            refine xw.call (m := 16) (as := [.inr (some (0, 0)), .inr (xo 6 t18), .inr (some (2, a1))]) (nx := 9) (L' := [some (.inr (some (0, 0))), some (.inr (some (2, a1)))]) (st' := []) rfl (xc.mono h ?_)
            rintro r S20 ⟨rfl, hC21, h⟩
            show xw _ _ 9 [some (.inr (some (0, 0))), some (.inr (some (2, a1)))] [] _ _
            refine xw.ret (r := none) rfl ?_
            show xw _ _ 127 [some (.inr (some (0, 0))), some (.inr (some (2, a1))), some (.inr (some (5, a2)))] [] S20 _
            exact xw.ret (r := none) rfl h
          · skip
            refine xw.bw (5 : Int32) rfl h (fun c22 h => ?_) (fun c22 h => ?_)
            · skip
              refine xw.s (pc' := 84) (st' := [.inr (some (2, a1))]) rfl ?_
              refine xw.s (pc' := 85) (st' := [.inr (some (0, 0)), .inr (some (2, a1))]) rfl ?_
              refine xw.fi (c := 0) (j := 13) (ty := 0) (nx := 88) (v := (xm_i S 0 0 13)) rfl rfl rfl ?_
              refine xw.s (pc' := 89) (st' := [.inr (some (5, a2)), .inl (xm_i S 0 0 13), .inr (some (2, a1))]) rfl ?_
              refine xw.fi (c := 5) (j := 2) (ty := 0) (nx := 92) (v := (xm_i S 5 a2 2)) rfl rfl rfl ?_
              refine xw.s (pc' := 93) (st' := [.inl ((xm_i S 0 0 13) + (xm_i S 5 a2 2)), .inr (some (2, a1))]) rfl ?_
              refine xw.fp (c := 2) (j := 12) (ty := 0) (nx := 96) rfl rfl (Or.inl rfl) ?_
              obtain ⟨S23, e24⟩ : ∃ s, s = xm_si S 2 a1 12 ((xm_i S 0 0 13) + (xm_i S 5 a2 2)) := ⟨_, rfl⟩
              rw [← e24]
              replace h := h S23 e24
              refine xw.s (pc' := 97) (st' := [.inr (some (0, 0))]) rfl ?_
              refine xw.s (pc' := 98) (st' := [.inr (some (2, a1)), .inr (some (0, 0))]) rfl ?_
              refine xw.call (m := 41) (as := [.inr (some (0, 0)), .inr (some (2, a1))]) (nx := 101) (L' := [some (.inr (some (0, 0))), some (.inr (some (2, a1))), some (.inr (some (5, a2)))]) (st' := []) rfl ?_
              show xw _ _ _ [some (.inr (some (0, 0))), some (.inr (some (2, a1)))] [] _ _
              refine xw.s (pc' := 1) (st' := [.inr (some (0, 0))]) rfl ?_
              refine xw.s (pc' := 2) (st' := [.inr (some (2, a1)), .inr (some (0, 0))]) rfl ?_
              obtain ⟨t25, q26⟩ : ∃ t, (xm_r S 2 a1 1) = t := ⟨_, rfl⟩
              replace h := h t25 q26
              refine xw.fr (c := 2) (j := 1) (e := 6) (nx := 5) (t := t25) rfl rfl (((congrArg (fun s => xm_r s 2 a1 1) e24).trans rfl).trans q26) ?_
              show xw _ _ _ [some (.inr (some (0, 0))), some (.inr (some (2, a1)))] [.inr (xo 6 t25), .inr (some (0, 0))] _ _
              refine xw.s (pc' := 6) (st' := [.inr (some (2, a1)), .inr (xo 6 t25), .inr (some (0, 0))]) rfl ?_
              refine xw.call (m := 16) (as := [.inr (some (0, 0)), .inr (xo 6 t25), .inr (some (2, a1))]) (nx := 9) (L' := [some (.inr (some (0, 0))), some (.inr (some (2, a1)))]) (st' := []) rfl (xc.mono h ?_)
              rintro r S27 ⟨rfl, hC28, h⟩
              show xw _ _ 9 [some (.inr (some (0, 0))), some (.inr (some (2, a1)))] [] _ _
              refine xw.ret (r := none) rfl ?_
              show xw _ _ 101 [some (.inr (some (0, 0))), some (.inr (some (2, a1))), some (.inr (some (5, a2)))] [] S27 _
              refine xw.s (pc' := 127) (st' := []) rfl ?_
              exact xw.ret (r := none) rfl h
            · skip
              refine xw.bw (6 : Int32) rfl h (fun c29 h => ?_) (fun c29 h => ?_)
              · skip
                refine xw.s (pc' := 123) (st' := [.inr (some (0, 0))]) rfl ?_
                refine xw.s (pc' := 124) (st' := [.inr (some (2, a1)), .inr (some (0, 0))]) rfl ?_
                refine xw.call (m := 41) (as := [.inr (some (0, 0)), .inr (some (2, a1))]) (nx := 127) (L' := [some (.inr (some (0, 0))), some (.inr (some (2, a1))), some (.inr (some (5, a2)))]) (st' := []) rfl ?_
                show xw _ _ _ [some (.inr (some (0, 0))), some (.inr (some (2, a1)))] [] _ _
                refine xw.s (pc' := 1) (st' := [.inr (some (0, 0))]) rfl ?_
                refine xw.s (pc' := 2) (st' := [.inr (some (2, a1)), .inr (some (0, 0))]) rfl ?_
                obtain ⟨t30, q31⟩ : ∃ t, (xm_r S 2 a1 1) = t := ⟨_, rfl⟩
                replace h := h t30 q31
                refine xw.fr (c := 2) (j := 1) (e := 6) (nx := 5) (t := t30) rfl rfl q31 ?_
                show xw _ _ _ [some (.inr (some (0, 0))), some (.inr (some (2, a1)))] [.inr (xo 6 t30), .inr (some (0, 0))] _ _
                refine xw.s (pc' := 6) (st' := [.inr (some (2, a1)), .inr (xo 6 t30), .inr (some (0, 0))]) rfl ?_
                refine xw.call (m := 16) (as := [.inr (some (0, 0)), .inr (xo 6 t30), .inr (some (2, a1))]) (nx := 9) (L' := [some (.inr (some (0, 0))), some (.inr (some (2, a1)))]) (st' := []) rfl (xc.mono h ?_)
                rintro r S32 ⟨rfl, hC33, h⟩
                show xw _ _ 9 [some (.inr (some (0, 0))), some (.inr (some (2, a1)))] [] _ _
                refine xw.ret (r := none) rfl ?_
                show xw _ _ 127 [some (.inr (some (0, 0))), some (.inr (some (2, a1))), some (.inr (some (5, a2)))] [] S32 _
                exact xw.ret (r := none) rfl h
              · skip
                refine xw.bw (7 : Int32) rfl h (fun c34 h => ?_) (fun c34 h => ?_)
                · skip
                  refine xw.s (pc' := 105) (st' := [.inr (some (0, 0))]) rfl ?_
                  refine xw.s (pc' := 106) (st' := [.inr (some (2, a1)), .inr (some (0, 0))]) rfl ?_
                  refine xw.s (pc' := 107) (st' := [.inr (some (5, a2)), .inr (some (2, a1)), .inr (some (0, 0))]) rfl ?_
                  refine xw.call (m := 44) (as := [.inr (some (0, 0)), .inr (some (2, a1)), .inr (some (5, a2))]) (nx := 110) (L' := [some (.inr (some (0, 0))), some (.inr (some (2, a1))), some (.inr (some (5, a2)))]) (st' := []) rfl (xc.mono h ?_)
                  rintro r S35 ⟨rfl, hC36, h⟩
                  show xw _ _ 110 [some (.inr (some (0, 0))), some (.inr (some (2, a1))), some (.inr (some (5, a2)))] [] _ _
                  refine xw.s (pc' := 127) (st' := []) rfl ?_
                  exact xw.ret (r := none) rfl h
                · skip
                  refine xw.bw (8 : Int32) rfl h (fun c37 h => ?_) (fun c37 h => ?_)
                  · skip
                    refine xw.s (pc' := 114) (st' := [.inr (some (0, 0))]) rfl ?_
                    refine xw.s (pc' := 115) (st' := [.inr (some (2, a1)), .inr (some (0, 0))]) rfl ?_
                    refine xw.s (pc' := 116) (st' := [.inr (some (5, a2)), .inr (some (2, a1)), .inr (some (0, 0))]) rfl ?_
                    refine xw.call (m := 45) (as := [.inr (some (0, 0)), .inr (some (2, a1)), .inr (some (5, a2))]) (nx := 119) (L' := [some (.inr (some (0, 0))), some (.inr (some (2, a1))), some (.inr (some (5, a2)))]) (st' := []) rfl (xc.mono h ?_)
                    rintro r S38 ⟨rfl, hC39, h⟩
                    show xw _ _ 119 [some (.inr (some (0, 0))), some (.inr (some (2, a1))), some (.inr (some (5, a2)))] [] _ _
                    refine xw.s (pc' := 127) (st' := []) rfl ?_
                    exact xw.ret (r := none) rfl h
                  · skip
                    refine xw.s (pc' := 123) (st' := [.inr (some (0, 0))]) rfl ?_
                    refine xw.s (pc' := 124) (st' := [.inr (some (2, a1)), .inr (some (0, 0))]) rfl ?_
                    refine xw.call (m := 41) (as := [.inr (some (0, 0)), .inr (some (2, a1))]) (nx := 127) (L' := [some (.inr (some (0, 0))), some (.inr (some (2, a1))), some (.inr (some (5, a2)))]) (st' := []) rfl ?_
                    show xw _ _ _ [some (.inr (some (0, 0))), some (.inr (some (2, a1)))] [] _ _
                    refine xw.s (pc' := 1) (st' := [.inr (some (0, 0))]) rfl ?_
                    refine xw.s (pc' := 2) (st' := [.inr (some (2, a1)), .inr (some (0, 0))]) rfl ?_
                    obtain ⟨t40, q41⟩ : ∃ t, (xm_r S 2 a1 1) = t := ⟨_, rfl⟩
                    replace h := h t40 q41
                    refine xw.fr (c := 2) (j := 1) (e := 6) (nx := 5) (t := t40) rfl rfl q41 ?_
                    show xw _ _ _ [some (.inr (some (0, 0))), some (.inr (some (2, a1)))] [.inr (xo 6 t40), .inr (some (0, 0))] _ _
                    refine xw.s (pc' := 6) (st' := [.inr (some (2, a1)), .inr (xo 6 t40), .inr (some (0, 0))]) rfl ?_
                    refine xw.call (m := 16) (as := [.inr (some (0, 0)), .inr (xo 6 t40), .inr (some (2, a1))]) (nx := 9) (L' := [some (.inr (some (0, 0))), some (.inr (some (2, a1)))]) (st' := []) rfl (xc.mono h ?_)
                    rintro r S42 ⟨rfl, hC43, h⟩
                    show xw _ _ 9 [some (.inr (some (0, 0))), some (.inr (some (2, a1)))] [] _ _
                    refine xw.ret (r := none) rfl ?_
                    show xw _ _ 127 [some (.inr (some (0, 0))), some (.inr (some (2, a1))), some (.inr (some (5, a2)))] [] S42 _
                    exact xw.ret (r := none) rfl h
/-- enterFuse -/
theorem cw_enterFuse {d : Nat} {a1 : Nat} {a2 : Nat} {S : xm_S} {Q : Option xm_V → xm_S → Prop} (hC : xk_C S) (h : ((xm_i S 5 a2 6) = (2 : Int32) → xc (d + 1) 21 [.inr (some (0, 0)), .inl (9 : Int32), .inr (some (5, a2)), .inr none] S (fun r S2 => ∃ t4 : Option Nat, r = some (.inr (xo 4 t4)) ∧ xk_C S2 ∧ (xc (d + 1) 22 [.inr (some (0, 0)), .inr (some (2, a1)), .inr (xo 4 t4)] S2 (fun r S5 => r = none ∧ xk_C S5 ∧ (Q none S5))))) ∧ (¬ (xm_i S 5 a2 6) = (2 : Int32) → ((xm_i S 5 a2 6) = (1 : Int32) → ((xm_i S 5 a2 8) ≤ (xm_i S 0 0 13) → ∀ S9, S9 = xm_si S 5 a2 6 (2 : Int32) → (∀ S11, S11 = xm_sr S9 5 a2 9 (some a1) → (∀ t13, (xm_r S 2 a1 1) = t13 → (xc d 16 [.inr (some (0, 0)), .inr (xo 6 t13), .inr (some (2, a1))] S11 (fun r S15 => r = none ∧ xk_C S15 ∧ (Q none S15)))))) ∧ (¬ (xm_i S 5 a2 8) ≤ (xm_i S 0 0 13) → xc (d + 1) 21 [.inr (some (0, 0)), .inl (9 : Int32), .inr (some (5, a2)), .inr none] S (fun r S17 => ∃ t19 : Option Nat, r = some (.inr (xo 4 t19)) ∧ xk_C S17 ∧ (xc (d + 1) 22 [.inr (some (0, 0)), .inr (some (2, a1)), .inr (xo 4 t19)] S17 (fun r S20 => r = none ∧ xk_C S20 ∧ (Q none S20)))))) ∧ (¬ (xm_i S 5 a2 6) = (1 : Int32) → ∀ t22, (xm_r S 2 a1 1) = t22 → (xc d 16 [.inr (some (0, 0)), .inr (xo 6 t22), .inr (some (2, a1))] S (fun r S24 => r = none ∧ xk_C S24 ∧ (Q none S24)))))) : xc (d + 2) 20 [.inr (some (0, 0)), .inr (some (2, a1)), .inr (some (5, a2))] S Q := by
  show xw _ _ _ [some (.inr (some (0, 0))), some (.inr (some (2, a1))), some (.inr (some (5, a2)))] _ _ _
  refine xw.s (pc' := 1) (st' := [.inr (some (5, a2))]) rfl ?_
  refine xw.fi (c := 5) (j := 6) (ty := 0) (nx := 4) (v := (xm_i S 5 a2 6)) rfl rfl rfl ?_
  refine xw.s (pc' := 5) (st' := [.inl (2 : Int32), .inl (xm_i S 5 a2 6)]) rfl ?_
  refine xw.b (c := (xm_i S 5 a2 6) = (2 : Int32)) (cd := .eq) (x := (xm_i S 5 a2 6)) (y := (2 : Int32)) 27 8 (st' := []) rfl (y_ceq _ _) h (fun c1 h => ?_) (fun c1 h => ?_)
  · skip
    refine xw.s (pc' := 28) (st' := [.inr (some (0, 0))]) rfl ?_
    refine xw.s (pc' := 29) (st' := [.inr (some (2, a1)), .inr (some (0, 0))]) rfl ?_
    refine xw.s (pc' := 30) (st' := [.inr (some (0, 0)), .inr (some (2, a1)), .inr (some (0, 0))]) rfl ?_
    refine xw.s (pc' := 32) (st' := [.inl (9 : Int32), .inr (some (0, 0)), .inr (some (2, a1)), .inr (some (0, 0))]) rfl ?_
    refine xw.s (pc' := 33) (st' := [.inr (some (5, a2)), .inl (9 : Int32), .inr (some (0, 0)), .inr (some (2, a1)), .inr (some (0, 0))]) rfl ?_
    refine xw.s (pc' := 34) (st' := [.inr none, .inr (some (5, a2)), .inl (9 : Int32), .inr (some (0, 0)), .inr (some (2, a1)), .inr (some (0, 0))]) rfl ?_
    refine xw.call (m := 21) (as := [.inr (some (0, 0)), .inl (9 : Int32), .inr (some (5, a2)), .inr none]) (nx := 37) (L' := [some (.inr (some (0, 0))), some (.inr (some (2, a1))), some (.inr (some (5, a2)))]) (st' := [.inr (some (2, a1)), .inr (some (0, 0))]) rfl (xc.mono h ?_)
    rintro r S2 ⟨t4, rfl, hC3, h⟩
    show xw _ _ 37 [some (.inr (some (0, 0))), some (.inr (some (2, a1))), some (.inr (some (5, a2)))] [.inr (xo 4 t4), .inr (some (2, a1)), .inr (some (0, 0))] _ _
    refine xw.call (m := 22) (as := [.inr (some (0, 0)), .inr (some (2, a1)), .inr (xo 4 t4)]) (nx := 40) (L' := [some (.inr (some (0, 0))), some (.inr (some (2, a1))), some (.inr (some (5, a2)))]) (st' := []) rfl (xc.mono h ?_)
    rintro r S5 ⟨rfl, hC6, h⟩
    show xw _ _ 40 [some (.inr (some (0, 0))), some (.inr (some (2, a1))), some (.inr (some (5, a2)))] [] _ _
    exact xw.ret (r := none) rfl h
  · skip
    refine xw.s (pc' := 9) (st' := [.inr (some (5, a2))]) rfl ?_
    refine xw.fi (c := 5) (j := 6) (ty := 0) (nx := 12) (v := (xm_i S 5 a2 6)) rfl rfl rfl ?_
    refine xw.s (pc' := 13) (st' := [.inl (1 : Int32), .inl (xm_i S 5 a2 6)]) rfl ?_
    refine xw.bn (c := (xm_i S 5 a2 6) = (1 : Int32)) (cd := .ne) (x := (xm_i S 5 a2 6)) (y := (1 : Int32)) 41 16 (st' := []) rfl (y_cne _ _) h (fun c7 h => ?_) (fun c7 h => ?_)
    · skip
      refine xw.s (pc' := 17) (st' := [.inr (some (0, 0))]) rfl ?_
      refine xw.fi (c := 0) (j := 13) (ty := 0) (nx := 20) (v := (xm_i S 0 0 13)) rfl rfl rfl ?_
      refine xw.s (pc' := 21) (st' := [.inr (some (5, a2)), .inl (xm_i S 0 0 13)]) rfl ?_
      refine xw.fi (c := 5) (j := 8) (ty := 0) (nx := 24) (v := (xm_i S 5 a2 8)) rfl rfl rfl ?_
      refine xw.b (c := (xm_i S 5 a2 8) ≤ (xm_i S 0 0 13)) (cd := .ge) (x := (xm_i S 0 0 13)) (y := (xm_i S 5 a2 8)) 41 27 (st' := []) rfl (y_cge _ _) h (fun c8 h => ?_) (fun c8 h => ?_)
      · skip
        refine xw.s (pc' := 42) (st' := [.inr (some (5, a2))]) rfl ?_
        refine xw.fi (c := 5) (j := 6) (ty := 0) (nx := 45) (v := (xm_i S 5 a2 6)) rfl rfl rfl ?_
        refine xw.s (pc' := 46) (st' := [.inl (1 : Int32), .inl (xm_i S 5 a2 6)]) rfl ?_
        refine xw.bf (cd := .ne) (x := (xm_i S 5 a2 6)) (y := (1 : Int32)) 59 49 (st' := []) rfl (y_cne _ _) (fun z => z c7) ?_
        refine xw.s (pc' := 50) (st' := [.inr (some (5, a2))]) rfl ?_
        refine xw.s (pc' := 51) (st' := [.inl (2 : Int32), .inr (some (5, a2))]) rfl ?_
        refine xw.fp (c := 5) (j := 6) (ty := 0) (nx := 54) rfl rfl (Or.inl rfl) ?_
        obtain ⟨S9, e10⟩ : ∃ s, s = xm_si S 5 a2 6 (2 : Int32) := ⟨_, rfl⟩
        rw [← e10]
        replace h := h S9 e10
        refine xw.s (pc' := 55) (st' := [.inr (some (5, a2))]) rfl ?_
        refine xw.s (pc' := 56) (st' := [.inr (some (2, a1)), .inr (some (5, a2))]) rfl ?_
        refine xw.fq (c := 5) (j := 9) (e := 2) (nx := 59) (t := (some a1)) rfl rfl ?_
        obtain ⟨S11, e12⟩ : ∃ s, s = xm_sr S9 5 a2 9 (some a1) := ⟨_, rfl⟩
        rw [← e12]
        replace h := h S11 e12
        refine xw.s (pc' := 60) (st' := [.inr (some (0, 0))]) rfl ?_
        refine xw.s (pc' := 61) (st' := [.inr (some (2, a1)), .inr (some (0, 0))]) rfl ?_
        refine xw.call (m := 41) (as := [.inr (some (0, 0)), .inr (some (2, a1))]) (nx := 64) (L' := [some (.inr (some (0, 0))), some (.inr (some (2, a1))), some (.inr (some (5, a2)))]) (st' := []) rfl ?_
        show xw _ _ _ [some (.inr (some (0, 0))), some (.inr (some (2, a1)))] [] _ _
        refine xw.s (pc' := 1) (st' := [.inr (some (0, 0))]) rfl ?_
        refine xw.s (pc' := 2) (st' := [.inr (some (2, a1)), .inr (some (0, 0))]) rfl ?_
        obtain ⟨t13, q14⟩ : ∃ t, (xm_r S 2 a1 1) = t := ⟨_, rfl⟩
        replace h := h t13 q14
        refine xw.fr (c := 2) (j := 1) (e := 6) (nx := 5) (t := t13) rfl rfl (((congrArg (fun s => xm_r s 2 a1 1) e12).trans ((xr_sr (by decide)).trans ((congrArg (fun s => xm_r s 2 a1 1) e10).trans rfl))).trans q14) ?_
        show xw _ _ _ [some (.inr (some (0, 0))), some (.inr (some (2, a1)))] [.inr (xo 6 t13), .inr (some (0, 0))] _ _
        refine xw.s (pc' := 6) (st' := [.inr (some (2, a1)), .inr (xo 6 t13), .inr (some (0, 0))]) rfl ?_
        refine xw.call (m := 16) (as := [.inr (some (0, 0)), .inr (xo 6 t13), .inr (some (2, a1))]) (nx := 9) (L' := [some (.inr (some (0, 0))), some (.inr (some (2, a1)))]) (st' := []) rfl (xc.mono h ?_)
        rintro r S15 ⟨rfl, hC16, h⟩
        show xw _ _ 9 [some (.inr (some (0, 0))), some (.inr (some (2, a1)))] [] _ _
        refine xw.ret (r := none) rfl ?_
        show xw _ _ 64 [some (.inr (some (0, 0))), some (.inr (some (2, a1))), some (.inr (some (5, a2)))] [] S15 _
        exact xw.ret (r := none) rfl h
      · skip
        refine xw.s (pc' := 28) (st' := [.inr (some (0, 0))]) rfl ?_
        refine xw.s (pc' := 29) (st' := [.inr (some (2, a1)), .inr (some (0, 0))]) rfl ?_
        refine xw.s (pc' := 30) (st' := [.inr (some (0, 0)), .inr (some (2, a1)), .inr (some (0, 0))]) rfl ?_
        refine xw.s (pc' := 32) (st' := [.inl (9 : Int32), .inr (some (0, 0)), .inr (some (2, a1)), .inr (some (0, 0))]) rfl ?_
        refine xw.s (pc' := 33) (st' := [.inr (some (5, a2)), .inl (9 : Int32), .inr (some (0, 0)), .inr (some (2, a1)), .inr (some (0, 0))]) rfl ?_
        refine xw.s (pc' := 34) (st' := [.inr none, .inr (some (5, a2)), .inl (9 : Int32), .inr (some (0, 0)), .inr (some (2, a1)), .inr (some (0, 0))]) rfl ?_
        refine xw.call (m := 21) (as := [.inr (some (0, 0)), .inl (9 : Int32), .inr (some (5, a2)), .inr none]) (nx := 37) (L' := [some (.inr (some (0, 0))), some (.inr (some (2, a1))), some (.inr (some (5, a2)))]) (st' := [.inr (some (2, a1)), .inr (some (0, 0))]) rfl (xc.mono h ?_)
        rintro r S17 ⟨t19, rfl, hC18, h⟩
        show xw _ _ 37 [some (.inr (some (0, 0))), some (.inr (some (2, a1))), some (.inr (some (5, a2)))] [.inr (xo 4 t19), .inr (some (2, a1)), .inr (some (0, 0))] _ _
        refine xw.call (m := 22) (as := [.inr (some (0, 0)), .inr (some (2, a1)), .inr (xo 4 t19)]) (nx := 40) (L' := [some (.inr (some (0, 0))), some (.inr (some (2, a1))), some (.inr (some (5, a2)))]) (st' := []) rfl (xc.mono h ?_)
        rintro r S20 ⟨rfl, hC21, h⟩
        show xw _ _ 40 [some (.inr (some (0, 0))), some (.inr (some (2, a1))), some (.inr (some (5, a2)))] [] _ _
        exact xw.ret (r := none) rfl h
    · skip
      refine xw.s (pc' := 42) (st' := [.inr (some (5, a2))]) rfl ?_
      refine xw.fi (c := 5) (j := 6) (ty := 0) (nx := 45) (v := (xm_i S 5 a2 6)) rfl rfl rfl ?_
      refine xw.s (pc' := 46) (st' := [.inl (1 : Int32), .inl (xm_i S 5 a2 6)]) rfl ?_
      refine xw.bt (cd := .ne) (x := (xm_i S 5 a2 6)) (y := (1 : Int32)) 59 49 (st' := []) rfl (y_cne _ _) c7 ?_
      refine xw.s (pc' := 60) (st' := [.inr (some (0, 0))]) rfl ?_
      refine xw.s (pc' := 61) (st' := [.inr (some (2, a1)), .inr (some (0, 0))]) rfl ?_
      refine xw.call (m := 41) (as := [.inr (some (0, 0)), .inr (some (2, a1))]) (nx := 64) (L' := [some (.inr (some (0, 0))), some (.inr (some (2, a1))), some (.inr (some (5, a2)))]) (st' := []) rfl ?_
      show xw _ _ _ [some (.inr (some (0, 0))), some (.inr (some (2, a1)))] [] _ _
      refine xw.s (pc' := 1) (st' := [.inr (some (0, 0))]) rfl ?_
      refine xw.s (pc' := 2) (st' := [.inr (some (2, a1)), .inr (some (0, 0))]) rfl ?_
      obtain ⟨t22, q23⟩ : ∃ t, (xm_r S 2 a1 1) = t := ⟨_, rfl⟩
      replace h := h t22 q23
      refine xw.fr (c := 2) (j := 1) (e := 6) (nx := 5) (t := t22) rfl rfl q23 ?_
      show xw _ _ _ [some (.inr (some (0, 0))), some (.inr (some (2, a1)))] [.inr (xo 6 t22), .inr (some (0, 0))] _ _
      refine xw.s (pc' := 6) (st' := [.inr (some (2, a1)), .inr (xo 6 t22), .inr (some (0, 0))]) rfl ?_
      refine xw.call (m := 16) (as := [.inr (some (0, 0)), .inr (xo 6 t22), .inr (some (2, a1))]) (nx := 9) (L' := [some (.inr (some (0, 0))), some (.inr (some (2, a1)))]) (st' := []) rfl (xc.mono h ?_)
      rintro r S24 ⟨rfl, hC25, h⟩
      show xw _ _ 9 [some (.inr (some (0, 0))), some (.inr (some (2, a1)))] [] _ _
      refine xw.ret (r := none) rfl ?_
      show xw _ _ 64 [some (.inr (some (0, 0))), some (.inr (some (2, a1))), some (.inr (some (5, a2)))] [] S24 _
      exact xw.ret (r := none) rfl h
/-- addFailure -/
theorem cw_addFailure {d : Nat} {a1 : Int32} {a2 : Option Nat} {a3 : Option Nat} {S : xm_S} {Q : Option xm_V → xm_S → Prop} (hC : xk_C S) (h : ∀ k1, k1 = xm_n S 0 4 → (∀ S3, S3 = xm_mk 4 7 S → (xc d 97 [.inr (some (4, k1)), .inl (nI (xm_n S3 1 8)), .inl a1, .inl (xm_i S 0 0 13), .inr (xo 5 a2), .inr (xo 9 a3)] S3 (fun r S5 => r = none ∧ xk_C S5 ∧ (xm_n S5 2 8 ≠ 0 ∧ xm_n S5 1 8 < 100000 ∧ (∀ S9, S9 = xm_push 8 (4, k1) S5 → (Q (some (.inr (some (4, k1)))) S9))))))) : xc (d + 1) 21 [.inr (some (0, 0)), .inl a1, .inr (xo 5 a2), .inr (xo 9 a3)] S Q := by
  show xw _ _ _ [some (.inr (some (0, 0))), some (.inl a1), some (.inr (xo 5 a2)), some (.inr (xo 9 a3)), none] _ _ _
  refine xw.s (pc' := 3) (st' := [.inr (some (4, (xm_n S 0 4)))]) (S1 := xm_mk 4 7 S) rfl ?_
  obtain ⟨k1, q2⟩ : ∃ k, k = xm_n S 0 4 := ⟨_, rfl⟩
  rw [← q2]
  replace h := h k1 q2
  obtain ⟨S3, e4⟩ : ∃ s, s = xm_mk 4 7 S := ⟨_, rfl⟩
  rw [← e4]
  replace h := h S3 e4
  refine xw.s (pc' := 4) (st' := [.inr (some (4, k1)), .inr (some (4, k1))]) rfl ?_
  refine xw.s (pc' := 5) (st' := [.inr (some (0, 0)), .inr (some (4, k1)), .inr (some (4, k1))]) rfl ?_
  refine xw.fr (c := 0) (j := 8) (e := 12) (nx := 8) (t := (some 8)) rfl rfl ((congrArg (fun s => xm_r s 0 0 8) e4).trans ((xr_mk (by decide)).trans (hC 8 (by decide)))) ?_
  show xw _ _ _ [some (.inr (some (0, 0))), some (.inl a1), some (.inr (xo 5 a2)), some (.inr (xo 9 a3)), none] [.inr (some (12, 8)), .inr (some (4, k1)), .inr (some (4, k1))] _ _
  refine xw.lsz (nx := 11) (n := (xm_n S3 1 8)) rfl (Nat.le_of_ble_eq_true rfl) rfl ?_
  refine xw.s (pc' := 12) (st' := [.inl a1, .inl (nI (xm_n S3 1 8)), .inr (some (4, k1)), .inr (some (4, k1))]) rfl ?_
  refine xw.s (pc' := 13) (st' := [.inr (some (0, 0)), .inl a1, .inl (nI (xm_n S3 1 8)), .inr (some (4, k1)), .inr (some (4, k1))]) rfl ?_
  refine xw.fi (c := 0) (j := 13) (ty := 0) (nx := 16) (v := (xm_i S 0 0 13)) rfl rfl ((congrArg (fun s => xm_i s 0 0 13) e4).trans (xi_mk (by decide))) ?_
  refine xw.s (pc' := 17) (st' := [.inr (xo 5 a2), .inl (xm_i S 0 0 13), .inl a1, .inl (nI (xm_n S3 1 8)), .inr (some (4, k1)), .inr (some (4, k1))]) rfl ?_
  refine xw.s (pc' := 18) (st' := [.inr (xo 9 a3), .inr (xo 5 a2), .inl (xm_i S 0 0 13), .inl a1, .inl (nI (xm_n S3 1 8)), .inr (some (4, k1)), .inr (some (4, k1))]) rfl ?_
  refine xw.call (m := 97) (as := [.inr (some (4, k1)), .inl (nI (xm_n S3 1 8)), .inl a1, .inl (xm_i S 0 0 13), .inr (xo 5 a2), .inr (xo 9 a3)]) (nx := 21) (L' := [some (.inr (some (0, 0))), some (.inl a1), some (.inr (xo 5 a2)), some (.inr (xo 9 a3)), none]) (st' := [.inr (some (4, k1))]) rfl (xc.mono h ?_)
  rintro r S5 ⟨rfl, hC6, h⟩
  show xw _ _ 21 [some (.inr (some (0, 0))), some (.inl a1), some (.inr (xo 5 a2)), some (.inr (xo 9 a3)), none] [.inr (some (4, k1))] _ _
  refine xw.s (pc' := 23) (st' := []) (L' := [some (.inr (some (0, 0))), some (.inl a1), some (.inr (xo 5 a2)), some (.inr (xo 9 a3)), some (.inr (some (4, k1)))]) rfl ?_
  refine xw.s (pc' := 24) (st' := [.inr (some (0, 0))]) rfl ?_
  refine xw.fr (c := 0) (j := 8) (e := 12) (nx := 27) (t := (some 8)) rfl rfl (hC6 8 (by decide)) ?_
  show xw _ _ _ [some (.inr (some (0, 0))), some (.inl a1), some (.inr (xo 5 a2)), some (.inr (xo 9 a3)), some (.inr (some (4, k1)))] [.inr (some (12, 8))] _ _
  refine xw.s (pc' := 29) (st' := [.inr (some (4, k1)), .inr (some (12, 8))]) rfl ?_
  obtain ⟨z7, z8, h⟩ := h
  refine xw.ladd (nx := 32) rfl (Nat.le_of_ble_eq_true rfl) (by decide) z7 z8 ?_
  obtain ⟨S9, e10⟩ : ∃ s, s = xm_push 8 (4, k1) S5 := ⟨_, rfl⟩
  rw [← e10]
  replace h := h S9 e10
  refine xw.s (pc' := 33) (st' := []) rfl ?_
  refine xw.s (pc' := 35) (st' := [.inr (some (4, k1))]) rfl ?_
  exact xw.ret (r := (some (.inr (some (4, k1))))) rfl h
/-- endFailed -/
theorem cw_endFailed {d : Nat} {a1 : Nat} {a2 : Option Nat} {S : xm_S} {Q : Option xm_V → xm_S → Prop} (hC : xk_C S) (h : ((xm_i S 2 a1 8) = (0 : Int32) → ∀ S2, S2 = xm_si S 2 a1 8 (2 : Int32) → (∀ S4, S4 = xm_sr S2 2 a1 11 a2 → (xc d 23 [.inr (some (0, 0)), .inr (some (2, a1))] S4 (fun r S6 => r = none ∧ xk_C S6 ∧ (Q none S6))))) ∧ (¬ (xm_i S 2 a1 8) = (0 : Int32) → Q none S)) : xc (d + 1) 22 [.inr (some (0, 0)), .inr (some (2, a1)), .inr (xo 4 a2)] S Q := by
  show xw _ _ _ [some (.inr (some (0, 0))), some (.inr (some (2, a1))), some (.inr (xo 4 a2))] _ _ _
  refine xw.s (pc' := 1) (st' := [.inr (some (2, a1))]) rfl ?_
  refine xw.fi (c := 2) (j := 8) (ty := 0) (nx := 4) (v := (xm_i S 2 a1 8)) rfl rfl rfl ?_
  refine xw.bn (c := (xm_i S 2 a1 8) = (0 : Int32)) (cd := .ne) (x := (xm_i S 2 a1 8)) (y := (0 : Int32)) 22 7 (st' := []) rfl (y_cne _ _) h (fun c1 h => ?_) (fun c1 h => ?_)
  · skip
    refine xw.s (pc' := 8) (st' := [.inr (some (2, a1))]) rfl ?_
    refine xw.s (pc' := 9) (st' := [.inl (2 : Int32), .inr (some (2, a1))]) rfl ?_
    refine xw.fp (c := 2) (j := 8) (ty := 0) (nx := 12) rfl rfl (Or.inl rfl) ?_
    obtain ⟨S2, e3⟩ : ∃ s, s = xm_si S 2 a1 8 (2 : Int32) := ⟨_, rfl⟩
    rw [← e3]
    replace h := h S2 e3
    refine xw.s (pc' := 13) (st' := [.inr (some (2, a1))]) rfl ?_
    refine xw.s (pc' := 14) (st' := [.inr (xo 4 a2), .inr (some (2, a1))]) rfl ?_
    refine xw.fq (c := 2) (j := 11) (e := 4) (nx := 17) (t := a2) rfl rfl ?_
    obtain ⟨S4, e5⟩ : ∃ s, s = xm_sr S2 2 a1 11 a2 := ⟨_, rfl⟩
    rw [← e5]
    replace h := h S4 e5
    refine xw.s (pc' := 18) (st' := [.inr (some (0, 0))]) rfl ?_
    refine xw.s (pc' := 19) (st' := [.inr (some (2, a1)), .inr (some (0, 0))]) rfl ?_
    refine xw.call (m := 23) (as := [.inr (some (0, 0)), .inr (some (2, a1))]) (nx := 22) (L' := [some (.inr (some (0, 0))), some (.inr (some (2, a1))), some (.inr (xo 4 a2))]) (st' := []) rfl (xc.mono h ?_)
    rintro r S6 ⟨rfl, hC7, h⟩
    show xw _ _ 22 [some (.inr (some (0, 0))), some (.inr (some (2, a1))), some (.inr (xo 4 a2))] [] _ _
    exact xw.ret (r := none) rfl h
  · skip
    exact xw.ret (r := none) rfl h
/-- finish -/
theorem cw_finish {d : Nat} {a1 : Nat} {S : xm_S} {Q : Option xm_V → xm_S → Prop} (hC : xk_C S) (h : ∀ S1, S1 = xm_si S 2 a1 7 (xm_i S 0 0 13) → (∀ t3, (xm_r S 2 a1 2) = t3 → ((t3 = none → ∀ S6, S6 = xm_si S1 0 0 14 ((xm_i S 0 0 14) + (1 : Int32)) → (((xm_i S 2 a1 14) = (0 : Int32) → Q none S6) ∧ (¬ (xm_i S 2 a1 14) = (0 : Int32) → xc d 36 [.inr (some (0, 0)), .inr (some (2, a1))] S6 (fun r S9 => r = none ∧ xk_C S9 ∧ (Q none S9))))) ∧ (∀ k5, t3 = some k5 → xc d 24 [.inr (some (0, 0)), .inr (some (2, k5)), .inr (some (2, a1))] S1 (fun r S11 => r = none ∧ xk_C S11 ∧ (((xm_i S11 2 a1 14) = (0 : Int32) → Q none S11) ∧ (¬ (xm_i S11 2 a1 14) = (0 : Int32) → xc d 36 [.inr (some (0, 0)), .inr (some (2, a1))] S11 (fun r S14 => r = none ∧ xk_C S14 ∧ (Q none S14))))))))) : xc (d + 1) 23 [.inr (some (0, 0)), .inr (some (2, a1))] S Q := by
  show xw _ _ _ [some (.inr (some (0, 0))), some (.inr (some (2, a1)))] _ _ _
  refine xw.s (pc' := 1) (st' := [.inr (some (2, a1))]) rfl ?_
  refine xw.s (pc' := 2) (st' := [.inr (some (0, 0)), .inr (some (2, a1))]) rfl ?_
  refine xw.fi (c := 0) (j := 13) (ty := 0) (nx := 5) (v := (xm_i S 0 0 13)) rfl rfl rfl ?_
  refine xw.fp (c := 2) (j := 7) (ty := 0) (nx := 8) rfl rfl (Or.inl rfl) ?_
  obtain ⟨S1, e2⟩ : ∃ s, s = xm_si S 2 a1 7 (xm_i S 0 0 13) := ⟨_, rfl⟩
  rw [← e2]
  replace h := h S1 e2
  refine xw.s (pc' := 9) (st' := [.inr (some (2, a1))]) rfl ?_
  obtain ⟨t3, q4⟩ : ∃ t, (xm_r S 2 a1 2) = t := ⟨_, rfl⟩
  replace h := h t3 q4
  refine xw.fr (c := 2) (j := 2) (e := 2) (nx := 12) (t := t3) rfl rfl (((congrArg (fun s => xm_r s 2 a1 2) e2).trans rfl).trans q4) ?_
  show xw _ _ _ [some (.inr (some (0, 0))), some (.inr (some (2, a1)))] [.inr (xo 2 t3)] _ _
  refine xw.nnul (o := t3) (t := 28) (nx := 15) rfl rfl ?_
  rcases t3 with _ | k5
  · replace h := h.1 rfl
    show xw _ _ 15 [some (.inr (some (0, 0))), some (.inr (some (2, a1)))] [] _ _
    refine xw.s (pc' := 16) (st' := [.inr (some (0, 0))]) rfl ?_
    refine xw.s (pc' := 17) (st' := [.inr (some (0, 0)), .inr (some (0, 0))]) rfl ?_
    refine xw.fi (c := 0) (j := 14) (ty := 0) (nx := 20) (v := (xm_i S 0 0 14)) rfl rfl ((congrArg (fun s => xm_i s 0 0 14) e2).trans (xi_si (by decide))) ?_
    refine xw.s (pc' := 21) (st' := [.inl (1 : Int32), .inl (xm_i S 0 0 14), .inr (some (0, 0))]) rfl ?_
    refine xw.s (pc' := 22) (st' := [.inl ((xm_i S 0 0 14) + (1 : Int32)), .inr (some (0, 0))]) rfl ?_
    refine xw.fp (c := 0) (j := 14) (ty := 0) (nx := 25) rfl rfl (Or.inl rfl) ?_
    obtain ⟨S6, e7⟩ : ∃ s, s = xm_si S1 0 0 14 ((xm_i S 0 0 14) + (1 : Int32)) := ⟨_, rfl⟩
    rw [← e7]
    replace h := h S6 e7
    refine xw.s (pc' := 37) (st' := []) rfl ?_
    refine xw.s (pc' := 38) (st' := [.inr (some (2, a1))]) rfl ?_
    refine xw.fi (c := 2) (j := 14) (ty := 1) (nx := 41) (v := (xm_i S 2 a1 14)) rfl rfl ((congrArg (fun s => xm_i s 2 a1 14) e7).trans ((xi_si (by decide)).trans ((congrArg (fun s => xm_i s 2 a1 14) e2).trans (xi_si (by decide))))) ?_
    refine xw.b (c := (xm_i S 2 a1 14) = (0 : Int32)) (cd := .eq) (x := (xm_i S 2 a1 14)) (y := (0 : Int32)) 49 44 (st' := []) rfl (y_ceq _ _) h (fun c8 h => ?_) (fun c8 h => ?_)
    · skip
      exact xw.ret (r := none) rfl h
    · skip
      refine xw.s (pc' := 45) (st' := [.inr (some (0, 0))]) rfl ?_
      refine xw.s (pc' := 46) (st' := [.inr (some (2, a1)), .inr (some (0, 0))]) rfl ?_
      refine xw.call (m := 36) (as := [.inr (some (0, 0)), .inr (some (2, a1))]) (nx := 49) (L' := [some (.inr (some (0, 0))), some (.inr (some (2, a1)))]) (st' := []) rfl (xc.mono h ?_)
      rintro r S9 ⟨rfl, hC10, h⟩
      show xw _ _ 49 [some (.inr (some (0, 0))), some (.inr (some (2, a1)))] [] _ _
      exact xw.ret (r := none) rfl h
  · replace h := h.2 k5 rfl
    show xw _ _ 28 [some (.inr (some (0, 0))), some (.inr (some (2, a1)))] [] _ _
    refine xw.s (pc' := 29) (st' := [.inr (some (0, 0))]) rfl ?_
    refine xw.s (pc' := 30) (st' := [.inr (some (2, a1)), .inr (some (0, 0))]) rfl ?_
    refine xw.fr (c := 2) (j := 2) (e := 2) (nx := 33) (t := (some k5)) rfl rfl (((congrArg (fun s => xm_r s 2 a1 2) e2).trans rfl).trans q4) ?_
    show xw _ _ _ [some (.inr (some (0, 0))), some (.inr (some (2, a1)))] [.inr (some (2, k5)), .inr (some (0, 0))] _ _
    refine xw.s (pc' := 34) (st' := [.inr (some (2, a1)), .inr (some (2, k5)), .inr (some (0, 0))]) rfl ?_
    refine xw.call (m := 24) (as := [.inr (some (0, 0)), .inr (some (2, k5)), .inr (some (2, a1))]) (nx := 37) (L' := [some (.inr (some (0, 0))), some (.inr (some (2, a1)))]) (st' := []) rfl (xc.mono h ?_)
    rintro r S11 ⟨rfl, hC12, h⟩
    show xw _ _ 37 [some (.inr (some (0, 0))), some (.inr (some (2, a1)))] [] _ _
    refine xw.s (pc' := 38) (st' := [.inr (some (2, a1))]) rfl ?_
    refine xw.fi (c := 2) (j := 14) (ty := 1) (nx := 41) (v := (xm_i S11 2 a1 14)) rfl rfl rfl ?_
    refine xw.b (c := (xm_i S11 2 a1 14) = (0 : Int32)) (cd := .eq) (x := (xm_i S11 2 a1 14)) (y := (0 : Int32)) 49 44 (st' := []) rfl (y_ceq _ _) h (fun c13 h => ?_) (fun c13 h => ?_)
    · skip
      exact xw.ret (r := none) rfl h
    · skip
      refine xw.s (pc' := 45) (st' := [.inr (some (0, 0))]) rfl ?_
      refine xw.s (pc' := 46) (st' := [.inr (some (2, a1)), .inr (some (0, 0))]) rfl ?_
      refine xw.call (m := 36) (as := [.inr (some (0, 0)), .inr (some (2, a1))]) (nx := 49) (L' := [some (.inr (some (0, 0))), some (.inr (some (2, a1)))]) (st' := []) rfl (xc.mono h ?_)
      rintro r S14 ⟨rfl, hC15, h⟩
      show xw _ _ 49 [some (.inr (some (0, 0))), some (.inr (some (2, a1)))] [] _ _
      exact xw.ret (r := none) rfl h
end
