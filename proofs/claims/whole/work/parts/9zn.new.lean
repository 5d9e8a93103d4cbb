/-! ===== THE CLASS'S CONSTRUCTOR, from nothing (printed by wip/whole/gen9zn.py) ===== -/
section
set_option maxRecDepth 40000
theorem cw_new0 {d : Nat}  {S : xm_S} {Q : Option xm_V → xm_S → Prop} (h : ∀ k1, k1 = xm_n S 0 12 → (∀ S3, S3 = xm_mk 12 3 S → (xm_n S3 2 k1 = 0 ∧ (∀ S6, S6 = xm_sn S3 2 k1 1 → (∀ S8, S8 = xm_sr S6 0 0 0 (some k1) → (∀ k10, k10 = xm_n S8 0 12 → (∀ S12, S12 = xm_mk 12 3 S8 → (xm_n S12 2 k10 = 0 ∧ (∀ S15, S15 = xm_sn S12 2 k10 1 → (∀ S17, S17 = xm_sr S15 0 0 1 (some k10) → (∀ k19, k19 = xm_n S17 0 12 → (∀ S21, S21 = xm_mk 12 3 S17 → (xm_n S21 2 k19 = 0 ∧ (∀ S24, S24 = xm_sn S21 2 k19 1 → (∀ S26, S26 = xm_sr S24 0 0 2 (some k19) → (∀ k28, k28 = xm_n S26 0 12 → (∀ S30, S30 = xm_mk 12 3 S26 → (xm_n S30 2 k28 = 0 ∧ (∀ S33, S33 = xm_sn S30 2 k28 1 → (∀ S35, S35 = xm_sr S33 0 0 3 (some k28) → (∀ k37, k37 = xm_n S35 0 12 → (∀ S39, S39 = xm_mk 12 3 S35 → (xm_n S39 2 k37 = 0 ∧ (∀ S42, S42 = xm_sn S39 2 k37 1 → (∀ S44, S44 = xm_sr S42 0 0 4 (some k37) → (∀ k46, k46 = xm_n S44 0 12 → (∀ S48, S48 = xm_mk 12 3 S44 → (xm_n S48 2 k46 = 0 ∧ (∀ S51, S51 = xm_sn S48 2 k46 1 → (∀ S53, S53 = xm_sr S51 0 0 5 (some k46) → (∀ k55, k55 = xm_n S53 0 12 → (∀ S57, S57 = xm_mk 12 3 S53 → (xm_n S57 2 k55 = 0 ∧ (∀ S60, S60 = xm_sn S57 2 k55 1 → (∀ S62, S62 = xm_sr S60 0 0 6 (some k55) → (∀ k64, k64 = xm_n S62 0 12 → (∀ S66, S66 = xm_mk 12 3 S62 → (xm_n S66 2 k64 = 0 ∧ (∀ S69, S69 = xm_sn S66 2 k64 1 → (∀ S71, S71 = xm_sr S69 0 0 7 (some k64) → (∀ k73, k73 = xm_n S71 0 12 → (∀ S75, S75 = xm_mk 12 3 S71 → (xm_n S75 2 k73 = 0 ∧ (∀ S78, S78 = xm_sn S75 2 k73 1 → (∀ S80, S80 = xm_sr S78 0 0 8 (some k73) → (∀ k82, k82 = xm_n S80 0 12 → (∀ S84, S84 = xm_mk 12 3 S80 → (xm_n S84 2 k82 = 0 ∧ (∀ S87, S87 = xm_sn S84 2 k82 1 → (∀ S89, S89 = xm_sr S87 0 0 9 (some k82) → (∀ k91, k91 = xm_n S89 0 12 → (∀ S93, S93 = xm_mk 12 3 S89 → (xm_n S93 2 k91 = 0 ∧ (∀ S96, S96 = xm_sn S93 2 k91 1 → (∀ S98, S98 = xm_sr S96 0 0 10 (some k91) → (∀ k100, k100 = xm_n S98 0 12 → (∀ S102, S102 = xm_mk 12 3 S98 → (xm_n S102 2 k100 = 0 ∧ (∀ S105, S105 = xm_sn S102 2 k100 1 → (∀ S107, S107 = xm_sr S105 0 0 11 (some k100) → (∀ k109, k109 = xm_n S107 0 10 → (∀ S111, S111 = xm_mk 10 1 S107 → (xc d 109 [.inr (some (10, k109))] S111 (fun r S113 => r = none ∧ xk_C S113 ∧ (∀ S115, S115 = xm_sr S113 0 0 12 (some k109) → (∀ S117, S117 = xm_si S115 0 0 13 (0 : Int32) → (∀ S119, S119 = xm_si S117 0 0 14 (0 : Int32) → (∀ S121, S121 = xm_si S119 0 0 15 (0 : Int32) → (Q none S121))))))))))))))))))))))))))))))))))))))))))))))))))))))))))))))))))))) : xc (d + 1) 0 [.inr (some (0, 0))] S Q := by
  show xw _ _ _ [some (.inr (some (0, 0)))] _ _ _
  refine xw.s (pc' := 1) (st' := [.inr (some (0, 0))]) rfl ?_
  refine xw.s (pc' := 4) (st' := []) rfl ?_
  refine xw.s (pc' := 5) (st' := [.inr (some (0, 0))]) rfl ?_
  refine xw.s (pc' := 8) (st' := [.inr (some (12, (xm_n S 0 12))), .inr (some (0, 0))]) (S1 := xm_mk 12 3 S) rfl ?_
  obtain ⟨k1, q2⟩ : ∃ k, k = xm_n S 0 12 := ⟨_, rfl⟩
  rw [← q2]
  replace h := h k1 q2
  obtain ⟨S3, e4⟩ : ∃ s, s = xm_mk 12 3 S := ⟨_, rfl⟩
  rw [← e4]
  replace h := h S3 e4
  refine xw.s (pc' := 9) (st' := [.inr (some (12, k1)), .inr (some (12, k1)), .inr (some (0, 0))]) rfl ?_
  obtain ⟨z5, h⟩ := h
  refine xw.lini (nx := 12) rfl (Nat.le_of_ble_eq_true rfl) z5 ?_
  obtain ⟨S6, e7⟩ : ∃ s, s = xm_sn S3 2 k1 1 := ⟨_, rfl⟩
  rw [← e7]
  replace h := h S6 e7
  refine xw.fq (c := 0) (j := 0) (e := 12) (nx := 15) (t := (some k1)) rfl rfl ?_
  obtain ⟨S8, e9⟩ : ∃ s, s = xm_sr S6 0 0 0 (some k1) := ⟨_, rfl⟩
  rw [← e9]
  replace h := h S8 e9
  refine xw.s (pc' := 16) (st' := [.inr (some (0, 0))]) rfl ?_
  refine xw.s (pc' := 19) (st' := [.inr (some (12, (xm_n S8 0 12))), .inr (some (0, 0))]) (S1 := xm_mk 12 3 S8) rfl ?_
  obtain ⟨k10, q11⟩ : ∃ k, k = xm_n S8 0 12 := ⟨_, rfl⟩
  rw [← q11]
  replace h := h k10 q11
  obtain ⟨S12, e13⟩ : ∃ s, s = xm_mk 12 3 S8 := ⟨_, rfl⟩
  rw [← e13]
  replace h := h S12 e13
  refine xw.s (pc' := 20) (st' := [.inr (some (12, k10)), .inr (some (12, k10)), .inr (some (0, 0))]) rfl ?_
  obtain ⟨z14, h⟩ := h
  refine xw.lini (nx := 23) rfl (Nat.le_of_ble_eq_true rfl) z14 ?_
  obtain ⟨S15, e16⟩ : ∃ s, s = xm_sn S12 2 k10 1 := ⟨_, rfl⟩
  rw [← e16]
  replace h := h S15 e16
  refine xw.fq (c := 0) (j := 1) (e := 12) (nx := 26) (t := (some k10)) rfl rfl ?_
  obtain ⟨S17, e18⟩ : ∃ s, s = xm_sr S15 0 0 1 (some k10) := ⟨_, rfl⟩
  rw [← e18]
  replace h := h S17 e18
  refine xw.s (pc' := 27) (st' := [.inr (some (0, 0))]) rfl ?_
  refine xw.s (pc' := 30) (st' := [.inr (some (12, (xm_n S17 0 12))), .inr (some (0, 0))]) (S1 := xm_mk 12 3 S17) rfl ?_
  obtain ⟨k19, q20⟩ : ∃ k, k = xm_n S17 0 12 := ⟨_, rfl⟩
  rw [← q20]
  replace h := h k19 q20
  obtain ⟨S21, e22⟩ : ∃ s, s = xm_mk 12 3 S17 := ⟨_, rfl⟩
  rw [← e22]
  replace h := h S21 e22
  refine xw.s (pc' := 31) (st' := [.inr (some (12, k19)), .inr (some (12, k19)), .inr (some (0, 0))]) rfl ?_
  obtain ⟨z23, h⟩ := h
  refine xw.lini (nx := 34) rfl (Nat.le_of_ble_eq_true rfl) z23 ?_
  obtain ⟨S24, e25⟩ : ∃ s, s = xm_sn S21 2 k19 1 := ⟨_, rfl⟩
  rw [← e25]
  replace h := h S24 e25
  refine xw.fq (c := 0) (j := 2) (e := 12) (nx := 37) (t := (some k19)) rfl rfl ?_
  obtain ⟨S26, e27⟩ : ∃ s, s = xm_sr S24 0 0 2 (some k19) := ⟨_, rfl⟩
  rw [← e27]
  replace h := h S26 e27
  refine xw.s (pc' := 38) (st' := [.inr (some (0, 0))]) rfl ?_
  refine xw.s (pc' := 41) (st' := [.inr (some (12, (xm_n S26 0 12))), .inr (some (0, 0))]) (S1 := xm_mk 12 3 S26) rfl ?_
  obtain ⟨k28, q29⟩ : ∃ k, k = xm_n S26 0 12 := ⟨_, rfl⟩
  rw [← q29]
  replace h := h k28 q29
  obtain ⟨S30, e31⟩ : ∃ s, s = xm_mk 12 3 S26 := ⟨_, rfl⟩
  rw [← e31]
  replace h := h S30 e31
  refine xw.s (pc' := 42) (st' := [.inr (some (12, k28)), .inr (some (12, k28)), .inr (some (0, 0))]) rfl ?_
  obtain ⟨z32, h⟩ := h
  refine xw.lini (nx := 45) rfl (Nat.le_of_ble_eq_true rfl) z32 ?_
  obtain ⟨S33, e34⟩ : ∃ s, s = xm_sn S30 2 k28 1 := ⟨_, rfl⟩
  rw [← e34]
  replace h := h S33 e34
  refine xw.fq (c := 0) (j := 3) (e := 12) (nx := 48) (t := (some k28)) rfl rfl ?_
  obtain ⟨S35, e36⟩ : ∃ s, s = xm_sr S33 0 0 3 (some k28) := ⟨_, rfl⟩
  rw [← e36]
  replace h := h S35 e36
  refine xw.s (pc' := 49) (st' := [.inr (some (0, 0))]) rfl ?_
  refine xw.s (pc' := 52) (st' := [.inr (some (12, (xm_n S35 0 12))), .inr (some (0, 0))]) (S1 := xm_mk 12 3 S35) rfl ?_
  obtain ⟨k37, q38⟩ : ∃ k, k = xm_n S35 0 12 := ⟨_, rfl⟩
  rw [← q38]
  replace h := h k37 q38
  obtain ⟨S39, e40⟩ : ∃ s, s = xm_mk 12 3 S35 := ⟨_, rfl⟩
  rw [← e40]
  replace h := h S39 e40
  refine xw.s (pc' := 53) (st' := [.inr (some (12, k37)), .inr (some (12, k37)), .inr (some (0, 0))]) rfl ?_
  obtain ⟨z41, h⟩ := h
  refine xw.lini (nx := 56) rfl (Nat.le_of_ble_eq_true rfl) z41 ?_
  obtain ⟨S42, e43⟩ : ∃ s, s = xm_sn S39 2 k37 1 := ⟨_, rfl⟩
  rw [← e43]
  replace h := h S42 e43
  refine xw.fq (c := 0) (j := 4) (e := 12) (nx := 59) (t := (some k37)) rfl rfl ?_
  obtain ⟨S44, e45⟩ : ∃ s, s = xm_sr S42 0 0 4 (some k37) := ⟨_, rfl⟩
  rw [← e45]
  replace h := h S44 e45
  refine xw.s (pc' := 60) (st' := [.inr (some (0, 0))]) rfl ?_
  refine xw.s (pc' := 63) (st' := [.inr (some (12, (xm_n S44 0 12))), .inr (some (0, 0))]) (S1 := xm_mk 12 3 S44) rfl ?_
  obtain ⟨k46, q47⟩ : ∃ k, k = xm_n S44 0 12 := ⟨_, rfl⟩
  rw [← q47]
  replace h := h k46 q47
  obtain ⟨S48, e49⟩ : ∃ s, s = xm_mk 12 3 S44 := ⟨_, rfl⟩
  rw [← e49]
  replace h := h S48 e49
  refine xw.s (pc' := 64) (st' := [.inr (some (12, k46)), .inr (some (12, k46)), .inr (some (0, 0))]) rfl ?_
  obtain ⟨z50, h⟩ := h
  refine xw.lini (nx := 67) rfl (Nat.le_of_ble_eq_true rfl) z50 ?_
  obtain ⟨S51, e52⟩ : ∃ s, s = xm_sn S48 2 k46 1 := ⟨_, rfl⟩
  rw [← e52]
  replace h := h S51 e52
  refine xw.fq (c := 0) (j := 5) (e := 12) (nx := 70) (t := (some k46)) rfl rfl ?_
  obtain ⟨S53, e54⟩ : ∃ s, s = xm_sr S51 0 0 5 (some k46) := ⟨_, rfl⟩
  rw [← e54]
  replace h := h S53 e54
  refine xw.s (pc' := 71) (st' := [.inr (some (0, 0))]) rfl ?_
  refine xw.s (pc' := 74) (st' := [.inr (some (12, (xm_n S53 0 12))), .inr (some (0, 0))]) (S1 := xm_mk 12 3 S53) rfl ?_
  obtain ⟨k55, q56⟩ : ∃ k, k = xm_n S53 0 12 := ⟨_, rfl⟩
  rw [← q56]
  replace h := h k55 q56
  obtain ⟨S57, e58⟩ : ∃ s, s = xm_mk 12 3 S53 := ⟨_, rfl⟩
  rw [← e58]
  replace h := h S57 e58
  refine xw.s (pc' := 75) (st' := [.inr (some (12, k55)), .inr (some (12, k55)), .inr (some (0, 0))]) rfl ?_
  obtain ⟨z59, h⟩ := h
  refine xw.lini (nx := 78) rfl (Nat.le_of_ble_eq_true rfl) z59 ?_
  obtain ⟨S60, e61⟩ : ∃ s, s = xm_sn S57 2 k55 1 := ⟨_, rfl⟩
  rw [← e61]
  replace h := h S60 e61
  refine xw.fq (c := 0) (j := 6) (e := 12) (nx := 81) (t := (some k55)) rfl rfl ?_
  obtain ⟨S62, e63⟩ : ∃ s, s = xm_sr S60 0 0 6 (some k55) := ⟨_, rfl⟩
  rw [← e63]
  replace h := h S62 e63
  refine xw.s (pc' := 82) (st' := [.inr (some (0, 0))]) rfl ?_
  refine xw.s (pc' := 85) (st' := [.inr (some (12, (xm_n S62 0 12))), .inr (some (0, 0))]) (S1 := xm_mk 12 3 S62) rfl ?_
  obtain ⟨k64, q65⟩ : ∃ k, k = xm_n S62 0 12 := ⟨_, rfl⟩
  rw [← q65]
  replace h := h k64 q65
  obtain ⟨S66, e67⟩ : ∃ s, s = xm_mk 12 3 S62 := ⟨_, rfl⟩
  rw [← e67]
  replace h := h S66 e67
  refine xw.s (pc' := 86) (st' := [.inr (some (12, k64)), .inr (some (12, k64)), .inr (some (0, 0))]) rfl ?_
  obtain ⟨z68, h⟩ := h
  refine xw.lini (nx := 89) rfl (Nat.le_of_ble_eq_true rfl) z68 ?_
  obtain ⟨S69, e70⟩ : ∃ s, s = xm_sn S66 2 k64 1 := ⟨_, rfl⟩
  rw [← e70]
  replace h := h S69 e70
  refine xw.fq (c := 0) (j := 7) (e := 12) (nx := 92) (t := (some k64)) rfl rfl ?_
  obtain ⟨S71, e72⟩ : ∃ s, s = xm_sr S69 0 0 7 (some k64) := ⟨_, rfl⟩
  rw [← e72]
  replace h := h S71 e72
  refine xw.s (pc' := 93) (st' := [.inr (some (0, 0))]) rfl ?_
  refine xw.s (pc' := 96) (st' := [.inr (some (12, (xm_n S71 0 12))), .inr (some (0, 0))]) (S1 := xm_mk 12 3 S71) rfl ?_
  obtain ⟨k73, q74⟩ : ∃ k, k = xm_n S71 0 12 := ⟨_, rfl⟩
  rw [← q74]
  replace h := h k73 q74
  obtain ⟨S75, e76⟩ : ∃ s, s = xm_mk 12 3 S71 := ⟨_, rfl⟩
  rw [← e76]
  replace h := h S75 e76
  refine xw.s (pc' := 97) (st' := [.inr (some (12, k73)), .inr (some (12, k73)), .inr (some (0, 0))]) rfl ?_
  obtain ⟨z77, h⟩ := h
  refine xw.lini (nx := 100) rfl (Nat.le_of_ble_eq_true rfl) z77 ?_
  obtain ⟨S78, e79⟩ : ∃ s, s = xm_sn S75 2 k73 1 := ⟨_, rfl⟩
  rw [← e79]
  replace h := h S78 e79
  refine xw.fq (c := 0) (j := 8) (e := 12) (nx := 103) (t := (some k73)) rfl rfl ?_
  obtain ⟨S80, e81⟩ : ∃ s, s = xm_sr S78 0 0 8 (some k73) := ⟨_, rfl⟩
  rw [← e81]
  replace h := h S80 e81
  refine xw.s (pc' := 104) (st' := [.inr (some (0, 0))]) rfl ?_
  refine xw.s (pc' := 107) (st' := [.inr (some (12, (xm_n S80 0 12))), .inr (some (0, 0))]) (S1 := xm_mk 12 3 S80) rfl ?_
  obtain ⟨k82, q83⟩ : ∃ k, k = xm_n S80 0 12 := ⟨_, rfl⟩
  rw [← q83]
  replace h := h k82 q83
  obtain ⟨S84, e85⟩ : ∃ s, s = xm_mk 12 3 S80 := ⟨_, rfl⟩
  rw [← e85]
  replace h := h S84 e85
  refine xw.s (pc' := 108) (st' := [.inr (some (12, k82)), .inr (some (12, k82)), .inr (some (0, 0))]) rfl ?_
  obtain ⟨z86, h⟩ := h
  refine xw.lini (nx := 111) rfl (Nat.le_of_ble_eq_true rfl) z86 ?_
  obtain ⟨S87, e88⟩ : ∃ s, s = xm_sn S84 2 k82 1 := ⟨_, rfl⟩
  rw [← e88]
  replace h := h S87 e88
  refine xw.fq (c := 0) (j := 9) (e := 12) (nx := 114) (t := (some k82)) rfl rfl ?_
  obtain ⟨S89, e90⟩ : ∃ s, s = xm_sr S87 0 0 9 (some k82) := ⟨_, rfl⟩
  rw [← e90]
  replace h := h S89 e90
  refine xw.s (pc' := 115) (st' := [.inr (some (0, 0))]) rfl ?_
  refine xw.s (pc' := 118) (st' := [.inr (some (12, (xm_n S89 0 12))), .inr (some (0, 0))]) (S1 := xm_mk 12 3 S89) rfl ?_
  obtain ⟨k91, q92⟩ : ∃ k, k = xm_n S89 0 12 := ⟨_, rfl⟩
  rw [← q92]
  replace h := h k91 q92
  obtain ⟨S93, e94⟩ : ∃ s, s = xm_mk 12 3 S89 := ⟨_, rfl⟩
  rw [← e94]
  replace h := h S93 e94
  refine xw.s (pc' := 119) (st' := [.inr (some (12, k91)), .inr (some (12, k91)), .inr (some (0, 0))]) rfl ?_
  obtain ⟨z95, h⟩ := h
  refine xw.lini (nx := 122) rfl (Nat.le_of_ble_eq_true rfl) z95 ?_
  obtain ⟨S96, e97⟩ : ∃ s, s = xm_sn S93 2 k91 1 := ⟨_, rfl⟩
  rw [← e97]
  replace h := h S96 e97
  refine xw.fq (c := 0) (j := 10) (e := 12) (nx := 125) (t := (some k91)) rfl rfl ?_
  obtain ⟨S98, e99⟩ : ∃ s, s = xm_sr S96 0 0 10 (some k91) := ⟨_, rfl⟩
  rw [← e99]
  replace h := h S98 e99
  refine xw.s (pc' := 126) (st' := [.inr (some (0, 0))]) rfl ?_
  refine xw.s (pc' := 129) (st' := [.inr (some (12, (xm_n S98 0 12))), .inr (some (0, 0))]) (S1 := xm_mk 12 3 S98) rfl ?_
  obtain ⟨k100, q101⟩ : ∃ k, k = xm_n S98 0 12 := ⟨_, rfl⟩
  rw [← q101]
  replace h := h k100 q101
  obtain ⟨S102, e103⟩ : ∃ s, s = xm_mk 12 3 S98 := ⟨_, rfl⟩
  rw [← e103]
  replace h := h S102 e103
  refine xw.s (pc' := 130) (st' := [.inr (some (12, k100)), .inr (some (12, k100)), .inr (some (0, 0))]) rfl ?_
  obtain ⟨z104, h⟩ := h
  refine xw.lini (nx := 133) rfl (Nat.le_of_ble_eq_true rfl) z104 ?_
  obtain ⟨S105, e106⟩ : ∃ s, s = xm_sn S102 2 k100 1 := ⟨_, rfl⟩
  rw [← e106]
  replace h := h S105 e106
  refine xw.fq (c := 0) (j := 11) (e := 12) (nx := 136) (t := (some k100)) rfl rfl ?_
  obtain ⟨S107, e108⟩ : ∃ s, s = xm_sr S105 0 0 11 (some k100) := ⟨_, rfl⟩
  rw [← e108]
  replace h := h S107 e108
  refine xw.s (pc' := 137) (st' := [.inr (some (0, 0))]) rfl ?_
  refine xw.s (pc' := 140) (st' := [.inr (some (10, (xm_n S107 0 10))), .inr (some (0, 0))]) (S1 := xm_mk 10 1 S107) rfl ?_
  obtain ⟨k109, q110⟩ : ∃ k, k = xm_n S107 0 10 := ⟨_, rfl⟩
  rw [← q110]
  replace h := h k109 q110
  obtain ⟨S111, e112⟩ : ∃ s, s = xm_mk 10 1 S107 := ⟨_, rfl⟩
  rw [← e112]
  replace h := h S111 e112
  refine xw.s (pc' := 141) (st' := [.inr (some (10, k109)), .inr (some (10, k109)), .inr (some (0, 0))]) rfl ?_
  refine xw.call (m := 109) (as := [.inr (some (10, k109))]) (nx := 144) (L' := [some (.inr (some (0, 0)))]) (st' := [.inr (some (10, k109)), .inr (some (0, 0))]) rfl (xc.mono h ?_)
  rintro r S113 ⟨rfl, hC114, h⟩
  show xw _ _ 144 [some (.inr (some (0, 0)))] [.inr (some (10, k109)), .inr (some (0, 0))] _ _
  refine xw.fq (c := 0) (j := 12) (e := 10) (nx := 147) (t := (some k109)) rfl rfl ?_
  obtain ⟨S115, e116⟩ : ∃ s, s = xm_sr S113 0 0 12 (some k109) := ⟨_, rfl⟩
  rw [← e116]
  replace h := h S115 e116
  refine xw.s (pc' := 148) (st' := [.inr (some (0, 0))]) rfl ?_
  refine xw.s (pc' := 149) (st' := [.inl (0 : Int32), .inr (some (0, 0))]) rfl ?_
  refine xw.fp (c := 0) (j := 13) (ty := 0) (nx := 152) rfl rfl (Or.inl rfl) ?_
  obtain ⟨S117, e118⟩ : ∃ s, s = xm_si S115 0 0 13 (0 : Int32) := ⟨_, rfl⟩
  rw [← e118]
  replace h := h S117 e118
  refine xw.s (pc' := 153) (st' := [.inr (some (0, 0))]) rfl ?_
  refine xw.s (pc' := 154) (st' := [.inl (0 : Int32), .inr (some (0, 0))]) rfl ?_
  refine xw.fp (c := 0) (j := 14) (ty := 0) (nx := 157) rfl rfl (Or.inl rfl) ?_
  obtain ⟨S119, e120⟩ : ∃ s, s = xm_si S117 0 0 14 (0 : Int32) := ⟨_, rfl⟩
  rw [← e120]
  replace h := h S119 e120
  refine xw.s (pc' := 158) (st' := [.inr (some (0, 0))]) rfl ?_
  refine xw.s (pc' := 159) (st' := [.inl (0 : Int32), .inr (some (0, 0))]) rfl ?_
  refine xw.fp (c := 0) (j := 15) (ty := 0) (nx := 162) rfl rfl (Or.inl rfl) ?_
  obtain ⟨S121, e122⟩ : ∃ s, s = xm_si S119 0 0 15 (0 : Int32) := ⟨_, rfl⟩
  rw [← e122]
  replace h := h S121 e122
  exact xw.ret (r := none) rfl h
end
