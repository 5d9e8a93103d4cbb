/-! ===== THE LAW: one turn of its loop (printed by wip/whole/gen63.py) ===== -/
section
theorem cw_law_18 {d : Nat} {l3 : Int32} {S : xm_S} {Q : Option xm_V → xm_S → Prop} (hC : xk_C S) (h : (((nI (xm_n S 27 0)) - (8 : Int32)) < l3 → Q (some (.inl (1 : Int32))) S) ∧ (¬ ((nI (xm_n S 27 0)) - (8 : Int32)) < l3 → y_in l3 (xm_n S 27 0) ∧ ((((xm_i S 17 0 (y_ix l3)) &&& (31 : Int32)) = (0 : Int32) → y_in (l3 + (1 : Int32)) (xm_n S 27 0) ∧ (y_in (l3 + (2 : Int32)) (xm_n S 27 0) ∧ (y_in (l3 + (3 : Int32)) (xm_n S 27 0) ∧ (xc d 1 [.inr (some (0, 0)), .inl (xm_i S 17 0 (y_ix (l3 + (1 : Int32)))), .inl (xm_i S 17 0 (y_ix (l3 + (2 : Int32)))), .inl (xm_i S 17 0 (y_ix (l3 + (3 : Int32))))] S (fun r S7 => ∃ x9 : Int32, r = some (.inl x9) ∧ xk_C S7 ∧ (y_in (l3 + (1 : Int32)) (xm_n S7 27 0) ∧ (y_in (l3 + (2 : Int32)) (xm_n S7 27 0) ∧ (y_in (l3 + (3 : Int32)) (xm_n S7 27 0) ∧ (xc d 113 [.inr (some (11, 0)), .inl (xm_i S7 17 0 (y_ix (l3 + (1 : Int32)))), .inl (xm_i S7 17 0 (y_ix (l3 + (2 : Int32)))), .inl (xm_i S7 17 0 (y_ix (l3 + (3 : Int32))))] S7 (fun r S13 => ∃ x15 : Int32, r = some (.inl x15) ∧ xk_C S13 ∧ ((x9 = x15 → xw (d + 1) 182 18 [some (.inr (some (17, 0))), some (.inr (some (0, 0))), some (.inr (some (11, 0))), some (.inl (l3 + (8 : Int32)))] [] S13 Q) ∧ (¬ x9 = x15 → Q (some (.inl (0 : Int32))) S13)))))))))))) ∧ (¬ ((xm_i S 17 0 (y_ix l3)) &&& (31 : Int32)) = (0 : Int32) → (((xm_i S 17 0 (y_ix l3)) &&& (31 : Int32)) = (1 : Int32) → y_in (l3 + (1 : Int32)) (xm_n S 27 0) ∧ (y_in (l3 + (2 : Int32)) (xm_n S 27 0) ∧ (y_in (l3 + (3 : Int32)) (xm_n S 27 0) ∧ (y_in (l3 + (4 : Int32)) (xm_n S 27 0) ∧ (y_in (l3 + (5 : Int32)) (xm_n S 27 0) ∧ (xc d 3 [.inr (some (0, 0)), .inl (xm_i S 17 0 (y_ix (l3 + (1 : Int32)))), .inl (xm_i S 17 0 (y_ix (l3 + (2 : Int32)))), .inl (xm_i S 17 0 (y_ix (l3 + (3 : Int32)))), .inl (xm_i S 17 0 (y_ix (l3 + (4 : Int32)))), .inl (xm_i S 17 0 (y_ix (l3 + (5 : Int32))))] S (fun r S23 => ∃ x25 : Int32, r = some (.inl x25) ∧ xk_C S23 ∧ (y_in (l3 + (1 : Int32)) (xm_n S23 27 0) ∧ (y_in (l3 + (2 : Int32)) (xm_n S23 27 0) ∧ (y_in (l3 + (3 : Int32)) (xm_n S23 27 0) ∧ (y_in (l3 + (4 : Int32)) (xm_n S23 27 0) ∧ (y_in (l3 + (5 : Int32)) (xm_n S23 27 0) ∧ (xc d 114 [.inr (some (11, 0)), .inl (xm_i S23 17 0 (y_ix (l3 + (1 : Int32)))), .inl (xm_i S23 17 0 (y_ix (l3 + (2 : Int32)))), .inl (xm_i S23 17 0 (y_ix (l3 + (3 : Int32)))), .inl (xm_i S23 17 0 (y_ix (l3 + (4 : Int32)))), .inl (xm_i S23 17 0 (y_ix (l3 + (5 : Int32))))] S23 (fun r S31 => ∃ x33 : Int32, r = some (.inl x33) ∧ xk_C S31 ∧ ((x25 = x33 → xw (d + 1) 182 18 [some (.inr (some (17, 0))), some (.inr (some (0, 0))), some (.inr (some (11, 0))), some (.inl (l3 + (8 : Int32)))] [] S31 Q) ∧ (¬ x25 = x33 → Q (some (.inl (0 : Int32))) S31)))))))))))))))) ∧ (¬ ((xm_i S 17 0 (y_ix l3)) &&& (31 : Int32)) = (1 : Int32) → (((xm_i S 17 0 (y_ix l3)) &&& (31 : Int32)) = (2 : Int32) → y_in (l3 + (1 : Int32)) (xm_n S 27 0) ∧ (y_in (l3 + (2 : Int32)) (xm_n S 27 0) ∧ (y_in (l3 + (3 : Int32)) (xm_n S 27 0) ∧ (y_in (l3 + (4 : Int32)) (xm_n S 27 0) ∧ (y_in (l3 + (5 : Int32)) (xm_n S 27 0) ∧ (xc d 6 [.inr (some (0, 0)), .inl (xm_i S 17 0 (y_ix (l3 + (1 : Int32)))), .inl (xm_i S 17 0 (y_ix (l3 + (2 : Int32)))), .inl (xm_i S 17 0 (y_ix (l3 + (3 : Int32)))), .inl (xm_i S 17 0 (y_ix (l3 + (4 : Int32)))), .inl (xm_i S 17 0 (y_ix (l3 + (5 : Int32))))] S (fun r S41 => ∃ x43 : Int32, r = some (.inl x43) ∧ xk_C S41 ∧ (y_in (l3 + (1 : Int32)) (xm_n S41 27 0) ∧ (y_in (l3 + (2 : Int32)) (xm_n S41 27 0) ∧ (y_in (l3 + (3 : Int32)) (xm_n S41 27 0) ∧ (y_in (l3 + (4 : Int32)) (xm_n S41 27 0) ∧ (y_in (l3 + (5 : Int32)) (xm_n S41 27 0) ∧ (xc d 117 [.inr (some (11, 0)), .inl (xm_i S41 17 0 (y_ix (l3 + (1 : Int32)))), .inl (xm_i S41 17 0 (y_ix (l3 + (2 : Int32)))), .inl (xm_i S41 17 0 (y_ix (l3 + (3 : Int32)))), .inl (xm_i S41 17 0 (y_ix (l3 + (4 : Int32)))), .inl (xm_i S41 17 0 (y_ix (l3 + (5 : Int32))))] S41 (fun r S49 => ∃ x51 : Int32, r = some (.inl x51) ∧ xk_C S49 ∧ ((x43 = x51 → xw (d + 1) 182 18 [some (.inr (some (17, 0))), some (.inr (some (0, 0))), some (.inr (some (11, 0))), some (.inl (l3 + (8 : Int32)))] [] S49 Q) ∧ (¬ x43 = x51 → Q (some (.inl (0 : Int32))) S49)))))))))))))))) ∧ (¬ ((xm_i S 17 0 (y_ix l3)) &&& (31 : Int32)) = (2 : Int32) → (((xm_i S 17 0 (y_ix l3)) &&& (31 : Int32)) = (3 : Int32) → y_in (l3 + (1 : Int32)) (xm_n S 27 0) ∧ (y_in (l3 + (2 : Int32)) (xm_n S 27 0) ∧ (y_in (l3 + (3 : Int32)) (xm_n S 27 0) ∧ (y_in (l3 + (4 : Int32)) (xm_n S 27 0) ∧ (y_in (l3 + (5 : Int32)) (xm_n S 27 0) ∧ (xc d 7 [.inr (some (0, 0)), .inl (xm_i S 17 0 (y_ix (l3 + (1 : Int32)))), .inl (xm_i S 17 0 (y_ix (l3 + (2 : Int32)))), .inl (xm_i S 17 0 (y_ix (l3 + (3 : Int32)))), .inl (xm_i S 17 0 (y_ix (l3 + (4 : Int32)))), .inl (xm_i S 17 0 (y_ix (l3 + (5 : Int32))))] S (fun r S59 => ∃ x61 : Int32, r = some (.inl x61) ∧ xk_C S59 ∧ (y_in (l3 + (1 : Int32)) (xm_n S59 27 0) ∧ (y_in (l3 + (2 : Int32)) (xm_n S59 27 0) ∧ (y_in (l3 + (3 : Int32)) (xm_n S59 27 0) ∧ (y_in (l3 + (4 : Int32)) (xm_n S59 27 0) ∧ (y_in (l3 + (5 : Int32)) (xm_n S59 27 0) ∧ (xc d 122 [.inr (some (11, 0)), .inl (xm_i S59 17 0 (y_ix (l3 + (1 : Int32)))), .inl (xm_i S59 17 0 (y_ix (l3 + (2 : Int32)))), .inl (xm_i S59 17 0 (y_ix (l3 + (3 : Int32)))), .inl (xm_i S59 17 0 (y_ix (l3 + (4 : Int32)))), .inl (xm_i S59 17 0 (y_ix (l3 + (5 : Int32))))] S59 (fun r S67 => ∃ x69 : Int32, r = some (.inl x69) ∧ xk_C S67 ∧ ((x61 = x69 → xw (d + 1) 182 18 [some (.inr (some (17, 0))), some (.inr (some (0, 0))), some (.inr (some (11, 0))), some (.inl (l3 + (8 : Int32)))] [] S67 Q) ∧ (¬ x61 = x69 → Q (some (.inl (0 : Int32))) S67)))))))))))))))) ∧ (¬ ((xm_i S 17 0 (y_ix l3)) &&& (31 : Int32)) = (3 : Int32) → (((xm_i S 17 0 (y_ix l3)) &&& (31 : Int32)) = (4 : Int32) → y_in (l3 + (1 : Int32)) (xm_n S 27 0) ∧ (xc d 9 [.inr (some (0, 0)), .inl (xm_i S 17 0 (y_ix (l3 + (1 : Int32))))] S (fun r S73 => ∃ x75 : Int32, r = some (.inl x75) ∧ xk_C S73 ∧ (y_in (l3 + (1 : Int32)) (xm_n S73 27 0) ∧ (xc d 125 [.inr (some (11, 0)), .inl (xm_i S73 17 0 (y_ix (l3 + (1 : Int32))))] S73 (fun r S77 => ∃ x79 : Int32, r = some (.inl x79) ∧ xk_C S77 ∧ ((x75 = x79 → xw (d + 1) 182 18 [some (.inr (some (17, 0))), some (.inr (some (0, 0))), some (.inr (some (11, 0))), some (.inl (l3 + (8 : Int32)))] [] S77 Q) ∧ (¬ x75 = x79 → Q (some (.inl (0 : Int32))) S77)))))))) ∧ (¬ ((xm_i S 17 0 (y_ix l3)) &&& (31 : Int32)) = (4 : Int32) → (((xm_i S 17 0 (y_ix l3)) &&& (31 : Int32)) = (5 : Int32) → xc d 11 [.inr (some (0, 0))] S (fun r S82 => ∃ x84 : Int32, r = some (.inl x84) ∧ xk_C S82 ∧ (xc d 126 [.inr (some (11, 0))] S82 (fun r S85 => ∃ x87 : Int32, r = some (.inl x87) ∧ xk_C S85 ∧ ((x84 = x87 → xw (d + 1) 182 18 [some (.inr (some (17, 0))), some (.inr (some (0, 0))), some (.inr (some (11, 0))), some (.inl (l3 + (8 : Int32)))] [] S85 Q) ∧ (¬ x84 = x87 → Q (some (.inl (0 : Int32))) S85)))))) ∧ (¬ ((xm_i S 17 0 (y_ix l3)) &&& (31 : Int32)) = (5 : Int32) → (((xm_i S 17 0 (y_ix l3)) &&& (31 : Int32)) = (6 : Int32) → y_in (l3 + (1 : Int32)) (xm_n S 27 0) ∧ (y_in (l3 + (2 : Int32)) (xm_n S 27 0) ∧ (y_in (l3 + (3 : Int32)) (xm_n S 27 0) ∧ (y_in (l3 + (4 : Int32)) (xm_n S 27 0) ∧ (y_in (l3 + (5 : Int32)) (xm_n S 27 0) ∧ (xc d 12 [.inr (some (0, 0)), .inl (xm_i S 17 0 (y_ix (l3 + (1 : Int32)))), .inl (xm_i S 17 0 (y_ix (l3 + (2 : Int32)))), .inl (xm_i S 17 0 (y_ix (l3 + (3 : Int32)))), .inl (xm_i S 17 0 (y_ix (l3 + (4 : Int32)))), .inl (xm_i S 17 0 (y_ix (l3 + (5 : Int32))))] S (fun r S95 => ∃ x97 : Int32, r = some (.inl x97) ∧ xk_C S95 ∧ (y_in (l3 + (1 : Int32)) (xm_n S95 27 0) ∧ (y_in (l3 + (2 : Int32)) (xm_n S95 27 0) ∧ (y_in (l3 + (3 : Int32)) (xm_n S95 27 0) ∧ (y_in (l3 + (4 : Int32)) (xm_n S95 27 0) ∧ (y_in (l3 + (5 : Int32)) (xm_n S95 27 0) ∧ (xc d 127 [.inr (some (11, 0)), .inl (xm_i S95 17 0 (y_ix (l3 + (1 : Int32)))), .inl (xm_i S95 17 0 (y_ix (l3 + (2 : Int32)))), .inl (xm_i S95 17 0 (y_ix (l3 + (3 : Int32)))), .inl (xm_i S95 17 0 (y_ix (l3 + (4 : Int32)))), .inl (xm_i S95 17 0 (y_ix (l3 + (5 : Int32))))] S95 (fun r S103 => ∃ x105 : Int32, r = some (.inl x105) ∧ xk_C S103 ∧ ((x97 = x105 → xw (d + 1) 182 18 [some (.inr (some (17, 0))), some (.inr (some (0, 0))), some (.inr (some (11, 0))), some (.inl (l3 + (8 : Int32)))] [] S103 Q) ∧ (¬ x97 = x105 → Q (some (.inl (0 : Int32))) S103)))))))))))))))) ∧ (¬ ((xm_i S 17 0 (y_ix l3)) &&& (31 : Int32)) = (6 : Int32) → (((xm_i S 17 0 (y_ix l3)) &&& (31 : Int32)) = (7 : Int32) → y_in (l3 + (1 : Int32)) (xm_n S 27 0) ∧ (xc d 47 [.inr (some (0, 0)), .inl (xm_i S 17 0 (y_ix (l3 + (1 : Int32))))] S (fun r S109 => ∃ x111 : Int32, r = some (.inl x111) ∧ xk_C S109 ∧ (y_in (l3 + (1 : Int32)) (xm_n S109 27 0) ∧ (xc d 156 [.inr (some (11, 0)), .inl (xm_i S109 17 0 (y_ix (l3 + (1 : Int32))))] S109 (fun r S113 => ∃ x115 : Int32, r = some (.inl x115) ∧ xk_C S113 ∧ ((x111 = x115 → xw (d + 1) 182 18 [some (.inr (some (17, 0))), some (.inr (some (0, 0))), some (.inr (some (11, 0))), some (.inl (l3 + (8 : Int32)))] [] S113 Q) ∧ (¬ x111 = x115 → Q (some (.inl (0 : Int32))) S113)))))))) ∧ (¬ ((xm_i S 17 0 (y_ix l3)) &&& (31 : Int32)) = (7 : Int32) → (((xm_i S 17 0 (y_ix l3)) &&& (31 : Int32)) = (8 : Int32) → y_in (l3 + (1 : Int32)) (xm_n S 27 0) ∧ (xc d 49 [.inr (some (0, 0)), .inl (xm_i S 17 0 (y_ix (l3 + (1 : Int32))))] S (fun r S119 => ∃ x121 : Int32, r = some (.inl x121) ∧ xk_C S119 ∧ (y_in (l3 + (1 : Int32)) (xm_n S119 27 0) ∧ (xc d 163 [.inr (some (11, 0)), .inl (xm_i S119 17 0 (y_ix (l3 + (1 : Int32))))] S119 (fun r S123 => ∃ x125 : Int32, r = some (.inl x125) ∧ xk_C S123 ∧ ((x121 = x125 → xw (d + 1) 182 18 [some (.inr (some (17, 0))), some (.inr (some (0, 0))), some (.inr (some (11, 0))), some (.inl (l3 + (8 : Int32)))] [] S123 Q) ∧ (¬ x121 = x125 → Q (some (.inl (0 : Int32))) S123)))))))) ∧ (¬ ((xm_i S 17 0 (y_ix l3)) &&& (31 : Int32)) = (8 : Int32) → (((xm_i S 17 0 (y_ix l3)) &&& (31 : Int32)) = (9 : Int32) → y_in (l3 + (1 : Int32)) (xm_n S 27 0) ∧ (y_in (l3 + (2 : Int32)) (xm_n S 27 0) ∧ (y_in (l3 + (3 : Int32)) (xm_n S 27 0) ∧ (y_in (l3 + (4 : Int32)) (xm_n S 27 0) ∧ (y_in (l3 + (5 : Int32)) (xm_n S 27 0) ∧ (y_in (l3 + (6 : Int32)) (xm_n S 27 0) ∧ (y_in (l3 + (7 : Int32)) (xm_n S 27 0) ∧ (xc d 63 [.inr (some (0, 0)), .inl (xm_i S 17 0 (y_ix (l3 + (1 : Int32)))), .inl (xm_i S 17 0 (y_ix (l3 + (2 : Int32)))), .inl (xm_i S 17 0 (y_ix (l3 + (3 : Int32)))), .inl (xm_i S 17 0 (y_ix (l3 + (4 : Int32)))), .inl (xm_i S 17 0 (y_ix (l3 + (5 : Int32)))), .inl (xm_i S 17 0 (y_ix (l3 + (6 : Int32)))), .inl (xm_i S 17 0 (y_ix (l3 + (7 : Int32))))] S (fun r S135 => ∃ x137 : Int32, r = some (.inl x137) ∧ xk_C S135 ∧ (y_in (l3 + (1 : Int32)) (xm_n S135 27 0) ∧ (y_in (l3 + (2 : Int32)) (xm_n S135 27 0) ∧ (y_in (l3 + (3 : Int32)) (xm_n S135 27 0) ∧ (y_in (l3 + (4 : Int32)) (xm_n S135 27 0) ∧ (y_in (l3 + (5 : Int32)) (xm_n S135 27 0) ∧ (y_in (l3 + (6 : Int32)) (xm_n S135 27 0) ∧ (y_in (l3 + (7 : Int32)) (xm_n S135 27 0) ∧ (xc d 157 [.inr (some (11, 0)), .inl (xm_i S135 17 0 (y_ix (l3 + (1 : Int32)))), .inl (xm_i S135 17 0 (y_ix (l3 + (2 : Int32)))), .inl (xm_i S135 17 0 (y_ix (l3 + (3 : Int32)))), .inl (xm_i S135 17 0 (y_ix (l3 + (4 : Int32)))), .inl (xm_i S135 17 0 (y_ix (l3 + (5 : Int32)))), .inl (xm_i S135 17 0 (y_ix (l3 + (6 : Int32)))), .inl (xm_i S135 17 0 (y_ix (l3 + (7 : Int32))))] S135 (fun r S145 => ∃ x147 : Int32, r = some (.inl x147) ∧ xk_C S145 ∧ ((x137 = x147 → xw (d + 1) 182 18 [some (.inr (some (17, 0))), some (.inr (some (0, 0))), some (.inr (some (11, 0))), some (.inl (l3 + (8 : Int32)))] [] S145 Q) ∧ (¬ x137 = x147 → Q (some (.inl (0 : Int32))) S145)))))))))))))))))))) ∧ (¬ ((xm_i S 17 0 (y_ix l3)) &&& (31 : Int32)) = (9 : Int32) → (((xm_i S 17 0 (y_ix l3)) &&& (31 : Int32)) = (10 : Int32) → y_in (l3 + (1 : Int32)) (xm_n S 27 0) ∧ (xc d 64 [.inr (some (0, 0)), .inl (xm_i S 17 0 (y_ix (l3 + (1 : Int32))))] S (fun r S151 => ∃ x153 : Int32, r = some (.inl x153) ∧ xk_C S151 ∧ (y_in (l3 + (1 : Int32)) (xm_n S151 27 0) ∧ (xc d 158 [.inr (some (11, 0)), .inl (xm_i S151 17 0 (y_ix (l3 + (1 : Int32))))] S151 (fun r S155 => ∃ x157 : Int32, r = some (.inl x157) ∧ xk_C S155 ∧ ((x153 = x157 → xw (d + 1) 182 18 [some (.inr (some (17, 0))), some (.inr (some (0, 0))), some (.inr (some (11, 0))), some (.inl (l3 + (8 : Int32)))] [] S155 Q) ∧ (¬ x153 = x157 → Q (some (.inl (0 : Int32))) S155)))))))) ∧ (¬ ((xm_i S 17 0 (y_ix l3)) &&& (31 : Int32)) = (10 : Int32) → (((xm_i S 17 0 (y_ix l3)) &&& (31 : Int32)) = (11 : Int32) → y_in (l3 + (1 : Int32)) (xm_n S 27 0) ∧ (y_in (l3 + (2 : Int32)) (xm_n S 27 0) ∧ (xc d 66 [.inr (some (0, 0)), .inl (xm_i S 17 0 (y_ix (l3 + (1 : Int32)))), .inl (xm_i S 17 0 (y_ix (l3 + (2 : Int32))))] S (fun r S162 => ∃ x164 : Int32, r = some (.inl x164) ∧ xk_C S162 ∧ (y_in (l3 + (1 : Int32)) (xm_n S162 27 0) ∧ (y_in (l3 + (2 : Int32)) (xm_n S162 27 0) ∧ (xc d 159 [.inr (some (11, 0)), .inl (xm_i S162 17 0 (y_ix (l3 + (1 : Int32)))), .inl (xm_i S162 17 0 (y_ix (l3 + (2 : Int32))))] S162 (fun r S167 => ∃ x169 : Int32, r = some (.inl x169) ∧ xk_C S167 ∧ ((x164 = x169 → xw (d + 1) 182 18 [some (.inr (some (17, 0))), some (.inr (some (0, 0))), some (.inr (some (11, 0))), some (.inl (l3 + (8 : Int32)))] [] S167 Q) ∧ (¬ x164 = x169 → Q (some (.inl (0 : Int32))) S167)))))))))) ∧ (¬ ((xm_i S 17 0 (y_ix l3)) &&& (31 : Int32)) = (11 : Int32) → (((xm_i S 17 0 (y_ix l3)) &&& (31 : Int32)) = (12 : Int32) → y_in (l3 + (1 : Int32)) (xm_n S 27 0) ∧ (y_in (l3 + (2 : Int32)) (xm_n S 27 0) ∧ (y_in (l3 + (3 : Int32)) (xm_n S 27 0) ∧ (xc d 67 [.inr (some (0, 0)), .inl (xm_i S 17 0 (y_ix (l3 + (1 : Int32)))), .inl (xm_i S 17 0 (y_ix (l3 + (2 : Int32)))), .inl (xm_i S 17 0 (y_ix (l3 + (3 : Int32))))] S (fun r S175 => ∃ x177 : Int32, r = some (.inl x177) ∧ xk_C S175 ∧ (y_in (l3 + (1 : Int32)) (xm_n S175 27 0) ∧ (y_in (l3 + (2 : Int32)) (xm_n S175 27 0) ∧ (y_in (l3 + (3 : Int32)) (xm_n S175 27 0) ∧ (xc d 160 [.inr (some (11, 0)), .inl (xm_i S175 17 0 (y_ix (l3 + (1 : Int32)))), .inl (xm_i S175 17 0 (y_ix (l3 + (2 : Int32)))), .inl (xm_i S175 17 0 (y_ix (l3 + (3 : Int32))))] S175 (fun r S181 => ∃ x183 : Int32, r = some (.inl x183) ∧ xk_C S181 ∧ ((x177 = x183 → xw (d + 1) 182 18 [some (.inr (some (17, 0))), some (.inr (some (0, 0))), some (.inr (some (11, 0))), some (.inl (l3 + (8 : Int32)))] [] S181 Q) ∧ (¬ x177 = x183 → Q (some (.inl (0 : Int32))) S181)))))))))))) ∧ (¬ ((xm_i S 17 0 (y_ix l3)) &&& (31 : Int32)) = (12 : Int32) → (((xm_i S 17 0 (y_ix l3)) &&& (31 : Int32)) = (13 : Int32) → y_in (l3 + (1 : Int32)) (xm_n S 27 0) ∧ (y_in (l3 + (2 : Int32)) (xm_n S 27 0) ∧ (xc d 71 [.inr (some (0, 0)), .inl (xm_i S 17 0 (y_ix (l3 + (1 : Int32)))), .inl (xm_i S 17 0 (y_ix (l3 + (2 : Int32))))] S (fun r S188 => ∃ x190 : Int32, r = some (.inl x190) ∧ xk_C S188 ∧ (y_in (l3 + (1 : Int32)) (xm_n S188 27 0) ∧ (y_in (l3 + (2 : Int32)) (xm_n S188 27 0) ∧ (xc d 162 [.inr (some (11, 0)), .inl (xm_i S188 17 0 (y_ix (l3 + (1 : Int32)))), .inl (xm_i S188 17 0 (y_ix (l3 + (2 : Int32))))] S188 (fun r S193 => ∃ x195 : Int32, r = some (.inl x195) ∧ xk_C S193 ∧ ((x190 = x195 → xw (d + 1) 182 18 [some (.inr (some (17, 0))), some (.inr (some (0, 0))), some (.inr (some (11, 0))), some (.inl (l3 + (8 : Int32)))] [] S193 Q) ∧ (¬ x190 = x195 → Q (some (.inl (0 : Int32))) S193)))))))))) ∧ (¬ ((xm_i S 17 0 (y_ix l3)) &&& (31 : Int32)) = (13 : Int32) → (((xm_i S 17 0 (y_ix l3)) &&& (31 : Int32)) = (14 : Int32) → xc d 72 [.inr (some (0, 0))] S (fun r S198 => ∃ x200 : Int32, r = some (.inl x200) ∧ xk_C S198 ∧ (xc d 169 [.inr (some (11, 0))] S198 (fun r S201 => ∃ x203 : Int32, r = some (.inl x203) ∧ xk_C S201 ∧ ((x200 = x203 → xw (d + 1) 182 18 [some (.inr (some (17, 0))), some (.inr (some (0, 0))), some (.inr (some (11, 0))), some (.inl (l3 + (8 : Int32)))] [] S201 Q) ∧ (¬ x200 = x203 → Q (some (.inl (0 : Int32))) S201)))))) ∧ (¬ ((xm_i S 17 0 (y_ix l3)) &&& (31 : Int32)) = (14 : Int32) → (((xm_i S 17 0 (y_ix l3)) &&& (31 : Int32)) = (15 : Int32) → y_in (l3 + (1 : Int32)) (xm_n S 27 0) ∧ (xc d 73 [.inr (some (0, 0)), .inl (xm_i S 17 0 (y_ix (l3 + (1 : Int32))))] S (fun r S207 => ∃ x209 : Int32, r = some (.inl x209) ∧ xk_C S207 ∧ (y_in (l3 + (1 : Int32)) (xm_n S207 27 0) ∧ (xc d 170 [.inr (some (11, 0)), .inl (xm_i S207 17 0 (y_ix (l3 + (1 : Int32))))] S207 (fun r S211 => ∃ x213 : Int32, r = some (.inl x213) ∧ xk_C S211 ∧ ((x209 = x213 → xw (d + 1) 182 18 [some (.inr (some (17, 0))), some (.inr (some (0, 0))), some (.inr (some (11, 0))), some (.inl (l3 + (8 : Int32)))] [] S211 Q) ∧ (¬ x209 = x213 → Q (some (.inl (0 : Int32))) S211)))))))) ∧ (¬ ((xm_i S 17 0 (y_ix l3)) &&& (31 : Int32)) = (15 : Int32) → (((xm_i S 17 0 (y_ix l3)) &&& (31 : Int32)) = (16 : Int32) → y_in (l3 + (1 : Int32)) (xm_n S 27 0) ∧ (y_in (l3 + (2 : Int32)) (xm_n S 27 0) ∧ (xc d 74 [.inr (some (0, 0)), .inl (xm_i S 17 0 (y_ix (l3 + (1 : Int32)))), .inl (xm_i S 17 0 (y_ix (l3 + (2 : Int32))))] S (fun r S218 => ∃ x220 : Int32, r = some (.inl x220) ∧ xk_C S218 ∧ (y_in (l3 + (1 : Int32)) (xm_n S218 27 0) ∧ (y_in (l3 + (2 : Int32)) (xm_n S218 27 0) ∧ (xc d 171 [.inr (some (11, 0)), .inl (xm_i S218 17 0 (y_ix (l3 + (1 : Int32)))), .inl (xm_i S218 17 0 (y_ix (l3 + (2 : Int32))))] S218 (fun r S223 => ∃ x225 : Int32, r = some (.inl x225) ∧ xk_C S223 ∧ ((x220 = x225 → xw (d + 1) 182 18 [some (.inr (some (17, 0))), some (.inr (some (0, 0))), some (.inr (some (11, 0))), some (.inl (l3 + (8 : Int32)))] [] S223 Q) ∧ (¬ x220 = x225 → Q (some (.inl (0 : Int32))) S223)))))))))) ∧ (¬ ((xm_i S 17 0 (y_ix l3)) &&& (31 : Int32)) = (16 : Int32) → (((xm_i S 17 0 (y_ix l3)) &&& (31 : Int32)) = (17 : Int32) → y_in (l3 + (1 : Int32)) (xm_n S 27 0) ∧ (y_in (l3 + (2 : Int32)) (xm_n S 27 0) ∧ (xc d 76 [.inr (some (0, 0)), .inl (xm_i S 17 0 (y_ix (l3 + (1 : Int32)))), .inl (xm_i S 17 0 (y_ix (l3 + (2 : Int32))))] S (fun r S230 => ∃ x232 : Int32, r = some (.inl x232) ∧ xk_C S230 ∧ (y_in (l3 + (1 : Int32)) (xm_n S230 27 0) ∧ (y_in (l3 + (2 : Int32)) (xm_n S230 27 0) ∧ (xc d 121 [.inr (some (11, 0)), .inl (xm_i S230 17 0 (y_ix (l3 + (1 : Int32)))), .inl (xm_i S230 17 0 (y_ix (l3 + (2 : Int32))))] S230 (fun r S235 => ∃ x237 : Int32, r = some (.inl x237) ∧ xk_C S235 ∧ ((x232 = x237 → xw (d + 1) 182 18 [some (.inr (some (17, 0))), some (.inr (some (0, 0))), some (.inr (some (11, 0))), some (.inl (l3 + (8 : Int32)))] [] S235 Q) ∧ (¬ x232 = x237 → Q (some (.inl (0 : Int32))) S235)))))))))) ∧ (¬ ((xm_i S 17 0 (y_ix l3)) &&& (31 : Int32)) = (17 : Int32) → (((xm_i S 17 0 (y_ix l3)) &&& (31 : Int32)) = (18 : Int32) → y_in (l3 + (1 : Int32)) (xm_n S 27 0) ∧ (y_in (l3 + (2 : Int32)) (xm_n S 27 0) ∧ (xc d 77 [.inr (some (0, 0)), .inl (xm_i S 17 0 (y_ix (l3 + (1 : Int32)))), .inl (xm_i S 17 0 (y_ix (l3 + (2 : Int32))))] S (fun r S242 => ∃ x244 : Int32, r = some (.inl x244) ∧ xk_C S242 ∧ (y_in (l3 + (1 : Int32)) (xm_n S242 27 0) ∧ (y_in (l3 + (2 : Int32)) (xm_n S242 27 0) ∧ (xc d 172 [.inr (some (11, 0)), .inl (xm_i S242 17 0 (y_ix (l3 + (1 : Int32)))), .inl (xm_i S242 17 0 (y_ix (l3 + (2 : Int32))))] S242 (fun r S247 => ∃ x249 : Int32, r = some (.inl x249) ∧ xk_C S247 ∧ ((x244 = x249 → xw (d + 1) 182 18 [some (.inr (some (17, 0))), some (.inr (some (0, 0))), some (.inr (some (11, 0))), some (.inl (l3 + (8 : Int32)))] [] S247 Q) ∧ (¬ x244 = x249 → Q (some (.inl (0 : Int32))) S247)))))))))) ∧ (¬ ((xm_i S 17 0 (y_ix l3)) &&& (31 : Int32)) = (18 : Int32) → (((xm_i S 17 0 (y_ix l3)) &&& (31 : Int32)) = (19 : Int32) → y_in (l3 + (1 : Int32)) (xm_n S 27 0) ∧ (y_in (l3 + (2 : Int32)) (xm_n S 27 0) ∧ (xc d 78 [.inr (some (0, 0)), .inl (xm_i S 17 0 (y_ix (l3 + (1 : Int32)))), .inl (xm_i S 17 0 (y_ix (l3 + (2 : Int32))))] S (fun r S254 => ∃ x256 : Int32, r = some (.inl x256) ∧ xk_C S254 ∧ (y_in (l3 + (1 : Int32)) (xm_n S254 27 0) ∧ (y_in (l3 + (2 : Int32)) (xm_n S254 27 0) ∧ (xc d 173 [.inr (some (11, 0)), .inl (xm_i S254 17 0 (y_ix (l3 + (1 : Int32)))), .inl (xm_i S254 17 0 (y_ix (l3 + (2 : Int32))))] S254 (fun r S259 => ∃ x261 : Int32, r = some (.inl x261) ∧ xk_C S259 ∧ ((x256 = x261 → xw (d + 1) 182 18 [some (.inr (some (17, 0))), some (.inr (some (0, 0))), some (.inr (some (11, 0))), some (.inl (l3 + (8 : Int32)))] [] S259 Q) ∧ (¬ x256 = x261 → Q (some (.inl (0 : Int32))) S259)))))))))) ∧ (¬ ((xm_i S 17 0 (y_ix l3)) &&& (31 : Int32)) = (19 : Int32) → (((xm_i S 17 0 (y_ix l3)) &&& (31 : Int32)) = (20 : Int32) → y_in (l3 + (1 : Int32)) (xm_n S 27 0) ∧ (y_in (l3 + (2 : Int32)) (xm_n S 27 0) ∧ (xc d 79 [.inr (some (0, 0)), .inl (xm_i S 17 0 (y_ix (l3 + (1 : Int32)))), .inl (xm_i S 17 0 (y_ix (l3 + (2 : Int32))))] S (fun r S266 => ∃ x268 : Int32, r = some (.inl x268) ∧ xk_C S266 ∧ (y_in (l3 + (1 : Int32)) (xm_n S266 27 0) ∧ (y_in (l3 + (2 : Int32)) (xm_n S266 27 0) ∧ (xc d 174 [.inr (some (11, 0)), .inl (xm_i S266 17 0 (y_ix (l3 + (1 : Int32)))), .inl (xm_i S266 17 0 (y_ix (l3 + (2 : Int32))))] S266 (fun r S271 => ∃ x273 : Int32, r = some (.inl x273) ∧ xk_C S271 ∧ ((x268 = x273 → xw (d + 1) 182 18 [some (.inr (some (17, 0))), some (.inr (some (0, 0))), some (.inr (some (11, 0))), some (.inl (l3 + (8 : Int32)))] [] S271 Q) ∧ (¬ x268 = x273 → Q (some (.inl (0 : Int32))) S271)))))))))) ∧ (¬ ((xm_i S 17 0 (y_ix l3)) &&& (31 : Int32)) = (20 : Int32) → (((xm_i S 17 0 (y_ix l3)) &&& (31 : Int32)) = (21 : Int32) → y_in (l3 + (1 : Int32)) (xm_n S 27 0) ∧ (y_in (l3 + (2 : Int32)) (xm_n S 27 0) ∧ (xc d 80 [.inr (some (0, 0)), .inl (xm_i S 17 0 (y_ix (l3 + (1 : Int32)))), .inl (xm_i S 17 0 (y_ix (l3 + (2 : Int32))))] S (fun r S278 => ∃ x280 : Int32, r = some (.inl x280) ∧ xk_C S278 ∧ (y_in (l3 + (1 : Int32)) (xm_n S278 27 0) ∧ (y_in (l3 + (2 : Int32)) (xm_n S278 27 0) ∧ (xc d 175 [.inr (some (11, 0)), .inl (xm_i S278 17 0 (y_ix (l3 + (1 : Int32)))), .inl (xm_i S278 17 0 (y_ix (l3 + (2 : Int32))))] S278 (fun r S283 => ∃ x285 : Int32, r = some (.inl x285) ∧ xk_C S283 ∧ ((x280 = x285 → xw (d + 1) 182 18 [some (.inr (some (17, 0))), some (.inr (some (0, 0))), some (.inr (some (11, 0))), some (.inl (l3 + (8 : Int32)))] [] S283 Q) ∧ (¬ x280 = x285 → Q (some (.inl (0 : Int32))) S283)))))))))) ∧ (¬ ((xm_i S 17 0 (y_ix l3)) &&& (31 : Int32)) = (21 : Int32) → (((xm_i S 17 0 (y_ix l3)) &&& (31 : Int32)) = (22 : Int32) → y_in (l3 + (1 : Int32)) (xm_n S 27 0) ∧ (xc d 81 [.inr (some (0, 0)), .inl (xm_i S 17 0 (y_ix (l3 + (1 : Int32))))] S (fun r S289 => ∃ x291 : Int32, r = some (.inl x291) ∧ xk_C S289 ∧ (y_in (l3 + (1 : Int32)) (xm_n S289 27 0) ∧ (xc d 176 [.inr (some (11, 0)), .inl (xm_i S289 17 0 (y_ix (l3 + (1 : Int32))))] S289 (fun r S293 => ∃ x295 : Int32, r = some (.inl x295) ∧ xk_C S293 ∧ ((x291 = x295 → xw (d + 1) 182 18 [some (.inr (some (17, 0))), some (.inr (some (0, 0))), some (.inr (some (11, 0))), some (.inl (l3 + (8 : Int32)))] [] S293 Q) ∧ (¬ x291 = x295 → Q (some (.inl (0 : Int32))) S293)))))))) ∧ (¬ ((xm_i S 17 0 (y_ix l3)) &&& (31 : Int32)) = (22 : Int32) → (((xm_i S 17 0 (y_ix l3)) &&& (31 : Int32)) = (23 : Int32) → y_in (l3 + (1 : Int32)) (xm_n S 27 0) ∧ (y_in (l3 + (2 : Int32)) (xm_n S 27 0) ∧ (y_in (l3 + (3 : Int32)) (xm_n S 27 0) ∧ (xc d 82 [.inr (some (0, 0)), .inl (xm_i S 17 0 (y_ix (l3 + (1 : Int32)))), .inl (xm_i S 17 0 (y_ix (l3 + (2 : Int32)))), .inl (xm_i S 17 0 (y_ix (l3 + (3 : Int32))))] S (fun r S301 => ∃ x303 : Int32, r = some (.inl x303) ∧ xk_C S301 ∧ (y_in (l3 + (1 : Int32)) (xm_n S301 27 0) ∧ (y_in (l3 + (2 : Int32)) (xm_n S301 27 0) ∧ (y_in (l3 + (3 : Int32)) (xm_n S301 27 0) ∧ (xc d 177 [.inr (some (11, 0)), .inl (xm_i S301 17 0 (y_ix (l3 + (1 : Int32)))), .inl (xm_i S301 17 0 (y_ix (l3 + (2 : Int32)))), .inl (xm_i S301 17 0 (y_ix (l3 + (3 : Int32))))] S301 (fun r S307 => ∃ x309 : Int32, r = some (.inl x309) ∧ xk_C S307 ∧ ((x303 = x309 → xw (d + 1) 182 18 [some (.inr (some (17, 0))), some (.inr (some (0, 0))), some (.inr (some (11, 0))), some (.inl (l3 + (8 : Int32)))] [] S307 Q) ∧ (¬ x303 = x309 → Q (some (.inl (0 : Int32))) S307)))))))))))) ∧ (¬ ((xm_i S 17 0 (y_ix l3)) &&& (31 : Int32)) = (23 : Int32) → (((xm_i S 17 0 (y_ix l3)) &&& (31 : Int32)) = (24 : Int32) → y_in (l3 + (1 : Int32)) (xm_n S 27 0) ∧ (y_in (l3 + (2 : Int32)) (xm_n S 27 0) ∧ (xc d 83 [.inr (some (0, 0)), .inl (xm_i S 17 0 (y_ix (l3 + (1 : Int32)))), .inl (xm_i S 17 0 (y_ix (l3 + (2 : Int32))))] S (fun r S314 => ∃ x316 : Int32, r = some (.inl x316) ∧ xk_C S314 ∧ (y_in (l3 + (1 : Int32)) (xm_n S314 27 0) ∧ (y_in (l3 + (2 : Int32)) (xm_n S314 27 0) ∧ (xc d 178 [.inr (some (11, 0)), .inl (xm_i S314 17 0 (y_ix (l3 + (1 : Int32)))), .inl (xm_i S314 17 0 (y_ix (l3 + (2 : Int32))))] S314 (fun r S319 => ∃ x321 : Int32, r = some (.inl x321) ∧ xk_C S319 ∧ ((x316 = x321 → xw (d + 1) 182 18 [some (.inr (some (17, 0))), some (.inr (some (0, 0))), some (.inr (some (11, 0))), some (.inl (l3 + (8 : Int32)))] [] S319 Q) ∧ (¬ x316 = x321 → Q (some (.inl (0 : Int32))) S319)))))))))) ∧ (¬ ((xm_i S 17 0 (y_ix l3)) &&& (31 : Int32)) = (24 : Int32) → (((xm_i S 17 0 (y_ix l3)) &&& (31 : Int32)) = (25 : Int32) → y_in (l3 + (1 : Int32)) (xm_n S 27 0) ∧ (xc d 84 [.inr (some (0, 0)), .inl (xm_i S 17 0 (y_ix (l3 + (1 : Int32))))] S (fun r S325 => ∃ x327 : Int32, r = some (.inl x327) ∧ xk_C S325 ∧ (y_in (l3 + (1 : Int32)) (xm_n S325 27 0) ∧ (xc d 179 [.inr (some (11, 0)), .inl (xm_i S325 17 0 (y_ix (l3 + (1 : Int32))))] S325 (fun r S329 => ∃ x331 : Int32, r = some (.inl x331) ∧ xk_C S329 ∧ ((x327 = x331 → xw (d + 1) 182 18 [some (.inr (some (17, 0))), some (.inr (some (0, 0))), some (.inr (some (11, 0))), some (.inl (l3 + (8 : Int32)))] [] S329 Q) ∧ (¬ x327 = x331 → Q (some (.inl (0 : Int32))) S329)))))))) ∧ (¬ ((xm_i S 17 0 (y_ix l3)) &&& (31 : Int32)) = (25 : Int32) → (((xm_i S 17 0 (y_ix l3)) &&& (31 : Int32)) = (26 : Int32) → y_in (l3 + (1 : Int32)) (xm_n S 27 0) ∧ (y_in (l3 + (2 : Int32)) (xm_n S 27 0) ∧ (xc d 85 [.inr (some (0, 0)), .inl (xm_i S 17 0 (y_ix (l3 + (1 : Int32)))), .inl (xm_i S 17 0 (y_ix (l3 + (2 : Int32))))] S (fun r S336 => ∃ x338 : Int32, r = some (.inl x338) ∧ xk_C S336 ∧ (y_in (l3 + (1 : Int32)) (xm_n S336 27 0) ∧ (y_in (l3 + (2 : Int32)) (xm_n S336 27 0) ∧ (xc d 180 [.inr (some (11, 0)), .inl (xm_i S336 17 0 (y_ix (l3 + (1 : Int32)))), .inl (xm_i S336 17 0 (y_ix (l3 + (2 : Int32))))] S336 (fun r S341 => ∃ x343 : Int32, r = some (.inl x343) ∧ xk_C S341 ∧ ((x338 = x343 → xw (d + 1) 182 18 [some (.inr (some (17, 0))), some (.inr (some (0, 0))), some (.inr (some (11, 0))), some (.inl (l3 + (8 : Int32)))] [] S341 Q) ∧ (¬ x338 = x343 → Q (some (.inl (0 : Int32))) S341)))))))))) ∧ (¬ ((xm_i S 17 0 (y_ix l3)) &&& (31 : Int32)) = (26 : Int32) → (((xm_i S 17 0 (y_ix l3)) &&& (31 : Int32)) = (27 : Int32) → y_in (l3 + (1 : Int32)) (xm_n S 27 0) ∧ (y_in (l3 + (2 : Int32)) (xm_n S 27 0) ∧ (xc d 86 [.inr (some (0, 0)), .inl (xm_i S 17 0 (y_ix (l3 + (1 : Int32)))), .inl (xm_i S 17 0 (y_ix (l3 + (2 : Int32))))] S (fun r S348 => ∃ x350 : Int32, r = some (.inl x350) ∧ xk_C S348 ∧ (y_in (l3 + (1 : Int32)) (xm_n S348 27 0) ∧ (y_in (l3 + (2 : Int32)) (xm_n S348 27 0) ∧ (xc d 118 [.inr (some (11, 0)), .inl (xm_i S348 17 0 (y_ix (l3 + (1 : Int32)))), .inl (xm_i S348 17 0 (y_ix (l3 + (2 : Int32))))] S348 (fun r S353 => ∃ x355 : Int32, r = some (.inl x355) ∧ xk_C S353 ∧ ((x350 = x355 → xw (d + 1) 182 18 [some (.inr (some (17, 0))), some (.inr (some (0, 0))), some (.inr (some (11, 0))), some (.inl (l3 + (8 : Int32)))] [] S353 Q) ∧ (¬ x350 = x355 → Q (some (.inl (0 : Int32))) S353)))))))))) ∧ (¬ ((xm_i S 17 0 (y_ix l3)) &&& (31 : Int32)) = (27 : Int32) → (((xm_i S 17 0 (y_ix l3)) &&& (31 : Int32)) = (28 : Int32) → y_in (l3 + (1 : Int32)) (xm_n S 27 0) ∧ (xc d 87 [.inr (some (0, 0)), .inl (xm_i S 17 0 (y_ix (l3 + (1 : Int32))))] S (fun r S359 => ∃ x361 : Int32, r = some (.inl x361) ∧ xk_C S359 ∧ (y_in (l3 + (1 : Int32)) (xm_n S359 27 0) ∧ (xc d 181 [.inr (some (11, 0)), .inl (xm_i S359 17 0 (y_ix (l3 + (1 : Int32))))] S359 (fun r S363 => ∃ x365 : Int32, r = some (.inl x365) ∧ xk_C S363 ∧ ((x361 = x365 → xw (d + 1) 182 18 [some (.inr (some (17, 0))), some (.inr (some (0, 0))), some (.inr (some (11, 0))), some (.inl (l3 + (8 : Int32)))] [] S363 Q) ∧ (¬ x361 = x365 → Q (some (.inl (0 : Int32))) S363)))))))) ∧ (¬ ((xm_i S 17 0 (y_ix l3)) &&& (31 : Int32)) = (28 : Int32) → xw (d + 1) 182 18 [some (.inr (some (17, 0))), some (.inr (some (0, 0))), some (.inr (some (11, 0))), some (.inl (l3 + (8 : Int32)))] [] S Q)))))))))))))))))))))))))))))))) : xw (d + 1) 182 18 [some (.inr (some (17, 0))), some (.inr (some (0, 0))), some (.inr (some (11, 0))), some (.inl l3)] [] S Q := by
  refine xw.s (pc' := 19) (st' := [.inl l3]) rfl ?_
  refine xw.s (pc' := 20) (st' := [.inr (some (17, 0)), .inl l3]) rfl ?_
  refine xw.aln (c := 17) (n := (xm_n S 27 0)) (nx := 21) rfl (by decide) rfl ?_
  refine xw.s (pc' := 23) (st' := [.inl (8 : Int32), .inl (nI (xm_n S 27 0)), .inl l3]) rfl ?_
  refine xw.s (pc' := 24) (st' := [.inl ((nI (xm_n S 27 0)) - (8 : Int32)), .inl l3]) rfl ?_
  refine xw.b (c := ((nI (xm_n S 27 0)) - (8 : Int32)) < l3) (cd := .gt) (x := l3) (y := ((nI (xm_n S 27 0)) - (8 : Int32))) 1211 27 (st' := []) rfl (y_cgt _ _) h (fun c1 h => ?_) (fun c1 h => ?_)
  · skip
    refine xw.s (pc' := 1212) (st' := [.inl (1 : Int32)]) rfl ?_
    exact xw.retz (nx := 1213) rfl (Or.inr rfl) h
  · skip
    refine xw.s (pc' := 28) (st' := [.inr (some (17, 0))]) rfl ?_
    refine xw.s (pc' := 29) (st' := [.inl l3, .inr (some (17, 0))]) rfl ?_
    obtain ⟨z2, h⟩ := h
    refine xw.ild (c := 17) (nx := 30) (v := (xm_i S 17 0 (y_ix l3))) rfl (by decide) z2 rfl ?_
    refine xw.s (pc' := 32) (st' := [.inl (31 : Int32), .inl (xm_i S 17 0 (y_ix l3))]) rfl ?_
    refine xw.s (pc' := 33) (st' := [.inl ((xm_i S 17 0 (y_ix l3)) &&& (31 : Int32))]) rfl ?_
    refine xw.ts1 rfl rfl ?_
    refine xw.bw (0 : Int32) rfl h (fun c3 h => ?_) (fun c3 h => ?_)
    · skip
      refine xw.s (pc' := 165) (st' := [.inr (some (0, 0))]) rfl ?_
      refine xw.s (pc' := 166) (st' := [.inr (some (17, 0)), .inr (some (0, 0))]) rfl ?_
      refine xw.s (pc' := 167) (st' := [.inl l3, .inr (some (17, 0)), .inr (some (0, 0))]) rfl ?_
      refine xw.s (pc' := 168) (st' := [.inl (1 : Int32), .inl l3, .inr (some (17, 0)), .inr (some (0, 0))]) rfl ?_
      refine xw.s (pc' := 169) (st' := [.inl (l3 + (1 : Int32)), .inr (some (17, 0)), .inr (some (0, 0))]) rfl ?_
      obtain ⟨z4, h⟩ := h
      refine xw.ild (c := 17) (nx := 170) (v := (xm_i S 17 0 (y_ix (l3 + (1 : Int32))))) rfl (by decide) z4 rfl ?_
      refine xw.s (pc' := 171) (st' := [.inr (some (17, 0)), .inl (xm_i S 17 0 (y_ix (l3 + (1 : Int32)))), .inr (some (0, 0))]) rfl ?_
      refine xw.s (pc' := 172) (st' := [.inl l3, .inr (some (17, 0)), .inl (xm_i S 17 0 (y_ix (l3 + (1 : Int32)))), .inr (some (0, 0))]) rfl ?_
      refine xw.s (pc' := 173) (st' := [.inl (2 : Int32), .inl l3, .inr (some (17, 0)), .inl (xm_i S 17 0 (y_ix (l3 + (1 : Int32)))), .inr (some (0, 0))]) rfl ?_
      refine xw.s (pc' := 174) (st' := [.inl (l3 + (2 : Int32)), .inr (some (17, 0)), .inl (xm_i S 17 0 (y_ix (l3 + (1 : Int32)))), .inr (some (0, 0))]) rfl ?_
      obtain ⟨z5, h⟩ := h
      refine xw.ild (c := 17) (nx := 175) (v := (xm_i S 17 0 (y_ix (l3 + (2 : Int32))))) rfl (by decide) z5 rfl ?_
      refine xw.s (pc' := 176) (st' := [.inr (some (17, 0)), .inl (xm_i S 17 0 (y_ix (l3 + (2 : Int32)))), .inl (xm_i S 17 0 (y_ix (l3 + (1 : Int32)))), .inr (some (0, 0))]) rfl ?_
      refine xw.s (pc' := 177) (st' := [.inl l3, .inr (some (17, 0)), .inl (xm_i S 17 0 (y_ix (l3 + (2 : Int32)))), .inl (xm_i S 17 0 (y_ix (l3 + (1 : Int32)))), .inr (some (0, 0))]) rfl ?_
      refine xw.s (pc' := 178) (st' := [.inl (3 : Int32), .inl l3, .inr (some (17, 0)), .inl (xm_i S 17 0 (y_ix (l3 + (2 : Int32)))), .inl (xm_i S 17 0 (y_ix (l3 + (1 : Int32)))), .inr (some (0, 0))]) rfl ?_
      refine xw.s (pc' := 179) (st' := [.inl (l3 + (3 : Int32)), .inr (some (17, 0)), .inl (xm_i S 17 0 (y_ix (l3 + (2 : Int32)))), .inl (xm_i S 17 0 (y_ix (l3 + (1 : Int32)))), .inr (some (0, 0))]) rfl ?_
      obtain ⟨z6, h⟩ := h
      refine xw.ild (c := 17) (nx := 180) (v := (xm_i S 17 0 (y_ix (l3 + (3 : Int32))))) rfl (by decide) z6 rfl ?_
      refine xw.call (m := 1) (as := [.inr (some (0, 0)), .inl (xm_i S 17 0 (y_ix (l3 + (1 : Int32)))), .inl (xm_i S 17 0 (y_ix (l3 + (2 : Int32)))), .inl (xm_i S 17 0 (y_ix (l3 + (3 : Int32))))]) (nx := 183) (L' := [some (.inr (some (17, 0))), some (.inr (some (0, 0))), some (.inr (some (11, 0))), some (.inl l3)]) (st' := []) rfl (xc.mono h ?_)
      rintro r S7 ⟨x9, rfl, hC8, h⟩
      show xw _ _ 183 [some (.inr (some (17, 0))), some (.inr (some (0, 0))), some (.inr (some (11, 0))), some (.inl l3)] [.inl x9] _ _
      refine xw.s (pc' := 184) (st' := [.inr (some (11, 0)), .inl x9]) rfl ?_
      refine xw.s (pc' := 185) (st' := [.inr (some (17, 0)), .inr (some (11, 0)), .inl x9]) rfl ?_
      refine xw.s (pc' := 186) (st' := [.inl l3, .inr (some (17, 0)), .inr (some (11, 0)), .inl x9]) rfl ?_
      refine xw.s (pc' := 187) (st' := [.inl (1 : Int32), .inl l3, .inr (some (17, 0)), .inr (some (11, 0)), .inl x9]) rfl ?_
      refine xw.s (pc' := 188) (st' := [.inl (l3 + (1 : Int32)), .inr (some (17, 0)), .inr (some (11, 0)), .inl x9]) rfl ?_
      obtain ⟨z10, h⟩ := h
      refine xw.ild (c := 17) (nx := 189) (v := (xm_i S7 17 0 (y_ix (l3 + (1 : Int32))))) rfl (by decide) z10 rfl ?_
      refine xw.s (pc' := 190) (st' := [.inr (some (17, 0)), .inl (xm_i S7 17 0 (y_ix (l3 + (1 : Int32)))), .inr (some (11, 0)), .inl x9]) rfl ?_
      refine xw.s (pc' := 191) (st' := [.inl l3, .inr (some (17, 0)), .inl (xm_i S7 17 0 (y_ix (l3 + (1 : Int32)))), .inr (some (11, 0)), .inl x9]) rfl ?_
      refine xw.s (pc' := 192) (st' := [.inl (2 : Int32), .inl l3, .inr (some (17, 0)), .inl (xm_i S7 17 0 (y_ix (l3 + (1 : Int32)))), .inr (some (11, 0)), .inl x9]) rfl ?_
      refine xw.s (pc' := 193) (st' := [.inl (l3 + (2 : Int32)), .inr (some (17, 0)), .inl (xm_i S7 17 0 (y_ix (l3 + (1 : Int32)))), .inr (some (11, 0)), .inl x9]) rfl ?_
      obtain ⟨z11, h⟩ := h
      refine xw.ild (c := 17) (nx := 194) (v := (xm_i S7 17 0 (y_ix (l3 + (2 : Int32))))) rfl (by decide) z11 rfl ?_
      refine xw.s (pc' := 195) (st' := [.inr (some (17, 0)), .inl (xm_i S7 17 0 (y_ix (l3 + (2 : Int32)))), .inl (xm_i S7 17 0 (y_ix (l3 + (1 : Int32)))), .inr (some (11, 0)), .inl x9]) rfl ?_
      refine xw.s (pc' := 196) (st' := [.inl l3, .inr (some (17, 0)), .inl (xm_i S7 17 0 (y_ix (l3 + (2 : Int32)))), .inl (xm_i S7 17 0 (y_ix (l3 + (1 : Int32)))), .inr (some (11, 0)), .inl x9]) rfl ?_
      refine xw.s (pc' := 197) (st' := [.inl (3 : Int32), .inl l3, .inr (some (17, 0)), .inl (xm_i S7 17 0 (y_ix (l3 + (2 : Int32)))), .inl (xm_i S7 17 0 (y_ix (l3 + (1 : Int32)))), .inr (some (11, 0)), .inl x9]) rfl ?_
      refine xw.s (pc' := 198) (st' := [.inl (l3 + (3 : Int32)), .inr (some (17, 0)), .inl (xm_i S7 17 0 (y_ix (l3 + (2 : Int32)))), .inl (xm_i S7 17 0 (y_ix (l3 + (1 : Int32)))), .inr (some (11, 0)), .inl x9]) rfl ?_
      obtain ⟨z12, h⟩ := h
      refine xw.ild (c := 17) (nx := 199) (v := (xm_i S7 17 0 (y_ix (l3 + (3 : Int32))))) rfl (by decide) z12 rfl ?_
      refine xw.call (m := 113) (as := [.inr (some (11, 0)), .inl (xm_i S7 17 0 (y_ix (l3 + (1 : Int32)))), .inl (xm_i S7 17 0 (y_ix (l3 + (2 : Int32)))), .inl (xm_i S7 17 0 (y_ix (l3 + (3 : Int32))))]) (nx := 202) (L' := [some (.inr (some (17, 0))), some (.inr (some (0, 0))), some (.inr (some (11, 0))), some (.inl l3)]) (st' := [.inl x9]) rfl (xc.mono h ?_)
      rintro r S13 ⟨x15, rfl, hC14, h⟩
      show xw _ _ 202 [some (.inr (some (17, 0))), some (.inr (some (0, 0))), some (.inr (some (11, 0))), some (.inl l3)] [.inl x15, .inl x9] _ _
      refine xw.b (c := x9 = x15) (cd := .eq) (x := x9) (y := x15) 1205 205 (st' := []) rfl (y_ceq _ _) h (fun c16 h => ?_) (fun c16 h => ?_)
      · skip
        refine xw.s (pc' := 1208) (st' := []) (L' := [some (.inr (some (17, 0))), some (.inr (some (0, 0))), some (.inr (some (11, 0))), some (.inl (l3 + (8 : Int32)))]) rfl ?_
        refine xw.s (pc' := 18) (st' := []) rfl ?_
        exact h
      · skip
        refine xw.s (pc' := 206) (st' := [.inl (0 : Int32)]) rfl ?_
        exact xw.retz (nx := 207) rfl (Or.inl rfl) h
    · skip
      refine xw.bw (1 : Int32) rfl h (fun c17 h => ?_) (fun c17 h => ?_)
      · skip
        refine xw.s (pc' := 208) (st' := [.inr (some (0, 0))]) rfl ?_
        refine xw.s (pc' := 209) (st' := [.inr (some (17, 0)), .inr (some (0, 0))]) rfl ?_
        refine xw.s (pc' := 210) (st' := [.inl l3, .inr (some (17, 0)), .inr (some (0, 0))]) rfl ?_
        refine xw.s (pc' := 211) (st' := [.inl (1 : Int32), .inl l3, .inr (some (17, 0)), .inr (some (0, 0))]) rfl ?_
        refine xw.s (pc' := 212) (st' := [.inl (l3 + (1 : Int32)), .inr (some (17, 0)), .inr (some (0, 0))]) rfl ?_
        obtain ⟨z18, h⟩ := h
        refine xw.ild (c := 17) (nx := 213) (v := (xm_i S 17 0 (y_ix (l3 + (1 : Int32))))) rfl (by decide) z18 rfl ?_
        refine xw.s (pc' := 214) (st' := [.inr (some (17, 0)), .inl (xm_i S 17 0 (y_ix (l3 + (1 : Int32)))), .inr (some (0, 0))]) rfl ?_
        refine xw.s (pc' := 215) (st' := [.inl l3, .inr (some (17, 0)), .inl (xm_i S 17 0 (y_ix (l3 + (1 : Int32)))), .inr (some (0, 0))]) rfl ?_
        refine xw.s (pc' := 216) (st' := [.inl (2 : Int32), .inl l3, .inr (some (17, 0)), .inl (xm_i S 17 0 (y_ix (l3 + (1 : Int32)))), .inr (some (0, 0))]) rfl ?_
        refine xw.s (pc' := 217) (st' := [.inl (l3 + (2 : Int32)), .inr (some (17, 0)), .inl (xm_i S 17 0 (y_ix (l3 + (1 : Int32)))), .inr (some (0, 0))]) rfl ?_
        obtain ⟨z19, h⟩ := h
        refine xw.ild (c := 17) (nx := 218) (v := (xm_i S 17 0 (y_ix (l3 + (2 : Int32))))) rfl (by decide) z19 rfl ?_
        refine xw.s (pc' := 219) (st' := [.inr (some (17, 0)), .inl (xm_i S 17 0 (y_ix (l3 + (2 : Int32)))), .inl (xm_i S 17 0 (y_ix (l3 + (1 : Int32)))), .inr (some (0, 0))]) rfl ?_
        refine xw.s (pc' := 220) (st' := [.inl l3, .inr (some (17, 0)), .inl (xm_i S 17 0 (y_ix (l3 + (2 : Int32)))), .inl (xm_i S 17 0 (y_ix (l3 + (1 : Int32)))), .inr (some (0, 0))]) rfl ?_
        refine xw.s (pc' := 221) (st' := [.inl (3 : Int32), .inl l3, .inr (some (17, 0)), .inl (xm_i S 17 0 (y_ix (l3 + (2 : Int32)))), .inl (xm_i S 17 0 (y_ix (l3 + (1 : Int32)))), .inr (some (0, 0))]) rfl ?_
        refine xw.s (pc' := 222) (st' := [.inl (l3 + (3 : Int32)), .inr (some (17, 0)), .inl (xm_i S 17 0 (y_ix (l3 + (2 : Int32)))), .inl (xm_i S 17 0 (y_ix (l3 + (1 : Int32)))), .inr (some (0, 0))]) rfl ?_
        obtain ⟨z20, h⟩ := h
        refine xw.ild (c := 17) (nx := 223) (v := (xm_i S 17 0 (y_ix (l3 + (3 : Int32))))) rfl (by decide) z20 rfl ?_
        refine xw.s (pc' := 224) (st' := [.inr (some (17, 0)), .inl (xm_i S 17 0 (y_ix (l3 + (3 : Int32)))), .inl (xm_i S 17 0 (y_ix (l3 + (2 : Int32)))), .inl (xm_i S 17 0 (y_ix (l3 + (1 : Int32)))), .inr (some (0, 0))]) rfl ?_
        refine xw.s (pc' := 225) (st' := [.inl l3, .inr (some (17, 0)), .inl (xm_i S 17 0 (y_ix (l3 + (3 : Int32)))), .inl (xm_i S 17 0 (y_ix (l3 + (2 : Int32)))), .inl (xm_i S 17 0 (y_ix (l3 + (1 : Int32)))), .inr (some (0, 0))]) rfl ?_
        refine xw.s (pc' := 226) (st' := [.inl (4 : Int32), .inl l3, .inr (some (17, 0)), .inl (xm_i S 17 0 (y_ix (l3 + (3 : Int32)))), .inl (xm_i S 17 0 (y_ix (l3 + (2 : Int32)))), .inl (xm_i S 17 0 (y_ix (l3 + (1 : Int32)))), .inr (some (0, 0))]) rfl ?_
        refine xw.s (pc' := 227) (st' := [.inl (l3 + (4 : Int32)), .inr (some (17, 0)), .inl (xm_i S 17 0 (y_ix (l3 + (3 : Int32)))), .inl (xm_i S 17 0 (y_ix (l3 + (2 : Int32)))), .inl (xm_i S 17 0 (y_ix (l3 + (1 : Int32)))), .inr (some (0, 0))]) rfl ?_
        obtain ⟨z21, h⟩ := h
        refine xw.ild (c := 17) (nx := 228) (v := (xm_i S 17 0 (y_ix (l3 + (4 : Int32))))) rfl (by decide) z21 rfl ?_
        refine xw.s (pc' := 229) (st' := [.inr (some (17, 0)), .inl (xm_i S 17 0 (y_ix (l3 + (4 : Int32)))), .inl (xm_i S 17 0 (y_ix (l3 + (3 : Int32)))), .inl (xm_i S 17 0 (y_ix (l3 + (2 : Int32)))), .inl (xm_i S 17 0 (y_ix (l3 + (1 : Int32)))), .inr (some (0, 0))]) rfl ?_
        refine xw.s (pc' := 230) (st' := [.inl l3, .inr (some (17, 0)), .inl (xm_i S 17 0 (y_ix (l3 + (4 : Int32)))), .inl (xm_i S 17 0 (y_ix (l3 + (3 : Int32)))), .inl (xm_i S 17 0 (y_ix (l3 + (2 : Int32)))), .inl (xm_i S 17 0 (y_ix (l3 + (1 : Int32)))), .inr (some (0, 0))]) rfl ?_
        refine xw.s (pc' := 231) (st' := [.inl (5 : Int32), .inl l3, .inr (some (17, 0)), .inl (xm_i S 17 0 (y_ix (l3 + (4 : Int32)))), .inl (xm_i S 17 0 (y_ix (l3 + (3 : Int32)))), .inl (xm_i S 17 0 (y_ix (l3 + (2 : Int32)))), .inl (xm_i S 17 0 (y_ix (l3 + (1 : Int32)))), .inr (some (0, 0))]) rfl ?_
        refine xw.s (pc' := 232) (st' := [.inl (l3 + (5 : Int32)), .inr (some (17, 0)), .inl (xm_i S 17 0 (y_ix (l3 + (4 : Int32)))), .inl (xm_i S 17 0 (y_ix (l3 + (3 : Int32)))), .inl (xm_i S 17 0 (y_ix (l3 + (2 : Int32)))), .inl (xm_i S 17 0 (y_ix (l3 + (1 : Int32)))), .inr (some (0, 0))]) rfl ?_
        obtain ⟨z22, h⟩ := h
        refine xw.ild (c := 17) (nx := 233) (v := (xm_i S 17 0 (y_ix (l3 + (5 : Int32))))) rfl (by decide) z22 rfl ?_
        refine xw.call (m := 3) (as := [.inr (some (0, 0)), .inl (xm_i S 17 0 (y_ix (l3 + (1 : Int32)))), .inl (xm_i S 17 0 (y_ix (l3 + (2 : Int32)))), .inl (xm_i S 17 0 (y_ix (l3 + (3 : Int32)))), .inl (xm_i S 17 0 (y_ix (l3 + (4 : Int32)))), .inl (xm_i S 17 0 (y_ix (l3 + (5 : Int32))))]) (nx := 236) (L' := [some (.inr (some (17, 0))), some (.inr (some (0, 0))), some (.inr (some (11, 0))), some (.inl l3)]) (st' := []) rfl (xc.mono h ?_)
        rintro r S23 ⟨x25, rfl, hC24, h⟩
        show xw _ _ 236 [some (.inr (some (17, 0))), some (.inr (some (0, 0))), some (.inr (some (11, 0))), some (.inl l3)] [.inl x25] _ _
        refine xw.s (pc' := 237) (st' := [.inr (some (11, 0)), .inl x25]) rfl ?_
        refine xw.s (pc' := 238) (st' := [.inr (some (17, 0)), .inr (some (11, 0)), .inl x25]) rfl ?_
        refine xw.s (pc' := 239) (st' := [.inl l3, .inr (some (17, 0)), .inr (some (11, 0)), .inl x25]) rfl ?_
        refine xw.s (pc' := 240) (st' := [.inl (1 : Int32), .inl l3, .inr (some (17, 0)), .inr (some (11, 0)), .inl x25]) rfl ?_
        refine xw.s (pc' := 241) (st' := [.inl (l3 + (1 : Int32)), .inr (some (17, 0)), .inr (some (11, 0)), .inl x25]) rfl ?_
        obtain ⟨z26, h⟩ := h
        refine xw.ild (c := 17) (nx := 242) (v := (xm_i S23 17 0 (y_ix (l3 + (1 : Int32))))) rfl (by decide) z26 rfl ?_
        refine xw.s (pc' := 243) (st' := [.inr (some (17, 0)), .inl (xm_i S23 17 0 (y_ix (l3 + (1 : Int32)))), .inr (some (11, 0)), .inl x25]) rfl ?_
        refine xw.s (pc' := 244) (st' := [.inl l3, .inr (some (17, 0)), .inl (xm_i S23 17 0 (y_ix (l3 + (1 : Int32)))), .inr (some (11, 0)), .inl x25]) rfl ?_
        refine xw.s (pc' := 245) (st' := [.inl (2 : Int32), .inl l3, .inr (some (17, 0)), .inl (xm_i S23 17 0 (y_ix (l3 + (1 : Int32)))), .inr (some (11, 0)), .inl x25]) rfl ?_
        refine xw.s (pc' := 246) (st' := [.inl (l3 + (2 : Int32)), .inr (some (17, 0)), .inl (xm_i S23 17 0 (y_ix (l3 + (1 : Int32)))), .inr (some (11, 0)), .inl x25]) rfl ?_
        obtain ⟨z27, h⟩ := h
        refine xw.ild (c := 17) (nx := 247) (v := (xm_i S23 17 0 (y_ix (l3 + (2 : Int32))))) rfl (by decide) z27 rfl ?_
        refine xw.s (pc' := 248) (st' := [.inr (some (17, 0)), .inl (xm_i S23 17 0 (y_ix (l3 + (2 : Int32)))), .inl (xm_i S23 17 0 (y_ix (l3 + (1 : Int32)))), .inr (some (11, 0)), .inl x25]) rfl ?_
        refine xw.s (pc' := 249) (st' := [.inl l3, .inr (some (17, 0)), .inl (xm_i S23 17 0 (y_ix (l3 + (2 : Int32)))), .inl (xm_i S23 17 0 (y_ix (l3 + (1 : Int32)))), .inr (some (11, 0)), .inl x25]) rfl ?_
        refine xw.s (pc' := 250) (st' := [.inl (3 : Int32), .inl l3, .inr (some (17, 0)), .inl (xm_i S23 17 0 (y_ix (l3 + (2 : Int32)))), .inl (xm_i S23 17 0 (y_ix (l3 + (1 : Int32)))), .inr (some (11, 0)), .inl x25]) rfl ?_
        refine xw.s (pc' := 251) (st' := [.inl (l3 + (3 : Int32)), .inr (some (17, 0)), .inl (xm_i S23 17 0 (y_ix (l3 + (2 : Int32)))), .inl (xm_i S23 17 0 (y_ix (l3 + (1 : Int32)))), .inr (some (11, 0)), .inl x25]) rfl ?_
        obtain ⟨z28, h⟩ := h
        refine xw.ild (c := 17) (nx := 252) (v := (xm_i S23 17 0 (y_ix (l3 + (3 : Int32))))) rfl (by decide) z28 rfl ?_
        refine xw.s (pc' := 253) (st' := [.inr (some (17, 0)), .inl (xm_i S23 17 0 (y_ix (l3 + (3 : Int32)))), .inl (xm_i S23 17 0 (y_ix (l3 + (2 : Int32)))), .inl (xm_i S23 17 0 (y_ix (l3 + (1 : Int32)))), .inr (some (11, 0)), .inl x25]) rfl ?_
        refine xw.s (pc' := 254) (st' := [.inl l3, .inr (some (17, 0)), .inl (xm_i S23 17 0 (y_ix (l3 + (3 : Int32)))), .inl (xm_i S23 17 0 (y_ix (l3 + (2 : Int32)))), .inl (xm_i S23 17 0 (y_ix (l3 + (1 : Int32)))), .inr (some (11, 0)), .inl x25]) rfl ?_
        refine xw.s (pc' := 255) (st' := [.inl (4 : Int32), .inl l3, .inr (some (17, 0)), .inl (xm_i S23 17 0 (y_ix (l3 + (3 : Int32)))), .inl (xm_i S23 17 0 (y_ix (l3 + (2 : Int32)))), .inl (xm_i S23 17 0 (y_ix (l3 + (1 : Int32)))), .inr (some (11, 0)), .inl x25]) rfl ?_
        refine xw.s (pc' := 256) (st' := [.inl (l3 + (4 : Int32)), .inr (some (17, 0)), .inl (xm_i S23 17 0 (y_ix (l3 + (3 : Int32)))), .inl (xm_i S23 17 0 (y_ix (l3 + (2 : Int32)))), .inl (xm_i S23 17 0 (y_ix (l3 + (1 : Int32)))), .inr (some (11, 0)), .inl x25]) rfl ?_
        obtain ⟨z29, h⟩ := h
        refine xw.ild (c := 17) (nx := 257) (v := (xm_i S23 17 0 (y_ix (l3 + (4 : Int32))))) rfl (by decide) z29 rfl ?_
        refine xw.s (pc' := 258) (st' := [.inr (some (17, 0)), .inl (xm_i S23 17 0 (y_ix (l3 + (4 : Int32)))), .inl (xm_i S23 17 0 (y_ix (l3 + (3 : Int32)))), .inl (xm_i S23 17 0 (y_ix (l3 + (2 : Int32)))), .inl (xm_i S23 17 0 (y_ix (l3 + (1 : Int32)))), .inr (some (11, 0)), .inl x25]) rfl ?_
        refine xw.s (pc' := 259) (st' := [.inl l3, .inr (some (17, 0)), .inl (xm_i S23 17 0 (y_ix (l3 + (4 : Int32)))), .inl (xm_i S23 17 0 (y_ix (l3 + (3 : Int32)))), .inl (xm_i S23 17 0 (y_ix (l3 + (2 : Int32)))), .inl (xm_i S23 17 0 (y_ix (l3 + (1 : Int32)))), .inr (some (11, 0)), .inl x25]) rfl ?_
        refine xw.s (pc' := 260) (st' := [.inl (5 : Int32), .inl l3, .inr (some (17, 0)), .inl (xm_i S23 17 0 (y_ix (l3 + (4 : Int32)))), .inl (xm_i S23 17 0 (y_ix (l3 + (3 : Int32)))), .inl (xm_i S23 17 0 (y_ix (l3 + (2 : Int32)))), .inl (xm_i S23 17 0 (y_ix (l3 + (1 : Int32)))), .inr (some (11, 0)), .inl x25]) rfl ?_
        refine xw.s (pc' := 261) (st' := [.inl (l3 + (5 : Int32)), .inr (some (17, 0)), .inl (xm_i S23 17 0 (y_ix (l3 + (4 : Int32)))), .inl (xm_i S23 17 0 (y_ix (l3 + (3 : Int32)))), .inl (xm_i S23 17 0 (y_ix (l3 + (2 : Int32)))), .inl (xm_i S23 17 0 (y_ix (l3 + (1 : Int32)))), .inr (some (11, 0)), .inl x25]) rfl ?_
        obtain ⟨z30, h⟩ := h
        refine xw.ild (c := 17) (nx := 262) (v := (xm_i S23 17 0 (y_ix (l3 + (5 : Int32))))) rfl (by decide) z30 rfl ?_
        refine xw.call (m := 114) (as := [.inr (some (11, 0)), .inl (xm_i S23 17 0 (y_ix (l3 + (1 : Int32)))), .inl (xm_i S23 17 0 (y_ix (l3 + (2 : Int32)))), .inl (xm_i S23 17 0 (y_ix (l3 + (3 : Int32)))), .inl (xm_i S23 17 0 (y_ix (l3 + (4 : Int32)))), .inl (xm_i S23 17 0 (y_ix (l3 + (5 : Int32))))]) (nx := 265) (L' := [some (.inr (some (17, 0))), some (.inr (some (0, 0))), some (.inr (some (11, 0))), some (.inl l3)]) (st' := [.inl x25]) rfl (xc.mono h ?_)
        rintro r S31 ⟨x33, rfl, hC32, h⟩
        show xw _ _ 265 [some (.inr (some (17, 0))), some (.inr (some (0, 0))), some (.inr (some (11, 0))), some (.inl l3)] [.inl x33, .inl x25] _ _
        refine xw.b (c := x25 = x33) (cd := .eq) (x := x25) (y := x33) 1205 268 (st' := []) rfl (y_ceq _ _) h (fun c34 h => ?_) (fun c34 h => ?_)
        · skip
          refine xw.s (pc' := 1208) (st' := []) (L' := [some (.inr (some (17, 0))), some (.inr (some (0, 0))), some (.inr (some (11, 0))), some (.inl (l3 + (8 : Int32)))]) rfl ?_
          refine xw.s (pc' := 18) (st' := []) rfl ?_
          exact h
        · skip
          refine xw.s (pc' := 269) (st' := [.inl (0 : Int32)]) rfl ?_
          exact xw.retz (nx := 270) rfl (Or.inl rfl) h
      · skip
        refine xw.bw (2 : Int32) rfl h (fun c35 h => ?_) (fun c35 h => ?_)
        · skip
          refine xw.s (pc' := 271) (st' := [.inr (some (0, 0))]) rfl ?_
          refine xw.s (pc' := 272) (st' := [.inr (some (17, 0)), .inr (some (0, 0))]) rfl ?_
          refine xw.s (pc' := 273) (st' := [.inl l3, .inr (some (17, 0)), .inr (some (0, 0))]) rfl ?_
          refine xw.s (pc' := 274) (st' := [.inl (1 : Int32), .inl l3, .inr (some (17, 0)), .inr (some (0, 0))]) rfl ?_
          refine xw.s (pc' := 275) (st' := [.inl (l3 + (1 : Int32)), .inr (some (17, 0)), .inr (some (0, 0))]) rfl ?_
          obtain ⟨z36, h⟩ := h
          refine xw.ild (c := 17) (nx := 276) (v := (xm_i S 17 0 (y_ix (l3 + (1 : Int32))))) rfl (by decide) z36 rfl ?_
          refine xw.s (pc' := 277) (st' := [.inr (some (17, 0)), .inl (xm_i S 17 0 (y_ix (l3 + (1 : Int32)))), .inr (some (0, 0))]) rfl ?_
          refine xw.s (pc' := 278) (st' := [.inl l3, .inr (some (17, 0)), .inl (xm_i S 17 0 (y_ix (l3 + (1 : Int32)))), .inr (some (0, 0))]) rfl ?_
          refine xw.s (pc' := 279) (st' := [.inl (2 : Int32), .inl l3, .inr (some (17, 0)), .inl (xm_i S 17 0 (y_ix (l3 + (1 : Int32)))), .inr (some (0, 0))]) rfl ?_
          refine xw.s (pc' := 280) (st' := [.inl (l3 + (2 : Int32)), .inr (some (17, 0)), .inl (xm_i S 17 0 (y_ix (l3 + (1 : Int32)))), .inr (some (0, 0))]) rfl ?_
          obtain ⟨z37, h⟩ := h
          refine xw.ild (c := 17) (nx := 281) (v := (xm_i S 17 0 (y_ix (l3 + (2 : Int32))))) rfl (by decide) z37 rfl ?_
          refine xw.s (pc' := 282) (st' := [.inr (some (17, 0)), .inl (xm_i S 17 0 (y_ix (l3 + (2 : Int32)))), .inl (xm_i S 17 0 (y_ix (l3 + (1 : Int32)))), .inr (some (0, 0))]) rfl ?_
          refine xw.s (pc' := 283) (st' := [.inl l3, .inr (some (17, 0)), .inl (xm_i S 17 0 (y_ix (l3 + (2 : Int32)))), .inl (xm_i S 17 0 (y_ix (l3 + (1 : Int32)))), .inr (some (0, 0))]) rfl ?_
          refine xw.s (pc' := 284) (st' := [.inl (3 : Int32), .inl l3, .inr (some (17, 0)), .inl (xm_i S 17 0 (y_ix (l3 + (2 : Int32)))), .inl (xm_i S 17 0 (y_ix (l3 + (1 : Int32)))), .inr (some (0, 0))]) rfl ?_
          refine xw.s (pc' := 285) (st' := [.inl (l3 + (3 : Int32)), .inr (some (17, 0)), .inl (xm_i S 17 0 (y_ix (l3 + (2 : Int32)))), .inl (xm_i S 17 0 (y_ix (l3 + (1 : Int32)))), .inr (some (0, 0))]) rfl ?_
          obtain ⟨z38, h⟩ := h
          refine xw.ild (c := 17) (nx := 286) (v := (xm_i S 17 0 (y_ix (l3 + (3 : Int32))))) rfl (by decide) z38 rfl ?_
          refine xw.s (pc' := 287) (st' := [.inr (some (17, 0)), .inl (xm_i S 17 0 (y_ix (l3 + (3 : Int32)))), .inl (xm_i S 17 0 (y_ix (l3 + (2 : Int32)))), .inl (xm_i S 17 0 (y_ix (l3 + (1 : Int32)))), .inr (some (0, 0))]) rfl ?_
          refine xw.s (pc' := 288) (st' := [.inl l3, .inr (some (17, 0)), .inl (xm_i S 17 0 (y_ix (l3 + (3 : Int32)))), .inl (xm_i S 17 0 (y_ix (l3 + (2 : Int32)))), .inl (xm_i S 17 0 (y_ix (l3 + (1 : Int32)))), .inr (some (0, 0))]) rfl ?_
          refine xw.s (pc' := 289) (st' := [.inl (4 : Int32), .inl l3, .inr (some (17, 0)), .inl (xm_i S 17 0 (y_ix (l3 + (3 : Int32)))), .inl (xm_i S 17 0 (y_ix (l3 + (2 : Int32)))), .inl (xm_i S 17 0 (y_ix (l3 + (1 : Int32)))), .inr (some (0, 0))]) rfl ?_
          refine xw.s (pc' := 290) (st' := [.inl (l3 + (4 : Int32)), .inr (some (17, 0)), .inl (xm_i S 17 0 (y_ix (l3 + (3 : Int32)))), .inl (xm_i S 17 0 (y_ix (l3 + (2 : Int32)))), .inl (xm_i S 17 0 (y_ix (l3 + (1 : Int32)))), .inr (some (0, 0))]) rfl ?_
          obtain ⟨z39, h⟩ := h
          refine xw.ild (c := 17) (nx := 291) (v := (xm_i S 17 0 (y_ix (l3 + (4 : Int32))))) rfl (by decide) z39 rfl ?_
          refine xw.s (pc' := 292) (st' := [.inr (some (17, 0)), .inl (xm_i S 17 0 (y_ix (l3 + (4 : Int32)))), .inl (xm_i S 17 0 (y_ix (l3 + (3 : Int32)))), .inl (xm_i S 17 0 (y_ix (l3 + (2 : Int32)))), .inl (xm_i S 17 0 (y_ix (l3 + (1 : Int32)))), .inr (some (0, 0))]) rfl ?_
          refine xw.s (pc' := 293) (st' := [.inl l3, .inr (some (17, 0)), .inl (xm_i S 17 0 (y_ix (l3 + (4 : Int32)))), .inl (xm_i S 17 0 (y_ix (l3 + (3 : Int32)))), .inl (xm_i S 17 0 (y_ix (l3 + (2 : Int32)))), .inl (xm_i S 17 0 (y_ix (l3 + (1 : Int32)))), .inr (some (0, 0))]) rfl ?_
          refine xw.s (pc' := 294) (st' := [.inl (5 : Int32), .inl l3, .inr (some (17, 0)), .inl (xm_i S 17 0 (y_ix (l3 + (4 : Int32)))), .inl (xm_i S 17 0 (y_ix (l3 + (3 : Int32)))), .inl (xm_i S 17 0 (y_ix (l3 + (2 : Int32)))), .inl (xm_i S 17 0 (y_ix (l3 + (1 : Int32)))), .inr (some (0, 0))]) rfl ?_
          refine xw.s (pc' := 295) (st' := [.inl (l3 + (5 : Int32)), .inr (some (17, 0)), .inl (xm_i S 17 0 (y_ix (l3 + (4 : Int32)))), .inl (xm_i S 17 0 (y_ix (l3 + (3 : Int32)))), .inl (xm_i S 17 0 (y_ix (l3 + (2 : Int32)))), .inl (xm_i S 17 0 (y_ix (l3 + (1 : Int32)))), .inr (some (0, 0))]) rfl ?_
          obtain ⟨z40, h⟩ := h
          refine xw.ild (c := 17) (nx := 296) (v := (xm_i S 17 0 (y_ix (l3 + (5 : Int32))))) rfl (by decide) z40 rfl ?_
          refine xw.call (m := 6) (as := [.inr (some (0, 0)), .inl (xm_i S 17 0 (y_ix (l3 + (1 : Int32)))), .inl (xm_i S 17 0 (y_ix (l3 + (2 : Int32)))), .inl (xm_i S 17 0 (y_ix (l3 + (3 : Int32)))), .inl (xm_i S 17 0 (y_ix (l3 + (4 : Int32)))), .inl (xm_i S 17 0 (y_ix (l3 + (5 : Int32))))]) (nx := 299) (L' := [some (.inr (some (17, 0))), some (.inr (some (0, 0))), some (.inr (some (11, 0))), some (.inl l3)]) (st' := []) rfl (xc.mono h ?_)
          rintro r S41 ⟨x43, rfl, hC42, h⟩
          show xw _ _ 299 [some (.inr (some (17, 0))), some (.inr (some (0, 0))), some (.inr (some (11, 0))), some (.inl l3)] [.inl x43] _ _
          refine xw.s (pc' := 300) (st' := [.inr (some (11, 0)), .inl x43]) rfl ?_
          refine xw.s (pc' := 301) (st' := [.inr (some (17, 0)), .inr (some (11, 0)), .inl x43]) rfl ?_
          refine xw.s (pc' := 302) (st' := [.inl l3, .inr (some (17, 0)), .inr (some (11, 0)), .inl x43]) rfl ?_
          refine xw.s (pc' := 303) (st' := [.inl (1 : Int32), .inl l3, .inr (some (17, 0)), .inr (some (11, 0)), .inl x43]) rfl ?_
          refine xw.s (pc' := 304) (st' := [.inl (l3 + (1 : Int32)), .inr (some (17, 0)), .inr (some (11, 0)), .inl x43]) rfl ?_
          obtain ⟨z44, h⟩ := h
          refine xw.ild (c := 17) (nx := 305) (v := (xm_i S41 17 0 (y_ix (l3 + (1 : Int32))))) rfl (by decide) z44 rfl ?_
          refine xw.s (pc' := 306) (st' := [.inr (some (17, 0)), .inl (xm_i S41 17 0 (y_ix (l3 + (1 : Int32)))), .inr (some (11, 0)), .inl x43]) rfl ?_
          refine xw.s (pc' := 307) (st' := [.inl l3, .inr (some (17, 0)), .inl (xm_i S41 17 0 (y_ix (l3 + (1 : Int32)))), .inr (some (11, 0)), .inl x43]) rfl ?_
          refine xw.s (pc' := 308) (st' := [.inl (2 : Int32), .inl l3, .inr (some (17, 0)), .inl (xm_i S41 17 0 (y_ix (l3 + (1 : Int32)))), .inr (some (11, 0)), .inl x43]) rfl ?_
          refine xw.s (pc' := 309) (st' := [.inl (l3 + (2 : Int32)), .inr (some (17, 0)), .inl (xm_i S41 17 0 (y_ix (l3 + (1 : Int32)))), .inr (some (11, 0)), .inl x43]) rfl ?_
          obtain ⟨z45, h⟩ := h
          refine xw.ild (c := 17) (nx := 310) (v := (xm_i S41 17 0 (y_ix (l3 + (2 : Int32))))) rfl (by decide) z45 rfl ?_
          refine xw.s (pc' := 311) (st' := [.inr (some (17, 0)), .inl (xm_i S41 17 0 (y_ix (l3 + (2 : Int32)))), .inl (xm_i S41 17 0 (y_ix (l3 + (1 : Int32)))), .inr (some (11, 0)), .inl x43]) rfl ?_
          refine xw.s (pc' := 312) (st' := [.inl l3, .inr (some (17, 0)), .inl (xm_i S41 17 0 (y_ix (l3 + (2 : Int32)))), .inl (xm_i S41 17 0 (y_ix (l3 + (1 : Int32)))), .inr (some (11, 0)), .inl x43]) rfl ?_
          refine xw.s (pc' := 313) (st' := [.inl (3 : Int32), .inl l3, .inr (some (17, 0)), .inl (xm_i S41 17 0 (y_ix (l3 + (2 : Int32)))), .inl (xm_i S41 17 0 (y_ix (l3 + (1 : Int32)))), .inr (some (11, 0)), .inl x43]) rfl ?_
          refine xw.s (pc' := 314) (st' := [.inl (l3 + (3 : Int32)), .inr (some (17, 0)), .inl (xm_i S41 17 0 (y_ix (l3 + (2 : Int32)))), .inl (xm_i S41 17 0 (y_ix (l3 + (1 : Int32)))), .inr (some (11, 0)), .inl x43]) rfl ?_
          obtain ⟨z46, h⟩ := h
          refine xw.ild (c := 17) (nx := 315) (v := (xm_i S41 17 0 (y_ix (l3 + (3 : Int32))))) rfl (by decide) z46 rfl ?_
          refine xw.s (pc' := 316) (st' := [.inr (some (17, 0)), .inl (xm_i S41 17 0 (y_ix (l3 + (3 : Int32)))), .inl (xm_i S41 17 0 (y_ix (l3 + (2 : Int32)))), .inl (xm_i S41 17 0 (y_ix (l3 + (1 : Int32)))), .inr (some (11, 0)), .inl x43]) rfl ?_
          refine xw.s (pc' := 317) (st' := [.inl l3, .inr (some (17, 0)), .inl (xm_i S41 17 0 (y_ix (l3 + (3 : Int32)))), .inl (xm_i S41 17 0 (y_ix (l3 + (2 : Int32)))), .inl (xm_i S41 17 0 (y_ix (l3 + (1 : Int32)))), .inr (some (11, 0)), .inl x43]) rfl ?_
          refine xw.s (pc' := 318) (st' := [.inl (4 : Int32), .inl l3, .inr (some (17, 0)), .inl (xm_i S41 17 0 (y_ix (l3 + (3 : Int32)))), .inl (xm_i S41 17 0 (y_ix (l3 + (2 : Int32)))), .inl (xm_i S41 17 0 (y_ix (l3 + (1 : Int32)))), .inr (some (11, 0)), .inl x43]) rfl ?_
          refine xw.s (pc' := 319) (st' := [.inl (l3 + (4 : Int32)), .inr (some (17, 0)), .inl (xm_i S41 17 0 (y_ix (l3 + (3 : Int32)))), .inl (xm_i S41 17 0 (y_ix (l3 + (2 : Int32)))), .inl (xm_i S41 17 0 (y_ix (l3 + (1 : Int32)))), .inr (some (11, 0)), .inl x43]) rfl ?_
          obtain ⟨z47, h⟩ := h
          refine xw.ild (c := 17) (nx := 320) (v := (xm_i S41 17 0 (y_ix (l3 + (4 : Int32))))) rfl (by decide) z47 rfl ?_
          refine xw.s (pc' := 321) (st' := [.inr (some (17, 0)), .inl (xm_i S41 17 0 (y_ix (l3 + (4 : Int32)))), .inl (xm_i S41 17 0 (y_ix (l3 + (3 : Int32)))), .inl (xm_i S41 17 0 (y_ix (l3 + (2 : Int32)))), .inl (xm_i S41 17 0 (y_ix (l3 + (1 : Int32)))), .inr (some (11, 0)), .inl x43]) rfl ?_
          refine xw.s (pc' := 322) (st' := [.inl l3, .inr (some (17, 0)), .inl (xm_i S41 17 0 (y_ix (l3 + (4 : Int32)))), .inl (xm_i S41 17 0 (y_ix (l3 + (3 : Int32)))), .inl (xm_i S41 17 0 (y_ix (l3 + (2 : Int32)))), .inl (xm_i S41 17 0 (y_ix (l3 + (1 : Int32)))), .inr (some (11, 0)), .inl x43]) rfl ?_
          refine xw.s (pc' := 323) (st' := [.inl (5 : Int32), .inl l3, .inr (some (17, 0)), .inl (xm_i S41 17 0 (y_ix (l3 + (4 : Int32)))), .inl (xm_i S41 17 0 (y_ix (l3 + (3 : Int32)))), .inl (xm_i S41 17 0 (y_ix (l3 + (2 : Int32)))), .inl (xm_i S41 17 0 (y_ix (l3 + (1 : Int32)))), .inr (some (11, 0)), .inl x43]) rfl ?_
          refine xw.s (pc' := 324) (st' := [.inl (l3 + (5 : Int32)), .inr (some (17, 0)), .inl (xm_i S41 17 0 (y_ix (l3 + (4 : Int32)))), .inl (xm_i S41 17 0 (y_ix (l3 + (3 : Int32)))), .inl (xm_i S41 17 0 (y_ix (l3 + (2 : Int32)))), .inl (xm_i S41 17 0 (y_ix (l3 + (1 : Int32)))), .inr (some (11, 0)), .inl x43]) rfl ?_
          obtain ⟨z48, h⟩ := h
          refine xw.ild (c := 17) (nx := 325) (v := (xm_i S41 17 0 (y_ix (l3 + (5 : Int32))))) rfl (by decide) z48 rfl ?_
          refine xw.call (m := 117) (as := [.inr (some (11, 0)), .inl (xm_i S41 17 0 (y_ix (l3 + (1 : Int32)))), .inl (xm_i S41 17 0 (y_ix (l3 + (2 : Int32)))), .inl (xm_i S41 17 0 (y_ix (l3 + (3 : Int32)))), .inl (xm_i S41 17 0 (y_ix (l3 + (4 : Int32)))), .inl (xm_i S41 17 0 (y_ix (l3 + (5 : Int32))))]) (nx := 328) (L' := [some (.inr (some (17, 0))), some (.inr (some (0, 0))), some (.inr (some (11, 0))), some (.inl l3)]) (st' := [.inl x43]) rfl (xc.mono h ?_)
          rintro r S49 ⟨x51, rfl, hC50, h⟩
          show xw _ _ 328 [some (.inr (some (17, 0))), some (.inr (some (0, 0))), some (.inr (some (11, 0))), some (.inl l3)] [.inl x51, .inl x43] _ _
          refine xw.b (c := x43 = x51) (cd := .eq) (x := x43) (y := x51) 1205 331 (st' := []) rfl (y_ceq _ _) h (fun c52 h => ?_) (fun c52 h => ?_)
          · skip
            refine xw.s (pc' := 1208) (st' := []) (L' := [some (.inr (some (17, 0))), some (.inr (some (0, 0))), some (.inr (some (11, 0))), some (.inl (l3 + (8 : Int32)))]) rfl ?_
            refine xw.s (pc' := 18) (st' := []) rfl ?_
            exact h
          · skip
            refine xw.s (pc' := 332) (st' := [.inl (0 : Int32)]) rfl ?_
            exact xw.retz (nx := 333) rfl (Or.inl rfl) h
        · skip
          refine xw.bw (3 : Int32) rfl h (fun c53 h => ?_) (fun c53 h => ?_)
          · skip
            refine xw.s (pc' := 334) (st' := [.inr (some (0, 0))]) rfl ?_
            refine xw.s (pc' := 335) (st' := [.inr (some (17, 0)), .inr (some (0, 0))]) rfl ?_
            refine xw.s (pc' := 336) (st' := [.inl l3, .inr (some (17, 0)), .inr (some (0, 0))]) rfl ?_
            refine xw.s (pc' := 337) (st' := [.inl (1 : Int32), .inl l3, .inr (some (17, 0)), .inr (some (0, 0))]) rfl ?_
            refine xw.s (pc' := 338) (st' := [.inl (l3 + (1 : Int32)), .inr (some (17, 0)), .inr (some (0, 0))]) rfl ?_
            obtain ⟨z54, h⟩ := h
            refine xw.ild (c := 17) (nx := 339) (v := (xm_i S 17 0 (y_ix (l3 + (1 : Int32))))) rfl (by decide) z54 rfl ?_
            refine xw.s (pc' := 340) (st' := [.inr (some (17, 0)), .inl (xm_i S 17 0 (y_ix (l3 + (1 : Int32)))), .inr (some (0, 0))]) rfl ?_
            refine xw.s (pc' := 341) (st' := [.inl l3, .inr (some (17, 0)), .inl (xm_i S 17 0 (y_ix (l3 + (1 : Int32)))), .inr (some (0, 0))]) rfl ?_
            refine xw.s (pc' := 342) (st' := [.inl (2 : Int32), .inl l3, .inr (some (17, 0)), .inl (xm_i S 17 0 (y_ix (l3 + (1 : Int32)))), .inr (some (0, 0))]) rfl ?_
            refine xw.s (pc' := 343) (st' := [.inl (l3 + (2 : Int32)), .inr (some (17, 0)), .inl (xm_i S 17 0 (y_ix (l3 + (1 : Int32)))), .inr (some (0, 0))]) rfl ?_
            obtain ⟨z55, h⟩ := h
            refine xw.ild (c := 17) (nx := 344) (v := (xm_i S 17 0 (y_ix (l3 + (2 : Int32))))) rfl (by decide) z55 rfl ?_
            refine xw.s (pc' := 345) (st' := [.inr (some (17, 0)), .inl (xm_i S 17 0 (y_ix (l3 + (2 : Int32)))), .inl (xm_i S 17 0 (y_ix (l3 + (1 : Int32)))), .inr (some (0, 0))]) rfl ?_
            refine xw.s (pc' := 346) (st' := [.inl l3, .inr (some (17, 0)), .inl (xm_i S 17 0 (y_ix (l3 + (2 : Int32)))), .inl (xm_i S 17 0 (y_ix (l3 + (1 : Int32)))), .inr (some (0, 0))]) rfl ?_
            refine xw.s (pc' := 347) (st' := [.inl (3 : Int32), .inl l3, .inr (some (17, 0)), .inl (xm_i S 17 0 (y_ix (l3 + (2 : Int32)))), .inl (xm_i S 17 0 (y_ix (l3 + (1 : Int32)))), .inr (some (0, 0))]) rfl ?_
            refine xw.s (pc' := 348) (st' := [.inl (l3 + (3 : Int32)), .inr (some (17, 0)), .inl (xm_i S 17 0 (y_ix (l3 + (2 : Int32)))), .inl (xm_i S 17 0 (y_ix (l3 + (1 : Int32)))), .inr (some (0, 0))]) rfl ?_
            obtain ⟨z56, h⟩ := h
            refine xw.ild (c := 17) (nx := 349) (v := (xm_i S 17 0 (y_ix (l3 + (3 : Int32))))) rfl (by decide) z56 rfl ?_
            refine xw.s (pc' := 350) (st' := [.inr (some (17, 0)), .inl (xm_i S 17 0 (y_ix (l3 + (3 : Int32)))), .inl (xm_i S 17 0 (y_ix (l3 + (2 : Int32)))), .inl (xm_i S 17 0 (y_ix (l3 + (1 : Int32)))), .inr (some (0, 0))]) rfl ?_
            refine xw.s (pc' := 351) (st' := [.inl l3, .inr (some (17, 0)), .inl (xm_i S 17 0 (y_ix (l3 + (3 : Int32)))), .inl (xm_i S 17 0 (y_ix (l3 + (2 : Int32)))), .inl (xm_i S 17 0 (y_ix (l3 + (1 : Int32)))), .inr (some (0, 0))]) rfl ?_
            refine xw.s (pc' := 352) (st' := [.inl (4 : Int32), .inl l3, .inr (some (17, 0)), .inl (xm_i S 17 0 (y_ix (l3 + (3 : Int32)))), .inl (xm_i S 17 0 (y_ix (l3 + (2 : Int32)))), .inl (xm_i S 17 0 (y_ix (l3 + (1 : Int32)))), .inr (some (0, 0))]) rfl ?_
            refine xw.s (pc' := 353) (st' := [.inl (l3 + (4 : Int32)), .inr (some (17, 0)), .inl (xm_i S 17 0 (y_ix (l3 + (3 : Int32)))), .inl (xm_i S 17 0 (y_ix (l3 + (2 : Int32)))), .inl (xm_i S 17 0 (y_ix (l3 + (1 : Int32)))), .inr (some (0, 0))]) rfl ?_
            obtain ⟨z57, h⟩ := h
            refine xw.ild (c := 17) (nx := 354) (v := (xm_i S 17 0 (y_ix (l3 + (4 : Int32))))) rfl (by decide) z57 rfl ?_
            refine xw.s (pc' := 355) (st' := [.inr (some (17, 0)), .inl (xm_i S 17 0 (y_ix (l3 + (4 : Int32)))), .inl (xm_i S 17 0 (y_ix (l3 + (3 : Int32)))), .inl (xm_i S 17 0 (y_ix (l3 + (2 : Int32)))), .inl (xm_i S 17 0 (y_ix (l3 + (1 : Int32)))), .inr (some (0, 0))]) rfl ?_
            refine xw.s (pc' := 356) (st' := [.inl l3, .inr (some (17, 0)), .inl (xm_i S 17 0 (y_ix (l3 + (4 : Int32)))), .inl (xm_i S 17 0 (y_ix (l3 + (3 : Int32)))), .inl (xm_i S 17 0 (y_ix (l3 + (2 : Int32)))), .inl (xm_i S 17 0 (y_ix (l3 + (1 : Int32)))), .inr (some (0, 0))]) rfl ?_
            refine xw.s (pc' := 357) (st' := [.inl (5 : Int32), .inl l3, .inr (some (17, 0)), .inl (xm_i S 17 0 (y_ix (l3 + (4 : Int32)))), .inl (xm_i S 17 0 (y_ix (l3 + (3 : Int32)))), .inl (xm_i S 17 0 (y_ix (l3 + (2 : Int32)))), .inl (xm_i S 17 0 (y_ix (l3 + (1 : Int32)))), .inr (some (0, 0))]) rfl ?_
            refine xw.s (pc' := 358) (st' := [.inl (l3 + (5 : Int32)), .inr (some (17, 0)), .inl (xm_i S 17 0 (y_ix (l3 + (4 : Int32)))), .inl (xm_i S 17 0 (y_ix (l3 + (3 : Int32)))), .inl (xm_i S 17 0 (y_ix (l3 + (2 : Int32)))), .inl (xm_i S 17 0 (y_ix (l3 + (1 : Int32)))), .inr (some (0, 0))]) rfl ?_
            obtain ⟨z58, h⟩ := h
            refine xw.ild (c := 17) (nx := 359) (v := (xm_i S 17 0 (y_ix (l3 + (5 : Int32))))) rfl (by decide) z58 rfl ?_
            refine xw.call (m := 7) (as := [.inr (some (0, 0)), .inl (xm_i S 17 0 (y_ix (l3 + (1 : Int32)))), .inl (xm_i S 17 0 (y_ix (l3 + (2 : Int32)))), .inl (xm_i S 17 0 (y_ix (l3 + (3 : Int32)))), .inl (xm_i S 17 0 (y_ix (l3 + (4 : Int32)))), .inl (xm_i S 17 0 (y_ix (l3 + (5 : Int32))))]) (nx := 362) (L' := [some (.inr (some (17, 0))), some (.inr (some (0, 0))), some (.inr (some (11, 0))), some (.inl l3)]) (st' := []) rfl (xc.mono h ?_)
            rintro r S59 ⟨x61, rfl, hC60, h⟩
            show xw _ _ 362 [some (.inr (some (17, 0))), some (.inr (some (0, 0))), some (.inr (some (11, 0))), some (.inl l3)] [.inl x61] _ _
            refine xw.s (pc' := 363) (st' := [.inr (some (11, 0)), .inl x61]) rfl ?_
            refine xw.s (pc' := 364) (st' := [.inr (some (17, 0)), .inr (some (11, 0)), .inl x61]) rfl ?_
            refine xw.s (pc' := 365) (st' := [.inl l3, .inr (some (17, 0)), .inr (some (11, 0)), .inl x61]) rfl ?_
            refine xw.s (pc' := 366) (st' := [.inl (1 : Int32), .inl l3, .inr (some (17, 0)), .inr (some (11, 0)), .inl x61]) rfl ?_
            refine xw.s (pc' := 367) (st' := [.inl (l3 + (1 : Int32)), .inr (some (17, 0)), .inr (some (11, 0)), .inl x61]) rfl ?_
            obtain ⟨z62, h⟩ := h
            refine xw.ild (c := 17) (nx := 368) (v := (xm_i S59 17 0 (y_ix (l3 + (1 : Int32))))) rfl (by decide) z62 rfl ?_
            refine xw.s (pc' := 369) (st' := [.inr (some (17, 0)), .inl (xm_i S59 17 0 (y_ix (l3 + (1 : Int32)))), .inr (some (11, 0)), .inl x61]) rfl ?_
            refine xw.s (pc' := 370) (st' := [.inl l3, .inr (some (17, 0)), .inl (xm_i S59 17 0 (y_ix (l3 + (1 : Int32)))), .inr (some (11, 0)), .inl x61]) rfl ?_
            refine xw.s (pc' := 371) (st' := [.inl (2 : Int32), .inl l3, .inr (some (17, 0)), .inl (xm_i S59 17 0 (y_ix (l3 + (1 : Int32)))), .inr (some (11, 0)), .inl x61]) rfl ?_
            refine xw.s (pc' := 372) (st' := [.inl (l3 + (2 : Int32)), .inr (some (17, 0)), .inl (xm_i S59 17 0 (y_ix (l3 + (1 : Int32)))), .inr (some (11, 0)), .inl x61]) rfl ?_
            obtain ⟨z63, h⟩ := h
            refine xw.ild (c := 17) (nx := 373) (v := (xm_i S59 17 0 (y_ix (l3 + (2 : Int32))))) rfl (by decide) z63 rfl ?_
            refine xw.s (pc' := 374) (st' := [.inr (some (17, 0)), .inl (xm_i S59 17 0 (y_ix (l3 + (2 : Int32)))), .inl (xm_i S59 17 0 (y_ix (l3 + (1 : Int32)))), .inr (some (11, 0)), .inl x61]) rfl ?_
            refine xw.s (pc' := 375) (st' := [.inl l3, .inr (some (17, 0)), .inl (xm_i S59 17 0 (y_ix (l3 + (2 : Int32)))), .inl (xm_i S59 17 0 (y_ix (l3 + (1 : Int32)))), .inr (some (11, 0)), .inl x61]) rfl ?_
            refine xw.s (pc' := 376) (st' := [.inl (3 : Int32), .inl l3, .inr (some (17, 0)), .inl (xm_i S59 17 0 (y_ix (l3 + (2 : Int32)))), .inl (xm_i S59 17 0 (y_ix (l3 + (1 : Int32)))), .inr (some (11, 0)), .inl x61]) rfl ?_
            refine xw.s (pc' := 377) (st' := [.inl (l3 + (3 : Int32)), .inr (some (17, 0)), .inl (xm_i S59 17 0 (y_ix (l3 + (2 : Int32)))), .inl (xm_i S59 17 0 (y_ix (l3 + (1 : Int32)))), .inr (some (11, 0)), .inl x61]) rfl ?_
            obtain ⟨z64, h⟩ := h
            refine xw.ild (c := 17) (nx := 378) (v := (xm_i S59 17 0 (y_ix (l3 + (3 : Int32))))) rfl (by decide) z64 rfl ?_
            refine xw.s (pc' := 379) (st' := [.inr (some (17, 0)), .inl (xm_i S59 17 0 (y_ix (l3 + (3 : Int32)))), .inl (xm_i S59 17 0 (y_ix (l3 + (2 : Int32)))), .inl (xm_i S59 17 0 (y_ix (l3 + (1 : Int32)))), .inr (some (11, 0)), .inl x61]) rfl ?_
            refine xw.s (pc' := 380) (st' := [.inl l3, .inr (some (17, 0)), .inl (xm_i S59 17 0 (y_ix (l3 + (3 : Int32)))), .inl (xm_i S59 17 0 (y_ix (l3 + (2 : Int32)))), .inl (xm_i S59 17 0 (y_ix (l3 + (1 : Int32)))), .inr (some (11, 0)), .inl x61]) rfl ?_
            refine xw.s (pc' := 381) (st' := [.inl (4 : Int32), .inl l3, .inr (some (17, 0)), .inl (xm_i S59 17 0 (y_ix (l3 + (3 : Int32)))), .inl (xm_i S59 17 0 (y_ix (l3 + (2 : Int32)))), .inl (xm_i S59 17 0 (y_ix (l3 + (1 : Int32)))), .inr (some (11, 0)), .inl x61]) rfl ?_
            refine xw.s (pc' := 382) (st' := [.inl (l3 + (4 : Int32)), .inr (some (17, 0)), .inl (xm_i S59 17 0 (y_ix (l3 + (3 : Int32)))), .inl (xm_i S59 17 0 (y_ix (l3 + (2 : Int32)))), .inl (xm_i S59 17 0 (y_ix (l3 + (1 : Int32)))), .inr (some (11, 0)), .inl x61]) rfl ?_
            obtain ⟨z65, h⟩ := h
            refine xw.ild (c := 17) (nx := 383) (v := (xm_i S59 17 0 (y_ix (l3 + (4 : Int32))))) rfl (by decide) z65 rfl ?_
            refine xw.s (pc' := 384) (st' := [.inr (some (17, 0)), .inl (xm_i S59 17 0 (y_ix (l3 + (4 : Int32)))), .inl (xm_i S59 17 0 (y_ix (l3 + (3 : Int32)))), .inl (xm_i S59 17 0 (y_ix (l3 + (2 : Int32)))), .inl (xm_i S59 17 0 (y_ix (l3 + (1 : Int32)))), .inr (some (11, 0)), .inl x61]) rfl ?_
            refine xw.s (pc' := 385) (st' := [.inl l3, .inr (some (17, 0)), .inl (xm_i S59 17 0 (y_ix (l3 + (4 : Int32)))), .inl (xm_i S59 17 0 (y_ix (l3 + (3 : Int32)))), .inl (xm_i S59 17 0 (y_ix (l3 + (2 : Int32)))), .inl (xm_i S59 17 0 (y_ix (l3 + (1 : Int32)))), .inr (some (11, 0)), .inl x61]) rfl ?_
            refine xw.s (pc' := 386) (st' := [.inl (5 : Int32), .inl l3, .inr (some (17, 0)), .inl (xm_i S59 17 0 (y_ix (l3 + (4 : Int32)))), .inl (xm_i S59 17 0 (y_ix (l3 + (3 : Int32)))), .inl (xm_i S59 17 0 (y_ix (l3 + (2 : Int32)))), .inl (xm_i S59 17 0 (y_ix (l3 + (1 : Int32)))), .inr (some (11, 0)), .inl x61]) rfl ?_
            refine xw.s (pc' := 387) (st' := [.inl (l3 + (5 : Int32)), .inr (some (17, 0)), .inl (xm_i S59 17 0 (y_ix (l3 + (4 : Int32)))), .inl (xm_i S59 17 0 (y_ix (l3 + (3 : Int32)))), .inl (xm_i S59 17 0 (y_ix (l3 + (2 : Int32)))), .inl (xm_i S59 17 0 (y_ix (l3 + (1 : Int32)))), .inr (some (11, 0)), .inl x61]) rfl ?_
            obtain ⟨z66, h⟩ := h
            refine xw.ild (c := 17) (nx := 388) (v := (xm_i S59 17 0 (y_ix (l3 + (5 : Int32))))) rfl (by decide) z66 rfl ?_
            refine xw.call (m := 122) (as := [.inr (some (11, 0)), .inl (xm_i S59 17 0 (y_ix (l3 + (1 : Int32)))), .inl (xm_i S59 17 0 (y_ix (l3 + (2 : Int32)))), .inl (xm_i S59 17 0 (y_ix (l3 + (3 : Int32)))), .inl (xm_i S59 17 0 (y_ix (l3 + (4 : Int32)))), .inl (xm_i S59 17 0 (y_ix (l3 + (5 : Int32))))]) (nx := 391) (L' := [some (.inr (some (17, 0))), some (.inr (some (0, 0))), some (.inr (some (11, 0))), some (.inl l3)]) (st' := [.inl x61]) rfl (xc.mono h ?_)
            rintro r S67 ⟨x69, rfl, hC68, h⟩
            show xw _ _ 391 [some (.inr (some (17, 0))), some (.inr (some (0, 0))), some (.inr (some (11, 0))), some (.inl l3)] [.inl x69, .inl x61] _ _
            refine xw.b (c := x61 = x69) (cd := .eq) (x := x61) (y := x69) 1205 394 (st' := []) rfl (y_ceq _ _) h (fun c70 h => ?_) (fun c70 h => ?_)
            · skip
              refine xw.s (pc' := 1208) (st' := []) (L' := [some (.inr (some (17, 0))), some (.inr (some (0, 0))), some (.inr (some (11, 0))), some (.inl (l3 + (8 : Int32)))]) rfl ?_
              refine xw.s (pc' := 18) (st' := []) rfl ?_
              exact h
            · skip
              refine xw.s (pc' := 395) (st' := [.inl (0 : Int32)]) rfl ?_
              exact xw.retz (nx := 396) rfl (Or.inl rfl) h
          · skip
            refine xw.bw (4 : Int32) rfl h (fun c71 h => ?_) (fun c71 h => ?_)
            · skip
              refine xw.s (pc' := 397) (st' := [.inr (some (0, 0))]) rfl ?_
              refine xw.s (pc' := 398) (st' := [.inr (some (17, 0)), .inr (some (0, 0))]) rfl ?_
              refine xw.s (pc' := 399) (st' := [.inl l3, .inr (some (17, 0)), .inr (some (0, 0))]) rfl ?_
              refine xw.s (pc' := 400) (st' := [.inl (1 : Int32), .inl l3, .inr (some (17, 0)), .inr (some (0, 0))]) rfl ?_
              refine xw.s (pc' := 401) (st' := [.inl (l3 + (1 : Int32)), .inr (some (17, 0)), .inr (some (0, 0))]) rfl ?_
              obtain ⟨z72, h⟩ := h
              refine xw.ild (c := 17) (nx := 402) (v := (xm_i S 17 0 (y_ix (l3 + (1 : Int32))))) rfl (by decide) z72 rfl ?_
              refine xw.call (m := 9) (as := [.inr (some (0, 0)), .inl (xm_i S 17 0 (y_ix (l3 + (1 : Int32))))]) (nx := 405) (L' := [some (.inr (some (17, 0))), some (.inr (some (0, 0))), some (.inr (some (11, 0))), some (.inl l3)]) (st' := []) rfl (xc.mono h ?_)
              rintro r S73 ⟨x75, rfl, hC74, h⟩
              show xw _ _ 405 [some (.inr (some (17, 0))), some (.inr (some (0, 0))), some (.inr (some (11, 0))), some (.inl l3)] [.inl x75] _ _
              refine xw.s (pc' := 406) (st' := [.inr (some (11, 0)), .inl x75]) rfl ?_
              refine xw.s (pc' := 407) (st' := [.inr (some (17, 0)), .inr (some (11, 0)), .inl x75]) rfl ?_
              refine xw.s (pc' := 408) (st' := [.inl l3, .inr (some (17, 0)), .inr (some (11, 0)), .inl x75]) rfl ?_
              refine xw.s (pc' := 409) (st' := [.inl (1 : Int32), .inl l3, .inr (some (17, 0)), .inr (some (11, 0)), .inl x75]) rfl ?_
              refine xw.s (pc' := 410) (st' := [.inl (l3 + (1 : Int32)), .inr (some (17, 0)), .inr (some (11, 0)), .inl x75]) rfl ?_
              obtain ⟨z76, h⟩ := h
              refine xw.ild (c := 17) (nx := 411) (v := (xm_i S73 17 0 (y_ix (l3 + (1 : Int32))))) rfl (by decide) z76 rfl ?_
              refine xw.call (m := 125) (as := [.inr (some (11, 0)), .inl (xm_i S73 17 0 (y_ix (l3 + (1 : Int32))))]) (nx := 414) (L' := [some (.inr (some (17, 0))), some (.inr (some (0, 0))), some (.inr (some (11, 0))), some (.inl l3)]) (st' := [.inl x75]) rfl (xc.mono h ?_)
              rintro r S77 ⟨x79, rfl, hC78, h⟩
              show xw _ _ 414 [some (.inr (some (17, 0))), some (.inr (some (0, 0))), some (.inr (some (11, 0))), some (.inl l3)] [.inl x79, .inl x75] _ _
              refine xw.b (c := x75 = x79) (cd := .eq) (x := x75) (y := x79) 1205 417 (st' := []) rfl (y_ceq _ _) h (fun c80 h => ?_) (fun c80 h => ?_)
              · skip
                refine xw.s (pc' := 1208) (st' := []) (L' := [some (.inr (some (17, 0))), some (.inr (some (0, 0))), some (.inr (some (11, 0))), some (.inl (l3 + (8 : Int32)))]) rfl ?_
                refine xw.s (pc' := 18) (st' := []) rfl ?_
                exact h
              · skip
                refine xw.s (pc' := 418) (st' := [.inl (0 : Int32)]) rfl ?_
                exact xw.retz (nx := 419) rfl (Or.inl rfl) h
            · skip
              refine xw.bw (5 : Int32) rfl h (fun c81 h => ?_) (fun c81 h => ?_)
              · skip
                refine xw.s (pc' := 420) (st' := [.inr (some (0, 0))]) rfl ?_
                refine xw.call (m := 11) (as := [.inr (some (0, 0))]) (nx := 423) (L' := [some (.inr (some (17, 0))), some (.inr (some (0, 0))), some (.inr (some (11, 0))), some (.inl l3)]) (st' := []) rfl (xc.mono h ?_)
                rintro r S82 ⟨x84, rfl, hC83, h⟩
                show xw _ _ 423 [some (.inr (some (17, 0))), some (.inr (some (0, 0))), some (.inr (some (11, 0))), some (.inl l3)] [.inl x84] _ _
                refine xw.s (pc' := 424) (st' := [.inr (some (11, 0)), .inl x84]) rfl ?_
                refine xw.call (m := 126) (as := [.inr (some (11, 0))]) (nx := 427) (L' := [some (.inr (some (17, 0))), some (.inr (some (0, 0))), some (.inr (some (11, 0))), some (.inl l3)]) (st' := [.inl x84]) rfl (xc.mono h ?_)
                rintro r S85 ⟨x87, rfl, hC86, h⟩
                show xw _ _ 427 [some (.inr (some (17, 0))), some (.inr (some (0, 0))), some (.inr (some (11, 0))), some (.inl l3)] [.inl x87, .inl x84] _ _
                refine xw.b (c := x84 = x87) (cd := .eq) (x := x84) (y := x87) 1205 430 (st' := []) rfl (y_ceq _ _) h (fun c88 h => ?_) (fun c88 h => ?_)
                · skip
                  refine xw.s (pc' := 1208) (st' := []) (L' := [some (.inr (some (17, 0))), some (.inr (some (0, 0))), some (.inr (some (11, 0))), some (.inl (l3 + (8 : Int32)))]) rfl ?_
                  refine xw.s (pc' := 18) (st' := []) rfl ?_
                  exact h
                · skip
                  refine xw.s (pc' := 431) (st' := [.inl (0 : Int32)]) rfl ?_
                  exact xw.retz (nx := 432) rfl (Or.inl rfl) h
              · skip
                refine xw.bw (6 : Int32) rfl h (fun c89 h => ?_) (fun c89 h => ?_)
                · skip
                  refine xw.s (pc' := 433) (st' := [.inr (some (0, 0))]) rfl ?_
                  refine xw.s (pc' := 434) (st' := [.inr (some (17, 0)), .inr (some (0, 0))]) rfl ?_
                  refine xw.s (pc' := 435) (st' := [.inl l3, .inr (some (17, 0)), .inr (some (0, 0))]) rfl ?_
                  refine xw.s (pc' := 436) (st' := [.inl (1 : Int32), .inl l3, .inr (some (17, 0)), .inr (some (0, 0))]) rfl ?_
                  refine xw.s (pc' := 437) (st' := [.inl (l3 + (1 : Int32)), .inr (some (17, 0)), .inr (some (0, 0))]) rfl ?_
                  obtain ⟨z90, h⟩ := h
                  refine xw.ild (c := 17) (nx := 438) (v := (xm_i S 17 0 (y_ix (l3 + (1 : Int32))))) rfl (by decide) z90 rfl ?_
                  refine xw.s (pc' := 439) (st' := [.inr (some (17, 0)), .inl (xm_i S 17 0 (y_ix (l3 + (1 : Int32)))), .inr (some (0, 0))]) rfl ?_
                  refine xw.s (pc' := 440) (st' := [.inl l3, .inr (some (17, 0)), .inl (xm_i S 17 0 (y_ix (l3 + (1 : Int32)))), .inr (some (0, 0))]) rfl ?_
                  refine xw.s (pc' := 441) (st' := [.inl (2 : Int32), .inl l3, .inr (some (17, 0)), .inl (xm_i S 17 0 (y_ix (l3 + (1 : Int32)))), .inr (some (0, 0))]) rfl ?_
                  refine xw.s (pc' := 442) (st' := [.inl (l3 + (2 : Int32)), .inr (some (17, 0)), .inl (xm_i S 17 0 (y_ix (l3 + (1 : Int32)))), .inr (some (0, 0))]) rfl ?_
                  obtain ⟨z91, h⟩ := h
                  refine xw.ild (c := 17) (nx := 443) (v := (xm_i S 17 0 (y_ix (l3 + (2 : Int32))))) rfl (by decide) z91 rfl ?_
                  refine xw.s (pc' := 444) (st' := [.inr (some (17, 0)), .inl (xm_i S 17 0 (y_ix (l3 + (2 : Int32)))), .inl (xm_i S 17 0 (y_ix (l3 + (1 : Int32)))), .inr (some (0, 0))]) rfl ?_
                  refine xw.s (pc' := 445) (st' := [.inl l3, .inr (some (17, 0)), .inl (xm_i S 17 0 (y_ix (l3 + (2 : Int32)))), .inl (xm_i S 17 0 (y_ix (l3 + (1 : Int32)))), .inr (some (0, 0))]) rfl ?_
                  refine xw.s (pc' := 446) (st' := [.inl (3 : Int32), .inl l3, .inr (some (17, 0)), .inl (xm_i S 17 0 (y_ix (l3 + (2 : Int32)))), .inl (xm_i S 17 0 (y_ix (l3 + (1 : Int32)))), .inr (some (0, 0))]) rfl ?_
                  refine xw.s (pc' := 447) (st' := [.inl (l3 + (3 : Int32)), .inr (some (17, 0)), .inl (xm_i S 17 0 (y_ix (l3 + (2 : Int32)))), .inl (xm_i S 17 0 (y_ix (l3 + (1 : Int32)))), .inr (some (0, 0))]) rfl ?_
                  obtain ⟨z92, h⟩ := h
                  refine xw.ild (c := 17) (nx := 448) (v := (xm_i S 17 0 (y_ix (l3 + (3 : Int32))))) rfl (by decide) z92 rfl ?_
                  refine xw.s (pc' := 449) (st' := [.inr (some (17, 0)), .inl (xm_i S 17 0 (y_ix (l3 + (3 : Int32)))), .inl (xm_i S 17 0 (y_ix (l3 + (2 : Int32)))), .inl (xm_i S 17 0 (y_ix (l3 + (1 : Int32)))), .inr (some (0, 0))]) rfl ?_
                  refine xw.s (pc' := 450) (st' := [.inl l3, .inr (some (17, 0)), .inl (xm_i S 17 0 (y_ix (l3 + (3 : Int32)))), .inl (xm_i S 17 0 (y_ix (l3 + (2 : Int32)))), .inl (xm_i S 17 0 (y_ix (l3 + (1 : Int32)))), .inr (some (0, 0))]) rfl ?_
                  refine xw.s (pc' := 451) (st' := [.inl (4 : Int32), .inl l3, .inr (some (17, 0)), .inl (xm_i S 17 0 (y_ix (l3 + (3 : Int32)))), .inl (xm_i S 17 0 (y_ix (l3 + (2 : Int32)))), .inl (xm_i S 17 0 (y_ix (l3 + (1 : Int32)))), .inr (some (0, 0))]) rfl ?_
                  refine xw.s (pc' := 452) (st' := [.inl (l3 + (4 : Int32)), .inr (some (17, 0)), .inl (xm_i S 17 0 (y_ix (l3 + (3 : Int32)))), .inl (xm_i S 17 0 (y_ix (l3 + (2 : Int32)))), .inl (xm_i S 17 0 (y_ix (l3 + (1 : Int32)))), .inr (some (0, 0))]) rfl ?_
                  obtain ⟨z93, h⟩ := h
                  refine xw.ild (c := 17) (nx := 453) (v := (xm_i S 17 0 (y_ix (l3 + (4 : Int32))))) rfl (by decide) z93 rfl ?_
                  refine xw.s (pc' := 454) (st' := [.inr (some (17, 0)), .inl (xm_i S 17 0 (y_ix (l3 + (4 : Int32)))), .inl (xm_i S 17 0 (y_ix (l3 + (3 : Int32)))), .inl (xm_i S 17 0 (y_ix (l3 + (2 : Int32)))), .inl (xm_i S 17 0 (y_ix (l3 + (1 : Int32)))), .inr (some (0, 0))]) rfl ?_
                  refine xw.s (pc' := 455) (st' := [.inl l3, .inr (some (17, 0)), .inl (xm_i S 17 0 (y_ix (l3 + (4 : Int32)))), .inl (xm_i S 17 0 (y_ix (l3 + (3 : Int32)))), .inl (xm_i S 17 0 (y_ix (l3 + (2 : Int32)))), .inl (xm_i S 17 0 (y_ix (l3 + (1 : Int32)))), .inr (some (0, 0))]) rfl ?_
                  refine xw.s (pc' := 456) (st' := [.inl (5 : Int32), .inl l3, .inr (some (17, 0)), .inl (xm_i S 17 0 (y_ix (l3 + (4 : Int32)))), .inl (xm_i S 17 0 (y_ix (l3 + (3 : Int32)))), .inl (xm_i S 17 0 (y_ix (l3 + (2 : Int32)))), .inl (xm_i S 17 0 (y_ix (l3 + (1 : Int32)))), .inr (some (0, 0))]) rfl ?_
                  refine xw.s (pc' := 457) (st' := [.inl (l3 + (5 : Int32)), .inr (some (17, 0)), .inl (xm_i S 17 0 (y_ix (l3 + (4 : Int32)))), .inl (xm_i S 17 0 (y_ix (l3 + (3 : Int32)))), .inl (xm_i S 17 0 (y_ix (l3 + (2 : Int32)))), .inl (xm_i S 17 0 (y_ix (l3 + (1 : Int32)))), .inr (some (0, 0))]) rfl ?_
                  obtain ⟨z94, h⟩ := h
                  refine xw.ild (c := 17) (nx := 458) (v := (xm_i S 17 0 (y_ix (l3 + (5 : Int32))))) rfl (by decide) z94 rfl ?_
                  refine xw.call (m := 12) (as := [.inr (some (0, 0)), .inl (xm_i S 17 0 (y_ix (l3 + (1 : Int32)))), .inl (xm_i S 17 0 (y_ix (l3 + (2 : Int32)))), .inl (xm_i S 17 0 (y_ix (l3 + (3 : Int32)))), .inl (xm_i S 17 0 (y_ix (l3 + (4 : Int32)))), .inl (xm_i S 17 0 (y_ix (l3 + (5 : Int32))))]) (nx := 461) (L' := [some (.inr (some (17, 0))), some (.inr (some (0, 0))), some (.inr (some (11, 0))), some (.inl l3)]) (st' := []) rfl (xc.mono h ?_)
                  rintro r S95 ⟨x97, rfl, hC96, h⟩
                  show xw _ _ 461 [some (.inr (some (17, 0))), some (.inr (some (0, 0))), some (.inr (some (11, 0))), some (.inl l3)] [.inl x97] _ _
                  refine xw.s (pc' := 462) (st' := [.inr (some (11, 0)), .inl x97]) rfl ?_
                  refine xw.s (pc' := 463) (st' := [.inr (some (17, 0)), .inr (some (11, 0)), .inl x97]) rfl ?_
                  refine xw.s (pc' := 464) (st' := [.inl l3, .inr (some (17, 0)), .inr (some (11, 0)), .inl x97]) rfl ?_
                  refine xw.s (pc' := 465) (st' := [.inl (1 : Int32), .inl l3, .inr (some (17, 0)), .inr (some (11, 0)), .inl x97]) rfl ?_
                  refine xw.s (pc' := 466) (st' := [.inl (l3 + (1 : Int32)), .inr (some (17, 0)), .inr (some (11, 0)), .inl x97]) rfl ?_
                  obtain ⟨z98, h⟩ := h
                  refine xw.ild (c := 17) (nx := 467) (v := (xm_i S95 17 0 (y_ix (l3 + (1 : Int32))))) rfl (by decide) z98 rfl ?_
                  refine xw.s (pc' := 468) (st' := [.inr (some (17, 0)), .inl (xm_i S95 17 0 (y_ix (l3 + (1 : Int32)))), .inr (some (11, 0)), .inl x97]) rfl ?_
                  refine xw.s (pc' := 469) (st' := [.inl l3, .inr (some (17, 0)), .inl (xm_i S95 17 0 (y_ix (l3 + (1 : Int32)))), .inr (some (11, 0)), .inl x97]) rfl ?_
                  refine xw.s (pc' := 470) (st' := [.inl (2 : Int32), .inl l3, .inr (some (17, 0)), .inl (xm_i S95 17 0 (y_ix (l3 + (1 : Int32)))), .inr (some (11, 0)), .inl x97]) rfl ?_
                  refine xw.s (pc' := 471) (st' := [.inl (l3 + (2 : Int32)), .inr (some (17, 0)), .inl (xm_i S95 17 0 (y_ix (l3 + (1 : Int32)))), .inr (some (11, 0)), .inl x97]) rfl ?_
                  obtain ⟨z99, h⟩ := h
                  refine xw.ild (c := 17) (nx := 472) (v := (xm_i S95 17 0 (y_ix (l3 + (2 : Int32))))) rfl (by decide) z99 rfl ?_
                  refine xw.s (pc' := 473) (st' := [.inr (some (17, 0)), .inl (xm_i S95 17 0 (y_ix (l3 + (2 : Int32)))), .inl (xm_i S95 17 0 (y_ix (l3 + (1 : Int32)))), .inr (some (11, 0)), .inl x97]) rfl ?_
                  refine xw.s (pc' := 474) (st' := [.inl l3, .inr (some (17, 0)), .inl (xm_i S95 17 0 (y_ix (l3 + (2 : Int32)))), .inl (xm_i S95 17 0 (y_ix (l3 + (1 : Int32)))), .inr (some (11, 0)), .inl x97]) rfl ?_
                  refine xw.s (pc' := 475) (st' := [.inl (3 : Int32), .inl l3, .inr (some (17, 0)), .inl (xm_i S95 17 0 (y_ix (l3 + (2 : Int32)))), .inl (xm_i S95 17 0 (y_ix (l3 + (1 : Int32)))), .inr (some (11, 0)), .inl x97]) rfl ?_
                  refine xw.s (pc' := 476) (st' := [.inl (l3 + (3 : Int32)), .inr (some (17, 0)), .inl (xm_i S95 17 0 (y_ix (l3 + (2 : Int32)))), .inl (xm_i S95 17 0 (y_ix (l3 + (1 : Int32)))), .inr (some (11, 0)), .inl x97]) rfl ?_
                  obtain ⟨z100, h⟩ := h
                  refine xw.ild (c := 17) (nx := 477) (v := (xm_i S95 17 0 (y_ix (l3 + (3 : Int32))))) rfl (by decide) z100 rfl ?_
                  refine xw.s (pc' := 478) (st' := [.inr (some (17, 0)), .inl (xm_i S95 17 0 (y_ix (l3 + (3 : Int32)))), .inl (xm_i S95 17 0 (y_ix (l3 + (2 : Int32)))), .inl (xm_i S95 17 0 (y_ix (l3 + (1 : Int32)))), .inr (some (11, 0)), .inl x97]) rfl ?_
                  refine xw.s (pc' := 479) (st' := [.inl l3, .inr (some (17, 0)), .inl (xm_i S95 17 0 (y_ix (l3 + (3 : Int32)))), .inl (xm_i S95 17 0 (y_ix (l3 + (2 : Int32)))), .inl (xm_i S95 17 0 (y_ix (l3 + (1 : Int32)))), .inr (some (11, 0)), .inl x97]) rfl ?_
                  refine xw.s (pc' := 480) (st' := [.inl (4 : Int32), .inl l3, .inr (some (17, 0)), .inl (xm_i S95 17 0 (y_ix (l3 + (3 : Int32)))), .inl (xm_i S95 17 0 (y_ix (l3 + (2 : Int32)))), .inl (xm_i S95 17 0 (y_ix (l3 + (1 : Int32)))), .inr (some (11, 0)), .inl x97]) rfl ?_
                  refine xw.s (pc' := 481) (st' := [.inl (l3 + (4 : Int32)), .inr (some (17, 0)), .inl (xm_i S95 17 0 (y_ix (l3 + (3 : Int32)))), .inl (xm_i S95 17 0 (y_ix (l3 + (2 : Int32)))), .inl (xm_i S95 17 0 (y_ix (l3 + (1 : Int32)))), .inr (some (11, 0)), .inl x97]) rfl ?_
                  obtain ⟨z101, h⟩ := h
                  refine xw.ild (c := 17) (nx := 482) (v := (xm_i S95 17 0 (y_ix (l3 + (4 : Int32))))) rfl (by decide) z101 rfl ?_
                  refine xw.s (pc' := 483) (st' := [.inr (some (17, 0)), .inl (xm_i S95 17 0 (y_ix (l3 + (4 : Int32)))), .inl (xm_i S95 17 0 (y_ix (l3 + (3 : Int32)))), .inl (xm_i S95 17 0 (y_ix (l3 + (2 : Int32)))), .inl (xm_i S95 17 0 (y_ix (l3 + (1 : Int32)))), .inr (some (11, 0)), .inl x97]) rfl ?_
                  refine xw.s (pc' := 484) (st' := [.inl l3, .inr (some (17, 0)), .inl (xm_i S95 17 0 (y_ix (l3 + (4 : Int32)))), .inl (xm_i S95 17 0 (y_ix (l3 + (3 : Int32)))), .inl (xm_i S95 17 0 (y_ix (l3 + (2 : Int32)))), .inl (xm_i S95 17 0 (y_ix (l3 + (1 : Int32)))), .inr (some (11, 0)), .inl x97]) rfl ?_
                  refine xw.s (pc' := 485) (st' := [.inl (5 : Int32), .inl l3, .inr (some (17, 0)), .inl (xm_i S95 17 0 (y_ix (l3 + (4 : Int32)))), .inl (xm_i S95 17 0 (y_ix (l3 + (3 : Int32)))), .inl (xm_i S95 17 0 (y_ix (l3 + (2 : Int32)))), .inl (xm_i S95 17 0 (y_ix (l3 + (1 : Int32)))), .inr (some (11, 0)), .inl x97]) rfl ?_
                  refine xw.s (pc' := 486) (st' := [.inl (l3 + (5 : Int32)), .inr (some (17, 0)), .inl (xm_i S95 17 0 (y_ix (l3 + (4 : Int32)))), .inl (xm_i S95 17 0 (y_ix (l3 + (3 : Int32)))), .inl (xm_i S95 17 0 (y_ix (l3 + (2 : Int32)))), .inl (xm_i S95 17 0 (y_ix (l3 + (1 : Int32)))), .inr (some (11, 0)), .inl x97]) rfl ?_
                  obtain ⟨z102, h⟩ := h
                  refine xw.ild (c := 17) (nx := 487) (v := (xm_i S95 17 0 (y_ix (l3 + (5 : Int32))))) rfl (by decide) z102 rfl ?_
                  refine xw.call (m := 127) (as := [.inr (some (11, 0)), .inl (xm_i S95 17 0 (y_ix (l3 + (1 : Int32)))), .inl (xm_i S95 17 0 (y_ix (l3 + (2 : Int32)))), .inl (xm_i S95 17 0 (y_ix (l3 + (3 : Int32)))), .inl (xm_i S95 17 0 (y_ix (l3 + (4 : Int32)))), .inl (xm_i S95 17 0 (y_ix (l3 + (5 : Int32))))]) (nx := 490) (L' := [some (.inr (some (17, 0))), some (.inr (some (0, 0))), some (.inr (some (11, 0))), some (.inl l3)]) (st' := [.inl x97]) rfl (xc.mono h ?_)
                  rintro r S103 ⟨x105, rfl, hC104, h⟩
                  show xw _ _ 490 [some (.inr (some (17, 0))), some (.inr (some (0, 0))), some (.inr (some (11, 0))), some (.inl l3)] [.inl x105, .inl x97] _ _
                  refine xw.b (c := x97 = x105) (cd := .eq) (x := x97) (y := x105) 1205 493 (st' := []) rfl (y_ceq _ _) h (fun c106 h => ?_) (fun c106 h => ?_)
                  · skip
                    refine xw.s (pc' := 1208) (st' := []) (L' := [some (.inr (some (17, 0))), some (.inr (some (0, 0))), some (.inr (some (11, 0))), some (.inl (l3 + (8 : Int32)))]) rfl ?_
                    refine xw.s (pc' := 18) (st' := []) rfl ?_
                    exact h
                  · skip
                    refine xw.s (pc' := 494) (st' := [.inl (0 : Int32)]) rfl ?_
                    exact xw.retz (nx := 495) rfl (Or.inl rfl) h
                · skip
                  refine xw.bw (7 : Int32) rfl h (fun c107 h => ?_) (fun c107 h => ?_)
                  · skip
                    refine xw.s (pc' := 496) (st' := [.inr (some (0, 0))]) rfl ?_
                    refine xw.s (pc' := 497) (st' := [.inr (some (17, 0)), .inr (some (0, 0))]) rfl ?_
                    refine xw.s (pc' := 498) (st' := [.inl l3, .inr (some (17, 0)), .inr (some (0, 0))]) rfl ?_
                    refine xw.s (pc' := 499) (st' := [.inl (1 : Int32), .inl l3, .inr (some (17, 0)), .inr (some (0, 0))]) rfl ?_
                    refine xw.s (pc' := 500) (st' := [.inl (l3 + (1 : Int32)), .inr (some (17, 0)), .inr (some (0, 0))]) rfl ?_
                    obtain ⟨z108, h⟩ := h
                    refine xw.ild (c := 17) (nx := 501) (v := (xm_i S 17 0 (y_ix (l3 + (1 : Int32))))) rfl (by decide) z108 rfl ?_
                    refine xw.call (m := 47) (as := [.inr (some (0, 0)), .inl (xm_i S 17 0 (y_ix (l3 + (1 : Int32))))]) (nx := 504) (L' := [some (.inr (some (17, 0))), some (.inr (some (0, 0))), some (.inr (some (11, 0))), some (.inl l3)]) (st' := []) rfl (xc.mono h ?_)
                    rintro r S109 ⟨x111, rfl, hC110, h⟩
                    show xw _ _ 504 [some (.inr (some (17, 0))), some (.inr (some (0, 0))), some (.inr (some (11, 0))), some (.inl l3)] [.inl x111] _ _
                    refine xw.s (pc' := 505) (st' := [.inr (some (11, 0)), .inl x111]) rfl ?_
                    refine xw.s (pc' := 506) (st' := [.inr (some (17, 0)), .inr (some (11, 0)), .inl x111]) rfl ?_
                    refine xw.s (pc' := 507) (st' := [.inl l3, .inr (some (17, 0)), .inr (some (11, 0)), .inl x111]) rfl ?_
                    refine xw.s (pc' := 508) (st' := [.inl (1 : Int32), .inl l3, .inr (some (17, 0)), .inr (some (11, 0)), .inl x111]) rfl ?_
                    refine xw.s (pc' := 509) (st' := [.inl (l3 + (1 : Int32)), .inr (some (17, 0)), .inr (some (11, 0)), .inl x111]) rfl ?_
                    obtain ⟨z112, h⟩ := h
                    refine xw.ild (c := 17) (nx := 510) (v := (xm_i S109 17 0 (y_ix (l3 + (1 : Int32))))) rfl (by decide) z112 rfl ?_
                    refine xw.call (m := 156) (as := [.inr (some (11, 0)), .inl (xm_i S109 17 0 (y_ix (l3 + (1 : Int32))))]) (nx := 513) (L' := [some (.inr (some (17, 0))), some (.inr (some (0, 0))), some (.inr (some (11, 0))), some (.inl l3)]) (st' := [.inl x111]) rfl (xc.mono h ?_)
                    rintro r S113 ⟨x115, rfl, hC114, h⟩
                    show xw _ _ 513 [some (.inr (some (17, 0))), some (.inr (some (0, 0))), some (.inr (some (11, 0))), some (.inl l3)] [.inl x115, .inl x111] _ _
                    refine xw.b (c := x111 = x115) (cd := .eq) (x := x111) (y := x115) 1205 516 (st' := []) rfl (y_ceq _ _) h (fun c116 h => ?_) (fun c116 h => ?_)
                    · skip
                      refine xw.s (pc' := 1208) (st' := []) (L' := [some (.inr (some (17, 0))), some (.inr (some (0, 0))), some (.inr (some (11, 0))), some (.inl (l3 + (8 : Int32)))]) rfl ?_
                      refine xw.s (pc' := 18) (st' := []) rfl ?_
                      exact h
                    · skip
                      refine xw.s (pc' := 517) (st' := [.inl (0 : Int32)]) rfl ?_
                      exact xw.retz (nx := 518) rfl (Or.inl rfl) h
                  · skip
                    refine xw.bw (8 : Int32) rfl h (fun c117 h => ?_) (fun c117 h => ?_)
                    · skip
                      refine xw.s (pc' := 519) (st' := [.inr (some (0, 0))]) rfl ?_
                      refine xw.s (pc' := 520) (st' := [.inr (some (17, 0)), .inr (some (0, 0))]) rfl ?_
                      refine xw.s (pc' := 521) (st' := [.inl l3, .inr (some (17, 0)), .inr (some (0, 0))]) rfl ?_
                      refine xw.s (pc' := 522) (st' := [.inl (1 : Int32), .inl l3, .inr (some (17, 0)), .inr (some (0, 0))]) rfl ?_
                      refine xw.s (pc' := 523) (st' := [.inl (l3 + (1 : Int32)), .inr (some (17, 0)), .inr (some (0, 0))]) rfl ?_
                      obtain ⟨z118, h⟩ := h
                      refine xw.ild (c := 17) (nx := 524) (v := (xm_i S 17 0 (y_ix (l3 + (1 : Int32))))) rfl (by decide) z118 rfl ?_
                      refine xw.call (m := 49) (as := [.inr (some (0, 0)), .inl (xm_i S 17 0 (y_ix (l3 + (1 : Int32))))]) (nx := 527) (L' := [some (.inr (some (17, 0))), some (.inr (some (0, 0))), some (.inr (some (11, 0))), some (.inl l3)]) (st' := []) rfl (xc.mono h ?_)
                      rintro r S119 ⟨x121, rfl, hC120, h⟩
                      show xw _ _ 527 [some (.inr (some (17, 0))), some (.inr (some (0, 0))), some (.inr (some (11, 0))), some (.inl l3)] [.inl x121] _ _
                      refine xw.s (pc' := 528) (st' := [.inr (some (11, 0)), .inl x121]) rfl ?_
                      refine xw.s (pc' := 529) (st' := [.inr (some (17, 0)), .inr (some (11, 0)), .inl x121]) rfl ?_
                      refine xw.s (pc' := 530) (st' := [.inl l3, .inr (some (17, 0)), .inr (some (11, 0)), .inl x121]) rfl ?_
                      refine xw.s (pc' := 531) (st' := [.inl (1 : Int32), .inl l3, .inr (some (17, 0)), .inr (some (11, 0)), .inl x121]) rfl ?_
                      refine xw.s (pc' := 532) (st' := [.inl (l3 + (1 : Int32)), .inr (some (17, 0)), .inr (some (11, 0)), .inl x121]) rfl ?_
                      obtain ⟨z122, h⟩ := h
                      refine xw.ild (c := 17) (nx := 533) (v := (xm_i S119 17 0 (y_ix (l3 + (1 : Int32))))) rfl (by decide) z122 rfl ?_
                      refine xw.call (m := 163) (as := [.inr (some (11, 0)), .inl (xm_i S119 17 0 (y_ix (l3 + (1 : Int32))))]) (nx := 536) (L' := [some (.inr (some (17, 0))), some (.inr (some (0, 0))), some (.inr (some (11, 0))), some (.inl l3)]) (st' := [.inl x121]) rfl (xc.mono h ?_)
                      rintro r S123 ⟨x125, rfl, hC124, h⟩
                      show xw _ _ 536 [some (.inr (some (17, 0))), some (.inr (some (0, 0))), some (.inr (some (11, 0))), some (.inl l3)] [.inl x125, .inl x121] _ _
                      refine xw.b (c := x121 = x125) (cd := .eq) (x := x121) (y := x125) 1205 539 (st' := []) rfl (y_ceq _ _) h (fun c126 h => ?_) (fun c126 h => ?_)
                      · skip
                        refine xw.s (pc' := 1208) (st' := []) (L' := [some (.inr (some (17, 0))), some (.inr (some (0, 0))), some (.inr (some (11, 0))), some (.inl (l3 + (8 : Int32)))]) rfl ?_
                        refine xw.s (pc' := 18) (st' := []) rfl ?_
                        exact h
                      · skip
                        refine xw.s (pc' := 540) (st' := [.inl (0 : Int32)]) rfl ?_
                        exact xw.retz (nx := 541) rfl (Or.inl rfl) h
                    · skip
                      refine xw.bw (9 : Int32) rfl h (fun c127 h => ?_) (fun c127 h => ?_)
                      · skip
                        refine xw.s (pc' := 542) (st' := [.inr (some (0, 0))]) rfl ?_
                        refine xw.s (pc' := 543) (st' := [.inr (some (17, 0)), .inr (some (0, 0))]) rfl ?_
                        refine xw.s (pc' := 544) (st' := [.inl l3, .inr (some (17, 0)), .inr (some (0, 0))]) rfl ?_
                        refine xw.s (pc' := 545) (st' := [.inl (1 : Int32), .inl l3, .inr (some (17, 0)), .inr (some (0, 0))]) rfl ?_
                        refine xw.s (pc' := 546) (st' := [.inl (l3 + (1 : Int32)), .inr (some (17, 0)), .inr (some (0, 0))]) rfl ?_
                        obtain ⟨z128, h⟩ := h
                        refine xw.ild (c := 17) (nx := 547) (v := (xm_i S 17 0 (y_ix (l3 + (1 : Int32))))) rfl (by decide) z128 rfl ?_
                        refine xw.s (pc' := 548) (st' := [.inr (some (17, 0)), .inl (xm_i S 17 0 (y_ix (l3 + (1 : Int32)))), .inr (some (0, 0))]) rfl ?_
                        refine xw.s (pc' := 549) (st' := [.inl l3, .inr (some (17, 0)), .inl (xm_i S 17 0 (y_ix (l3 + (1 : Int32)))), .inr (some (0, 0))]) rfl ?_
                        refine xw.s (pc' := 550) (st' := [.inl (2 : Int32), .inl l3, .inr (some (17, 0)), .inl (xm_i S 17 0 (y_ix (l3 + (1 : Int32)))), .inr (some (0, 0))]) rfl ?_
                        refine xw.s (pc' := 551) (st' := [.inl (l3 + (2 : Int32)), .inr (some (17, 0)), .inl (xm_i S 17 0 (y_ix (l3 + (1 : Int32)))), .inr (some (0, 0))]) rfl ?_
                        obtain ⟨z129, h⟩ := h
                        refine xw.ild (c := 17) (nx := 552) (v := (xm_i S 17 0 (y_ix (l3 + (2 : Int32))))) rfl (by decide) z129 rfl ?_
                        refine xw.s (pc' := 553) (st' := [.inr (some (17, 0)), .inl (xm_i S 17 0 (y_ix (l3 + (2 : Int32)))), .inl (xm_i S 17 0 (y_ix (l3 + (1 : Int32)))), .inr (some (0, 0))]) rfl ?_
                        refine xw.s (pc' := 554) (st' := [.inl l3, .inr (some (17, 0)), .inl (xm_i S 17 0 (y_ix (l3 + (2 : Int32)))), .inl (xm_i S 17 0 (y_ix (l3 + (1 : Int32)))), .inr (some (0, 0))]) rfl ?_
                        refine xw.s (pc' := 555) (st' := [.inl (3 : Int32), .inl l3, .inr (some (17, 0)), .inl (xm_i S 17 0 (y_ix (l3 + (2 : Int32)))), .inl (xm_i S 17 0 (y_ix (l3 + (1 : Int32)))), .inr (some (0, 0))]) rfl ?_
                        refine xw.s (pc' := 556) (st' := [.inl (l3 + (3 : Int32)), .inr (some (17, 0)), .inl (xm_i S 17 0 (y_ix (l3 + (2 : Int32)))), .inl (xm_i S 17 0 (y_ix (l3 + (1 : Int32)))), .inr (some (0, 0))]) rfl ?_
                        obtain ⟨z130, h⟩ := h
                        refine xw.ild (c := 17) (nx := 557) (v := (xm_i S 17 0 (y_ix (l3 + (3 : Int32))))) rfl (by decide) z130 rfl ?_
                        refine xw.s (pc' := 558) (st' := [.inr (some (17, 0)), .inl (xm_i S 17 0 (y_ix (l3 + (3 : Int32)))), .inl (xm_i S 17 0 (y_ix (l3 + (2 : Int32)))), .inl (xm_i S 17 0 (y_ix (l3 + (1 : Int32)))), .inr (some (0, 0))]) rfl ?_
                        refine xw.s (pc' := 559) (st' := [.inl l3, .inr (some (17, 0)), .inl (xm_i S 17 0 (y_ix (l3 + (3 : Int32)))), .inl (xm_i S 17 0 (y_ix (l3 + (2 : Int32)))), .inl (xm_i S 17 0 (y_ix (l3 + (1 : Int32)))), .inr (some (0, 0))]) rfl ?_
                        refine xw.s (pc' := 560) (st' := [.inl (4 : Int32), .inl l3, .inr (some (17, 0)), .inl (xm_i S 17 0 (y_ix (l3 + (3 : Int32)))), .inl (xm_i S 17 0 (y_ix (l3 + (2 : Int32)))), .inl (xm_i S 17 0 (y_ix (l3 + (1 : Int32)))), .inr (some (0, 0))]) rfl ?_
                        refine xw.s (pc' := 561) (st' := [.inl (l3 + (4 : Int32)), .inr (some (17, 0)), .inl (xm_i S 17 0 (y_ix (l3 + (3 : Int32)))), .inl (xm_i S 17 0 (y_ix (l3 + (2 : Int32)))), .inl (xm_i S 17 0 (y_ix (l3 + (1 : Int32)))), .inr (some (0, 0))]) rfl ?_
                        obtain ⟨z131, h⟩ := h
                        refine xw.ild (c := 17) (nx := 562) (v := (xm_i S 17 0 (y_ix (l3 + (4 : Int32))))) rfl (by decide) z131 rfl ?_
                        refine xw.s (pc' := 563) (st' := [.inr (some (17, 0)), .inl (xm_i S 17 0 (y_ix (l3 + (4 : Int32)))), .inl (xm_i S 17 0 (y_ix (l3 + (3 : Int32)))), .inl (xm_i S 17 0 (y_ix (l3 + (2 : Int32)))), .inl (xm_i S 17 0 (y_ix (l3 + (1 : Int32)))), .inr (some (0, 0))]) rfl ?_
                        refine xw.s (pc' := 564) (st' := [.inl l3, .inr (some (17, 0)), .inl (xm_i S 17 0 (y_ix (l3 + (4 : Int32)))), .inl (xm_i S 17 0 (y_ix (l3 + (3 : Int32)))), .inl (xm_i S 17 0 (y_ix (l3 + (2 : Int32)))), .inl (xm_i S 17 0 (y_ix (l3 + (1 : Int32)))), .inr (some (0, 0))]) rfl ?_
                        refine xw.s (pc' := 565) (st' := [.inl (5 : Int32), .inl l3, .inr (some (17, 0)), .inl (xm_i S 17 0 (y_ix (l3 + (4 : Int32)))), .inl (xm_i S 17 0 (y_ix (l3 + (3 : Int32)))), .inl (xm_i S 17 0 (y_ix (l3 + (2 : Int32)))), .inl (xm_i S 17 0 (y_ix (l3 + (1 : Int32)))), .inr (some (0, 0))]) rfl ?_
                        refine xw.s (pc' := 566) (st' := [.inl (l3 + (5 : Int32)), .inr (some (17, 0)), .inl (xm_i S 17 0 (y_ix (l3 + (4 : Int32)))), .inl (xm_i S 17 0 (y_ix (l3 + (3 : Int32)))), .inl (xm_i S 17 0 (y_ix (l3 + (2 : Int32)))), .inl (xm_i S 17 0 (y_ix (l3 + (1 : Int32)))), .inr (some (0, 0))]) rfl ?_
                        obtain ⟨z132, h⟩ := h
                        refine xw.ild (c := 17) (nx := 567) (v := (xm_i S 17 0 (y_ix (l3 + (5 : Int32))))) rfl (by decide) z132 rfl ?_
                        refine xw.s (pc' := 568) (st' := [.inr (some (17, 0)), .inl (xm_i S 17 0 (y_ix (l3 + (5 : Int32)))), .inl (xm_i S 17 0 (y_ix (l3 + (4 : Int32)))), .inl (xm_i S 17 0 (y_ix (l3 + (3 : Int32)))), .inl (xm_i S 17 0 (y_ix (l3 + (2 : Int32)))), .inl (xm_i S 17 0 (y_ix (l3 + (1 : Int32)))), .inr (some (0, 0))]) rfl ?_
                        refine xw.s (pc' := 569) (st' := [.inl l3, .inr (some (17, 0)), .inl (xm_i S 17 0 (y_ix (l3 + (5 : Int32)))), .inl (xm_i S 17 0 (y_ix (l3 + (4 : Int32)))), .inl (xm_i S 17 0 (y_ix (l3 + (3 : Int32)))), .inl (xm_i S 17 0 (y_ix (l3 + (2 : Int32)))), .inl (xm_i S 17 0 (y_ix (l3 + (1 : Int32)))), .inr (some (0, 0))]) rfl ?_
                        refine xw.s (pc' := 571) (st' := [.inl (6 : Int32), .inl l3, .inr (some (17, 0)), .inl (xm_i S 17 0 (y_ix (l3 + (5 : Int32)))), .inl (xm_i S 17 0 (y_ix (l3 + (4 : Int32)))), .inl (xm_i S 17 0 (y_ix (l3 + (3 : Int32)))), .inl (xm_i S 17 0 (y_ix (l3 + (2 : Int32)))), .inl (xm_i S 17 0 (y_ix (l3 + (1 : Int32)))), .inr (some (0, 0))]) rfl ?_
                        refine xw.s (pc' := 572) (st' := [.inl (l3 + (6 : Int32)), .inr (some (17, 0)), .inl (xm_i S 17 0 (y_ix (l3 + (5 : Int32)))), .inl (xm_i S 17 0 (y_ix (l3 + (4 : Int32)))), .inl (xm_i S 17 0 (y_ix (l3 + (3 : Int32)))), .inl (xm_i S 17 0 (y_ix (l3 + (2 : Int32)))), .inl (xm_i S 17 0 (y_ix (l3 + (1 : Int32)))), .inr (some (0, 0))]) rfl ?_
                        obtain ⟨z133, h⟩ := h
                        refine xw.ild (c := 17) (nx := 573) (v := (xm_i S 17 0 (y_ix (l3 + (6 : Int32))))) rfl (by decide) z133 rfl ?_
                        refine xw.s (pc' := 574) (st' := [.inr (some (17, 0)), .inl (xm_i S 17 0 (y_ix (l3 + (6 : Int32)))), .inl (xm_i S 17 0 (y_ix (l3 + (5 : Int32)))), .inl (xm_i S 17 0 (y_ix (l3 + (4 : Int32)))), .inl (xm_i S 17 0 (y_ix (l3 + (3 : Int32)))), .inl (xm_i S 17 0 (y_ix (l3 + (2 : Int32)))), .inl (xm_i S 17 0 (y_ix (l3 + (1 : Int32)))), .inr (some (0, 0))]) rfl ?_
                        refine xw.s (pc' := 575) (st' := [.inl l3, .inr (some (17, 0)), .inl (xm_i S 17 0 (y_ix (l3 + (6 : Int32)))), .inl (xm_i S 17 0 (y_ix (l3 + (5 : Int32)))), .inl (xm_i S 17 0 (y_ix (l3 + (4 : Int32)))), .inl (xm_i S 17 0 (y_ix (l3 + (3 : Int32)))), .inl (xm_i S 17 0 (y_ix (l3 + (2 : Int32)))), .inl (xm_i S 17 0 (y_ix (l3 + (1 : Int32)))), .inr (some (0, 0))]) rfl ?_
                        refine xw.s (pc' := 577) (st' := [.inl (7 : Int32), .inl l3, .inr (some (17, 0)), .inl (xm_i S 17 0 (y_ix (l3 + (6 : Int32)))), .inl (xm_i S 17 0 (y_ix (l3 + (5 : Int32)))), .inl (xm_i S 17 0 (y_ix (l3 + (4 : Int32)))), .inl (xm_i S 17 0 (y_ix (l3 + (3 : Int32)))), .inl (xm_i S 17 0 (y_ix (l3 + (2 : Int32)))), .inl (xm_i S 17 0 (y_ix (l3 + (1 : Int32)))), .inr (some (0, 0))]) rfl ?_
                        refine xw.s (pc' := 578) (st' := [.inl (l3 + (7 : Int32)), .inr (some (17, 0)), .inl (xm_i S 17 0 (y_ix (l3 + (6 : Int32)))), .inl (xm_i S 17 0 (y_ix (l3 + (5 : Int32)))), .inl (xm_i S 17 0 (y_ix (l3 + (4 : Int32)))), .inl (xm_i S 17 0 (y_ix (l3 + (3 : Int32)))), .inl (xm_i S 17 0 (y_ix (l3 + (2 : Int32)))), .inl (xm_i S 17 0 (y_ix (l3 + (1 : Int32)))), .inr (some (0, 0))]) rfl ?_
                        obtain ⟨z134, h⟩ := h
                        refine xw.ild (c := 17) (nx := 579) (v := (xm_i S 17 0 (y_ix (l3 + (7 : Int32))))) rfl (by decide) z134 rfl ?_
                        refine xw.call (m := 63) (as := [.inr (some (0, 0)), .inl (xm_i S 17 0 (y_ix (l3 + (1 : Int32)))), .inl (xm_i S 17 0 (y_ix (l3 + (2 : Int32)))), .inl (xm_i S 17 0 (y_ix (l3 + (3 : Int32)))), .inl (xm_i S 17 0 (y_ix (l3 + (4 : Int32)))), .inl (xm_i S 17 0 (y_ix (l3 + (5 : Int32)))), .inl (xm_i S 17 0 (y_ix (l3 + (6 : Int32)))), .inl (xm_i S 17 0 (y_ix (l3 + (7 : Int32))))]) (nx := 582) (L' := [some (.inr (some (17, 0))), some (.inr (some (0, 0))), some (.inr (some (11, 0))), some (.inl l3)]) (st' := []) rfl (xc.mono h ?_)
                        rintro r S135 ⟨x137, rfl, hC136, h⟩
                        show xw _ _ 582 [some (.inr (some (17, 0))), some (.inr (some (0, 0))), some (.inr (some (11, 0))), some (.inl l3)] [.inl x137] _ _
                        refine xw.s (pc' := 583) (st' := [.inr (some (11, 0)), .inl x137]) rfl ?_
                        refine xw.s (pc' := 584) (st' := [.inr (some (17, 0)), .inr (some (11, 0)), .inl x137]) rfl ?_
                        refine xw.s (pc' := 585) (st' := [.inl l3, .inr (some (17, 0)), .inr (some (11, 0)), .inl x137]) rfl ?_
                        refine xw.s (pc' := 586) (st' := [.inl (1 : Int32), .inl l3, .inr (some (17, 0)), .inr (some (11, 0)), .inl x137]) rfl ?_
                        refine xw.s (pc' := 587) (st' := [.inl (l3 + (1 : Int32)), .inr (some (17, 0)), .inr (some (11, 0)), .inl x137]) rfl ?_
                        obtain ⟨z138, h⟩ := h
                        refine xw.ild (c := 17) (nx := 588) (v := (xm_i S135 17 0 (y_ix (l3 + (1 : Int32))))) rfl (by decide) z138 rfl ?_
                        refine xw.s (pc' := 589) (st' := [.inr (some (17, 0)), .inl (xm_i S135 17 0 (y_ix (l3 + (1 : Int32)))), .inr (some (11, 0)), .inl x137]) rfl ?_
                        refine xw.s (pc' := 590) (st' := [.inl l3, .inr (some (17, 0)), .inl (xm_i S135 17 0 (y_ix (l3 + (1 : Int32)))), .inr (some (11, 0)), .inl x137]) rfl ?_
                        refine xw.s (pc' := 591) (st' := [.inl (2 : Int32), .inl l3, .inr (some (17, 0)), .inl (xm_i S135 17 0 (y_ix (l3 + (1 : Int32)))), .inr (some (11, 0)), .inl x137]) rfl ?_
                        refine xw.s (pc' := 592) (st' := [.inl (l3 + (2 : Int32)), .inr (some (17, 0)), .inl (xm_i S135 17 0 (y_ix (l3 + (1 : Int32)))), .inr (some (11, 0)), .inl x137]) rfl ?_
                        obtain ⟨z139, h⟩ := h
                        refine xw.ild (c := 17) (nx := 593) (v := (xm_i S135 17 0 (y_ix (l3 + (2 : Int32))))) rfl (by decide) z139 rfl ?_
                        refine xw.s (pc' := 594) (st' := [.inr (some (17, 0)), .inl (xm_i S135 17 0 (y_ix (l3 + (2 : Int32)))), .inl (xm_i S135 17 0 (y_ix (l3 + (1 : Int32)))), .inr (some (11, 0)), .inl x137]) rfl ?_
                        refine xw.s (pc' := 595) (st' := [.inl l3, .inr (some (17, 0)), .inl (xm_i S135 17 0 (y_ix (l3 + (2 : Int32)))), .inl (xm_i S135 17 0 (y_ix (l3 + (1 : Int32)))), .inr (some (11, 0)), .inl x137]) rfl ?_
                        refine xw.s (pc' := 596) (st' := [.inl (3 : Int32), .inl l3, .inr (some (17, 0)), .inl (xm_i S135 17 0 (y_ix (l3 + (2 : Int32)))), .inl (xm_i S135 17 0 (y_ix (l3 + (1 : Int32)))), .inr (some (11, 0)), .inl x137]) rfl ?_
                        refine xw.s (pc' := 597) (st' := [.inl (l3 + (3 : Int32)), .inr (some (17, 0)), .inl (xm_i S135 17 0 (y_ix (l3 + (2 : Int32)))), .inl (xm_i S135 17 0 (y_ix (l3 + (1 : Int32)))), .inr (some (11, 0)), .inl x137]) rfl ?_
                        obtain ⟨z140, h⟩ := h
                        refine xw.ild (c := 17) (nx := 598) (v := (xm_i S135 17 0 (y_ix (l3 + (3 : Int32))))) rfl (by decide) z140 rfl ?_
                        refine xw.s (pc' := 599) (st' := [.inr (some (17, 0)), .inl (xm_i S135 17 0 (y_ix (l3 + (3 : Int32)))), .inl (xm_i S135 17 0 (y_ix (l3 + (2 : Int32)))), .inl (xm_i S135 17 0 (y_ix (l3 + (1 : Int32)))), .inr (some (11, 0)), .inl x137]) rfl ?_
                        refine xw.s (pc' := 600) (st' := [.inl l3, .inr (some (17, 0)), .inl (xm_i S135 17 0 (y_ix (l3 + (3 : Int32)))), .inl (xm_i S135 17 0 (y_ix (l3 + (2 : Int32)))), .inl (xm_i S135 17 0 (y_ix (l3 + (1 : Int32)))), .inr (some (11, 0)), .inl x137]) rfl ?_
                        refine xw.s (pc' := 601) (st' := [.inl (4 : Int32), .inl l3, .inr (some (17, 0)), .inl (xm_i S135 17 0 (y_ix (l3 + (3 : Int32)))), .inl (xm_i S135 17 0 (y_ix (l3 + (2 : Int32)))), .inl (xm_i S135 17 0 (y_ix (l3 + (1 : Int32)))), .inr (some (11, 0)), .inl x137]) rfl ?_
                        refine xw.s (pc' := 602) (st' := [.inl (l3 + (4 : Int32)), .inr (some (17, 0)), .inl (xm_i S135 17 0 (y_ix (l3 + (3 : Int32)))), .inl (xm_i S135 17 0 (y_ix (l3 + (2 : Int32)))), .inl (xm_i S135 17 0 (y_ix (l3 + (1 : Int32)))), .inr (some (11, 0)), .inl x137]) rfl ?_
                        obtain ⟨z141, h⟩ := h
                        refine xw.ild (c := 17) (nx := 603) (v := (xm_i S135 17 0 (y_ix (l3 + (4 : Int32))))) rfl (by decide) z141 rfl ?_
                        refine xw.s (pc' := 604) (st' := [.inr (some (17, 0)), .inl (xm_i S135 17 0 (y_ix (l3 + (4 : Int32)))), .inl (xm_i S135 17 0 (y_ix (l3 + (3 : Int32)))), .inl (xm_i S135 17 0 (y_ix (l3 + (2 : Int32)))), .inl (xm_i S135 17 0 (y_ix (l3 + (1 : Int32)))), .inr (some (11, 0)), .inl x137]) rfl ?_
                        refine xw.s (pc' := 605) (st' := [.inl l3, .inr (some (17, 0)), .inl (xm_i S135 17 0 (y_ix (l3 + (4 : Int32)))), .inl (xm_i S135 17 0 (y_ix (l3 + (3 : Int32)))), .inl (xm_i S135 17 0 (y_ix (l3 + (2 : Int32)))), .inl (xm_i S135 17 0 (y_ix (l3 + (1 : Int32)))), .inr (some (11, 0)), .inl x137]) rfl ?_
                        refine xw.s (pc' := 606) (st' := [.inl (5 : Int32), .inl l3, .inr (some (17, 0)), .inl (xm_i S135 17 0 (y_ix (l3 + (4 : Int32)))), .inl (xm_i S135 17 0 (y_ix (l3 + (3 : Int32)))), .inl (xm_i S135 17 0 (y_ix (l3 + (2 : Int32)))), .inl (xm_i S135 17 0 (y_ix (l3 + (1 : Int32)))), .inr (some (11, 0)), .inl x137]) rfl ?_
                        refine xw.s (pc' := 607) (st' := [.inl (l3 + (5 : Int32)), .inr (some (17, 0)), .inl (xm_i S135 17 0 (y_ix (l3 + (4 : Int32)))), .inl (xm_i S135 17 0 (y_ix (l3 + (3 : Int32)))), .inl (xm_i S135 17 0 (y_ix (l3 + (2 : Int32)))), .inl (xm_i S135 17 0 (y_ix (l3 + (1 : Int32)))), .inr (some (11, 0)), .inl x137]) rfl ?_
                        obtain ⟨z142, h⟩ := h
                        refine xw.ild (c := 17) (nx := 608) (v := (xm_i S135 17 0 (y_ix (l3 + (5 : Int32))))) rfl (by decide) z142 rfl ?_
                        refine xw.s (pc' := 609) (st' := [.inr (some (17, 0)), .inl (xm_i S135 17 0 (y_ix (l3 + (5 : Int32)))), .inl (xm_i S135 17 0 (y_ix (l3 + (4 : Int32)))), .inl (xm_i S135 17 0 (y_ix (l3 + (3 : Int32)))), .inl (xm_i S135 17 0 (y_ix (l3 + (2 : Int32)))), .inl (xm_i S135 17 0 (y_ix (l3 + (1 : Int32)))), .inr (some (11, 0)), .inl x137]) rfl ?_
                        refine xw.s (pc' := 610) (st' := [.inl l3, .inr (some (17, 0)), .inl (xm_i S135 17 0 (y_ix (l3 + (5 : Int32)))), .inl (xm_i S135 17 0 (y_ix (l3 + (4 : Int32)))), .inl (xm_i S135 17 0 (y_ix (l3 + (3 : Int32)))), .inl (xm_i S135 17 0 (y_ix (l3 + (2 : Int32)))), .inl (xm_i S135 17 0 (y_ix (l3 + (1 : Int32)))), .inr (some (11, 0)), .inl x137]) rfl ?_
                        refine xw.s (pc' := 612) (st' := [.inl (6 : Int32), .inl l3, .inr (some (17, 0)), .inl (xm_i S135 17 0 (y_ix (l3 + (5 : Int32)))), .inl (xm_i S135 17 0 (y_ix (l3 + (4 : Int32)))), .inl (xm_i S135 17 0 (y_ix (l3 + (3 : Int32)))), .inl (xm_i S135 17 0 (y_ix (l3 + (2 : Int32)))), .inl (xm_i S135 17 0 (y_ix (l3 + (1 : Int32)))), .inr (some (11, 0)), .inl x137]) rfl ?_
                        refine xw.s (pc' := 613) (st' := [.inl (l3 + (6 : Int32)), .inr (some (17, 0)), .inl (xm_i S135 17 0 (y_ix (l3 + (5 : Int32)))), .inl (xm_i S135 17 0 (y_ix (l3 + (4 : Int32)))), .inl (xm_i S135 17 0 (y_ix (l3 + (3 : Int32)))), .inl (xm_i S135 17 0 (y_ix (l3 + (2 : Int32)))), .inl (xm_i S135 17 0 (y_ix (l3 + (1 : Int32)))), .inr (some (11, 0)), .inl x137]) rfl ?_
                        obtain ⟨z143, h⟩ := h
                        refine xw.ild (c := 17) (nx := 614) (v := (xm_i S135 17 0 (y_ix (l3 + (6 : Int32))))) rfl (by decide) z143 rfl ?_
                        refine xw.s (pc' := 615) (st' := [.inr (some (17, 0)), .inl (xm_i S135 17 0 (y_ix (l3 + (6 : Int32)))), .inl (xm_i S135 17 0 (y_ix (l3 + (5 : Int32)))), .inl (xm_i S135 17 0 (y_ix (l3 + (4 : Int32)))), .inl (xm_i S135 17 0 (y_ix (l3 + (3 : Int32)))), .inl (xm_i S135 17 0 (y_ix (l3 + (2 : Int32)))), .inl (xm_i S135 17 0 (y_ix (l3 + (1 : Int32)))), .inr (some (11, 0)), .inl x137]) rfl ?_
                        refine xw.s (pc' := 616) (st' := [.inl l3, .inr (some (17, 0)), .inl (xm_i S135 17 0 (y_ix (l3 + (6 : Int32)))), .inl (xm_i S135 17 0 (y_ix (l3 + (5 : Int32)))), .inl (xm_i S135 17 0 (y_ix (l3 + (4 : Int32)))), .inl (xm_i S135 17 0 (y_ix (l3 + (3 : Int32)))), .inl (xm_i S135 17 0 (y_ix (l3 + (2 : Int32)))), .inl (xm_i S135 17 0 (y_ix (l3 + (1 : Int32)))), .inr (some (11, 0)), .inl x137]) rfl ?_
                        refine xw.s (pc' := 618) (st' := [.inl (7 : Int32), .inl l3, .inr (some (17, 0)), .inl (xm_i S135 17 0 (y_ix (l3 + (6 : Int32)))), .inl (xm_i S135 17 0 (y_ix (l3 + (5 : Int32)))), .inl (xm_i S135 17 0 (y_ix (l3 + (4 : Int32)))), .inl (xm_i S135 17 0 (y_ix (l3 + (3 : Int32)))), .inl (xm_i S135 17 0 (y_ix (l3 + (2 : Int32)))), .inl (xm_i S135 17 0 (y_ix (l3 + (1 : Int32)))), .inr (some (11, 0)), .inl x137]) rfl ?_
                        refine xw.s (pc' := 619) (st' := [.inl (l3 + (7 : Int32)), .inr (some (17, 0)), .inl (xm_i S135 17 0 (y_ix (l3 + (6 : Int32)))), .inl (xm_i S135 17 0 (y_ix (l3 + (5 : Int32)))), .inl (xm_i S135 17 0 (y_ix (l3 + (4 : Int32)))), .inl (xm_i S135 17 0 (y_ix (l3 + (3 : Int32)))), .inl (xm_i S135 17 0 (y_ix (l3 + (2 : Int32)))), .inl (xm_i S135 17 0 (y_ix (l3 + (1 : Int32)))), .inr (some (11, 0)), .inl x137]) rfl ?_
                        obtain ⟨z144, h⟩ := h
                        refine xw.ild (c := 17) (nx := 620) (v := (xm_i S135 17 0 (y_ix (l3 + (7 : Int32))))) rfl (by decide) z144 rfl ?_
                        refine xw.call (m := 157) (as := [.inr (some (11, 0)), .inl (xm_i S135 17 0 (y_ix (l3 + (1 : Int32)))), .inl (xm_i S135 17 0 (y_ix (l3 + (2 : Int32)))), .inl (xm_i S135 17 0 (y_ix (l3 + (3 : Int32)))), .inl (xm_i S135 17 0 (y_ix (l3 + (4 : Int32)))), .inl (xm_i S135 17 0 (y_ix (l3 + (5 : Int32)))), .inl (xm_i S135 17 0 (y_ix (l3 + (6 : Int32)))), .inl (xm_i S135 17 0 (y_ix (l3 + (7 : Int32))))]) (nx := 623) (L' := [some (.inr (some (17, 0))), some (.inr (some (0, 0))), some (.inr (some (11, 0))), some (.inl l3)]) (st' := [.inl x137]) rfl (xc.mono h ?_)
                        rintro r S145 ⟨x147, rfl, hC146, h⟩
                        show xw _ _ 623 [some (.inr (some (17, 0))), some (.inr (some (0, 0))), some (.inr (some (11, 0))), some (.inl l3)] [.inl x147, .inl x137] _ _
                        refine xw.b (c := x137 = x147) (cd := .eq) (x := x137) (y := x147) 1205 626 (st' := []) rfl (y_ceq _ _) h (fun c148 h => ?_) (fun c148 h => ?_)
                        · skip
                          refine xw.s (pc' := 1208) (st' := []) (L' := [some (.inr (some (17, 0))), some (.inr (some (0, 0))), some (.inr (some (11, 0))), some (.inl (l3 + (8 : Int32)))]) rfl ?_
                          refine xw.s (pc' := 18) (st' := []) rfl ?_
                          exact h
                        · skip
                          refine xw.s (pc' := 627) (st' := [.inl (0 : Int32)]) rfl ?_
                          exact xw.retz (nx := 628) rfl (Or.inl rfl) h
                      · skip
                        refine xw.bw (10 : Int32) rfl h (fun c149 h => ?_) (fun c149 h => ?_)
                        · skip
                          refine xw.s (pc' := 629) (st' := [.inr (some (0, 0))]) rfl ?_
                          refine xw.s (pc' := 630) (st' := [.inr (some (17, 0)), .inr (some (0, 0))]) rfl ?_
                          refine xw.s (pc' := 631) (st' := [.inl l3, .inr (some (17, 0)), .inr (some (0, 0))]) rfl ?_
                          refine xw.s (pc' := 632) (st' := [.inl (1 : Int32), .inl l3, .inr (some (17, 0)), .inr (some (0, 0))]) rfl ?_
                          refine xw.s (pc' := 633) (st' := [.inl (l3 + (1 : Int32)), .inr (some (17, 0)), .inr (some (0, 0))]) rfl ?_
                          obtain ⟨z150, h⟩ := h
                          refine xw.ild (c := 17) (nx := 634) (v := (xm_i S 17 0 (y_ix (l3 + (1 : Int32))))) rfl (by decide) z150 rfl ?_
                          refine xw.call (m := 64) (as := [.inr (some (0, 0)), .inl (xm_i S 17 0 (y_ix (l3 + (1 : Int32))))]) (nx := 637) (L' := [some (.inr (some (17, 0))), some (.inr (some (0, 0))), some (.inr (some (11, 0))), some (.inl l3)]) (st' := []) rfl (xc.mono h ?_)
                          rintro r S151 ⟨x153, rfl, hC152, h⟩
                          show xw _ _ 637 [some (.inr (some (17, 0))), some (.inr (some (0, 0))), some (.inr (some (11, 0))), some (.inl l3)] [.inl x153] _ _
                          refine xw.s (pc' := 638) (st' := [.inr (some (11, 0)), .inl x153]) rfl ?_
                          refine xw.s (pc' := 639) (st' := [.inr (some (17, 0)), .inr (some (11, 0)), .inl x153]) rfl ?_
                          refine xw.s (pc' := 640) (st' := [.inl l3, .inr (some (17, 0)), .inr (some (11, 0)), .inl x153]) rfl ?_
                          refine xw.s (pc' := 641) (st' := [.inl (1 : Int32), .inl l3, .inr (some (17, 0)), .inr (some (11, 0)), .inl x153]) rfl ?_
                          refine xw.s (pc' := 642) (st' := [.inl (l3 + (1 : Int32)), .inr (some (17, 0)), .inr (some (11, 0)), .inl x153]) rfl ?_
                          obtain ⟨z154, h⟩ := h
                          refine xw.ild (c := 17) (nx := 643) (v := (xm_i S151 17 0 (y_ix (l3 + (1 : Int32))))) rfl (by decide) z154 rfl ?_
                          refine xw.call (m := 158) (as := [.inr (some (11, 0)), .inl (xm_i S151 17 0 (y_ix (l3 + (1 : Int32))))]) (nx := 646) (L' := [some (.inr (some (17, 0))), some (.inr (some (0, 0))), some (.inr (some (11, 0))), some (.inl l3)]) (st' := [.inl x153]) rfl (xc.mono h ?_)
                          rintro r S155 ⟨x157, rfl, hC156, h⟩
                          show xw _ _ 646 [some (.inr (some (17, 0))), some (.inr (some (0, 0))), some (.inr (some (11, 0))), some (.inl l3)] [.inl x157, .inl x153] _ _
                          refine xw.b (c := x153 = x157) (cd := .eq) (x := x153) (y := x157) 1205 649 (st' := []) rfl (y_ceq _ _) h (fun c158 h => ?_) (fun c158 h => ?_)
                          · skip
                            refine xw.s (pc' := 1208) (st' := []) (L' := [some (.inr (some (17, 0))), some (.inr (some (0, 0))), some (.inr (some (11, 0))), some (.inl (l3 + (8 : Int32)))]) rfl ?_
                            refine xw.s (pc' := 18) (st' := []) rfl ?_
                            exact h
                          · skip
                            refine xw.s (pc' := 650) (st' := [.inl (0 : Int32)]) rfl ?_
                            exact xw.retz (nx := 651) rfl (Or.inl rfl) h
                        · skip
                          refine xw.bw (11 : Int32) rfl h (fun c159 h => ?_) (fun c159 h => ?_)
                          · skip
                            refine xw.s (pc' := 652) (st' := [.inr (some (0, 0))]) rfl ?_
                            refine xw.s (pc' := 653) (st' := [.inr (some (17, 0)), .inr (some (0, 0))]) rfl ?_
                            refine xw.s (pc' := 654) (st' := [.inl l3, .inr (some (17, 0)), .inr (some (0, 0))]) rfl ?_
                            refine xw.s (pc' := 655) (st' := [.inl (1 : Int32), .inl l3, .inr (some (17, 0)), .inr (some (0, 0))]) rfl ?_
                            refine xw.s (pc' := 656) (st' := [.inl (l3 + (1 : Int32)), .inr (some (17, 0)), .inr (some (0, 0))]) rfl ?_
                            obtain ⟨z160, h⟩ := h
                            refine xw.ild (c := 17) (nx := 657) (v := (xm_i S 17 0 (y_ix (l3 + (1 : Int32))))) rfl (by decide) z160 rfl ?_
                            refine xw.s (pc' := 658) (st' := [.inr (some (17, 0)), .inl (xm_i S 17 0 (y_ix (l3 + (1 : Int32)))), .inr (some (0, 0))]) rfl ?_
                            refine xw.s (pc' := 659) (st' := [.inl l3, .inr (some (17, 0)), .inl (xm_i S 17 0 (y_ix (l3 + (1 : Int32)))), .inr (some (0, 0))]) rfl ?_
                            refine xw.s (pc' := 660) (st' := [.inl (2 : Int32), .inl l3, .inr (some (17, 0)), .inl (xm_i S 17 0 (y_ix (l3 + (1 : Int32)))), .inr (some (0, 0))]) rfl ?_
                            refine xw.s (pc' := 661) (st' := [.inl (l3 + (2 : Int32)), .inr (some (17, 0)), .inl (xm_i S 17 0 (y_ix (l3 + (1 : Int32)))), .inr (some (0, 0))]) rfl ?_
                            obtain ⟨z161, h⟩ := h
                            refine xw.ild (c := 17) (nx := 662) (v := (xm_i S 17 0 (y_ix (l3 + (2 : Int32))))) rfl (by decide) z161 rfl ?_
                            refine xw.call (m := 66) (as := [.inr (some (0, 0)), .inl (xm_i S 17 0 (y_ix (l3 + (1 : Int32)))), .inl (xm_i S 17 0 (y_ix (l3 + (2 : Int32))))]) (nx := 665) (L' := [some (.inr (some (17, 0))), some (.inr (some (0, 0))), some (.inr (some (11, 0))), some (.inl l3)]) (st' := []) rfl (xc.mono h ?_)
                            rintro r S162 ⟨x164, rfl, hC163, h⟩
                            show xw _ _ 665 [some (.inr (some (17, 0))), some (.inr (some (0, 0))), some (.inr (some (11, 0))), some (.inl l3)] [.inl x164] _ _
                            refine xw.s (pc' := 666) (st' := [.inr (some (11, 0)), .inl x164]) rfl ?_
                            refine xw.s (pc' := 667) (st' := [.inr (some (17, 0)), .inr (some (11, 0)), .inl x164]) rfl ?_
                            refine xw.s (pc' := 668) (st' := [.inl l3, .inr (some (17, 0)), .inr (some (11, 0)), .inl x164]) rfl ?_
                            refine xw.s (pc' := 669) (st' := [.inl (1 : Int32), .inl l3, .inr (some (17, 0)), .inr (some (11, 0)), .inl x164]) rfl ?_
                            refine xw.s (pc' := 670) (st' := [.inl (l3 + (1 : Int32)), .inr (some (17, 0)), .inr (some (11, 0)), .inl x164]) rfl ?_
                            obtain ⟨z165, h⟩ := h
                            refine xw.ild (c := 17) (nx := 671) (v := (xm_i S162 17 0 (y_ix (l3 + (1 : Int32))))) rfl (by decide) z165 rfl ?_
                            refine xw.s (pc' := 672) (st' := [.inr (some (17, 0)), .inl (xm_i S162 17 0 (y_ix (l3 + (1 : Int32)))), .inr (some (11, 0)), .inl x164]) rfl ?_
                            refine xw.s (pc' := 673) (st' := [.inl l3, .inr (some (17, 0)), .inl (xm_i S162 17 0 (y_ix (l3 + (1 : Int32)))), .inr (some (11, 0)), .inl x164]) rfl ?_
                            refine xw.s (pc' := 674) (st' := [.inl (2 : Int32), .inl l3, .inr (some (17, 0)), .inl (xm_i S162 17 0 (y_ix (l3 + (1 : Int32)))), .inr (some (11, 0)), .inl x164]) rfl ?_
                            refine xw.s (pc' := 675) (st' := [.inl (l3 + (2 : Int32)), .inr (some (17, 0)), .inl (xm_i S162 17 0 (y_ix (l3 + (1 : Int32)))), .inr (some (11, 0)), .inl x164]) rfl ?_
                            obtain ⟨z166, h⟩ := h
                            refine xw.ild (c := 17) (nx := 676) (v := (xm_i S162 17 0 (y_ix (l3 + (2 : Int32))))) rfl (by decide) z166 rfl ?_
                            refine xw.call (m := 159) (as := [.inr (some (11, 0)), .inl (xm_i S162 17 0 (y_ix (l3 + (1 : Int32)))), .inl (xm_i S162 17 0 (y_ix (l3 + (2 : Int32))))]) (nx := 679) (L' := [some (.inr (some (17, 0))), some (.inr (some (0, 0))), some (.inr (some (11, 0))), some (.inl l3)]) (st' := [.inl x164]) rfl (xc.mono h ?_)
                            rintro r S167 ⟨x169, rfl, hC168, h⟩
                            show xw _ _ 679 [some (.inr (some (17, 0))), some (.inr (some (0, 0))), some (.inr (some (11, 0))), some (.inl l3)] [.inl x169, .inl x164] _ _
                            refine xw.b (c := x164 = x169) (cd := .eq) (x := x164) (y := x169) 1205 682 (st' := []) rfl (y_ceq _ _) h (fun c170 h => ?_) (fun c170 h => ?_)
                            · skip
                              refine xw.s (pc' := 1208) (st' := []) (L' := [some (.inr (some (17, 0))), some (.inr (some (0, 0))), some (.inr (some (11, 0))), some (.inl (l3 + (8 : Int32)))]) rfl ?_
                              refine xw.s (pc' := 18) (st' := []) rfl ?_
                              exact h
                            · skip
                              refine xw.s (pc' := 683) (st' := [.inl (0 : Int32)]) rfl ?_
                              exact xw.retz (nx := 684) rfl (Or.inl rfl) h
                          · skip
                            refine xw.bw (12 : Int32) rfl h (fun c171 h => ?_) (fun c171 h => ?_)
                            · skip
                              refine xw.s (pc' := 685) (st' := [.inr (some (0, 0))]) rfl ?_
                              refine xw.s (pc' := 686) (st' := [.inr (some (17, 0)), .inr (some (0, 0))]) rfl ?_
                              refine xw.s (pc' := 687) (st' := [.inl l3, .inr (some (17, 0)), .inr (some (0, 0))]) rfl ?_
                              refine xw.s (pc' := 688) (st' := [.inl (1 : Int32), .inl l3, .inr (some (17, 0)), .inr (some (0, 0))]) rfl ?_
                              refine xw.s (pc' := 689) (st' := [.inl (l3 + (1 : Int32)), .inr (some (17, 0)), .inr (some (0, 0))]) rfl ?_
                              obtain ⟨z172, h⟩ := h
                              refine xw.ild (c := 17) (nx := 690) (v := (xm_i S 17 0 (y_ix (l3 + (1 : Int32))))) rfl (by decide) z172 rfl ?_
                              refine xw.s (pc' := 691) (st' := [.inr (some (17, 0)), .inl (xm_i S 17 0 (y_ix (l3 + (1 : Int32)))), .inr (some (0, 0))]) rfl ?_
                              refine xw.s (pc' := 692) (st' := [.inl l3, .inr (some (17, 0)), .inl (xm_i S 17 0 (y_ix (l3 + (1 : Int32)))), .inr (some (0, 0))]) rfl ?_
                              refine xw.s (pc' := 693) (st' := [.inl (2 : Int32), .inl l3, .inr (some (17, 0)), .inl (xm_i S 17 0 (y_ix (l3 + (1 : Int32)))), .inr (some (0, 0))]) rfl ?_
                              refine xw.s (pc' := 694) (st' := [.inl (l3 + (2 : Int32)), .inr (some (17, 0)), .inl (xm_i S 17 0 (y_ix (l3 + (1 : Int32)))), .inr (some (0, 0))]) rfl ?_
                              obtain ⟨z173, h⟩ := h
                              refine xw.ild (c := 17) (nx := 695) (v := (xm_i S 17 0 (y_ix (l3 + (2 : Int32))))) rfl (by decide) z173 rfl ?_
                              refine xw.s (pc' := 696) (st' := [.inr (some (17, 0)), .inl (xm_i S 17 0 (y_ix (l3 + (2 : Int32)))), .inl (xm_i S 17 0 (y_ix (l3 + (1 : Int32)))), .inr (some (0, 0))]) rfl ?_
                              refine xw.s (pc' := 697) (st' := [.inl l3, .inr (some (17, 0)), .inl (xm_i S 17 0 (y_ix (l3 + (2 : Int32)))), .inl (xm_i S 17 0 (y_ix (l3 + (1 : Int32)))), .inr (some (0, 0))]) rfl ?_
                              refine xw.s (pc' := 698) (st' := [.inl (3 : Int32), .inl l3, .inr (some (17, 0)), .inl (xm_i S 17 0 (y_ix (l3 + (2 : Int32)))), .inl (xm_i S 17 0 (y_ix (l3 + (1 : Int32)))), .inr (some (0, 0))]) rfl ?_
                              refine xw.s (pc' := 699) (st' := [.inl (l3 + (3 : Int32)), .inr (some (17, 0)), .inl (xm_i S 17 0 (y_ix (l3 + (2 : Int32)))), .inl (xm_i S 17 0 (y_ix (l3 + (1 : Int32)))), .inr (some (0, 0))]) rfl ?_
                              obtain ⟨z174, h⟩ := h
                              refine xw.ild (c := 17) (nx := 700) (v := (xm_i S 17 0 (y_ix (l3 + (3 : Int32))))) rfl (by decide) z174 rfl ?_
                              refine xw.call (m := 67) (as := [.inr (some (0, 0)), .inl (xm_i S 17 0 (y_ix (l3 + (1 : Int32)))), .inl (xm_i S 17 0 (y_ix (l3 + (2 : Int32)))), .inl (xm_i S 17 0 (y_ix (l3 + (3 : Int32))))]) (nx := 703) (L' := [some (.inr (some (17, 0))), some (.inr (some (0, 0))), some (.inr (some (11, 0))), some (.inl l3)]) (st' := []) rfl (xc.mono h ?_)
                              rintro r S175 ⟨x177, rfl, hC176, h⟩
                              show xw _ _ 703 [some (.inr (some (17, 0))), some (.inr (some (0, 0))), some (.inr (some (11, 0))), some (.inl l3)] [.inl x177] _ _
                              refine xw.s (pc' := 704) (st' := [.inr (some (11, 0)), .inl x177]) rfl ?_
                              refine xw.s (pc' := 705) (st' := [.inr (some (17, 0)), .inr (some (11, 0)), .inl x177]) rfl ?_
                              refine xw.s (pc' := 706) (st' := [.inl l3, .inr (some (17, 0)), .inr (some (11, 0)), .inl x177]) rfl ?_
                              refine xw.s (pc' := 707) (st' := [.inl (1 : Int32), .inl l3, .inr (some (17, 0)), .inr (some (11, 0)), .inl x177]) rfl ?_
                              refine xw.s (pc' := 708) (st' := [.inl (l3 + (1 : Int32)), .inr (some (17, 0)), .inr (some (11, 0)), .inl x177]) rfl ?_
                              obtain ⟨z178, h⟩ := h
                              refine xw.ild (c := 17) (nx := 709) (v := (xm_i S175 17 0 (y_ix (l3 + (1 : Int32))))) rfl (by decide) z178 rfl ?_
                              refine xw.s (pc' := 710) (st' := [.inr (some (17, 0)), .inl (xm_i S175 17 0 (y_ix (l3 + (1 : Int32)))), .inr (some (11, 0)), .inl x177]) rfl ?_
                              refine xw.s (pc' := 711) (st' := [.inl l3, .inr (some (17, 0)), .inl (xm_i S175 17 0 (y_ix (l3 + (1 : Int32)))), .inr (some (11, 0)), .inl x177]) rfl ?_
                              refine xw.s (pc' := 712) (st' := [.inl (2 : Int32), .inl l3, .inr (some (17, 0)), .inl (xm_i S175 17 0 (y_ix (l3 + (1 : Int32)))), .inr (some (11, 0)), .inl x177]) rfl ?_
                              refine xw.s (pc' := 713) (st' := [.inl (l3 + (2 : Int32)), .inr (some (17, 0)), .inl (xm_i S175 17 0 (y_ix (l3 + (1 : Int32)))), .inr (some (11, 0)), .inl x177]) rfl ?_
                              obtain ⟨z179, h⟩ := h
                              refine xw.ild (c := 17) (nx := 714) (v := (xm_i S175 17 0 (y_ix (l3 + (2 : Int32))))) rfl (by decide) z179 rfl ?_
                              refine xw.s (pc' := 715) (st' := [.inr (some (17, 0)), .inl (xm_i S175 17 0 (y_ix (l3 + (2 : Int32)))), .inl (xm_i S175 17 0 (y_ix (l3 + (1 : Int32)))), .inr (some (11, 0)), .inl x177]) rfl ?_
                              refine xw.s (pc' := 716) (st' := [.inl l3, .inr (some (17, 0)), .inl (xm_i S175 17 0 (y_ix (l3 + (2 : Int32)))), .inl (xm_i S175 17 0 (y_ix (l3 + (1 : Int32)))), .inr (some (11, 0)), .inl x177]) rfl ?_
                              refine xw.s (pc' := 717) (st' := [.inl (3 : Int32), .inl l3, .inr (some (17, 0)), .inl (xm_i S175 17 0 (y_ix (l3 + (2 : Int32)))), .inl (xm_i S175 17 0 (y_ix (l3 + (1 : Int32)))), .inr (some (11, 0)), .inl x177]) rfl ?_
                              refine xw.s (pc' := 718) (st' := [.inl (l3 + (3 : Int32)), .inr (some (17, 0)), .inl (xm_i S175 17 0 (y_ix (l3 + (2 : Int32)))), .inl (xm_i S175 17 0 (y_ix (l3 + (1 : Int32)))), .inr (some (11, 0)), .inl x177]) rfl ?_
                              obtain ⟨z180, h⟩ := h
                              refine xw.ild (c := 17) (nx := 719) (v := (xm_i S175 17 0 (y_ix (l3 + (3 : Int32))))) rfl (by decide) z180 rfl ?_
                              refine xw.call (m := 160) (as := [.inr (some (11, 0)), .inl (xm_i S175 17 0 (y_ix (l3 + (1 : Int32)))), .inl (xm_i S175 17 0 (y_ix (l3 + (2 : Int32)))), .inl (xm_i S175 17 0 (y_ix (l3 + (3 : Int32))))]) (nx := 722) (L' := [some (.inr (some (17, 0))), some (.inr (some (0, 0))), some (.inr (some (11, 0))), some (.inl l3)]) (st' := [.inl x177]) rfl (xc.mono h ?_)
                              rintro r S181 ⟨x183, rfl, hC182, h⟩
                              show xw _ _ 722 [some (.inr (some (17, 0))), some (.inr (some (0, 0))), some (.inr (some (11, 0))), some (.inl l3)] [.inl x183, .inl x177] _ _
                              refine xw.b (c := x177 = x183) (cd := .eq) (x := x177) (y := x183) 1205 725 (st' := []) rfl (y_ceq _ _) h (fun c184 h => ?_) (fun c184 h => ?_)
                              · skip
                                refine xw.s (pc' := 1208) (st' := []) (L' := [some (.inr (some (17, 0))), some (.inr (some (0, 0))), some (.inr (some (11, 0))), some (.inl (l3 + (8 : Int32)))]) rfl ?_
                                refine xw.s (pc' := 18) (st' := []) rfl ?_
                                exact h
                              · skip
                                refine xw.s (pc' := 726) (st' := [.inl (0 : Int32)]) rfl ?_
                                exact xw.retz (nx := 727) rfl (Or.inl rfl) h
                            · skip
                              refine xw.bw (13 : Int32) rfl h (fun c185 h => ?_) (fun c185 h => ?_)
                              · skip
                                refine xw.s (pc' := 728) (st' := [.inr (some (0, 0))]) rfl ?_
                                refine xw.s (pc' := 729) (st' := [.inr (some (17, 0)), .inr (some (0, 0))]) rfl ?_
                                refine xw.s (pc' := 730) (st' := [.inl l3, .inr (some (17, 0)), .inr (some (0, 0))]) rfl ?_
                                refine xw.s (pc' := 731) (st' := [.inl (1 : Int32), .inl l3, .inr (some (17, 0)), .inr (some (0, 0))]) rfl ?_
                                refine xw.s (pc' := 732) (st' := [.inl (l3 + (1 : Int32)), .inr (some (17, 0)), .inr (some (0, 0))]) rfl ?_
                                obtain ⟨z186, h⟩ := h
                                refine xw.ild (c := 17) (nx := 733) (v := (xm_i S 17 0 (y_ix (l3 + (1 : Int32))))) rfl (by decide) z186 rfl ?_
                                refine xw.s (pc' := 734) (st' := [.inr (some (17, 0)), .inl (xm_i S 17 0 (y_ix (l3 + (1 : Int32)))), .inr (some (0, 0))]) rfl ?_
                                refine xw.s (pc' := 735) (st' := [.inl l3, .inr (some (17, 0)), .inl (xm_i S 17 0 (y_ix (l3 + (1 : Int32)))), .inr (some (0, 0))]) rfl ?_
                                refine xw.s (pc' := 736) (st' := [.inl (2 : Int32), .inl l3, .inr (some (17, 0)), .inl (xm_i S 17 0 (y_ix (l3 + (1 : Int32)))), .inr (some (0, 0))]) rfl ?_
                                refine xw.s (pc' := 737) (st' := [.inl (l3 + (2 : Int32)), .inr (some (17, 0)), .inl (xm_i S 17 0 (y_ix (l3 + (1 : Int32)))), .inr (some (0, 0))]) rfl ?_
                                obtain ⟨z187, h⟩ := h
                                refine xw.ild (c := 17) (nx := 738) (v := (xm_i S 17 0 (y_ix (l3 + (2 : Int32))))) rfl (by decide) z187 rfl ?_
                                refine xw.call (m := 71) (as := [.inr (some (0, 0)), .inl (xm_i S 17 0 (y_ix (l3 + (1 : Int32)))), .inl (xm_i S 17 0 (y_ix (l3 + (2 : Int32))))]) (nx := 741) (L' := [some (.inr (some (17, 0))), some (.inr (some (0, 0))), some (.inr (some (11, 0))), some (.inl l3)]) (st' := []) rfl (xc.mono h ?_)
                                rintro r S188 ⟨x190, rfl, hC189, h⟩
                                show xw _ _ 741 [some (.inr (some (17, 0))), some (.inr (some (0, 0))), some (.inr (some (11, 0))), some (.inl l3)] [.inl x190] _ _
                                refine xw.s (pc' := 742) (st' := [.inr (some (11, 0)), .inl x190]) rfl ?_
                                refine xw.s (pc' := 743) (st' := [.inr (some (17, 0)), .inr (some (11, 0)), .inl x190]) rfl ?_
                                refine xw.s (pc' := 744) (st' := [.inl l3, .inr (some (17, 0)), .inr (some (11, 0)), .inl x190]) rfl ?_
                                refine xw.s (pc' := 745) (st' := [.inl (1 : Int32), .inl l3, .inr (some (17, 0)), .inr (some (11, 0)), .inl x190]) rfl ?_
                                refine xw.s (pc' := 746) (st' := [.inl (l3 + (1 : Int32)), .inr (some (17, 0)), .inr (some (11, 0)), .inl x190]) rfl ?_
                                obtain ⟨z191, h⟩ := h
                                refine xw.ild (c := 17) (nx := 747) (v := (xm_i S188 17 0 (y_ix (l3 + (1 : Int32))))) rfl (by decide) z191 rfl ?_
                                refine xw.s (pc' := 748) (st' := [.inr (some (17, 0)), .inl (xm_i S188 17 0 (y_ix (l3 + (1 : Int32)))), .inr (some (11, 0)), .inl x190]) rfl ?_
                                refine xw.s (pc' := 749) (st' := [.inl l3, .inr (some (17, 0)), .inl (xm_i S188 17 0 (y_ix (l3 + (1 : Int32)))), .inr (some (11, 0)), .inl x190]) rfl ?_
                                refine xw.s (pc' := 750) (st' := [.inl (2 : Int32), .inl l3, .inr (some (17, 0)), .inl (xm_i S188 17 0 (y_ix (l3 + (1 : Int32)))), .inr (some (11, 0)), .inl x190]) rfl ?_
                                refine xw.s (pc' := 751) (st' := [.inl (l3 + (2 : Int32)), .inr (some (17, 0)), .inl (xm_i S188 17 0 (y_ix (l3 + (1 : Int32)))), .inr (some (11, 0)), .inl x190]) rfl ?_
                                obtain ⟨z192, h⟩ := h
                                refine xw.ild (c := 17) (nx := 752) (v := (xm_i S188 17 0 (y_ix (l3 + (2 : Int32))))) rfl (by decide) z192 rfl ?_
                                refine xw.call (m := 162) (as := [.inr (some (11, 0)), .inl (xm_i S188 17 0 (y_ix (l3 + (1 : Int32)))), .inl (xm_i S188 17 0 (y_ix (l3 + (2 : Int32))))]) (nx := 755) (L' := [some (.inr (some (17, 0))), some (.inr (some (0, 0))), some (.inr (some (11, 0))), some (.inl l3)]) (st' := [.inl x190]) rfl (xc.mono h ?_)
                                rintro r S193 ⟨x195, rfl, hC194, h⟩
                                show xw _ _ 755 [some (.inr (some (17, 0))), some (.inr (some (0, 0))), some (.inr (some (11, 0))), some (.inl l3)] [.inl x195, .inl x190] _ _
                                refine xw.b (c := x190 = x195) (cd := .eq) (x := x190) (y := x195) 1205 758 (st' := []) rfl (y_ceq _ _) h (fun c196 h => ?_) (fun c196 h => ?_)
                                · skip
                                  refine xw.s (pc' := 1208) (st' := []) (L' := [some (.inr (some (17, 0))), some (.inr (some (0, 0))), some (.inr (some (11, 0))), some (.inl (l3 + (8 : Int32)))]) rfl ?_
                                  refine xw.s (pc' := 18) (st' := []) rfl ?_
                                  exact h
                                · skip
                                  refine xw.s (pc' := 759) (st' := [.inl (0 : Int32)]) rfl ?_
                                  exact xw.retz (nx := 760) rfl (Or.inl rfl) h
                              · skip
                                refine xw.bw (14 : Int32) rfl h (fun c197 h => ?_) (fun c197 h => ?_)
                                · skip
                                  refine xw.s (pc' := 761) (st' := [.inr (some (0, 0))]) rfl ?_
                                  refine xw.call (m := 72) (as := [.inr (some (0, 0))]) (nx := 764) (L' := [some (.inr (some (17, 0))), some (.inr (some (0, 0))), some (.inr (some (11, 0))), some (.inl l3)]) (st' := []) rfl (xc.mono h ?_)
                                  rintro r S198 ⟨x200, rfl, hC199, h⟩
                                  show xw _ _ 764 [some (.inr (some (17, 0))), some (.inr (some (0, 0))), some (.inr (some (11, 0))), some (.inl l3)] [.inl x200] _ _
                                  refine xw.s (pc' := 765) (st' := [.inr (some (11, 0)), .inl x200]) rfl ?_
                                  refine xw.call (m := 169) (as := [.inr (some (11, 0))]) (nx := 768) (L' := [some (.inr (some (17, 0))), some (.inr (some (0, 0))), some (.inr (some (11, 0))), some (.inl l3)]) (st' := [.inl x200]) rfl (xc.mono h ?_)
                                  rintro r S201 ⟨x203, rfl, hC202, h⟩
                                  show xw _ _ 768 [some (.inr (some (17, 0))), some (.inr (some (0, 0))), some (.inr (some (11, 0))), some (.inl l3)] [.inl x203, .inl x200] _ _
                                  refine xw.b (c := x200 = x203) (cd := .eq) (x := x200) (y := x203) 1205 771 (st' := []) rfl (y_ceq _ _) h (fun c204 h => ?_) (fun c204 h => ?_)
                                  · skip
                                    refine xw.s (pc' := 1208) (st' := []) (L' := [some (.inr (some (17, 0))), some (.inr (some (0, 0))), some (.inr (some (11, 0))), some (.inl (l3 + (8 : Int32)))]) rfl ?_
                                    refine xw.s (pc' := 18) (st' := []) rfl ?_
                                    exact h
                                  · skip
                                    refine xw.s (pc' := 772) (st' := [.inl (0 : Int32)]) rfl ?_
                                    exact xw.retz (nx := 773) rfl (Or.inl rfl) h
                                · skip
                                  refine xw.bw (15 : Int32) rfl h (fun c205 h => ?_) (fun c205 h => ?_)
                                  · skip
                                    refine xw.s (pc' := 774) (st' := [.inr (some (0, 0))]) rfl ?_
                                    refine xw.s (pc' := 775) (st' := [.inr (some (17, 0)), .inr (some (0, 0))]) rfl ?_
                                    refine xw.s (pc' := 776) (st' := [.inl l3, .inr (some (17, 0)), .inr (some (0, 0))]) rfl ?_
                                    refine xw.s (pc' := 777) (st' := [.inl (1 : Int32), .inl l3, .inr (some (17, 0)), .inr (some (0, 0))]) rfl ?_
                                    refine xw.s (pc' := 778) (st' := [.inl (l3 + (1 : Int32)), .inr (some (17, 0)), .inr (some (0, 0))]) rfl ?_
                                    obtain ⟨z206, h⟩ := h
                                    refine xw.ild (c := 17) (nx := 779) (v := (xm_i S 17 0 (y_ix (l3 + (1 : Int32))))) rfl (by decide) z206 rfl ?_
                                    refine xw.call (m := 73) (as := [.inr (some (0, 0)), .inl (xm_i S 17 0 (y_ix (l3 + (1 : Int32))))]) (nx := 782) (L' := [some (.inr (some (17, 0))), some (.inr (some (0, 0))), some (.inr (some (11, 0))), some (.inl l3)]) (st' := []) rfl (xc.mono h ?_)
                                    rintro r S207 ⟨x209, rfl, hC208, h⟩
                                    show xw _ _ 782 [some (.inr (some (17, 0))), some (.inr (some (0, 0))), some (.inr (some (11, 0))), some (.inl l3)] [.inl x209] _ _
                                    refine xw.s (pc' := 783) (st' := [.inr (some (11, 0)), .inl x209]) rfl ?_
                                    refine xw.s (pc' := 784) (st' := [.inr (some (17, 0)), .inr (some (11, 0)), .inl x209]) rfl ?_
                                    refine xw.s (pc' := 785) (st' := [.inl l3, .inr (some (17, 0)), .inr (some (11, 0)), .inl x209]) rfl ?_
                                    refine xw.s (pc' := 786) (st' := [.inl (1 : Int32), .inl l3, .inr (some (17, 0)), .inr (some (11, 0)), .inl x209]) rfl ?_
                                    refine xw.s (pc' := 787) (st' := [.inl (l3 + (1 : Int32)), .inr (some (17, 0)), .inr (some (11, 0)), .inl x209]) rfl ?_
                                    obtain ⟨z210, h⟩ := h
                                    refine xw.ild (c := 17) (nx := 788) (v := (xm_i S207 17 0 (y_ix (l3 + (1 : Int32))))) rfl (by decide) z210 rfl ?_
                                    refine xw.call (m := 170) (as := [.inr (some (11, 0)), .inl (xm_i S207 17 0 (y_ix (l3 + (1 : Int32))))]) (nx := 791) (L' := [some (.inr (some (17, 0))), some (.inr (some (0, 0))), some (.inr (some (11, 0))), some (.inl l3)]) (st' := [.inl x209]) rfl (xc.mono h ?_)
                                    rintro r S211 ⟨x213, rfl, hC212, h⟩
                                    show xw _ _ 791 [some (.inr (some (17, 0))), some (.inr (some (0, 0))), some (.inr (some (11, 0))), some (.inl l3)] [.inl x213, .inl x209] _ _
                                    refine xw.b (c := x209 = x213) (cd := .eq) (x := x209) (y := x213) 1205 794 (st' := []) rfl (y_ceq _ _) h (fun c214 h => ?_) (fun c214 h => ?_)
                                    · skip
                                      refine xw.s (pc' := 1208) (st' := []) (L' := [some (.inr (some (17, 0))), some (.inr (some (0, 0))), some (.inr (some (11, 0))), some (.inl (l3 + (8 : Int32)))]) rfl ?_
                                      refine xw.s (pc' := 18) (st' := []) rfl ?_
                                      exact h
                                    · skip
                                      refine xw.s (pc' := 795) (st' := [.inl (0 : Int32)]) rfl ?_
                                      exact xw.retz (nx := 796) rfl (Or.inl rfl) h
                                  · skip
                                    refine xw.bw (16 : Int32) rfl h (fun c215 h => ?_) (fun c215 h => ?_)
                                    · skip
                                      refine xw.s (pc' := 797) (st' := [.inr (some (0, 0))]) rfl ?_
                                      refine xw.s (pc' := 798) (st' := [.inr (some (17, 0)), .inr (some (0, 0))]) rfl ?_
                                      refine xw.s (pc' := 799) (st' := [.inl l3, .inr (some (17, 0)), .inr (some (0, 0))]) rfl ?_
                                      refine xw.s (pc' := 800) (st' := [.inl (1 : Int32), .inl l3, .inr (some (17, 0)), .inr (some (0, 0))]) rfl ?_
                                      refine xw.s (pc' := 801) (st' := [.inl (l3 + (1 : Int32)), .inr (some (17, 0)), .inr (some (0, 0))]) rfl ?_
                                      obtain ⟨z216, h⟩ := h
                                      refine xw.ild (c := 17) (nx := 802) (v := (xm_i S 17 0 (y_ix (l3 + (1 : Int32))))) rfl (by decide) z216 rfl ?_
                                      refine xw.s (pc' := 803) (st' := [.inr (some (17, 0)), .inl (xm_i S 17 0 (y_ix (l3 + (1 : Int32)))), .inr (some (0, 0))]) rfl ?_
                                      refine xw.s (pc' := 804) (st' := [.inl l3, .inr (some (17, 0)), .inl (xm_i S 17 0 (y_ix (l3 + (1 : Int32)))), .inr (some (0, 0))]) rfl ?_
                                      refine xw.s (pc' := 805) (st' := [.inl (2 : Int32), .inl l3, .inr (some (17, 0)), .inl (xm_i S 17 0 (y_ix (l3 + (1 : Int32)))), .inr (some (0, 0))]) rfl ?_
                                      refine xw.s (pc' := 806) (st' := [.inl (l3 + (2 : Int32)), .inr (some (17, 0)), .inl (xm_i S 17 0 (y_ix (l3 + (1 : Int32)))), .inr (some (0, 0))]) rfl ?_
                                      obtain ⟨z217, h⟩ := h
                                      refine xw.ild (c := 17) (nx := 807) (v := (xm_i S 17 0 (y_ix (l3 + (2 : Int32))))) rfl (by decide) z217 rfl ?_
                                      refine xw.call (m := 74) (as := [.inr (some (0, 0)), .inl (xm_i S 17 0 (y_ix (l3 + (1 : Int32)))), .inl (xm_i S 17 0 (y_ix (l3 + (2 : Int32))))]) (nx := 810) (L' := [some (.inr (some (17, 0))), some (.inr (some (0, 0))), some (.inr (some (11, 0))), some (.inl l3)]) (st' := []) rfl (xc.mono h ?_)
                                      rintro r S218 ⟨x220, rfl, hC219, h⟩
                                      show xw _ _ 810 [some (.inr (some (17, 0))), some (.inr (some (0, 0))), some (.inr (some (11, 0))), some (.inl l3)] [.inl x220] _ _
                                      refine xw.s (pc' := 811) (st' := [.inr (some (11, 0)), .inl x220]) rfl ?_
                                      refine xw.s (pc' := 812) (st' := [.inr (some (17, 0)), .inr (some (11, 0)), .inl x220]) rfl ?_
                                      refine xw.s (pc' := 813) (st' := [.inl l3, .inr (some (17, 0)), .inr (some (11, 0)), .inl x220]) rfl ?_
                                      refine xw.s (pc' := 814) (st' := [.inl (1 : Int32), .inl l3, .inr (some (17, 0)), .inr (some (11, 0)), .inl x220]) rfl ?_
                                      refine xw.s (pc' := 815) (st' := [.inl (l3 + (1 : Int32)), .inr (some (17, 0)), .inr (some (11, 0)), .inl x220]) rfl ?_
                                      obtain ⟨z221, h⟩ := h
                                      refine xw.ild (c := 17) (nx := 816) (v := (xm_i S218 17 0 (y_ix (l3 + (1 : Int32))))) rfl (by decide) z221 rfl ?_
                                      refine xw.s (pc' := 817) (st' := [.inr (some (17, 0)), .inl (xm_i S218 17 0 (y_ix (l3 + (1 : Int32)))), .inr (some (11, 0)), .inl x220]) rfl ?_
                                      refine xw.s (pc' := 818) (st' := [.inl l3, .inr (some (17, 0)), .inl (xm_i S218 17 0 (y_ix (l3 + (1 : Int32)))), .inr (some (11, 0)), .inl x220]) rfl ?_
                                      refine xw.s (pc' := 819) (st' := [.inl (2 : Int32), .inl l3, .inr (some (17, 0)), .inl (xm_i S218 17 0 (y_ix (l3 + (1 : Int32)))), .inr (some (11, 0)), .inl x220]) rfl ?_
                                      refine xw.s (pc' := 820) (st' := [.inl (l3 + (2 : Int32)), .inr (some (17, 0)), .inl (xm_i S218 17 0 (y_ix (l3 + (1 : Int32)))), .inr (some (11, 0)), .inl x220]) rfl ?_
                                      obtain ⟨z222, h⟩ := h
                                      refine xw.ild (c := 17) (nx := 821) (v := (xm_i S218 17 0 (y_ix (l3 + (2 : Int32))))) rfl (by decide) z222 rfl ?_
                                      refine xw.call (m := 171) (as := [.inr (some (11, 0)), .inl (xm_i S218 17 0 (y_ix (l3 + (1 : Int32)))), .inl (xm_i S218 17 0 (y_ix (l3 + (2 : Int32))))]) (nx := 824) (L' := [some (.inr (some (17, 0))), some (.inr (some (0, 0))), some (.inr (some (11, 0))), some (.inl l3)]) (st' := [.inl x220]) rfl (xc.mono h ?_)
                                      rintro r S223 ⟨x225, rfl, hC224, h⟩
                                      show xw _ _ 824 [some (.inr (some (17, 0))), some (.inr (some (0, 0))), some (.inr (some (11, 0))), some (.inl l3)] [.inl x225, .inl x220] _ _
                                      refine xw.b (c := x220 = x225) (cd := .eq) (x := x220) (y := x225) 1205 827 (st' := []) rfl (y_ceq _ _) h (fun c226 h => ?_) (fun c226 h => ?_)
                                      · skip
                                        refine xw.s (pc' := 1208) (st' := []) (L' := [some (.inr (some (17, 0))), some (.inr (some (0, 0))), some (.inr (some (11, 0))), some (.inl (l3 + (8 : Int32)))]) rfl ?_
                                        refine xw.s (pc' := 18) (st' := []) rfl ?_
                                        exact h
                                      · skip
                                        refine xw.s (pc' := 828) (st' := [.inl (0 : Int32)]) rfl ?_
                                        exact xw.retz (nx := 829) rfl (Or.inl rfl) h
                                    · skip
                                      refine xw.bw (17 : Int32) rfl h (fun c227 h => ?_) (fun c227 h => ?_)
                                      · skip
                                        refine xw.s (pc' := 830) (st' := [.inr (some (0, 0))]) rfl ?_
                                        refine xw.s (pc' := 831) (st' := [.inr (some (17, 0)), .inr (some (0, 0))]) rfl ?_
                                        refine xw.s (pc' := 832) (st' := [.inl l3, .inr (some (17, 0)), .inr (some (0, 0))]) rfl ?_
                                        refine xw.s (pc' := 833) (st' := [.inl (1 : Int32), .inl l3, .inr (some (17, 0)), .inr (some (0, 0))]) rfl ?_
                                        refine xw.s (pc' := 834) (st' := [.inl (l3 + (1 : Int32)), .inr (some (17, 0)), .inr (some (0, 0))]) rfl ?_
                                        obtain ⟨z228, h⟩ := h
                                        refine xw.ild (c := 17) (nx := 835) (v := (xm_i S 17 0 (y_ix (l3 + (1 : Int32))))) rfl (by decide) z228 rfl ?_
                                        refine xw.s (pc' := 836) (st' := [.inr (some (17, 0)), .inl (xm_i S 17 0 (y_ix (l3 + (1 : Int32)))), .inr (some (0, 0))]) rfl ?_
                                        refine xw.s (pc' := 837) (st' := [.inl l3, .inr (some (17, 0)), .inl (xm_i S 17 0 (y_ix (l3 + (1 : Int32)))), .inr (some (0, 0))]) rfl ?_
                                        refine xw.s (pc' := 838) (st' := [.inl (2 : Int32), .inl l3, .inr (some (17, 0)), .inl (xm_i S 17 0 (y_ix (l3 + (1 : Int32)))), .inr (some (0, 0))]) rfl ?_
                                        refine xw.s (pc' := 839) (st' := [.inl (l3 + (2 : Int32)), .inr (some (17, 0)), .inl (xm_i S 17 0 (y_ix (l3 + (1 : Int32)))), .inr (some (0, 0))]) rfl ?_
                                        obtain ⟨z229, h⟩ := h
                                        refine xw.ild (c := 17) (nx := 840) (v := (xm_i S 17 0 (y_ix (l3 + (2 : Int32))))) rfl (by decide) z229 rfl ?_
                                        refine xw.call (m := 76) (as := [.inr (some (0, 0)), .inl (xm_i S 17 0 (y_ix (l3 + (1 : Int32)))), .inl (xm_i S 17 0 (y_ix (l3 + (2 : Int32))))]) (nx := 843) (L' := [some (.inr (some (17, 0))), some (.inr (some (0, 0))), some (.inr (some (11, 0))), some (.inl l3)]) (st' := []) rfl (xc.mono h ?_)
                                        rintro r S230 ⟨x232, rfl, hC231, h⟩
                                        show xw _ _ 843 [some (.inr (some (17, 0))), some (.inr (some (0, 0))), some (.inr (some (11, 0))), some (.inl l3)] [.inl x232] _ _
                                        refine xw.s (pc' := 844) (st' := [.inr (some (11, 0)), .inl x232]) rfl ?_
                                        refine xw.s (pc' := 845) (st' := [.inr (some (17, 0)), .inr (some (11, 0)), .inl x232]) rfl ?_
                                        refine xw.s (pc' := 846) (st' := [.inl l3, .inr (some (17, 0)), .inr (some (11, 0)), .inl x232]) rfl ?_
                                        refine xw.s (pc' := 847) (st' := [.inl (1 : Int32), .inl l3, .inr (some (17, 0)), .inr (some (11, 0)), .inl x232]) rfl ?_
                                        refine xw.s (pc' := 848) (st' := [.inl (l3 + (1 : Int32)), .inr (some (17, 0)), .inr (some (11, 0)), .inl x232]) rfl ?_
                                        obtain ⟨z233, h⟩ := h
                                        refine xw.ild (c := 17) (nx := 849) (v := (xm_i S230 17 0 (y_ix (l3 + (1 : Int32))))) rfl (by decide) z233 rfl ?_
                                        refine xw.s (pc' := 850) (st' := [.inr (some (17, 0)), .inl (xm_i S230 17 0 (y_ix (l3 + (1 : Int32)))), .inr (some (11, 0)), .inl x232]) rfl ?_
                                        refine xw.s (pc' := 851) (st' := [.inl l3, .inr (some (17, 0)), .inl (xm_i S230 17 0 (y_ix (l3 + (1 : Int32)))), .inr (some (11, 0)), .inl x232]) rfl ?_
                                        refine xw.s (pc' := 852) (st' := [.inl (2 : Int32), .inl l3, .inr (some (17, 0)), .inl (xm_i S230 17 0 (y_ix (l3 + (1 : Int32)))), .inr (some (11, 0)), .inl x232]) rfl ?_
                                        refine xw.s (pc' := 853) (st' := [.inl (l3 + (2 : Int32)), .inr (some (17, 0)), .inl (xm_i S230 17 0 (y_ix (l3 + (1 : Int32)))), .inr (some (11, 0)), .inl x232]) rfl ?_
                                        obtain ⟨z234, h⟩ := h
                                        refine xw.ild (c := 17) (nx := 854) (v := (xm_i S230 17 0 (y_ix (l3 + (2 : Int32))))) rfl (by decide) z234 rfl ?_
                                        refine xw.call (m := 121) (as := [.inr (some (11, 0)), .inl (xm_i S230 17 0 (y_ix (l3 + (1 : Int32)))), .inl (xm_i S230 17 0 (y_ix (l3 + (2 : Int32))))]) (nx := 857) (L' := [some (.inr (some (17, 0))), some (.inr (some (0, 0))), some (.inr (some (11, 0))), some (.inl l3)]) (st' := [.inl x232]) rfl (xc.mono h ?_)
                                        rintro r S235 ⟨x237, rfl, hC236, h⟩
                                        show xw _ _ 857 [some (.inr (some (17, 0))), some (.inr (some (0, 0))), some (.inr (some (11, 0))), some (.inl l3)] [.inl x237, .inl x232] _ _
                                        refine xw.b (c := x232 = x237) (cd := .eq) (x := x232) (y := x237) 1205 860 (st' := []) rfl (y_ceq _ _) h (fun c238 h => ?_) (fun c238 h => ?_)
                                        · skip
                                          refine xw.s (pc' := 1208) (st' := []) (L' := [some (.inr (some (17, 0))), some (.inr (some (0, 0))), some (.inr (some (11, 0))), some (.inl (l3 + (8 : Int32)))]) rfl ?_
                                          refine xw.s (pc' := 18) (st' := []) rfl ?_
                                          exact h
                                        · skip
                                          refine xw.s (pc' := 861) (st' := [.inl (0 : Int32)]) rfl ?_
                                          exact xw.retz (nx := 862) rfl (Or.inl rfl) h
                                      · skip
                                        refine xw.bw (18 : Int32) rfl h (fun c239 h => ?_) (fun c239 h => ?_)
                                        · skip
                                          refine xw.s (pc' := 863) (st' := [.inr (some (0, 0))]) rfl ?_
                                          refine xw.s (pc' := 864) (st' := [.inr (some (17, 0)), .inr (some (0, 0))]) rfl ?_
                                          refine xw.s (pc' := 865) (st' := [.inl l3, .inr (some (17, 0)), .inr (some (0, 0))]) rfl ?_
                                          refine xw.s (pc' := 866) (st' := [.inl (1 : Int32), .inl l3, .inr (some (17, 0)), .inr (some (0, 0))]) rfl ?_
                                          refine xw.s (pc' := 867) (st' := [.inl (l3 + (1 : Int32)), .inr (some (17, 0)), .inr (some (0, 0))]) rfl ?_
                                          obtain ⟨z240, h⟩ := h
                                          refine xw.ild (c := 17) (nx := 868) (v := (xm_i S 17 0 (y_ix (l3 + (1 : Int32))))) rfl (by decide) z240 rfl ?_
                                          refine xw.s (pc' := 869) (st' := [.inr (some (17, 0)), .inl (xm_i S 17 0 (y_ix (l3 + (1 : Int32)))), .inr (some (0, 0))]) rfl ?_
                                          refine xw.s (pc' := 870) (st' := [.inl l3, .inr (some (17, 0)), .inl (xm_i S 17 0 (y_ix (l3 + (1 : Int32)))), .inr (some (0, 0))]) rfl ?_
                                          refine xw.s (pc' := 871) (st' := [.inl (2 : Int32), .inl l3, .inr (some (17, 0)), .inl (xm_i S 17 0 (y_ix (l3 + (1 : Int32)))), .inr (some (0, 0))]) rfl ?_
                                          refine xw.s (pc' := 872) (st' := [.inl (l3 + (2 : Int32)), .inr (some (17, 0)), .inl (xm_i S 17 0 (y_ix (l3 + (1 : Int32)))), .inr (some (0, 0))]) rfl ?_
                                          obtain ⟨z241, h⟩ := h
                                          refine xw.ild (c := 17) (nx := 873) (v := (xm_i S 17 0 (y_ix (l3 + (2 : Int32))))) rfl (by decide) z241 rfl ?_
                                          refine xw.call (m := 77) (as := [.inr (some (0, 0)), .inl (xm_i S 17 0 (y_ix (l3 + (1 : Int32)))), .inl (xm_i S 17 0 (y_ix (l3 + (2 : Int32))))]) (nx := 876) (L' := [some (.inr (some (17, 0))), some (.inr (some (0, 0))), some (.inr (some (11, 0))), some (.inl l3)]) (st' := []) rfl (xc.mono h ?_)
                                          rintro r S242 ⟨x244, rfl, hC243, h⟩
                                          show xw _ _ 876 [some (.inr (some (17, 0))), some (.inr (some (0, 0))), some (.inr (some (11, 0))), some (.inl l3)] [.inl x244] _ _
                                          refine xw.s (pc' := 877) (st' := [.inr (some (11, 0)), .inl x244]) rfl ?_
                                          refine xw.s (pc' := 878) (st' := [.inr (some (17, 0)), .inr (some (11, 0)), .inl x244]) rfl ?_
                                          refine xw.s (pc' := 879) (st' := [.inl l3, .inr (some (17, 0)), .inr (some (11, 0)), .inl x244]) rfl ?_
                                          refine xw.s (pc' := 880) (st' := [.inl (1 : Int32), .inl l3, .inr (some (17, 0)), .inr (some (11, 0)), .inl x244]) rfl ?_
                                          refine xw.s (pc' := 881) (st' := [.inl (l3 + (1 : Int32)), .inr (some (17, 0)), .inr (some (11, 0)), .inl x244]) rfl ?_
                                          obtain ⟨z245, h⟩ := h
                                          refine xw.ild (c := 17) (nx := 882) (v := (xm_i S242 17 0 (y_ix (l3 + (1 : Int32))))) rfl (by decide) z245 rfl ?_
                                          refine xw.s (pc' := 883) (st' := [.inr (some (17, 0)), .inl (xm_i S242 17 0 (y_ix (l3 + (1 : Int32)))), .inr (some (11, 0)), .inl x244]) rfl ?_
                                          refine xw.s (pc' := 884) (st' := [.inl l3, .inr (some (17, 0)), .inl (xm_i S242 17 0 (y_ix (l3 + (1 : Int32)))), .inr (some (11, 0)), .inl x244]) rfl ?_
                                          refine xw.s (pc' := 885) (st' := [.inl (2 : Int32), .inl l3, .inr (some (17, 0)), .inl (xm_i S242 17 0 (y_ix (l3 + (1 : Int32)))), .inr (some (11, 0)), .inl x244]) rfl ?_
                                          refine xw.s (pc' := 886) (st' := [.inl (l3 + (2 : Int32)), .inr (some (17, 0)), .inl (xm_i S242 17 0 (y_ix (l3 + (1 : Int32)))), .inr (some (11, 0)), .inl x244]) rfl ?_
                                          obtain ⟨z246, h⟩ := h
                                          refine xw.ild (c := 17) (nx := 887) (v := (xm_i S242 17 0 (y_ix (l3 + (2 : Int32))))) rfl (by decide) z246 rfl ?_
                                          refine xw.call (m := 172) (as := [.inr (some (11, 0)), .inl (xm_i S242 17 0 (y_ix (l3 + (1 : Int32)))), .inl (xm_i S242 17 0 (y_ix (l3 + (2 : Int32))))]) (nx := 890) (L' := [some (.inr (some (17, 0))), some (.inr (some (0, 0))), some (.inr (some (11, 0))), some (.inl l3)]) (st' := [.inl x244]) rfl (xc.mono h ?_)
                                          rintro r S247 ⟨x249, rfl, hC248, h⟩
                                          show xw _ _ 890 [some (.inr (some (17, 0))), some (.inr (some (0, 0))), some (.inr (some (11, 0))), some (.inl l3)] [.inl x249, .inl x244] _ _
                                          refine xw.b (c := x244 = x249) (cd := .eq) (x := x244) (y := x249) 1205 893 (st' := []) rfl (y_ceq _ _) h (fun c250 h => ?_) (fun c250 h => ?_)
                                          · skip
                                            refine xw.s (pc' := 1208) (st' := []) (L' := [some (.inr (some (17, 0))), some (.inr (some (0, 0))), some (.inr (some (11, 0))), some (.inl (l3 + (8 : Int32)))]) rfl ?_
                                            refine xw.s (pc' := 18) (st' := []) rfl ?_
                                            exact h
                                          · skip
                                            refine xw.s (pc' := 894) (st' := [.inl (0 : Int32)]) rfl ?_
                                            exact xw.retz (nx := 895) rfl (Or.inl rfl) h
                                        · skip
                                          refine xw.bw (19 : Int32) rfl h (fun c251 h => ?_) (fun c251 h => ?_)
                                          · skip
                                            refine xw.s (pc' := 896) (st' := [.inr (some (0, 0))]) rfl ?_
                                            refine xw.s (pc' := 897) (st' := [.inr (some (17, 0)), .inr (some (0, 0))]) rfl ?_
                                            refine xw.s (pc' := 898) (st' := [.inl l3, .inr (some (17, 0)), .inr (some (0, 0))]) rfl ?_
                                            refine xw.s (pc' := 899) (st' := [.inl (1 : Int32), .inl l3, .inr (some (17, 0)), .inr (some (0, 0))]) rfl ?_
                                            refine xw.s (pc' := 900) (st' := [.inl (l3 + (1 : Int32)), .inr (some (17, 0)), .inr (some (0, 0))]) rfl ?_
                                            obtain ⟨z252, h⟩ := h
                                            refine xw.ild (c := 17) (nx := 901) (v := (xm_i S 17 0 (y_ix (l3 + (1 : Int32))))) rfl (by decide) z252 rfl ?_
                                            refine xw.s (pc' := 902) (st' := [.inr (some (17, 0)), .inl (xm_i S 17 0 (y_ix (l3 + (1 : Int32)))), .inr (some (0, 0))]) rfl ?_
                                            refine xw.s (pc' := 903) (st' := [.inl l3, .inr (some (17, 0)), .inl (xm_i S 17 0 (y_ix (l3 + (1 : Int32)))), .inr (some (0, 0))]) rfl ?_
                                            refine xw.s (pc' := 904) (st' := [.inl (2 : Int32), .inl l3, .inr (some (17, 0)), .inl (xm_i S 17 0 (y_ix (l3 + (1 : Int32)))), .inr (some (0, 0))]) rfl ?_
                                            refine xw.s (pc' := 905) (st' := [.inl (l3 + (2 : Int32)), .inr (some (17, 0)), .inl (xm_i S 17 0 (y_ix (l3 + (1 : Int32)))), .inr (some (0, 0))]) rfl ?_
                                            obtain ⟨z253, h⟩ := h
                                            refine xw.ild (c := 17) (nx := 906) (v := (xm_i S 17 0 (y_ix (l3 + (2 : Int32))))) rfl (by decide) z253 rfl ?_
                                            refine xw.call (m := 78) (as := [.inr (some (0, 0)), .inl (xm_i S 17 0 (y_ix (l3 + (1 : Int32)))), .inl (xm_i S 17 0 (y_ix (l3 + (2 : Int32))))]) (nx := 909) (L' := [some (.inr (some (17, 0))), some (.inr (some (0, 0))), some (.inr (some (11, 0))), some (.inl l3)]) (st' := []) rfl (xc.mono h ?_)
                                            rintro r S254 ⟨x256, rfl, hC255, h⟩
                                            show xw _ _ 909 [some (.inr (some (17, 0))), some (.inr (some (0, 0))), some (.inr (some (11, 0))), some (.inl l3)] [.inl x256] _ _
                                            refine xw.s (pc' := 910) (st' := [.inr (some (11, 0)), .inl x256]) rfl ?_
                                            refine xw.s (pc' := 911) (st' := [.inr (some (17, 0)), .inr (some (11, 0)), .inl x256]) rfl ?_
                                            refine xw.s (pc' := 912) (st' := [.inl l3, .inr (some (17, 0)), .inr (some (11, 0)), .inl x256]) rfl ?_
                                            refine xw.s (pc' := 913) (st' := [.inl (1 : Int32), .inl l3, .inr (some (17, 0)), .inr (some (11, 0)), .inl x256]) rfl ?_
                                            refine xw.s (pc' := 914) (st' := [.inl (l3 + (1 : Int32)), .inr (some (17, 0)), .inr (some (11, 0)), .inl x256]) rfl ?_
                                            obtain ⟨z257, h⟩ := h
                                            refine xw.ild (c := 17) (nx := 915) (v := (xm_i S254 17 0 (y_ix (l3 + (1 : Int32))))) rfl (by decide) z257 rfl ?_
                                            refine xw.s (pc' := 916) (st' := [.inr (some (17, 0)), .inl (xm_i S254 17 0 (y_ix (l3 + (1 : Int32)))), .inr (some (11, 0)), .inl x256]) rfl ?_
                                            refine xw.s (pc' := 917) (st' := [.inl l3, .inr (some (17, 0)), .inl (xm_i S254 17 0 (y_ix (l3 + (1 : Int32)))), .inr (some (11, 0)), .inl x256]) rfl ?_
                                            refine xw.s (pc' := 918) (st' := [.inl (2 : Int32), .inl l3, .inr (some (17, 0)), .inl (xm_i S254 17 0 (y_ix (l3 + (1 : Int32)))), .inr (some (11, 0)), .inl x256]) rfl ?_
                                            refine xw.s (pc' := 919) (st' := [.inl (l3 + (2 : Int32)), .inr (some (17, 0)), .inl (xm_i S254 17 0 (y_ix (l3 + (1 : Int32)))), .inr (some (11, 0)), .inl x256]) rfl ?_
                                            obtain ⟨z258, h⟩ := h
                                            refine xw.ild (c := 17) (nx := 920) (v := (xm_i S254 17 0 (y_ix (l3 + (2 : Int32))))) rfl (by decide) z258 rfl ?_
                                            refine xw.call (m := 173) (as := [.inr (some (11, 0)), .inl (xm_i S254 17 0 (y_ix (l3 + (1 : Int32)))), .inl (xm_i S254 17 0 (y_ix (l3 + (2 : Int32))))]) (nx := 923) (L' := [some (.inr (some (17, 0))), some (.inr (some (0, 0))), some (.inr (some (11, 0))), some (.inl l3)]) (st' := [.inl x256]) rfl (xc.mono h ?_)
                                            rintro r S259 ⟨x261, rfl, hC260, h⟩
                                            show xw _ _ 923 [some (.inr (some (17, 0))), some (.inr (some (0, 0))), some (.inr (some (11, 0))), some (.inl l3)] [.inl x261, .inl x256] _ _
                                            refine xw.b (c := x256 = x261) (cd := .eq) (x := x256) (y := x261) 1205 926 (st' := []) rfl (y_ceq _ _) h (fun c262 h => ?_) (fun c262 h => ?_)
                                            · skip
                                              refine xw.s (pc' := 1208) (st' := []) (L' := [some (.inr (some (17, 0))), some (.inr (some (0, 0))), some (.inr (some (11, 0))), some (.inl (l3 + (8 : Int32)))]) rfl ?_
                                              refine xw.s (pc' := 18) (st' := []) rfl ?_
                                              exact h
                                            · skip
                                              refine xw.s (pc' := 927) (st' := [.inl (0 : Int32)]) rfl ?_
                                              exact xw.retz (nx := 928) rfl (Or.inl rfl) h
                                          · skip
                                            refine xw.bw (20 : Int32) rfl h (fun c263 h => ?_) (fun c263 h => ?_)
                                            · skip
                                              refine xw.s (pc' := 929) (st' := [.inr (some (0, 0))]) rfl ?_
                                              refine xw.s (pc' := 930) (st' := [.inr (some (17, 0)), .inr (some (0, 0))]) rfl ?_
                                              refine xw.s (pc' := 931) (st' := [.inl l3, .inr (some (17, 0)), .inr (some (0, 0))]) rfl ?_
                                              refine xw.s (pc' := 932) (st' := [.inl (1 : Int32), .inl l3, .inr (some (17, 0)), .inr (some (0, 0))]) rfl ?_
                                              refine xw.s (pc' := 933) (st' := [.inl (l3 + (1 : Int32)), .inr (some (17, 0)), .inr (some (0, 0))]) rfl ?_
                                              obtain ⟨z264, h⟩ := h
                                              refine xw.ild (c := 17) (nx := 934) (v := (xm_i S 17 0 (y_ix (l3 + (1 : Int32))))) rfl (by decide) z264 rfl ?_
                                              refine xw.s (pc' := 935) (st' := [.inr (some (17, 0)), .inl (xm_i S 17 0 (y_ix (l3 + (1 : Int32)))), .inr (some (0, 0))]) rfl ?_
                                              refine xw.s (pc' := 936) (st' := [.inl l3, .inr (some (17, 0)), .inl (xm_i S 17 0 (y_ix (l3 + (1 : Int32)))), .inr (some (0, 0))]) rfl ?_
                                              refine xw.s (pc' := 937) (st' := [.inl (2 : Int32), .inl l3, .inr (some (17, 0)), .inl (xm_i S 17 0 (y_ix (l3 + (1 : Int32)))), .inr (some (0, 0))]) rfl ?_
                                              refine xw.s (pc' := 938) (st' := [.inl (l3 + (2 : Int32)), .inr (some (17, 0)), .inl (xm_i S 17 0 (y_ix (l3 + (1 : Int32)))), .inr (some (0, 0))]) rfl ?_
                                              obtain ⟨z265, h⟩ := h
                                              refine xw.ild (c := 17) (nx := 939) (v := (xm_i S 17 0 (y_ix (l3 + (2 : Int32))))) rfl (by decide) z265 rfl ?_
                                              refine xw.call (m := 79) (as := [.inr (some (0, 0)), .inl (xm_i S 17 0 (y_ix (l3 + (1 : Int32)))), .inl (xm_i S 17 0 (y_ix (l3 + (2 : Int32))))]) (nx := 942) (L' := [some (.inr (some (17, 0))), some (.inr (some (0, 0))), some (.inr (some (11, 0))), some (.inl l3)]) (st' := []) rfl (xc.mono h ?_)
                                              rintro r S266 ⟨x268, rfl, hC267, h⟩
                                              show xw _ _ 942 [some (.inr (some (17, 0))), some (.inr (some (0, 0))), some (.inr (some (11, 0))), some (.inl l3)] [.inl x268] _ _
                                              refine xw.s (pc' := 943) (st' := [.inr (some (11, 0)), .inl x268]) rfl ?_
                                              refine xw.s (pc' := 944) (st' := [.inr (some (17, 0)), .inr (some (11, 0)), .inl x268]) rfl ?_
                                              refine xw.s (pc' := 945) (st' := [.inl l3, .inr (some (17, 0)), .inr (some (11, 0)), .inl x268]) rfl ?_
                                              refine xw.s (pc' := 946) (st' := [.inl (1 : Int32), .inl l3, .inr (some (17, 0)), .inr (some (11, 0)), .inl x268]) rfl ?_
                                              refine xw.s (pc' := 947) (st' := [.inl (l3 + (1 : Int32)), .inr (some (17, 0)), .inr (some (11, 0)), .inl x268]) rfl ?_
                                              obtain ⟨z269, h⟩ := h
                                              refine xw.ild (c := 17) (nx := 948) (v := (xm_i S266 17 0 (y_ix (l3 + (1 : Int32))))) rfl (by decide) z269 rfl ?_
                                              refine xw.s (pc' := 949) (st' := [.inr (some (17, 0)), .inl (xm_i S266 17 0 (y_ix (l3 + (1 : Int32)))), .inr (some (11, 0)), .inl x268]) rfl ?_
                                              refine xw.s (pc' := 950) (st' := [.inl l3, .inr (some (17, 0)), .inl (xm_i S266 17 0 (y_ix (l3 + (1 : Int32)))), .inr (some (11, 0)), .inl x268]) rfl ?_
                                              refine xw.s (pc' := 951) (st' := [.inl (2 : Int32), .inl l3, .inr (some (17, 0)), .inl (xm_i S266 17 0 (y_ix (l3 + (1 : Int32)))), .inr (some (11, 0)), .inl x268]) rfl ?_
                                              refine xw.s (pc' := 952) (st' := [.inl (l3 + (2 : Int32)), .inr (some (17, 0)), .inl (xm_i S266 17 0 (y_ix (l3 + (1 : Int32)))), .inr (some (11, 0)), .inl x268]) rfl ?_
                                              obtain ⟨z270, h⟩ := h
                                              refine xw.ild (c := 17) (nx := 953) (v := (xm_i S266 17 0 (y_ix (l3 + (2 : Int32))))) rfl (by decide) z270 rfl ?_
                                              refine xw.call (m := 174) (as := [.inr (some (11, 0)), .inl (xm_i S266 17 0 (y_ix (l3 + (1 : Int32)))), .inl (xm_i S266 17 0 (y_ix (l3 + (2 : Int32))))]) (nx := 956) (L' := [some (.inr (some (17, 0))), some (.inr (some (0, 0))), some (.inr (some (11, 0))), some (.inl l3)]) (st' := [.inl x268]) rfl (xc.mono h ?_)
                                              rintro r S271 ⟨x273, rfl, hC272, h⟩
                                              show xw _ _ 956 [some (.inr (some (17, 0))), some (.inr (some (0, 0))), some (.inr (some (11, 0))), some (.inl l3)] [.inl x273, .inl x268] _ _
                                              refine xw.b (c := x268 = x273) (cd := .eq) (x := x268) (y := x273) 1205 959 (st' := []) rfl (y_ceq _ _) h (fun c274 h => ?_) (fun c274 h => ?_)
                                              · skip
                                                refine xw.s (pc' := 1208) (st' := []) (L' := [some (.inr (some (17, 0))), some (.inr (some (0, 0))), some (.inr (some (11, 0))), some (.inl (l3 + (8 : Int32)))]) rfl ?_
                                                refine xw.s (pc' := 18) (st' := []) rfl ?_
                                                exact h
                                              · skip
                                                refine xw.s (pc' := 960) (st' := [.inl (0 : Int32)]) rfl ?_
                                                exact xw.retz (nx := 961) rfl (Or.inl rfl) h
                                            · skip
                                              refine xw.bw (21 : Int32) rfl h (fun c275 h => ?_) (fun c275 h => ?_)
                                              · skip
                                                refine xw.s (pc' := 962) (st' := [.inr (some (0, 0))]) rfl ?_
                                                refine xw.s (pc' := 963) (st' := [.inr (some (17, 0)), .inr (some (0, 0))]) rfl ?_
                                                refine xw.s (pc' := 964) (st' := [.inl l3, .inr (some (17, 0)), .inr (some (0, 0))]) rfl ?_
                                                refine xw.s (pc' := 965) (st' := [.inl (1 : Int32), .inl l3, .inr (some (17, 0)), .inr (some (0, 0))]) rfl ?_
                                                refine xw.s (pc' := 966) (st' := [.inl (l3 + (1 : Int32)), .inr (some (17, 0)), .inr (some (0, 0))]) rfl ?_
                                                obtain ⟨z276, h⟩ := h
                                                refine xw.ild (c := 17) (nx := 967) (v := (xm_i S 17 0 (y_ix (l3 + (1 : Int32))))) rfl (by decide) z276 rfl ?_
                                                refine xw.s (pc' := 968) (st' := [.inr (some (17, 0)), .inl (xm_i S 17 0 (y_ix (l3 + (1 : Int32)))), .inr (some (0, 0))]) rfl ?_
                                                refine xw.s (pc' := 969) (st' := [.inl l3, .inr (some (17, 0)), .inl (xm_i S 17 0 (y_ix (l3 + (1 : Int32)))), .inr (some (0, 0))]) rfl ?_
                                                refine xw.s (pc' := 970) (st' := [.inl (2 : Int32), .inl l3, .inr (some (17, 0)), .inl (xm_i S 17 0 (y_ix (l3 + (1 : Int32)))), .inr (some (0, 0))]) rfl ?_
                                                refine xw.s (pc' := 971) (st' := [.inl (l3 + (2 : Int32)), .inr (some (17, 0)), .inl (xm_i S 17 0 (y_ix (l3 + (1 : Int32)))), .inr (some (0, 0))]) rfl ?_
                                                obtain ⟨z277, h⟩ := h
                                                refine xw.ild (c := 17) (nx := 972) (v := (xm_i S 17 0 (y_ix (l3 + (2 : Int32))))) rfl (by decide) z277 rfl ?_
                                                refine xw.call (m := 80) (as := [.inr (some (0, 0)), .inl (xm_i S 17 0 (y_ix (l3 + (1 : Int32)))), .inl (xm_i S 17 0 (y_ix (l3 + (2 : Int32))))]) (nx := 975) (L' := [some (.inr (some (17, 0))), some (.inr (some (0, 0))), some (.inr (some (11, 0))), some (.inl l3)]) (st' := []) rfl (xc.mono h ?_)
                                                rintro r S278 ⟨x280, rfl, hC279, h⟩
                                                show xw _ _ 975 [some (.inr (some (17, 0))), some (.inr (some (0, 0))), some (.inr (some (11, 0))), some (.inl l3)] [.inl x280] _ _
                                                refine xw.s (pc' := 976) (st' := [.inr (some (11, 0)), .inl x280]) rfl ?_
                                                refine xw.s (pc' := 977) (st' := [.inr (some (17, 0)), .inr (some (11, 0)), .inl x280]) rfl ?_
                                                refine xw.s (pc' := 978) (st' := [.inl l3, .inr (some (17, 0)), .inr (some (11, 0)), .inl x280]) rfl ?_
                                                refine xw.s (pc' := 979) (st' := [.inl (1 : Int32), .inl l3, .inr (some (17, 0)), .inr (some (11, 0)), .inl x280]) rfl ?_
                                                refine xw.s (pc' := 980) (st' := [.inl (l3 + (1 : Int32)), .inr (some (17, 0)), .inr (some (11, 0)), .inl x280]) rfl ?_
                                                obtain ⟨z281, h⟩ := h
                                                refine xw.ild (c := 17) (nx := 981) (v := (xm_i S278 17 0 (y_ix (l3 + (1 : Int32))))) rfl (by decide) z281 rfl ?_
                                                refine xw.s (pc' := 982) (st' := [.inr (some (17, 0)), .inl (xm_i S278 17 0 (y_ix (l3 + (1 : Int32)))), .inr (some (11, 0)), .inl x280]) rfl ?_
                                                refine xw.s (pc' := 983) (st' := [.inl l3, .inr (some (17, 0)), .inl (xm_i S278 17 0 (y_ix (l3 + (1 : Int32)))), .inr (some (11, 0)), .inl x280]) rfl ?_
                                                refine xw.s (pc' := 984) (st' := [.inl (2 : Int32), .inl l3, .inr (some (17, 0)), .inl (xm_i S278 17 0 (y_ix (l3 + (1 : Int32)))), .inr (some (11, 0)), .inl x280]) rfl ?_
                                                refine xw.s (pc' := 985) (st' := [.inl (l3 + (2 : Int32)), .inr (some (17, 0)), .inl (xm_i S278 17 0 (y_ix (l3 + (1 : Int32)))), .inr (some (11, 0)), .inl x280]) rfl ?_
                                                obtain ⟨z282, h⟩ := h
                                                refine xw.ild (c := 17) (nx := 986) (v := (xm_i S278 17 0 (y_ix (l3 + (2 : Int32))))) rfl (by decide) z282 rfl ?_
                                                refine xw.call (m := 175) (as := [.inr (some (11, 0)), .inl (xm_i S278 17 0 (y_ix (l3 + (1 : Int32)))), .inl (xm_i S278 17 0 (y_ix (l3 + (2 : Int32))))]) (nx := 989) (L' := [some (.inr (some (17, 0))), some (.inr (some (0, 0))), some (.inr (some (11, 0))), some (.inl l3)]) (st' := [.inl x280]) rfl (xc.mono h ?_)
                                                rintro r S283 ⟨x285, rfl, hC284, h⟩
                                                show xw _ _ 989 [some (.inr (some (17, 0))), some (.inr (some (0, 0))), some (.inr (some (11, 0))), some (.inl l3)] [.inl x285, .inl x280] _ _
                                                refine xw.b (c := x280 = x285) (cd := .eq) (x := x280) (y := x285) 1205 992 (st' := []) rfl (y_ceq _ _) h (fun c286 h => ?_) (fun c286 h => ?_)
                                                · skip
                                                  refine xw.s (pc' := 1208) (st' := []) (L' := [some (.inr (some (17, 0))), some (.inr (some (0, 0))), some (.inr (some (11, 0))), some (.inl (l3 + (8 : Int32)))]) rfl ?_
                                                  refine xw.s (pc' := 18) (st' := []) rfl ?_
                                                  exact h
                                                · skip
                                                  refine xw.s (pc' := 993) (st' := [.inl (0 : Int32)]) rfl ?_
                                                  exact xw.retz (nx := 994) rfl (Or.inl rfl) h
                                              · skip
                                                refine xw.bw (22 : Int32) rfl h (fun c287 h => ?_) (fun c287 h => ?_)
                                                · skip
                                                  refine xw.s (pc' := 995) (st' := [.inr (some (0, 0))]) rfl ?_
                                                  refine xw.s (pc' := 996) (st' := [.inr (some (17, 0)), .inr (some (0, 0))]) rfl ?_
                                                  refine xw.s (pc' := 997) (st' := [.inl l3, .inr (some (17, 0)), .inr (some (0, 0))]) rfl ?_
                                                  refine xw.s (pc' := 998) (st' := [.inl (1 : Int32), .inl l3, .inr (some (17, 0)), .inr (some (0, 0))]) rfl ?_
                                                  refine xw.s (pc' := 999) (st' := [.inl (l3 + (1 : Int32)), .inr (some (17, 0)), .inr (some (0, 0))]) rfl ?_
                                                  obtain ⟨z288, h⟩ := h
                                                  refine xw.ild (c := 17) (nx := 1000) (v := (xm_i S 17 0 (y_ix (l3 + (1 : Int32))))) rfl (by decide) z288 rfl ?_
                                                  refine xw.call (m := 81) (as := [.inr (some (0, 0)), .inl (xm_i S 17 0 (y_ix (l3 + (1 : Int32))))]) (nx := 1003) (L' := [some (.inr (some (17, 0))), some (.inr (some (0, 0))), some (.inr (some (11, 0))), some (.inl l3)]) (st' := []) rfl (xc.mono h ?_)
                                                  rintro r S289 ⟨x291, rfl, hC290, h⟩
                                                  show xw _ _ 1003 [some (.inr (some (17, 0))), some (.inr (some (0, 0))), some (.inr (some (11, 0))), some (.inl l3)] [.inl x291] _ _
                                                  refine xw.s (pc' := 1004) (st' := [.inr (some (11, 0)), .inl x291]) rfl ?_
                                                  refine xw.s (pc' := 1005) (st' := [.inr (some (17, 0)), .inr (some (11, 0)), .inl x291]) rfl ?_
                                                  refine xw.s (pc' := 1006) (st' := [.inl l3, .inr (some (17, 0)), .inr (some (11, 0)), .inl x291]) rfl ?_
                                                  refine xw.s (pc' := 1007) (st' := [.inl (1 : Int32), .inl l3, .inr (some (17, 0)), .inr (some (11, 0)), .inl x291]) rfl ?_
                                                  refine xw.s (pc' := 1008) (st' := [.inl (l3 + (1 : Int32)), .inr (some (17, 0)), .inr (some (11, 0)), .inl x291]) rfl ?_
                                                  obtain ⟨z292, h⟩ := h
                                                  refine xw.ild (c := 17) (nx := 1009) (v := (xm_i S289 17 0 (y_ix (l3 + (1 : Int32))))) rfl (by decide) z292 rfl ?_
                                                  refine xw.call (m := 176) (as := [.inr (some (11, 0)), .inl (xm_i S289 17 0 (y_ix (l3 + (1 : Int32))))]) (nx := 1012) (L' := [some (.inr (some (17, 0))), some (.inr (some (0, 0))), some (.inr (some (11, 0))), some (.inl l3)]) (st' := [.inl x291]) rfl (xc.mono h ?_)
                                                  rintro r S293 ⟨x295, rfl, hC294, h⟩
                                                  show xw _ _ 1012 [some (.inr (some (17, 0))), some (.inr (some (0, 0))), some (.inr (some (11, 0))), some (.inl l3)] [.inl x295, .inl x291] _ _
                                                  refine xw.b (c := x291 = x295) (cd := .eq) (x := x291) (y := x295) 1205 1015 (st' := []) rfl (y_ceq _ _) h (fun c296 h => ?_) (fun c296 h => ?_)
                                                  · skip
                                                    refine xw.s (pc' := 1208) (st' := []) (L' := [some (.inr (some (17, 0))), some (.inr (some (0, 0))), some (.inr (some (11, 0))), some (.inl (l3 + (8 : Int32)))]) rfl ?_
                                                    refine xw.s (pc' := 18) (st' := []) rfl ?_
                                                    exact h
                                                  · skip
                                                    refine xw.s (pc' := 1016) (st' := [.inl (0 : Int32)]) rfl ?_
                                                    exact xw.retz (nx := 1017) rfl (Or.inl rfl) h
                                                · skip
                                                  refine xw.bw (23 : Int32) rfl h (fun c297 h => ?_) (fun c297 h => ?_)
                                                  · skip
                                                    refine xw.s (pc' := 1018) (st' := [.inr (some (0, 0))]) rfl ?_
                                                    refine xw.s (pc' := 1019) (st' := [.inr (some (17, 0)), .inr (some (0, 0))]) rfl ?_
                                                    refine xw.s (pc' := 1020) (st' := [.inl l3, .inr (some (17, 0)), .inr (some (0, 0))]) rfl ?_
                                                    refine xw.s (pc' := 1021) (st' := [.inl (1 : Int32), .inl l3, .inr (some (17, 0)), .inr (some (0, 0))]) rfl ?_
                                                    refine xw.s (pc' := 1022) (st' := [.inl (l3 + (1 : Int32)), .inr (some (17, 0)), .inr (some (0, 0))]) rfl ?_
                                                    obtain ⟨z298, h⟩ := h
                                                    refine xw.ild (c := 17) (nx := 1023) (v := (xm_i S 17 0 (y_ix (l3 + (1 : Int32))))) rfl (by decide) z298 rfl ?_
                                                    refine xw.s (pc' := 1024) (st' := [.inr (some (17, 0)), .inl (xm_i S 17 0 (y_ix (l3 + (1 : Int32)))), .inr (some (0, 0))]) rfl ?_
                                                    refine xw.s (pc' := 1025) (st' := [.inl l3, .inr (some (17, 0)), .inl (xm_i S 17 0 (y_ix (l3 + (1 : Int32)))), .inr (some (0, 0))]) rfl ?_
                                                    refine xw.s (pc' := 1026) (st' := [.inl (2 : Int32), .inl l3, .inr (some (17, 0)), .inl (xm_i S 17 0 (y_ix (l3 + (1 : Int32)))), .inr (some (0, 0))]) rfl ?_
                                                    refine xw.s (pc' := 1027) (st' := [.inl (l3 + (2 : Int32)), .inr (some (17, 0)), .inl (xm_i S 17 0 (y_ix (l3 + (1 : Int32)))), .inr (some (0, 0))]) rfl ?_
                                                    obtain ⟨z299, h⟩ := h
                                                    refine xw.ild (c := 17) (nx := 1028) (v := (xm_i S 17 0 (y_ix (l3 + (2 : Int32))))) rfl (by decide) z299 rfl ?_
                                                    refine xw.s (pc' := 1029) (st' := [.inr (some (17, 0)), .inl (xm_i S 17 0 (y_ix (l3 + (2 : Int32)))), .inl (xm_i S 17 0 (y_ix (l3 + (1 : Int32)))), .inr (some (0, 0))]) rfl ?_
                                                    refine xw.s (pc' := 1030) (st' := [.inl l3, .inr (some (17, 0)), .inl (xm_i S 17 0 (y_ix (l3 + (2 : Int32)))), .inl (xm_i S 17 0 (y_ix (l3 + (1 : Int32)))), .inr (some (0, 0))]) rfl ?_
                                                    refine xw.s (pc' := 1031) (st' := [.inl (3 : Int32), .inl l3, .inr (some (17, 0)), .inl (xm_i S 17 0 (y_ix (l3 + (2 : Int32)))), .inl (xm_i S 17 0 (y_ix (l3 + (1 : Int32)))), .inr (some (0, 0))]) rfl ?_
                                                    refine xw.s (pc' := 1032) (st' := [.inl (l3 + (3 : Int32)), .inr (some (17, 0)), .inl (xm_i S 17 0 (y_ix (l3 + (2 : Int32)))), .inl (xm_i S 17 0 (y_ix (l3 + (1 : Int32)))), .inr (some (0, 0))]) rfl ?_
                                                    obtain ⟨z300, h⟩ := h
                                                    refine xw.ild (c := 17) (nx := 1033) (v := (xm_i S 17 0 (y_ix (l3 + (3 : Int32))))) rfl (by decide) z300 rfl ?_
                                                    refine xw.call (m := 82) (as := [.inr (some (0, 0)), .inl (xm_i S 17 0 (y_ix (l3 + (1 : Int32)))), .inl (xm_i S 17 0 (y_ix (l3 + (2 : Int32)))), .inl (xm_i S 17 0 (y_ix (l3 + (3 : Int32))))]) (nx := 1036) (L' := [some (.inr (some (17, 0))), some (.inr (some (0, 0))), some (.inr (some (11, 0))), some (.inl l3)]) (st' := []) rfl (xc.mono h ?_)
                                                    rintro r S301 ⟨x303, rfl, hC302, h⟩
                                                    show xw _ _ 1036 [some (.inr (some (17, 0))), some (.inr (some (0, 0))), some (.inr (some (11, 0))), some (.inl l3)] [.inl x303] _ _
                                                    refine xw.s (pc' := 1037) (st' := [.inr (some (11, 0)), .inl x303]) rfl ?_
                                                    refine xw.s (pc' := 1038) (st' := [.inr (some (17, 0)), .inr (some (11, 0)), .inl x303]) rfl ?_
                                                    refine xw.s (pc' := 1039) (st' := [.inl l3, .inr (some (17, 0)), .inr (some (11, 0)), .inl x303]) rfl ?_
                                                    refine xw.s (pc' := 1040) (st' := [.inl (1 : Int32), .inl l3, .inr (some (17, 0)), .inr (some (11, 0)), .inl x303]) rfl ?_
                                                    refine xw.s (pc' := 1041) (st' := [.inl (l3 + (1 : Int32)), .inr (some (17, 0)), .inr (some (11, 0)), .inl x303]) rfl ?_
                                                    obtain ⟨z304, h⟩ := h
                                                    refine xw.ild (c := 17) (nx := 1042) (v := (xm_i S301 17 0 (y_ix (l3 + (1 : Int32))))) rfl (by decide) z304 rfl ?_
                                                    refine xw.s (pc' := 1043) (st' := [.inr (some (17, 0)), .inl (xm_i S301 17 0 (y_ix (l3 + (1 : Int32)))), .inr (some (11, 0)), .inl x303]) rfl ?_
                                                    refine xw.s (pc' := 1044) (st' := [.inl l3, .inr (some (17, 0)), .inl (xm_i S301 17 0 (y_ix (l3 + (1 : Int32)))), .inr (some (11, 0)), .inl x303]) rfl ?_
                                                    refine xw.s (pc' := 1045) (st' := [.inl (2 : Int32), .inl l3, .inr (some (17, 0)), .inl (xm_i S301 17 0 (y_ix (l3 + (1 : Int32)))), .inr (some (11, 0)), .inl x303]) rfl ?_
                                                    refine xw.s (pc' := 1046) (st' := [.inl (l3 + (2 : Int32)), .inr (some (17, 0)), .inl (xm_i S301 17 0 (y_ix (l3 + (1 : Int32)))), .inr (some (11, 0)), .inl x303]) rfl ?_
                                                    obtain ⟨z305, h⟩ := h
                                                    refine xw.ild (c := 17) (nx := 1047) (v := (xm_i S301 17 0 (y_ix (l3 + (2 : Int32))))) rfl (by decide) z305 rfl ?_
                                                    refine xw.s (pc' := 1048) (st' := [.inr (some (17, 0)), .inl (xm_i S301 17 0 (y_ix (l3 + (2 : Int32)))), .inl (xm_i S301 17 0 (y_ix (l3 + (1 : Int32)))), .inr (some (11, 0)), .inl x303]) rfl ?_
                                                    refine xw.s (pc' := 1049) (st' := [.inl l3, .inr (some (17, 0)), .inl (xm_i S301 17 0 (y_ix (l3 + (2 : Int32)))), .inl (xm_i S301 17 0 (y_ix (l3 + (1 : Int32)))), .inr (some (11, 0)), .inl x303]) rfl ?_
                                                    refine xw.s (pc' := 1050) (st' := [.inl (3 : Int32), .inl l3, .inr (some (17, 0)), .inl (xm_i S301 17 0 (y_ix (l3 + (2 : Int32)))), .inl (xm_i S301 17 0 (y_ix (l3 + (1 : Int32)))), .inr (some (11, 0)), .inl x303]) rfl ?_
                                                    refine xw.s (pc' := 1051) (st' := [.inl (l3 + (3 : Int32)), .inr (some (17, 0)), .inl (xm_i S301 17 0 (y_ix (l3 + (2 : Int32)))), .inl (xm_i S301 17 0 (y_ix (l3 + (1 : Int32)))), .inr (some (11, 0)), .inl x303]) rfl ?_
                                                    obtain ⟨z306, h⟩ := h
                                                    refine xw.ild (c := 17) (nx := 1052) (v := (xm_i S301 17 0 (y_ix (l3 + (3 : Int32))))) rfl (by decide) z306 rfl ?_
                                                    refine xw.call (m := 177) (as := [.inr (some (11, 0)), .inl (xm_i S301 17 0 (y_ix (l3 + (1 : Int32)))), .inl (xm_i S301 17 0 (y_ix (l3 + (2 : Int32)))), .inl (xm_i S301 17 0 (y_ix (l3 + (3 : Int32))))]) (nx := 1055) (L' := [some (.inr (some (17, 0))), some (.inr (some (0, 0))), some (.inr (some (11, 0))), some (.inl l3)]) (st' := [.inl x303]) rfl (xc.mono h ?_)
                                                    rintro r S307 ⟨x309, rfl, hC308, h⟩
                                                    show xw _ _ 1055 [some (.inr (some (17, 0))), some (.inr (some (0, 0))), some (.inr (some (11, 0))), some (.inl l3)] [.inl x309, .inl x303] _ _
                                                    refine xw.b (c := x303 = x309) (cd := .eq) (x := x303) (y := x309) 1205 1058 (st' := []) rfl (y_ceq _ _) h (fun c310 h => ?_) (fun c310 h => ?_)
                                                    · skip
                                                      refine xw.s (pc' := 1208) (st' := []) (L' := [some (.inr (some (17, 0))), some (.inr (some (0, 0))), some (.inr (some (11, 0))), some (.inl (l3 + (8 : Int32)))]) rfl ?_
                                                      refine xw.s (pc' := 18) (st' := []) rfl ?_
                                                      exact h
                                                    · skip
                                                      refine xw.s (pc' := 1059) (st' := [.inl (0 : Int32)]) rfl ?_
                                                      exact xw.retz (nx := 1060) rfl (Or.inl rfl) h
                                                  · skip
                                                    refine xw.bw (24 : Int32) rfl h (fun c311 h => ?_) (fun c311 h => ?_)
                                                    · skip
                                                      refine xw.s (pc' := 1061) (st' := [.inr (some (0, 0))]) rfl ?_
                                                      refine xw.s (pc' := 1062) (st' := [.inr (some (17, 0)), .inr (some (0, 0))]) rfl ?_
                                                      refine xw.s (pc' := 1063) (st' := [.inl l3, .inr (some (17, 0)), .inr (some (0, 0))]) rfl ?_
                                                      refine xw.s (pc' := 1064) (st' := [.inl (1 : Int32), .inl l3, .inr (some (17, 0)), .inr (some (0, 0))]) rfl ?_
                                                      refine xw.s (pc' := 1065) (st' := [.inl (l3 + (1 : Int32)), .inr (some (17, 0)), .inr (some (0, 0))]) rfl ?_
                                                      obtain ⟨z312, h⟩ := h
                                                      refine xw.ild (c := 17) (nx := 1066) (v := (xm_i S 17 0 (y_ix (l3 + (1 : Int32))))) rfl (by decide) z312 rfl ?_
                                                      refine xw.s (pc' := 1067) (st' := [.inr (some (17, 0)), .inl (xm_i S 17 0 (y_ix (l3 + (1 : Int32)))), .inr (some (0, 0))]) rfl ?_
                                                      refine xw.s (pc' := 1068) (st' := [.inl l3, .inr (some (17, 0)), .inl (xm_i S 17 0 (y_ix (l3 + (1 : Int32)))), .inr (some (0, 0))]) rfl ?_
                                                      refine xw.s (pc' := 1069) (st' := [.inl (2 : Int32), .inl l3, .inr (some (17, 0)), .inl (xm_i S 17 0 (y_ix (l3 + (1 : Int32)))), .inr (some (0, 0))]) rfl ?_
                                                      refine xw.s (pc' := 1070) (st' := [.inl (l3 + (2 : Int32)), .inr (some (17, 0)), .inl (xm_i S 17 0 (y_ix (l3 + (1 : Int32)))), .inr (some (0, 0))]) rfl ?_
                                                      obtain ⟨z313, h⟩ := h
                                                      refine xw.ild (c := 17) (nx := 1071) (v := (xm_i S 17 0 (y_ix (l3 + (2 : Int32))))) rfl (by decide) z313 rfl ?_
                                                      refine xw.call (m := 83) (as := [.inr (some (0, 0)), .inl (xm_i S 17 0 (y_ix (l3 + (1 : Int32)))), .inl (xm_i S 17 0 (y_ix (l3 + (2 : Int32))))]) (nx := 1074) (L' := [some (.inr (some (17, 0))), some (.inr (some (0, 0))), some (.inr (some (11, 0))), some (.inl l3)]) (st' := []) rfl (xc.mono h ?_)
                                                      rintro r S314 ⟨x316, rfl, hC315, h⟩
                                                      show xw _ _ 1074 [some (.inr (some (17, 0))), some (.inr (some (0, 0))), some (.inr (some (11, 0))), some (.inl l3)] [.inl x316] _ _
                                                      refine xw.s (pc' := 1075) (st' := [.inr (some (11, 0)), .inl x316]) rfl ?_
                                                      refine xw.s (pc' := 1076) (st' := [.inr (some (17, 0)), .inr (some (11, 0)), .inl x316]) rfl ?_
                                                      refine xw.s (pc' := 1077) (st' := [.inl l3, .inr (some (17, 0)), .inr (some (11, 0)), .inl x316]) rfl ?_
                                                      refine xw.s (pc' := 1078) (st' := [.inl (1 : Int32), .inl l3, .inr (some (17, 0)), .inr (some (11, 0)), .inl x316]) rfl ?_
                                                      refine xw.s (pc' := 1079) (st' := [.inl (l3 + (1 : Int32)), .inr (some (17, 0)), .inr (some (11, 0)), .inl x316]) rfl ?_
                                                      obtain ⟨z317, h⟩ := h
                                                      refine xw.ild (c := 17) (nx := 1080) (v := (xm_i S314 17 0 (y_ix (l3 + (1 : Int32))))) rfl (by decide) z317 rfl ?_
                                                      refine xw.s (pc' := 1081) (st' := [.inr (some (17, 0)), .inl (xm_i S314 17 0 (y_ix (l3 + (1 : Int32)))), .inr (some (11, 0)), .inl x316]) rfl ?_
                                                      refine xw.s (pc' := 1082) (st' := [.inl l3, .inr (some (17, 0)), .inl (xm_i S314 17 0 (y_ix (l3 + (1 : Int32)))), .inr (some (11, 0)), .inl x316]) rfl ?_
                                                      refine xw.s (pc' := 1083) (st' := [.inl (2 : Int32), .inl l3, .inr (some (17, 0)), .inl (xm_i S314 17 0 (y_ix (l3 + (1 : Int32)))), .inr (some (11, 0)), .inl x316]) rfl ?_
                                                      refine xw.s (pc' := 1084) (st' := [.inl (l3 + (2 : Int32)), .inr (some (17, 0)), .inl (xm_i S314 17 0 (y_ix (l3 + (1 : Int32)))), .inr (some (11, 0)), .inl x316]) rfl ?_
                                                      obtain ⟨z318, h⟩ := h
                                                      refine xw.ild (c := 17) (nx := 1085) (v := (xm_i S314 17 0 (y_ix (l3 + (2 : Int32))))) rfl (by decide) z318 rfl ?_
                                                      refine xw.call (m := 178) (as := [.inr (some (11, 0)), .inl (xm_i S314 17 0 (y_ix (l3 + (1 : Int32)))), .inl (xm_i S314 17 0 (y_ix (l3 + (2 : Int32))))]) (nx := 1088) (L' := [some (.inr (some (17, 0))), some (.inr (some (0, 0))), some (.inr (some (11, 0))), some (.inl l3)]) (st' := [.inl x316]) rfl (xc.mono h ?_)
                                                      rintro r S319 ⟨x321, rfl, hC320, h⟩
                                                      show xw _ _ 1088 [some (.inr (some (17, 0))), some (.inr (some (0, 0))), some (.inr (some (11, 0))), some (.inl l3)] [.inl x321, .inl x316] _ _
                                                      refine xw.b (c := x316 = x321) (cd := .eq) (x := x316) (y := x321) 1205 1091 (st' := []) rfl (y_ceq _ _) h (fun c322 h => ?_) (fun c322 h => ?_)
                                                      · skip
                                                        refine xw.s (pc' := 1208) (st' := []) (L' := [some (.inr (some (17, 0))), some (.inr (some (0, 0))), some (.inr (some (11, 0))), some (.inl (l3 + (8 : Int32)))]) rfl ?_
                                                        refine xw.s (pc' := 18) (st' := []) rfl ?_
                                                        exact h
                                                      · skip
                                                        refine xw.s (pc' := 1092) (st' := [.inl (0 : Int32)]) rfl ?_
                                                        exact xw.retz (nx := 1093) rfl (Or.inl rfl) h
                                                    · skip
                                                      refine xw.bw (25 : Int32) rfl h (fun c323 h => ?_) (fun c323 h => ?_)
                                                      · skip
                                                        refine xw.s (pc' := 1094) (st' := [.inr (some (0, 0))]) rfl ?_
                                                        refine xw.s (pc' := 1095) (st' := [.inr (some (17, 0)), .inr (some (0, 0))]) rfl ?_
                                                        refine xw.s (pc' := 1096) (st' := [.inl l3, .inr (some (17, 0)), .inr (some (0, 0))]) rfl ?_
                                                        refine xw.s (pc' := 1097) (st' := [.inl (1 : Int32), .inl l3, .inr (some (17, 0)), .inr (some (0, 0))]) rfl ?_
                                                        refine xw.s (pc' := 1098) (st' := [.inl (l3 + (1 : Int32)), .inr (some (17, 0)), .inr (some (0, 0))]) rfl ?_
                                                        obtain ⟨z324, h⟩ := h
                                                        refine xw.ild (c := 17) (nx := 1099) (v := (xm_i S 17 0 (y_ix (l3 + (1 : Int32))))) rfl (by decide) z324 rfl ?_
                                                        refine xw.call (m := 84) (as := [.inr (some (0, 0)), .inl (xm_i S 17 0 (y_ix (l3 + (1 : Int32))))]) (nx := 1102) (L' := [some (.inr (some (17, 0))), some (.inr (some (0, 0))), some (.inr (some (11, 0))), some (.inl l3)]) (st' := []) rfl (xc.mono h ?_)
                                                        rintro r S325 ⟨x327, rfl, hC326, h⟩
                                                        show xw _ _ 1102 [some (.inr (some (17, 0))), some (.inr (some (0, 0))), some (.inr (some (11, 0))), some (.inl l3)] [.inl x327] _ _
                                                        refine xw.s (pc' := 1103) (st' := [.inr (some (11, 0)), .inl x327]) rfl ?_
                                                        refine xw.s (pc' := 1104) (st' := [.inr (some (17, 0)), .inr (some (11, 0)), .inl x327]) rfl ?_
                                                        refine xw.s (pc' := 1105) (st' := [.inl l3, .inr (some (17, 0)), .inr (some (11, 0)), .inl x327]) rfl ?_
                                                        refine xw.s (pc' := 1106) (st' := [.inl (1 : Int32), .inl l3, .inr (some (17, 0)), .inr (some (11, 0)), .inl x327]) rfl ?_
                                                        refine xw.s (pc' := 1107) (st' := [.inl (l3 + (1 : Int32)), .inr (some (17, 0)), .inr (some (11, 0)), .inl x327]) rfl ?_
                                                        obtain ⟨z328, h⟩ := h
                                                        refine xw.ild (c := 17) (nx := 1108) (v := (xm_i S325 17 0 (y_ix (l3 + (1 : Int32))))) rfl (by decide) z328 rfl ?_
                                                        refine xw.call (m := 179) (as := [.inr (some (11, 0)), .inl (xm_i S325 17 0 (y_ix (l3 + (1 : Int32))))]) (nx := 1111) (L' := [some (.inr (some (17, 0))), some (.inr (some (0, 0))), some (.inr (some (11, 0))), some (.inl l3)]) (st' := [.inl x327]) rfl (xc.mono h ?_)
                                                        rintro r S329 ⟨x331, rfl, hC330, h⟩
                                                        show xw _ _ 1111 [some (.inr (some (17, 0))), some (.inr (some (0, 0))), some (.inr (some (11, 0))), some (.inl l3)] [.inl x331, .inl x327] _ _
                                                        refine xw.b (c := x327 = x331) (cd := .eq) (x := x327) (y := x331) 1205 1114 (st' := []) rfl (y_ceq _ _) h (fun c332 h => ?_) (fun c332 h => ?_)
                                                        · skip
                                                          refine xw.s (pc' := 1208) (st' := []) (L' := [some (.inr (some (17, 0))), some (.inr (some (0, 0))), some (.inr (some (11, 0))), some (.inl (l3 + (8 : Int32)))]) rfl ?_
                                                          refine xw.s (pc' := 18) (st' := []) rfl ?_
                                                          exact h
                                                        · skip
                                                          refine xw.s (pc' := 1115) (st' := [.inl (0 : Int32)]) rfl ?_
                                                          exact xw.retz (nx := 1116) rfl (Or.inl rfl) h
                                                      · skip
                                                        refine xw.bw (26 : Int32) rfl h (fun c333 h => ?_) (fun c333 h => ?_)
                                                        · skip
                                                          refine xw.s (pc' := 1117) (st' := [.inr (some (0, 0))]) rfl ?_
                                                          refine xw.s (pc' := 1118) (st' := [.inr (some (17, 0)), .inr (some (0, 0))]) rfl ?_
                                                          refine xw.s (pc' := 1119) (st' := [.inl l3, .inr (some (17, 0)), .inr (some (0, 0))]) rfl ?_
                                                          refine xw.s (pc' := 1120) (st' := [.inl (1 : Int32), .inl l3, .inr (some (17, 0)), .inr (some (0, 0))]) rfl ?_
                                                          refine xw.s (pc' := 1121) (st' := [.inl (l3 + (1 : Int32)), .inr (some (17, 0)), .inr (some (0, 0))]) rfl ?_
                                                          obtain ⟨z334, h⟩ := h
                                                          refine xw.ild (c := 17) (nx := 1122) (v := (xm_i S 17 0 (y_ix (l3 + (1 : Int32))))) rfl (by decide) z334 rfl ?_
                                                          refine xw.s (pc' := 1123) (st' := [.inr (some (17, 0)), .inl (xm_i S 17 0 (y_ix (l3 + (1 : Int32)))), .inr (some (0, 0))]) rfl ?_
                                                          refine xw.s (pc' := 1124) (st' := [.inl l3, .inr (some (17, 0)), .inl (xm_i S 17 0 (y_ix (l3 + (1 : Int32)))), .inr (some (0, 0))]) rfl ?_
                                                          refine xw.s (pc' := 1125) (st' := [.inl (2 : Int32), .inl l3, .inr (some (17, 0)), .inl (xm_i S 17 0 (y_ix (l3 + (1 : Int32)))), .inr (some (0, 0))]) rfl ?_
                                                          refine xw.s (pc' := 1126) (st' := [.inl (l3 + (2 : Int32)), .inr (some (17, 0)), .inl (xm_i S 17 0 (y_ix (l3 + (1 : Int32)))), .inr (some (0, 0))]) rfl ?_
                                                          obtain ⟨z335, h⟩ := h
                                                          refine xw.ild (c := 17) (nx := 1127) (v := (xm_i S 17 0 (y_ix (l3 + (2 : Int32))))) rfl (by decide) z335 rfl ?_
                                                          refine xw.call (m := 85) (as := [.inr (some (0, 0)), .inl (xm_i S 17 0 (y_ix (l3 + (1 : Int32)))), .inl (xm_i S 17 0 (y_ix (l3 + (2 : Int32))))]) (nx := 1130) (L' := [some (.inr (some (17, 0))), some (.inr (some (0, 0))), some (.inr (some (11, 0))), some (.inl l3)]) (st' := []) rfl (xc.mono h ?_)
                                                          rintro r S336 ⟨x338, rfl, hC337, h⟩
                                                          show xw _ _ 1130 [some (.inr (some (17, 0))), some (.inr (some (0, 0))), some (.inr (some (11, 0))), some (.inl l3)] [.inl x338] _ _
                                                          refine xw.s (pc' := 1131) (st' := [.inr (some (11, 0)), .inl x338]) rfl ?_
                                                          refine xw.s (pc' := 1132) (st' := [.inr (some (17, 0)), .inr (some (11, 0)), .inl x338]) rfl ?_
                                                          refine xw.s (pc' := 1133) (st' := [.inl l3, .inr (some (17, 0)), .inr (some (11, 0)), .inl x338]) rfl ?_
                                                          refine xw.s (pc' := 1134) (st' := [.inl (1 : Int32), .inl l3, .inr (some (17, 0)), .inr (some (11, 0)), .inl x338]) rfl ?_
                                                          refine xw.s (pc' := 1135) (st' := [.inl (l3 + (1 : Int32)), .inr (some (17, 0)), .inr (some (11, 0)), .inl x338]) rfl ?_
                                                          obtain ⟨z339, h⟩ := h
                                                          refine xw.ild (c := 17) (nx := 1136) (v := (xm_i S336 17 0 (y_ix (l3 + (1 : Int32))))) rfl (by decide) z339 rfl ?_
                                                          refine xw.s (pc' := 1137) (st' := [.inr (some (17, 0)), .inl (xm_i S336 17 0 (y_ix (l3 + (1 : Int32)))), .inr (some (11, 0)), .inl x338]) rfl ?_
                                                          refine xw.s (pc' := 1138) (st' := [.inl l3, .inr (some (17, 0)), .inl (xm_i S336 17 0 (y_ix (l3 + (1 : Int32)))), .inr (some (11, 0)), .inl x338]) rfl ?_
                                                          refine xw.s (pc' := 1139) (st' := [.inl (2 : Int32), .inl l3, .inr (some (17, 0)), .inl (xm_i S336 17 0 (y_ix (l3 + (1 : Int32)))), .inr (some (11, 0)), .inl x338]) rfl ?_
                                                          refine xw.s (pc' := 1140) (st' := [.inl (l3 + (2 : Int32)), .inr (some (17, 0)), .inl (xm_i S336 17 0 (y_ix (l3 + (1 : Int32)))), .inr (some (11, 0)), .inl x338]) rfl ?_
                                                          obtain ⟨z340, h⟩ := h
                                                          refine xw.ild (c := 17) (nx := 1141) (v := (xm_i S336 17 0 (y_ix (l3 + (2 : Int32))))) rfl (by decide) z340 rfl ?_
                                                          refine xw.call (m := 180) (as := [.inr (some (11, 0)), .inl (xm_i S336 17 0 (y_ix (l3 + (1 : Int32)))), .inl (xm_i S336 17 0 (y_ix (l3 + (2 : Int32))))]) (nx := 1144) (L' := [some (.inr (some (17, 0))), some (.inr (some (0, 0))), some (.inr (some (11, 0))), some (.inl l3)]) (st' := [.inl x338]) rfl (xc.mono h ?_)
                                                          rintro r S341 ⟨x343, rfl, hC342, h⟩
                                                          show xw _ _ 1144 [some (.inr (some (17, 0))), some (.inr (some (0, 0))), some (.inr (some (11, 0))), some (.inl l3)] [.inl x343, .inl x338] _ _
                                                          refine xw.b (c := x338 = x343) (cd := .eq) (x := x338) (y := x343) 1205 1147 (st' := []) rfl (y_ceq _ _) h (fun c344 h => ?_) (fun c344 h => ?_)
                                                          · skip
                                                            refine xw.s (pc' := 1208) (st' := []) (L' := [some (.inr (some (17, 0))), some (.inr (some (0, 0))), some (.inr (some (11, 0))), some (.inl (l3 + (8 : Int32)))]) rfl ?_
                                                            refine xw.s (pc' := 18) (st' := []) rfl ?_
                                                            exact h
                                                          · skip
                                                            refine xw.s (pc' := 1148) (st' := [.inl (0 : Int32)]) rfl ?_
                                                            exact xw.retz (nx := 1149) rfl (Or.inl rfl) h
                                                        · skip
                                                          refine xw.bw (27 : Int32) rfl h (fun c345 h => ?_) (fun c345 h => ?_)
                                                          · skip
                                                            refine xw.s (pc' := 1150) (st' := [.inr (some (0, 0))]) rfl ?_
                                                            refine xw.s (pc' := 1151) (st' := [.inr (some (17, 0)), .inr (some (0, 0))]) rfl ?_
                                                            refine xw.s (pc' := 1152) (st' := [.inl l3, .inr (some (17, 0)), .inr (some (0, 0))]) rfl ?_
                                                            refine xw.s (pc' := 1153) (st' := [.inl (1 : Int32), .inl l3, .inr (some (17, 0)), .inr (some (0, 0))]) rfl ?_
                                                            refine xw.s (pc' := 1154) (st' := [.inl (l3 + (1 : Int32)), .inr (some (17, 0)), .inr (some (0, 0))]) rfl ?_
                                                            obtain ⟨z346, h⟩ := h
                                                            refine xw.ild (c := 17) (nx := 1155) (v := (xm_i S 17 0 (y_ix (l3 + (1 : Int32))))) rfl (by decide) z346 rfl ?_
                                                            refine xw.s (pc' := 1156) (st' := [.inr (some (17, 0)), .inl (xm_i S 17 0 (y_ix (l3 + (1 : Int32)))), .inr (some (0, 0))]) rfl ?_
                                                            refine xw.s (pc' := 1157) (st' := [.inl l3, .inr (some (17, 0)), .inl (xm_i S 17 0 (y_ix (l3 + (1 : Int32)))), .inr (some (0, 0))]) rfl ?_
                                                            refine xw.s (pc' := 1158) (st' := [.inl (2 : Int32), .inl l3, .inr (some (17, 0)), .inl (xm_i S 17 0 (y_ix (l3 + (1 : Int32)))), .inr (some (0, 0))]) rfl ?_
                                                            refine xw.s (pc' := 1159) (st' := [.inl (l3 + (2 : Int32)), .inr (some (17, 0)), .inl (xm_i S 17 0 (y_ix (l3 + (1 : Int32)))), .inr (some (0, 0))]) rfl ?_
                                                            obtain ⟨z347, h⟩ := h
                                                            refine xw.ild (c := 17) (nx := 1160) (v := (xm_i S 17 0 (y_ix (l3 + (2 : Int32))))) rfl (by decide) z347 rfl ?_
                                                            refine xw.call (m := 86) (as := [.inr (some (0, 0)), .inl (xm_i S 17 0 (y_ix (l3 + (1 : Int32)))), .inl (xm_i S 17 0 (y_ix (l3 + (2 : Int32))))]) (nx := 1163) (L' := [some (.inr (some (17, 0))), some (.inr (some (0, 0))), some (.inr (some (11, 0))), some (.inl l3)]) (st' := []) rfl (xc.mono h ?_)
                                                            rintro r S348 ⟨x350, rfl, hC349, h⟩
                                                            show xw _ _ 1163 [some (.inr (some (17, 0))), some (.inr (some (0, 0))), some (.inr (some (11, 0))), some (.inl l3)] [.inl x350] _ _
                                                            refine xw.s (pc' := 1164) (st' := [.inr (some (11, 0)), .inl x350]) rfl ?_
                                                            refine xw.s (pc' := 1165) (st' := [.inr (some (17, 0)), .inr (some (11, 0)), .inl x350]) rfl ?_
                                                            refine xw.s (pc' := 1166) (st' := [.inl l3, .inr (some (17, 0)), .inr (some (11, 0)), .inl x350]) rfl ?_
                                                            refine xw.s (pc' := 1167) (st' := [.inl (1 : Int32), .inl l3, .inr (some (17, 0)), .inr (some (11, 0)), .inl x350]) rfl ?_
                                                            refine xw.s (pc' := 1168) (st' := [.inl (l3 + (1 : Int32)), .inr (some (17, 0)), .inr (some (11, 0)), .inl x350]) rfl ?_
                                                            obtain ⟨z351, h⟩ := h
                                                            refine xw.ild (c := 17) (nx := 1169) (v := (xm_i S348 17 0 (y_ix (l3 + (1 : Int32))))) rfl (by decide) z351 rfl ?_
                                                            refine xw.s (pc' := 1170) (st' := [.inr (some (17, 0)), .inl (xm_i S348 17 0 (y_ix (l3 + (1 : Int32)))), .inr (some (11, 0)), .inl x350]) rfl ?_
                                                            refine xw.s (pc' := 1171) (st' := [.inl l3, .inr (some (17, 0)), .inl (xm_i S348 17 0 (y_ix (l3 + (1 : Int32)))), .inr (some (11, 0)), .inl x350]) rfl ?_
                                                            refine xw.s (pc' := 1172) (st' := [.inl (2 : Int32), .inl l3, .inr (some (17, 0)), .inl (xm_i S348 17 0 (y_ix (l3 + (1 : Int32)))), .inr (some (11, 0)), .inl x350]) rfl ?_
                                                            refine xw.s (pc' := 1173) (st' := [.inl (l3 + (2 : Int32)), .inr (some (17, 0)), .inl (xm_i S348 17 0 (y_ix (l3 + (1 : Int32)))), .inr (some (11, 0)), .inl x350]) rfl ?_
                                                            obtain ⟨z352, h⟩ := h
                                                            refine xw.ild (c := 17) (nx := 1174) (v := (xm_i S348 17 0 (y_ix (l3 + (2 : Int32))))) rfl (by decide) z352 rfl ?_
                                                            refine xw.call (m := 118) (as := [.inr (some (11, 0)), .inl (xm_i S348 17 0 (y_ix (l3 + (1 : Int32)))), .inl (xm_i S348 17 0 (y_ix (l3 + (2 : Int32))))]) (nx := 1177) (L' := [some (.inr (some (17, 0))), some (.inr (some (0, 0))), some (.inr (some (11, 0))), some (.inl l3)]) (st' := [.inl x350]) rfl (xc.mono h ?_)
                                                            rintro r S353 ⟨x355, rfl, hC354, h⟩
                                                            show xw _ _ 1177 [some (.inr (some (17, 0))), some (.inr (some (0, 0))), some (.inr (some (11, 0))), some (.inl l3)] [.inl x355, .inl x350] _ _
                                                            refine xw.b (c := x350 = x355) (cd := .eq) (x := x350) (y := x355) 1205 1180 (st' := []) rfl (y_ceq _ _) h (fun c356 h => ?_) (fun c356 h => ?_)
                                                            · skip
                                                              refine xw.s (pc' := 1208) (st' := []) (L' := [some (.inr (some (17, 0))), some (.inr (some (0, 0))), some (.inr (some (11, 0))), some (.inl (l3 + (8 : Int32)))]) rfl ?_
                                                              refine xw.s (pc' := 18) (st' := []) rfl ?_
                                                              exact h
                                                            · skip
                                                              refine xw.s (pc' := 1181) (st' := [.inl (0 : Int32)]) rfl ?_
                                                              exact xw.retz (nx := 1182) rfl (Or.inl rfl) h
                                                          · skip
                                                            refine xw.bw (28 : Int32) rfl h (fun c357 h => ?_) (fun c357 h => ?_)
                                                            · skip
                                                              refine xw.s (pc' := 1183) (st' := [.inr (some (0, 0))]) rfl ?_
                                                              refine xw.s (pc' := 1184) (st' := [.inr (some (17, 0)), .inr (some (0, 0))]) rfl ?_
                                                              refine xw.s (pc' := 1185) (st' := [.inl l3, .inr (some (17, 0)), .inr (some (0, 0))]) rfl ?_
                                                              refine xw.s (pc' := 1186) (st' := [.inl (1 : Int32), .inl l3, .inr (some (17, 0)), .inr (some (0, 0))]) rfl ?_
                                                              refine xw.s (pc' := 1187) (st' := [.inl (l3 + (1 : Int32)), .inr (some (17, 0)), .inr (some (0, 0))]) rfl ?_
                                                              obtain ⟨z358, h⟩ := h
                                                              refine xw.ild (c := 17) (nx := 1188) (v := (xm_i S 17 0 (y_ix (l3 + (1 : Int32))))) rfl (by decide) z358 rfl ?_
                                                              refine xw.call (m := 87) (as := [.inr (some (0, 0)), .inl (xm_i S 17 0 (y_ix (l3 + (1 : Int32))))]) (nx := 1191) (L' := [some (.inr (some (17, 0))), some (.inr (some (0, 0))), some (.inr (some (11, 0))), some (.inl l3)]) (st' := []) rfl (xc.mono h ?_)
                                                              rintro r S359 ⟨x361, rfl, hC360, h⟩
                                                              show xw _ _ 1191 [some (.inr (some (17, 0))), some (.inr (some (0, 0))), some (.inr (some (11, 0))), some (.inl l3)] [.inl x361] _ _
                                                              refine xw.s (pc' := 1192) (st' := [.inr (some (11, 0)), .inl x361]) rfl ?_
                                                              refine xw.s (pc' := 1193) (st' := [.inr (some (17, 0)), .inr (some (11, 0)), .inl x361]) rfl ?_
                                                              refine xw.s (pc' := 1194) (st' := [.inl l3, .inr (some (17, 0)), .inr (some (11, 0)), .inl x361]) rfl ?_
                                                              refine xw.s (pc' := 1195) (st' := [.inl (1 : Int32), .inl l3, .inr (some (17, 0)), .inr (some (11, 0)), .inl x361]) rfl ?_
                                                              refine xw.s (pc' := 1196) (st' := [.inl (l3 + (1 : Int32)), .inr (some (17, 0)), .inr (some (11, 0)), .inl x361]) rfl ?_
                                                              obtain ⟨z362, h⟩ := h
                                                              refine xw.ild (c := 17) (nx := 1197) (v := (xm_i S359 17 0 (y_ix (l3 + (1 : Int32))))) rfl (by decide) z362 rfl ?_
                                                              refine xw.call (m := 181) (as := [.inr (some (11, 0)), .inl (xm_i S359 17 0 (y_ix (l3 + (1 : Int32))))]) (nx := 1200) (L' := [some (.inr (some (17, 0))), some (.inr (some (0, 0))), some (.inr (some (11, 0))), some (.inl l3)]) (st' := [.inl x361]) rfl (xc.mono h ?_)
                                                              rintro r S363 ⟨x365, rfl, hC364, h⟩
                                                              show xw _ _ 1200 [some (.inr (some (17, 0))), some (.inr (some (0, 0))), some (.inr (some (11, 0))), some (.inl l3)] [.inl x365, .inl x361] _ _
                                                              refine xw.b (c := x361 = x365) (cd := .eq) (x := x361) (y := x365) 1205 1203 (st' := []) rfl (y_ceq _ _) h (fun c366 h => ?_) (fun c366 h => ?_)
                                                              · skip
                                                                refine xw.s (pc' := 1208) (st' := []) (L' := [some (.inr (some (17, 0))), some (.inr (some (0, 0))), some (.inr (some (11, 0))), some (.inl (l3 + (8 : Int32)))]) rfl ?_
                                                                refine xw.s (pc' := 18) (st' := []) rfl ?_
                                                                exact h
                                                              · skip
                                                                refine xw.s (pc' := 1204) (st' := [.inl (0 : Int32)]) rfl ?_
                                                                exact xw.retz (nx := 1205) rfl (Or.inl rfl) h
                                                            · skip
                                                              refine xw.s (pc' := 1208) (st' := []) (L' := [some (.inr (some (17, 0))), some (.inr (some (0, 0))), some (.inr (some (11, 0))), some (.inl (l3 + (8 : Int32)))]) rfl ?_
                                                              refine xw.s (pc' := 18) (st' := []) rfl ?_
                                                              exact h
end
