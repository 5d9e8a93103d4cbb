/-! ===== THE REFERENCE, FROM NOTHING (printed by wip/whole/gen9zr.py) ===== -/
section
set_option maxRecDepth 40000
theorem cw_newWM {d : Nat} {this : Nat} {S : xm_S} {Q : Option xm_V → xm_S → Prop} (h : ∀ S1, S1 = xm_si S 11 this 0 (0 : Int32) → (∀ S3, S3 = xm_si S1 11 this 1 (0 : Int32) → (∀ k5, k5 = xm_n S3 0 13 → (∀ S7, S7 = xm_mk 13 8 S3 → (∀ S9, S9 = xm_sr S7 11 this 2 (some k5) → (∀ k11, k11 = xm_n S9 0 13 → (∀ S13, S13 = xm_mk 13 8 S9 → (∀ S15, S15 = xm_sr S13 11 this 3 (some k11) → (∀ k17, k17 = xm_n S15 0 13 → (∀ S19, S19 = xm_mk 13 8 S15 → (∀ S21, S21 = xm_sr S19 11 this 4 (some k17) → (∀ S23, S23 = xm_si S21 11 this 5 (0 : Int32) → (∀ k25, k25 = xm_n S23 0 13 → (∀ S27, S27 = xm_mk 13 30 S23 → (∀ S29, S29 = xm_sr S27 11 this 6 (some k25) → (∀ k31, k31 = xm_n S29 0 13 → (∀ S33, S33 = xm_mk 13 30 S29 → (∀ S35, S35 = xm_sr S33 11 this 7 (some k31) → (∀ k37, k37 = xm_n S35 0 13 → (∀ S39, S39 = xm_mk 13 30 S35 → (∀ S41, S41 = xm_sr S39 11 this 8 (some k37) → (∀ k43, k43 = xm_n S41 0 13 → (∀ S45, S45 = xm_mk 13 30 S41 → (∀ S47, S47 = xm_sr S45 11 this 9 (some k43) → (∀ k49, k49 = xm_n S47 0 13 → (∀ S51, S51 = xm_mk 13 30 S47 → (∀ S53, S53 = xm_sr S51 11 this 10 (some k49) → (∀ S55, S55 = xm_si S53 11 this 11 (0 : Int32) → (∀ k57, k57 = xm_n S55 0 13 → (∀ S59, S59 = xm_mk 13 30 S55 → (∀ S61, S61 = xm_sr S59 11 this 12 (some k57) → (∀ k63, k63 = xm_n S61 0 13 → (∀ S65, S65 = xm_mk 13 30 S61 → (∀ S67, S67 = xm_sr S65 11 this 13 (some k63) → (∀ k69, k69 = xm_n S67 0 13 → (∀ S71, S71 = xm_mk 13 30 S67 → (∀ S73, S73 = xm_sr S71 11 this 14 (some k69) → (∀ k75, k75 = xm_n S73 0 13 → (∀ S77, S77 = xm_mk 13 30 S73 → (∀ S79, S79 = xm_sr S77 11 this 15 (some k75) → (∀ k81, k81 = xm_n S79 0 13 → (∀ S83, S83 = xm_mk 13 30 S79 → (∀ S85, S85 = xm_sr S83 11 this 16 (some k81) → (∀ S87, S87 = xm_si S85 11 this 17 (0 : Int32) → (∀ k89, k89 = xm_n S87 0 13 → (∀ S91, S91 = xm_mk 13 4400 S87 → (∀ S93, S93 = xm_sr S91 11 this 18 (some k89) → (∀ k95, k95 = xm_n S93 0 13 → (∀ S97, S97 = xm_mk 13 4400 S93 → (∀ S99, S99 = xm_sr S97 11 this 19 (some k95) → (∀ k101, k101 = xm_n S99 0 13 → (∀ S103, S103 = xm_mk 13 4400 S99 → (∀ S105, S105 = xm_sr S103 11 this 20 (some k101) → (∀ k107, k107 = xm_n S105 0 13 → (∀ S109, S109 = xm_mk 13 4400 S105 → (∀ S111, S111 = xm_sr S109 11 this 21 (some k107) → (∀ k113, k113 = xm_n S111 0 13 → (∀ S115, S115 = xm_mk 13 4400 S111 → (∀ S117, S117 = xm_sr S115 11 this 22 (some k113) → (∀ S119, S119 = xm_si S117 11 this 23 (0 : Int32) → (∀ k121, k121 = xm_n S119 0 13 → (∀ S123, S123 = xm_mk 13 4400 S119 → (∀ S125, S125 = xm_sr S123 11 this 24 (some k121) → (∀ k127, k127 = xm_n S125 0 13 → (∀ S129, S129 = xm_mk 13 4400 S125 → (∀ S131, S131 = xm_sr S129 11 this 25 (some k127) → (∀ k133, k133 = xm_n S131 0 13 → (∀ S135, S135 = xm_mk 13 4400 S131 → (∀ S137, S137 = xm_sr S135 11 this 26 (some k133) → (∀ k139, k139 = xm_n S137 0 13 → (∀ S141, S141 = xm_mk 13 4400 S137 → (∀ S143, S143 = xm_sr S141 11 this 27 (some k139) → (∀ k145, k145 = xm_n S143 0 13 → (∀ S147, S147 = xm_mk 13 4400 S143 → (∀ S149, S149 = xm_sr S147 11 this 28 (some k145) → (∀ k151, k151 = xm_n S149 0 13 → (∀ S153, S153 = xm_mk 13 4400 S149 → (∀ S155, S155 = xm_sr S153 11 this 29 (some k151) → (∀ S157, S157 = xm_si S155 11 this 30 (0 : Int32) → (∀ k159, k159 = xm_n S157 0 13 → (∀ S161, S161 = xm_mk 13 24 S157 → (∀ S163, S163 = xm_sr S161 11 this 31 (some k159) → (∀ k165, k165 = xm_n S163 0 13 → (∀ S167, S167 = xm_mk 13 24 S163 → (∀ S169, S169 = xm_sr S167 11 this 32 (some k165) → (∀ k171, k171 = xm_n S169 0 13 → (∀ S173, S173 = xm_mk 13 24 S169 → (∀ S175, S175 = xm_sr S173 11 this 33 (some k171) → (∀ k177, k177 = xm_n S175 0 13 → (∀ S179, S179 = xm_mk 13 24 S175 → (∀ S181, S181 = xm_sr S179 11 this 34 (some k177) → (∀ k183, k183 = xm_n S181 0 13 → (∀ S185, S185 = xm_mk 13 24 S181 → (∀ S187, S187 = xm_sr S185 11 this 35 (some k183) → (∀ k189, k189 = xm_n S187 0 13 → (∀ S191, S191 = xm_mk 13 24 S187 → (∀ S193, S193 = xm_sr S191 11 this 36 (some k189) → (∀ k195, k195 = xm_n S193 0 13 → (∀ S197, S197 = xm_mk 13 24 S193 → (∀ S199, S199 = xm_sr S197 11 this 37 (some k195) → (∀ k201, k201 = xm_n S199 0 13 → (∀ S203, S203 = xm_mk 13 24 S199 → (∀ S205, S205 = xm_sr S203 11 this 38 (some k201) → (∀ k207, k207 = xm_n S205 0 13 → (∀ S209, S209 = xm_mk 13 24 S205 → (∀ S211, S211 = xm_sr S209 11 this 39 (some k207) → (∀ k213, k213 = xm_n S211 0 13 → (∀ S215, S215 = xm_mk 13 24 S211 → (∀ S217, S217 = xm_sr S215 11 this 40 (some k213) → (∀ k219, k219 = xm_n S217 0 13 → (∀ S221, S221 = xm_mk 13 24 S217 → (∀ S223, S223 = xm_sr S221 11 this 41 (some k219) → (∀ k225, k225 = xm_n S223 0 13 → (∀ S227, S227 = xm_mk 13 24 S223 → (∀ S229, S229 = xm_sr S227 11 this 42 (some k225) → (∀ k231, k231 = xm_n S229 0 13 → (∀ S233, S233 = xm_mk 13 240 S229 → (∀ S235, S235 = xm_sr S233 11 this 43 (some k231) → (∀ k237, k237 = xm_n S235 0 13 → (∀ S239, S239 = xm_mk 13 192 S235 → (∀ S241, S241 = xm_sr S239 11 this 44 (some k237) → (∀ k243, k243 = xm_n S241 0 13 → (∀ S245, S245 = xm_mk 13 192 S241 → (∀ S247, S247 = xm_sr S245 11 this 45 (some k243) → (∀ k249, k249 = xm_n S247 0 14 → (∀ S251, S251 = xm_mk 14 192 S247 → (∀ S253, S253 = xm_sr S251 11 this 46 (some k249) → (∀ S255, S255 = xm_si S253 11 this 47 (0 : Int32) → (∀ k257, k257 = xm_n S255 0 13 → (∀ S259, S259 = xm_mk 13 11 S255 → (∀ S261, S261 = xm_sr S259 11 this 48 (some k257) → (∀ k263, k263 = xm_n S261 0 13 → (∀ S265, S265 = xm_mk 13 55 S261 → (∀ S267, S267 = xm_sr S265 11 this 49 (some k263) → (∀ S269, S269 = xm_si S267 11 this 50 (0 : Int32) → (∀ k271, k271 = xm_n S269 0 13 → (∀ S273, S273 = xm_mk 13 60 S269 → (∀ S275, S275 = xm_sr S273 11 this 51 (some k271) → (∀ k277, k277 = xm_n S275 0 13 → (∀ S279, S279 = xm_mk 13 60 S275 → (∀ S281, S281 = xm_sr S279 11 this 52 (some k277) → (∀ k283, k283 = xm_n S281 0 13 → (∀ S285, S285 = xm_mk 13 60 S281 → (∀ S287, S287 = xm_sr S285 11 this 53 (some k283) → (∀ k289, k289 = xm_n S287 0 13 → (∀ S291, S291 = xm_mk 13 60 S287 → (∀ S293, S293 = xm_sr S291 11 this 54 (some k289) → (∀ k295, k295 = xm_n S293 0 13 → (∀ S297, S297 = xm_mk 13 60 S293 → (∀ S299, S299 = xm_sr S297 11 this 55 (some k295) → (∀ k301, k301 = xm_n S299 0 13 → (∀ S303, S303 = xm_mk 13 60 S299 → (∀ S305, S305 = xm_sr S303 11 this 56 (some k301) → (∀ k307, k307 = xm_n S305 0 13 → (∀ S309, S309 = xm_mk 13 60 S305 → (∀ S311, S311 = xm_sr S309 11 this 57 (some k307) → (∀ k313, k313 = xm_n S311 0 13 → (∀ S315, S315 = xm_mk 13 60 S311 → (∀ S317, S317 = xm_sr S315 11 this 58 (some k313) → (∀ k319, k319 = xm_n S317 0 13 → (∀ S321, S321 = xm_mk 13 60 S317 → (∀ S323, S323 = xm_sr S321 11 this 59 (some k319) → (∀ S325, S325 = xm_si S323 11 this 60 (0 : Int32) → (∀ S327, S327 = xm_si S325 11 this 61 (0 : Int32) → (∀ k329, k329 = xm_n S327 0 13 → (∀ S331, S331 = xm_mk 13 4400 S327 → (∀ S333, S333 = xm_sr S331 11 this 62 (some k329) → (∀ k335, k335 = xm_n S333 0 13 → (∀ S337, S337 = xm_mk 13 4400 S333 → (∀ S339, S339 = xm_sr S337 11 this 63 (some k335) → (∀ k341, k341 = xm_n S339 0 13 → (∀ S343, S343 = xm_mk 13 4400 S339 → (∀ S345, S345 = xm_sr S343 11 this 64 (some k341) → (∀ k347, k347 = xm_n S345 0 13 → (∀ S349, S349 = xm_mk 13 4400 S345 → (∀ S351, S351 = xm_sr S349 11 this 65 (some k347) → (∀ k353, k353 = xm_n S351 0 13 → (∀ S355, S355 = xm_mk 13 4400 S351 → (∀ S357, S357 = xm_sr S355 11 this 66 (some k353) → (∀ k359, k359 = xm_n S357 0 13 → (∀ S361, S361 = xm_mk 13 4400 S357 → (∀ S363, S363 = xm_sr S361 11 this 67 (some k359) → (∀ k365, k365 = xm_n S363 0 13 → (∀ S367, S367 = xm_mk 13 4400 S363 → (∀ S369, S369 = xm_sr S367 11 this 68 (some k365) → (∀ k371, k371 = xm_n S369 0 13 → (∀ S373, S373 = xm_mk 13 4400 S369 → (∀ S375, S375 = xm_sr S373 11 this 69 (some k371) → (∀ k377, k377 = xm_n S375 0 13 → (∀ S379, S379 = xm_mk 13 4400 S375 → (∀ S381, S381 = xm_sr S379 11 this 70 (some k377) → (∀ k383, k383 = xm_n S381 0 14 → (∀ S385, S385 = xm_mk 14 4400 S381 → (∀ S387, S387 = xm_sr S385 11 this 71 (some k383) → (∀ k389, k389 = xm_n S387 0 13 → (∀ S391, S391 = xm_mk 13 4400 S387 → (∀ S393, S393 = xm_sr S391 11 this 72 (some k389) → (∀ k395, k395 = xm_n S393 0 13 → (∀ S397, S397 = xm_mk 13 4400 S393 → (∀ S399, S399 = xm_sr S397 11 this 73 (some k395) → (∀ k401, k401 = xm_n S399 0 13 → (∀ S403, S403 = xm_mk 13 4400 S399 → (∀ S405, S405 = xm_sr S403 11 this 74 (some k401) → (∀ k407, k407 = xm_n S405 0 14 → (∀ S409, S409 = xm_mk 14 4400 S405 → (∀ S411, S411 = xm_sr S409 11 this 75 (some k407) → (∀ k413, k413 = xm_n S411 0 14 → (∀ S415, S415 = xm_mk 14 4400 S411 → (∀ S417, S417 = xm_sr S415 11 this 76 (some k413) → (∀ k419, k419 = xm_n S417 0 14 → (∀ S421, S421 = xm_mk 14 4400 S417 → (∀ S423, S423 = xm_sr S421 11 this 77 (some k419) → (∀ k425, k425 = xm_n S423 0 14 → (∀ S427, S427 = xm_mk 14 4400 S423 → (∀ S429, S429 = xm_sr S427 11 this 78 (some k425) → (∀ k431, k431 = xm_n S429 0 14 → (∀ S433, S433 = xm_mk 14 4400 S429 → (∀ S435, S435 = xm_sr S433 11 this 79 (some k431) → (∀ k437, k437 = xm_n S435 0 14 → (∀ S439, S439 = xm_mk 14 4400 S435 → (∀ S441, S441 = xm_sr S439 11 this 80 (some k437) → (∀ k443, k443 = xm_n S441 0 13 → (∀ S445, S445 = xm_mk 13 4400 S441 → (∀ S447, S447 = xm_sr S445 11 this 81 (some k443) → (∀ S449, S449 = xm_si S447 11 this 82 (0 : Int32) → (∀ k451, k451 = xm_n S449 0 13 → (∀ S453, S453 = xm_mk 13 20000 S449 → (∀ S455, S455 = xm_sr S453 11 this 83 (some k451) → (∀ k457, k457 = xm_n S455 0 13 → (∀ S459, S459 = xm_mk 13 20000 S455 → (∀ S461, S461 = xm_sr S459 11 this 84 (some k457) → (∀ k463, k463 = xm_n S461 0 13 → (∀ S465, S465 = xm_mk 13 20000 S461 → (∀ S467, S467 = xm_sr S465 11 this 85 (some k463) → (∀ k469, k469 = xm_n S467 0 13 → (∀ S471, S471 = xm_mk 13 20000 S467 → (∀ S473, S473 = xm_sr S471 11 this 86 (some k469) → (∀ k475, k475 = xm_n S473 0 13 → (∀ S477, S477 = xm_mk 13 20000 S473 → (∀ S479, S479 = xm_sr S477 11 this 87 (some k475) → (∀ S481, S481 = xm_si S479 11 this 88 (0 : Int32) → (∀ S483, S483 = xm_si S481 11 this 89 (0 : Int32) → (∀ k485, k485 = xm_n S483 0 13 → (∀ S487, S487 = xm_mk 13 12 S483 → (∀ S489, S489 = xm_sr S487 11 this 90 (some k485) → (∀ k491, k491 = xm_n S489 0 13 → (∀ S493, S493 = xm_mk 13 12 S489 → (∀ S495, S495 = xm_sr S493 11 this 91 (some k491) → (∀ k497, k497 = xm_n S495 0 13 → (∀ S499, S499 = xm_mk 13 12 S495 → (∀ S501, S501 = xm_sr S499 11 this 92 (some k497) → (∀ k503, k503 = xm_n S501 0 13 → (∀ S505, S505 = xm_mk 13 12 S501 → (∀ S507, S507 = xm_sr S505 11 this 93 (some k503) → (∀ k509, k509 = xm_n S507 0 13 → (∀ S511, S511 = xm_mk 13 12 S507 → (∀ S513, S513 = xm_sr S511 11 this 94 (some k509) → (∀ k515, k515 = xm_n S513 0 13 → (∀ S517, S517 = xm_mk 13 12 S513 → (∀ S519, S519 = xm_sr S517 11 this 95 (some k515) → (∀ k521, k521 = xm_n S519 0 13 → (∀ S523, S523 = xm_mk 13 12 S519 → (∀ S525, S525 = xm_sr S523 11 this 96 (some k521) → (∀ k527, k527 = xm_n S525 0 13 → (∀ S529, S529 = xm_mk 13 12 S525 → (∀ S531, S531 = xm_sr S529 11 this 97 (some k527) → (∀ k533, k533 = xm_n S531 0 13 → (∀ S535, S535 = xm_mk 13 12 S531 → (∀ S537, S537 = xm_sr S535 11 this 98 (some k533) → (∀ k539, k539 = xm_n S537 0 13 → (∀ S541, S541 = xm_mk 13 12 S537 → (∀ S543, S543 = xm_sr S541 11 this 99 (some k539) → (∀ k545, k545 = xm_n S543 0 13 → (∀ S547, S547 = xm_mk 13 12 S543 → (∀ S549, S549 = xm_sr S547 11 this 100 (some k545) → (∀ k551, k551 = xm_n S549 0 13 → (∀ S553, S553 = xm_mk 13 12 S549 → (∀ S555, S555 = xm_sr S553 11 this 101 (some k551) → (∀ k557, k557 = xm_n S555 0 14 → (∀ S559, S559 = xm_mk 14 12 S555 → (∀ S561, S561 = xm_sr S559 11 this 102 (some k557) → (∀ S563, S563 = xm_si S561 11 this 103 (0 : Int32) → (∀ k565, k565 = xm_n S563 0 13 → (∀ S567, S567 = xm_mk 13 10 S563 → (∀ S569, S569 = xm_sr S567 11 this 104 (some k565) → (∀ k571, k571 = xm_n S569 0 13 → (∀ S573, S573 = xm_mk 13 10 S569 → (∀ S575, S575 = xm_sr S573 11 this 105 (some k571) → (∀ k577, k577 = xm_n S575 0 13 → (∀ S579, S579 = xm_mk 13 10 S575 → (∀ S581, S581 = xm_sr S579 11 this 106 (some k577) → (∀ k583, k583 = xm_n S581 0 13 → (∀ S585, S585 = xm_mk 13 10 S581 → (∀ S587, S587 = xm_sr S585 11 this 107 (some k583) → (∀ k589, k589 = xm_n S587 0 13 → (∀ S591, S591 = xm_mk 13 10 S587 → (∀ S593, S593 = xm_sr S591 11 this 108 (some k589) → (∀ k595, k595 = xm_n S593 0 14 → (∀ S597, S597 = xm_mk 14 10 S593 → (∀ S599, S599 = xm_sr S597 11 this 109 (some k595) → (Q none S599))))))))))))))))))))))))))))))))))))))))))))))))))))))))))))))))))))))))))))))))))))))))))))))))))))))))))))))))))))))))))))))))))))))))))))))))))))))))))))))))))))))))))))))))))))))))))))))))))))))))))))))))))))))))))))))))))))))))))))))))))))))))))))))))))))))))))))))))))))))))))))))))))))))))))))) : xc (d) 112 [.inr (some (11, this))] S Q := by
  show xw _ _ _ [some (.inr (some (11, this)))] _ _ _
  refine xw.s (pc' := 1) (st' := [.inr (some (11, this))]) rfl ?_
  refine xw.s (pc' := 4) (st' := []) rfl ?_
  refine xw.s (pc' := 5) (st' := [.inr (some (11, this))]) rfl ?_
  refine xw.s (pc' := 6) (st' := [.inl (0 : Int32), .inr (some (11, this))]) rfl ?_
  refine xw.fp (c := 11) (j := 0) (ty := 0) (nx := 9) rfl rfl (Or.inl rfl) ?_
  obtain ⟨S1, e2⟩ : ∃ s, s = xm_si S 11 this 0 (0 : Int32) := ⟨_, rfl⟩
  rw [← e2]
  replace h := h S1 e2
  refine xw.s (pc' := 10) (st' := [.inr (some (11, this))]) rfl ?_
  refine xw.s (pc' := 11) (st' := [.inl (0 : Int32), .inr (some (11, this))]) rfl ?_
  refine xw.fp (c := 11) (j := 1) (ty := 0) (nx := 14) rfl rfl (Or.inl rfl) ?_
  obtain ⟨S3, e4⟩ : ∃ s, s = xm_si S1 11 this 1 (0 : Int32) := ⟨_, rfl⟩
  rw [← e4]
  replace h := h S3 e4
  refine xw.s (pc' := 15) (st' := [.inr (some (11, this))]) rfl ?_
  refine xw.s (pc' := 17) (st' := [.inl (8 : Int32), .inr (some (11, this))]) rfl ?_
  refine xw.s (pc' := 19) (st' := [.inr (some (13, (xm_n S3 0 13))), .inr (some (11, this))]) (S1 := xm_mk 13 8 S3) rfl ?_
  obtain ⟨k5, q6⟩ : ∃ k, k = xm_n S3 0 13 := ⟨_, rfl⟩
  rw [← q6]
  replace h := h k5 q6
  obtain ⟨S7, e8⟩ : ∃ s, s = xm_mk 13 8 S3 := ⟨_, rfl⟩
  rw [← e8]
  replace h := h S7 e8
  refine xw.fq (c := 11) (j := 2) (e := 13) (nx := 22) (t := (some k5)) rfl rfl ?_
  obtain ⟨S9, e10⟩ : ∃ s, s = xm_sr S7 11 this 2 (some k5) := ⟨_, rfl⟩
  rw [← e10]
  replace h := h S9 e10
  refine xw.s (pc' := 23) (st' := [.inr (some (11, this))]) rfl ?_
  refine xw.s (pc' := 25) (st' := [.inl (8 : Int32), .inr (some (11, this))]) rfl ?_
  refine xw.s (pc' := 27) (st' := [.inr (some (13, (xm_n S9 0 13))), .inr (some (11, this))]) (S1 := xm_mk 13 8 S9) rfl ?_
  obtain ⟨k11, q12⟩ : ∃ k, k = xm_n S9 0 13 := ⟨_, rfl⟩
  rw [← q12]
  replace h := h k11 q12
  obtain ⟨S13, e14⟩ : ∃ s, s = xm_mk 13 8 S9 := ⟨_, rfl⟩
  rw [← e14]
  replace h := h S13 e14
  refine xw.fq (c := 11) (j := 3) (e := 13) (nx := 30) (t := (some k11)) rfl rfl ?_
  obtain ⟨S15, e16⟩ : ∃ s, s = xm_sr S13 11 this 3 (some k11) := ⟨_, rfl⟩
  rw [← e16]
  replace h := h S15 e16
  refine xw.s (pc' := 31) (st' := [.inr (some (11, this))]) rfl ?_
  refine xw.s (pc' := 33) (st' := [.inl (8 : Int32), .inr (some (11, this))]) rfl ?_
  refine xw.s (pc' := 35) (st' := [.inr (some (13, (xm_n S15 0 13))), .inr (some (11, this))]) (S1 := xm_mk 13 8 S15) rfl ?_
  obtain ⟨k17, q18⟩ : ∃ k, k = xm_n S15 0 13 := ⟨_, rfl⟩
  rw [← q18]
  replace h := h k17 q18
  obtain ⟨S19, e20⟩ : ∃ s, s = xm_mk 13 8 S15 := ⟨_, rfl⟩
  rw [← e20]
  replace h := h S19 e20
  refine xw.fq (c := 11) (j := 4) (e := 13) (nx := 38) (t := (some k17)) rfl rfl ?_
  obtain ⟨S21, e22⟩ : ∃ s, s = xm_sr S19 11 this 4 (some k17) := ⟨_, rfl⟩
  rw [← e22]
  replace h := h S21 e22
  refine xw.s (pc' := 39) (st' := [.inr (some (11, this))]) rfl ?_
  refine xw.s (pc' := 40) (st' := [.inl (0 : Int32), .inr (some (11, this))]) rfl ?_
  refine xw.fp (c := 11) (j := 5) (ty := 0) (nx := 43) rfl rfl (Or.inl rfl) ?_
  obtain ⟨S23, e24⟩ : ∃ s, s = xm_si S21 11 this 5 (0 : Int32) := ⟨_, rfl⟩
  rw [← e24]
  replace h := h S23 e24
  refine xw.s (pc' := 44) (st' := [.inr (some (11, this))]) rfl ?_
  refine xw.s (pc' := 46) (st' := [.inl (30 : Int32), .inr (some (11, this))]) rfl ?_
  refine xw.s (pc' := 48) (st' := [.inr (some (13, (xm_n S23 0 13))), .inr (some (11, this))]) (S1 := xm_mk 13 30 S23) rfl ?_
  obtain ⟨k25, q26⟩ : ∃ k, k = xm_n S23 0 13 := ⟨_, rfl⟩
  rw [← q26]
  replace h := h k25 q26
  obtain ⟨S27, e28⟩ : ∃ s, s = xm_mk 13 30 S23 := ⟨_, rfl⟩
  rw [← e28]
  replace h := h S27 e28
  refine xw.fq (c := 11) (j := 6) (e := 13) (nx := 51) (t := (some k25)) rfl rfl ?_
  obtain ⟨S29, e30⟩ : ∃ s, s = xm_sr S27 11 this 6 (some k25) := ⟨_, rfl⟩
  rw [← e30]
  replace h := h S29 e30
  refine xw.s (pc' := 52) (st' := [.inr (some (11, this))]) rfl ?_
  refine xw.s (pc' := 54) (st' := [.inl (30 : Int32), .inr (some (11, this))]) rfl ?_
  refine xw.s (pc' := 56) (st' := [.inr (some (13, (xm_n S29 0 13))), .inr (some (11, this))]) (S1 := xm_mk 13 30 S29) rfl ?_
  obtain ⟨k31, q32⟩ : ∃ k, k = xm_n S29 0 13 := ⟨_, rfl⟩
  rw [← q32]
  replace h := h k31 q32
  obtain ⟨S33, e34⟩ : ∃ s, s = xm_mk 13 30 S29 := ⟨_, rfl⟩
  rw [← e34]
  replace h := h S33 e34
  refine xw.fq (c := 11) (j := 7) (e := 13) (nx := 59) (t := (some k31)) rfl rfl ?_
  obtain ⟨S35, e36⟩ : ∃ s, s = xm_sr S33 11 this 7 (some k31) := ⟨_, rfl⟩
  rw [← e36]
  replace h := h S35 e36
  refine xw.s (pc' := 60) (st' := [.inr (some (11, this))]) rfl ?_
  refine xw.s (pc' := 62) (st' := [.inl (30 : Int32), .inr (some (11, this))]) rfl ?_
  refine xw.s (pc' := 64) (st' := [.inr (some (13, (xm_n S35 0 13))), .inr (some (11, this))]) (S1 := xm_mk 13 30 S35) rfl ?_
  obtain ⟨k37, q38⟩ : ∃ k, k = xm_n S35 0 13 := ⟨_, rfl⟩
  rw [← q38]
  replace h := h k37 q38
  obtain ⟨S39, e40⟩ : ∃ s, s = xm_mk 13 30 S35 := ⟨_, rfl⟩
  rw [← e40]
  replace h := h S39 e40
  refine xw.fq (c := 11) (j := 8) (e := 13) (nx := 67) (t := (some k37)) rfl rfl ?_
  obtain ⟨S41, e42⟩ : ∃ s, s = xm_sr S39 11 this 8 (some k37) := ⟨_, rfl⟩
  rw [← e42]
  replace h := h S41 e42
  refine xw.s (pc' := 68) (st' := [.inr (some (11, this))]) rfl ?_
  refine xw.s (pc' := 70) (st' := [.inl (30 : Int32), .inr (some (11, this))]) rfl ?_
  refine xw.s (pc' := 72) (st' := [.inr (some (13, (xm_n S41 0 13))), .inr (some (11, this))]) (S1 := xm_mk 13 30 S41) rfl ?_
  obtain ⟨k43, q44⟩ : ∃ k, k = xm_n S41 0 13 := ⟨_, rfl⟩
  rw [← q44]
  replace h := h k43 q44
  obtain ⟨S45, e46⟩ : ∃ s, s = xm_mk 13 30 S41 := ⟨_, rfl⟩
  rw [← e46]
  replace h := h S45 e46
  refine xw.fq (c := 11) (j := 9) (e := 13) (nx := 75) (t := (some k43)) rfl rfl ?_
  obtain ⟨S47, e48⟩ : ∃ s, s = xm_sr S45 11 this 9 (some k43) := ⟨_, rfl⟩
  rw [← e48]
  replace h := h S47 e48
  refine xw.s (pc' := 76) (st' := [.inr (some (11, this))]) rfl ?_
  refine xw.s (pc' := 78) (st' := [.inl (30 : Int32), .inr (some (11, this))]) rfl ?_
  refine xw.s (pc' := 80) (st' := [.inr (some (13, (xm_n S47 0 13))), .inr (some (11, this))]) (S1 := xm_mk 13 30 S47) rfl ?_
  obtain ⟨k49, q50⟩ : ∃ k, k = xm_n S47 0 13 := ⟨_, rfl⟩
  rw [← q50]
  replace h := h k49 q50
  obtain ⟨S51, e52⟩ : ∃ s, s = xm_mk 13 30 S47 := ⟨_, rfl⟩
  rw [← e52]
  replace h := h S51 e52
  refine xw.fq (c := 11) (j := 10) (e := 13) (nx := 83) (t := (some k49)) rfl rfl ?_
  obtain ⟨S53, e54⟩ : ∃ s, s = xm_sr S51 11 this 10 (some k49) := ⟨_, rfl⟩
  rw [← e54]
  replace h := h S53 e54
  refine xw.s (pc' := 84) (st' := [.inr (some (11, this))]) rfl ?_
  refine xw.s (pc' := 85) (st' := [.inl (0 : Int32), .inr (some (11, this))]) rfl ?_
  refine xw.fp (c := 11) (j := 11) (ty := 0) (nx := 88) rfl rfl (Or.inl rfl) ?_
  obtain ⟨S55, e56⟩ : ∃ s, s = xm_si S53 11 this 11 (0 : Int32) := ⟨_, rfl⟩
  rw [← e56]
  replace h := h S55 e56
  refine xw.s (pc' := 89) (st' := [.inr (some (11, this))]) rfl ?_
  refine xw.s (pc' := 91) (st' := [.inl (30 : Int32), .inr (some (11, this))]) rfl ?_
  refine xw.s (pc' := 93) (st' := [.inr (some (13, (xm_n S55 0 13))), .inr (some (11, this))]) (S1 := xm_mk 13 30 S55) rfl ?_
  obtain ⟨k57, q58⟩ : ∃ k, k = xm_n S55 0 13 := ⟨_, rfl⟩
  rw [← q58]
  replace h := h k57 q58
  obtain ⟨S59, e60⟩ : ∃ s, s = xm_mk 13 30 S55 := ⟨_, rfl⟩
  rw [← e60]
  replace h := h S59 e60
  refine xw.fq (c := 11) (j := 12) (e := 13) (nx := 96) (t := (some k57)) rfl rfl ?_
  obtain ⟨S61, e62⟩ : ∃ s, s = xm_sr S59 11 this 12 (some k57) := ⟨_, rfl⟩
  rw [← e62]
  replace h := h S61 e62
  refine xw.s (pc' := 97) (st' := [.inr (some (11, this))]) rfl ?_
  refine xw.s (pc' := 99) (st' := [.inl (30 : Int32), .inr (some (11, this))]) rfl ?_
  refine xw.s (pc' := 101) (st' := [.inr (some (13, (xm_n S61 0 13))), .inr (some (11, this))]) (S1 := xm_mk 13 30 S61) rfl ?_
  obtain ⟨k63, q64⟩ : ∃ k, k = xm_n S61 0 13 := ⟨_, rfl⟩
  rw [← q64]
  replace h := h k63 q64
  obtain ⟨S65, e66⟩ : ∃ s, s = xm_mk 13 30 S61 := ⟨_, rfl⟩
  rw [← e66]
  replace h := h S65 e66
  refine xw.fq (c := 11) (j := 13) (e := 13) (nx := 104) (t := (some k63)) rfl rfl ?_
  obtain ⟨S67, e68⟩ : ∃ s, s = xm_sr S65 11 this 13 (some k63) := ⟨_, rfl⟩
  rw [← e68]
  replace h := h S67 e68
  refine xw.s (pc' := 105) (st' := [.inr (some (11, this))]) rfl ?_
  refine xw.s (pc' := 107) (st' := [.inl (30 : Int32), .inr (some (11, this))]) rfl ?_
  refine xw.s (pc' := 109) (st' := [.inr (some (13, (xm_n S67 0 13))), .inr (some (11, this))]) (S1 := xm_mk 13 30 S67) rfl ?_
  obtain ⟨k69, q70⟩ : ∃ k, k = xm_n S67 0 13 := ⟨_, rfl⟩
  rw [← q70]
  replace h := h k69 q70
  obtain ⟨S71, e72⟩ : ∃ s, s = xm_mk 13 30 S67 := ⟨_, rfl⟩
  rw [← e72]
  replace h := h S71 e72
  refine xw.fq (c := 11) (j := 14) (e := 13) (nx := 112) (t := (some k69)) rfl rfl ?_
  obtain ⟨S73, e74⟩ : ∃ s, s = xm_sr S71 11 this 14 (some k69) := ⟨_, rfl⟩
  rw [← e74]
  replace h := h S73 e74
  refine xw.s (pc' := 113) (st' := [.inr (some (11, this))]) rfl ?_
  refine xw.s (pc' := 115) (st' := [.inl (30 : Int32), .inr (some (11, this))]) rfl ?_
  refine xw.s (pc' := 117) (st' := [.inr (some (13, (xm_n S73 0 13))), .inr (some (11, this))]) (S1 := xm_mk 13 30 S73) rfl ?_
  obtain ⟨k75, q76⟩ : ∃ k, k = xm_n S73 0 13 := ⟨_, rfl⟩
  rw [← q76]
  replace h := h k75 q76
  obtain ⟨S77, e78⟩ : ∃ s, s = xm_mk 13 30 S73 := ⟨_, rfl⟩
  rw [← e78]
  replace h := h S77 e78
  refine xw.fq (c := 11) (j := 15) (e := 13) (nx := 120) (t := (some k75)) rfl rfl ?_
  obtain ⟨S79, e80⟩ : ∃ s, s = xm_sr S77 11 this 15 (some k75) := ⟨_, rfl⟩
  rw [← e80]
  replace h := h S79 e80
  refine xw.s (pc' := 121) (st' := [.inr (some (11, this))]) rfl ?_
  refine xw.s (pc' := 123) (st' := [.inl (30 : Int32), .inr (some (11, this))]) rfl ?_
  refine xw.s (pc' := 125) (st' := [.inr (some (13, (xm_n S79 0 13))), .inr (some (11, this))]) (S1 := xm_mk 13 30 S79) rfl ?_
  obtain ⟨k81, q82⟩ : ∃ k, k = xm_n S79 0 13 := ⟨_, rfl⟩
  rw [← q82]
  replace h := h k81 q82
  obtain ⟨S83, e84⟩ : ∃ s, s = xm_mk 13 30 S79 := ⟨_, rfl⟩
  rw [← e84]
  replace h := h S83 e84
  refine xw.fq (c := 11) (j := 16) (e := 13) (nx := 128) (t := (some k81)) rfl rfl ?_
  obtain ⟨S85, e86⟩ : ∃ s, s = xm_sr S83 11 this 16 (some k81) := ⟨_, rfl⟩
  rw [← e86]
  replace h := h S85 e86
  refine xw.s (pc' := 129) (st' := [.inr (some (11, this))]) rfl ?_
  refine xw.s (pc' := 130) (st' := [.inl (0 : Int32), .inr (some (11, this))]) rfl ?_
  refine xw.fp (c := 11) (j := 17) (ty := 0) (nx := 133) rfl rfl (Or.inl rfl) ?_
  obtain ⟨S87, e88⟩ : ∃ s, s = xm_si S85 11 this 17 (0 : Int32) := ⟨_, rfl⟩
  rw [← e88]
  replace h := h S87 e88
  refine xw.s (pc' := 134) (st' := [.inr (some (11, this))]) rfl ?_
  refine xw.s (pc' := 137) (st' := [.inl (4400 : Int32), .inr (some (11, this))]) rfl ?_
  refine xw.s (pc' := 139) (st' := [.inr (some (13, (xm_n S87 0 13))), .inr (some (11, this))]) (S1 := xm_mk 13 4400 S87) rfl ?_
  obtain ⟨k89, q90⟩ : ∃ k, k = xm_n S87 0 13 := ⟨_, rfl⟩
  rw [← q90]
  replace h := h k89 q90
  obtain ⟨S91, e92⟩ : ∃ s, s = xm_mk 13 4400 S87 := ⟨_, rfl⟩
  rw [← e92]
  replace h := h S91 e92
  refine xw.fq (c := 11) (j := 18) (e := 13) (nx := 142) (t := (some k89)) rfl rfl ?_
  obtain ⟨S93, e94⟩ : ∃ s, s = xm_sr S91 11 this 18 (some k89) := ⟨_, rfl⟩
  rw [← e94]
  replace h := h S93 e94
  refine xw.s (pc' := 143) (st' := [.inr (some (11, this))]) rfl ?_
  refine xw.s (pc' := 146) (st' := [.inl (4400 : Int32), .inr (some (11, this))]) rfl ?_
  refine xw.s (pc' := 148) (st' := [.inr (some (13, (xm_n S93 0 13))), .inr (some (11, this))]) (S1 := xm_mk 13 4400 S93) rfl ?_
  obtain ⟨k95, q96⟩ : ∃ k, k = xm_n S93 0 13 := ⟨_, rfl⟩
  rw [← q96]
  replace h := h k95 q96
  obtain ⟨S97, e98⟩ : ∃ s, s = xm_mk 13 4400 S93 := ⟨_, rfl⟩
  rw [← e98]
  replace h := h S97 e98
  refine xw.fq (c := 11) (j := 19) (e := 13) (nx := 151) (t := (some k95)) rfl rfl ?_
  obtain ⟨S99, e100⟩ : ∃ s, s = xm_sr S97 11 this 19 (some k95) := ⟨_, rfl⟩
  rw [← e100]
  replace h := h S99 e100
  refine xw.s (pc' := 152) (st' := [.inr (some (11, this))]) rfl ?_
  refine xw.s (pc' := 155) (st' := [.inl (4400 : Int32), .inr (some (11, this))]) rfl ?_
  refine xw.s (pc' := 157) (st' := [.inr (some (13, (xm_n S99 0 13))), .inr (some (11, this))]) (S1 := xm_mk 13 4400 S99) rfl ?_
  obtain ⟨k101, q102⟩ : ∃ k, k = xm_n S99 0 13 := ⟨_, rfl⟩
  rw [← q102]
  replace h := h k101 q102
  obtain ⟨S103, e104⟩ : ∃ s, s = xm_mk 13 4400 S99 := ⟨_, rfl⟩
  rw [← e104]
  replace h := h S103 e104
  refine xw.fq (c := 11) (j := 20) (e := 13) (nx := 160) (t := (some k101)) rfl rfl ?_
  obtain ⟨S105, e106⟩ : ∃ s, s = xm_sr S103 11 this 20 (some k101) := ⟨_, rfl⟩
  rw [← e106]
  replace h := h S105 e106
  refine xw.s (pc' := 161) (st' := [.inr (some (11, this))]) rfl ?_
  refine xw.s (pc' := 164) (st' := [.inl (4400 : Int32), .inr (some (11, this))]) rfl ?_
  refine xw.s (pc' := 166) (st' := [.inr (some (13, (xm_n S105 0 13))), .inr (some (11, this))]) (S1 := xm_mk 13 4400 S105) rfl ?_
  obtain ⟨k107, q108⟩ : ∃ k, k = xm_n S105 0 13 := ⟨_, rfl⟩
  rw [← q108]
  replace h := h k107 q108
  obtain ⟨S109, e110⟩ : ∃ s, s = xm_mk 13 4400 S105 := ⟨_, rfl⟩
  rw [← e110]
  replace h := h S109 e110
  refine xw.fq (c := 11) (j := 21) (e := 13) (nx := 169) (t := (some k107)) rfl rfl ?_
  obtain ⟨S111, e112⟩ : ∃ s, s = xm_sr S109 11 this 21 (some k107) := ⟨_, rfl⟩
  rw [← e112]
  replace h := h S111 e112
  refine xw.s (pc' := 170) (st' := [.inr (some (11, this))]) rfl ?_
  refine xw.s (pc' := 173) (st' := [.inl (4400 : Int32), .inr (some (11, this))]) rfl ?_
  refine xw.s (pc' := 175) (st' := [.inr (some (13, (xm_n S111 0 13))), .inr (some (11, this))]) (S1 := xm_mk 13 4400 S111) rfl ?_
  obtain ⟨k113, q114⟩ : ∃ k, k = xm_n S111 0 13 := ⟨_, rfl⟩
  rw [← q114]
  replace h := h k113 q114
  obtain ⟨S115, e116⟩ : ∃ s, s = xm_mk 13 4400 S111 := ⟨_, rfl⟩
  rw [← e116]
  replace h := h S115 e116
  refine xw.fq (c := 11) (j := 22) (e := 13) (nx := 178) (t := (some k113)) rfl rfl ?_
  obtain ⟨S117, e118⟩ : ∃ s, s = xm_sr S115 11 this 22 (some k113) := ⟨_, rfl⟩
  rw [← e118]
  replace h := h S117 e118
  refine xw.s (pc' := 179) (st' := [.inr (some (11, this))]) rfl ?_
  refine xw.s (pc' := 180) (st' := [.inl (0 : Int32), .inr (some (11, this))]) rfl ?_
  refine xw.fp (c := 11) (j := 23) (ty := 0) (nx := 183) rfl rfl (Or.inl rfl) ?_
  obtain ⟨S119, e120⟩ : ∃ s, s = xm_si S117 11 this 23 (0 : Int32) := ⟨_, rfl⟩
  rw [← e120]
  replace h := h S119 e120
  refine xw.s (pc' := 184) (st' := [.inr (some (11, this))]) rfl ?_
  refine xw.s (pc' := 187) (st' := [.inl (4400 : Int32), .inr (some (11, this))]) rfl ?_
  refine xw.s (pc' := 189) (st' := [.inr (some (13, (xm_n S119 0 13))), .inr (some (11, this))]) (S1 := xm_mk 13 4400 S119) rfl ?_
  obtain ⟨k121, q122⟩ : ∃ k, k = xm_n S119 0 13 := ⟨_, rfl⟩
  rw [← q122]
  replace h := h k121 q122
  obtain ⟨S123, e124⟩ : ∃ s, s = xm_mk 13 4400 S119 := ⟨_, rfl⟩
  rw [← e124]
  replace h := h S123 e124
  refine xw.fq (c := 11) (j := 24) (e := 13) (nx := 192) (t := (some k121)) rfl rfl ?_
  obtain ⟨S125, e126⟩ : ∃ s, s = xm_sr S123 11 this 24 (some k121) := ⟨_, rfl⟩
  rw [← e126]
  replace h := h S125 e126
  refine xw.s (pc' := 193) (st' := [.inr (some (11, this))]) rfl ?_
  refine xw.s (pc' := 196) (st' := [.inl (4400 : Int32), .inr (some (11, this))]) rfl ?_
  refine xw.s (pc' := 198) (st' := [.inr (some (13, (xm_n S125 0 13))), .inr (some (11, this))]) (S1 := xm_mk 13 4400 S125) rfl ?_
  obtain ⟨k127, q128⟩ : ∃ k, k = xm_n S125 0 13 := ⟨_, rfl⟩
  rw [← q128]
  replace h := h k127 q128
  obtain ⟨S129, e130⟩ : ∃ s, s = xm_mk 13 4400 S125 := ⟨_, rfl⟩
  rw [← e130]
  replace h := h S129 e130
  refine xw.fq (c := 11) (j := 25) (e := 13) (nx := 201) (t := (some k127)) rfl rfl ?_
  obtain ⟨S131, e132⟩ : ∃ s, s = xm_sr S129 11 this 25 (some k127) := ⟨_, rfl⟩
  rw [← e132]
  replace h := h S131 e132
  refine xw.s (pc' := 202) (st' := [.inr (some (11, this))]) rfl ?_
  refine xw.s (pc' := 205) (st' := [.inl (4400 : Int32), .inr (some (11, this))]) rfl ?_
  refine xw.s (pc' := 207) (st' := [.inr (some (13, (xm_n S131 0 13))), .inr (some (11, this))]) (S1 := xm_mk 13 4400 S131) rfl ?_
  obtain ⟨k133, q134⟩ : ∃ k, k = xm_n S131 0 13 := ⟨_, rfl⟩
  rw [← q134]
  replace h := h k133 q134
  obtain ⟨S135, e136⟩ : ∃ s, s = xm_mk 13 4400 S131 := ⟨_, rfl⟩
  rw [← e136]
  replace h := h S135 e136
  refine xw.fq (c := 11) (j := 26) (e := 13) (nx := 210) (t := (some k133)) rfl rfl ?_
  obtain ⟨S137, e138⟩ : ∃ s, s = xm_sr S135 11 this 26 (some k133) := ⟨_, rfl⟩
  rw [← e138]
  replace h := h S137 e138
  refine xw.s (pc' := 211) (st' := [.inr (some (11, this))]) rfl ?_
  refine xw.s (pc' := 214) (st' := [.inl (4400 : Int32), .inr (some (11, this))]) rfl ?_
  refine xw.s (pc' := 216) (st' := [.inr (some (13, (xm_n S137 0 13))), .inr (some (11, this))]) (S1 := xm_mk 13 4400 S137) rfl ?_
  obtain ⟨k139, q140⟩ : ∃ k, k = xm_n S137 0 13 := ⟨_, rfl⟩
  rw [← q140]
  replace h := h k139 q140
  obtain ⟨S141, e142⟩ : ∃ s, s = xm_mk 13 4400 S137 := ⟨_, rfl⟩
  rw [← e142]
  replace h := h S141 e142
  refine xw.fq (c := 11) (j := 27) (e := 13) (nx := 219) (t := (some k139)) rfl rfl ?_
  obtain ⟨S143, e144⟩ : ∃ s, s = xm_sr S141 11 this 27 (some k139) := ⟨_, rfl⟩
  rw [← e144]
  replace h := h S143 e144
  refine xw.s (pc' := 220) (st' := [.inr (some (11, this))]) rfl ?_
  refine xw.s (pc' := 223) (st' := [.inl (4400 : Int32), .inr (some (11, this))]) rfl ?_
  refine xw.s (pc' := 225) (st' := [.inr (some (13, (xm_n S143 0 13))), .inr (some (11, this))]) (S1 := xm_mk 13 4400 S143) rfl ?_
  obtain ⟨k145, q146⟩ : ∃ k, k = xm_n S143 0 13 := ⟨_, rfl⟩
  rw [← q146]
  replace h := h k145 q146
  obtain ⟨S147, e148⟩ : ∃ s, s = xm_mk 13 4400 S143 := ⟨_, rfl⟩
  rw [← e148]
  replace h := h S147 e148
  refine xw.fq (c := 11) (j := 28) (e := 13) (nx := 228) (t := (some k145)) rfl rfl ?_
  obtain ⟨S149, e150⟩ : ∃ s, s = xm_sr S147 11 this 28 (some k145) := ⟨_, rfl⟩
  rw [← e150]
  replace h := h S149 e150
  refine xw.s (pc' := 229) (st' := [.inr (some (11, this))]) rfl ?_
  refine xw.s (pc' := 232) (st' := [.inl (4400 : Int32), .inr (some (11, this))]) rfl ?_
  refine xw.s (pc' := 234) (st' := [.inr (some (13, (xm_n S149 0 13))), .inr (some (11, this))]) (S1 := xm_mk 13 4400 S149) rfl ?_
  obtain ⟨k151, q152⟩ : ∃ k, k = xm_n S149 0 13 := ⟨_, rfl⟩
  rw [← q152]
  replace h := h k151 q152
  obtain ⟨S153, e154⟩ : ∃ s, s = xm_mk 13 4400 S149 := ⟨_, rfl⟩
  rw [← e154]
  replace h := h S153 e154
  refine xw.fq (c := 11) (j := 29) (e := 13) (nx := 237) (t := (some k151)) rfl rfl ?_
  obtain ⟨S155, e156⟩ : ∃ s, s = xm_sr S153 11 this 29 (some k151) := ⟨_, rfl⟩
  rw [← e156]
  replace h := h S155 e156
  refine xw.s (pc' := 238) (st' := [.inr (some (11, this))]) rfl ?_
  refine xw.s (pc' := 239) (st' := [.inl (0 : Int32), .inr (some (11, this))]) rfl ?_
  refine xw.fp (c := 11) (j := 30) (ty := 0) (nx := 242) rfl rfl (Or.inl rfl) ?_
  obtain ⟨S157, e158⟩ : ∃ s, s = xm_si S155 11 this 30 (0 : Int32) := ⟨_, rfl⟩
  rw [← e158]
  replace h := h S157 e158
  refine xw.s (pc' := 243) (st' := [.inr (some (11, this))]) rfl ?_
  refine xw.s (pc' := 245) (st' := [.inl (24 : Int32), .inr (some (11, this))]) rfl ?_
  refine xw.s (pc' := 247) (st' := [.inr (some (13, (xm_n S157 0 13))), .inr (some (11, this))]) (S1 := xm_mk 13 24 S157) rfl ?_
  obtain ⟨k159, q160⟩ : ∃ k, k = xm_n S157 0 13 := ⟨_, rfl⟩
  rw [← q160]
  replace h := h k159 q160
  obtain ⟨S161, e162⟩ : ∃ s, s = xm_mk 13 24 S157 := ⟨_, rfl⟩
  rw [← e162]
  replace h := h S161 e162
  refine xw.fq (c := 11) (j := 31) (e := 13) (nx := 250) (t := (some k159)) rfl rfl ?_
  obtain ⟨S163, e164⟩ : ∃ s, s = xm_sr S161 11 this 31 (some k159) := ⟨_, rfl⟩
  rw [← e164]
  replace h := h S163 e164
  refine xw.s (pc' := 251) (st' := [.inr (some (11, this))]) rfl ?_
  refine xw.s (pc' := 253) (st' := [.inl (24 : Int32), .inr (some (11, this))]) rfl ?_
  refine xw.s (pc' := 255) (st' := [.inr (some (13, (xm_n S163 0 13))), .inr (some (11, this))]) (S1 := xm_mk 13 24 S163) rfl ?_
  obtain ⟨k165, q166⟩ : ∃ k, k = xm_n S163 0 13 := ⟨_, rfl⟩
  rw [← q166]
  replace h := h k165 q166
  obtain ⟨S167, e168⟩ : ∃ s, s = xm_mk 13 24 S163 := ⟨_, rfl⟩
  rw [← e168]
  replace h := h S167 e168
  refine xw.fq (c := 11) (j := 32) (e := 13) (nx := 258) (t := (some k165)) rfl rfl ?_
  obtain ⟨S169, e170⟩ : ∃ s, s = xm_sr S167 11 this 32 (some k165) := ⟨_, rfl⟩
  rw [← e170]
  replace h := h S169 e170
  refine xw.s (pc' := 259) (st' := [.inr (some (11, this))]) rfl ?_
  refine xw.s (pc' := 261) (st' := [.inl (24 : Int32), .inr (some (11, this))]) rfl ?_
  refine xw.s (pc' := 263) (st' := [.inr (some (13, (xm_n S169 0 13))), .inr (some (11, this))]) (S1 := xm_mk 13 24 S169) rfl ?_
  obtain ⟨k171, q172⟩ : ∃ k, k = xm_n S169 0 13 := ⟨_, rfl⟩
  rw [← q172]
  replace h := h k171 q172
  obtain ⟨S173, e174⟩ : ∃ s, s = xm_mk 13 24 S169 := ⟨_, rfl⟩
  rw [← e174]
  replace h := h S173 e174
  refine xw.fq (c := 11) (j := 33) (e := 13) (nx := 266) (t := (some k171)) rfl rfl ?_
  obtain ⟨S175, e176⟩ : ∃ s, s = xm_sr S173 11 this 33 (some k171) := ⟨_, rfl⟩
  rw [← e176]
  replace h := h S175 e176
  refine xw.s (pc' := 267) (st' := [.inr (some (11, this))]) rfl ?_
  refine xw.s (pc' := 269) (st' := [.inl (24 : Int32), .inr (some (11, this))]) rfl ?_
  refine xw.s (pc' := 271) (st' := [.inr (some (13, (xm_n S175 0 13))), .inr (some (11, this))]) (S1 := xm_mk 13 24 S175) rfl ?_
  obtain ⟨k177, q178⟩ : ∃ k, k = xm_n S175 0 13 := ⟨_, rfl⟩
  rw [← q178]
  replace h := h k177 q178
  obtain ⟨S179, e180⟩ : ∃ s, s = xm_mk 13 24 S175 := ⟨_, rfl⟩
  rw [← e180]
  replace h := h S179 e180
  refine xw.fq (c := 11) (j := 34) (e := 13) (nx := 274) (t := (some k177)) rfl rfl ?_
  obtain ⟨S181, e182⟩ : ∃ s, s = xm_sr S179 11 this 34 (some k177) := ⟨_, rfl⟩
  rw [← e182]
  replace h := h S181 e182
  refine xw.s (pc' := 275) (st' := [.inr (some (11, this))]) rfl ?_
  refine xw.s (pc' := 277) (st' := [.inl (24 : Int32), .inr (some (11, this))]) rfl ?_
  refine xw.s (pc' := 279) (st' := [.inr (some (13, (xm_n S181 0 13))), .inr (some (11, this))]) (S1 := xm_mk 13 24 S181) rfl ?_
  obtain ⟨k183, q184⟩ : ∃ k, k = xm_n S181 0 13 := ⟨_, rfl⟩
  rw [← q184]
  replace h := h k183 q184
  obtain ⟨S185, e186⟩ : ∃ s, s = xm_mk 13 24 S181 := ⟨_, rfl⟩
  rw [← e186]
  replace h := h S185 e186
  refine xw.fq (c := 11) (j := 35) (e := 13) (nx := 282) (t := (some k183)) rfl rfl ?_
  obtain ⟨S187, e188⟩ : ∃ s, s = xm_sr S185 11 this 35 (some k183) := ⟨_, rfl⟩
  rw [← e188]
  replace h := h S187 e188
  refine xw.s (pc' := 283) (st' := [.inr (some (11, this))]) rfl ?_
  refine xw.s (pc' := 285) (st' := [.inl (24 : Int32), .inr (some (11, this))]) rfl ?_
  refine xw.s (pc' := 287) (st' := [.inr (some (13, (xm_n S187 0 13))), .inr (some (11, this))]) (S1 := xm_mk 13 24 S187) rfl ?_
  obtain ⟨k189, q190⟩ : ∃ k, k = xm_n S187 0 13 := ⟨_, rfl⟩
  rw [← q190]
  replace h := h k189 q190
  obtain ⟨S191, e192⟩ : ∃ s, s = xm_mk 13 24 S187 := ⟨_, rfl⟩
  rw [← e192]
  replace h := h S191 e192
  refine xw.fq (c := 11) (j := 36) (e := 13) (nx := 290) (t := (some k189)) rfl rfl ?_
  obtain ⟨S193, e194⟩ : ∃ s, s = xm_sr S191 11 this 36 (some k189) := ⟨_, rfl⟩
  rw [← e194]
  replace h := h S193 e194
  refine xw.s (pc' := 291) (st' := [.inr (some (11, this))]) rfl ?_
  refine xw.s (pc' := 293) (st' := [.inl (24 : Int32), .inr (some (11, this))]) rfl ?_
  refine xw.s (pc' := 295) (st' := [.inr (some (13, (xm_n S193 0 13))), .inr (some (11, this))]) (S1 := xm_mk 13 24 S193) rfl ?_
  obtain ⟨k195, q196⟩ : ∃ k, k = xm_n S193 0 13 := ⟨_, rfl⟩
  rw [← q196]
  replace h := h k195 q196
  obtain ⟨S197, e198⟩ : ∃ s, s = xm_mk 13 24 S193 := ⟨_, rfl⟩
  rw [← e198]
  replace h := h S197 e198
  refine xw.fq (c := 11) (j := 37) (e := 13) (nx := 298) (t := (some k195)) rfl rfl ?_
  obtain ⟨S199, e200⟩ : ∃ s, s = xm_sr S197 11 this 37 (some k195) := ⟨_, rfl⟩
  rw [← e200]
  replace h := h S199 e200
  refine xw.s (pc' := 299) (st' := [.inr (some (11, this))]) rfl ?_
  refine xw.s (pc' := 301) (st' := [.inl (24 : Int32), .inr (some (11, this))]) rfl ?_
  refine xw.s (pc' := 303) (st' := [.inr (some (13, (xm_n S199 0 13))), .inr (some (11, this))]) (S1 := xm_mk 13 24 S199) rfl ?_
  obtain ⟨k201, q202⟩ : ∃ k, k = xm_n S199 0 13 := ⟨_, rfl⟩
  rw [← q202]
  replace h := h k201 q202
  obtain ⟨S203, e204⟩ : ∃ s, s = xm_mk 13 24 S199 := ⟨_, rfl⟩
  rw [← e204]
  replace h := h S203 e204
  refine xw.fq (c := 11) (j := 38) (e := 13) (nx := 306) (t := (some k201)) rfl rfl ?_
  obtain ⟨S205, e206⟩ : ∃ s, s = xm_sr S203 11 this 38 (some k201) := ⟨_, rfl⟩
  rw [← e206]
  replace h := h S205 e206
  refine xw.s (pc' := 307) (st' := [.inr (some (11, this))]) rfl ?_
  refine xw.s (pc' := 309) (st' := [.inl (24 : Int32), .inr (some (11, this))]) rfl ?_
  refine xw.s (pc' := 311) (st' := [.inr (some (13, (xm_n S205 0 13))), .inr (some (11, this))]) (S1 := xm_mk 13 24 S205) rfl ?_
  obtain ⟨k207, q208⟩ : ∃ k, k = xm_n S205 0 13 := ⟨_, rfl⟩
  rw [← q208]
  replace h := h k207 q208
  obtain ⟨S209, e210⟩ : ∃ s, s = xm_mk 13 24 S205 := ⟨_, rfl⟩
  rw [← e210]
  replace h := h S209 e210
  refine xw.fq (c := 11) (j := 39) (e := 13) (nx := 314) (t := (some k207)) rfl rfl ?_
  obtain ⟨S211, e212⟩ : ∃ s, s = xm_sr S209 11 this 39 (some k207) := ⟨_, rfl⟩
  rw [← e212]
  replace h := h S211 e212
  refine xw.s (pc' := 315) (st' := [.inr (some (11, this))]) rfl ?_
  refine xw.s (pc' := 317) (st' := [.inl (24 : Int32), .inr (some (11, this))]) rfl ?_
  refine xw.s (pc' := 319) (st' := [.inr (some (13, (xm_n S211 0 13))), .inr (some (11, this))]) (S1 := xm_mk 13 24 S211) rfl ?_
  obtain ⟨k213, q214⟩ : ∃ k, k = xm_n S211 0 13 := ⟨_, rfl⟩
  rw [← q214]
  replace h := h k213 q214
  obtain ⟨S215, e216⟩ : ∃ s, s = xm_mk 13 24 S211 := ⟨_, rfl⟩
  rw [← e216]
  replace h := h S215 e216
  refine xw.fq (c := 11) (j := 40) (e := 13) (nx := 322) (t := (some k213)) rfl rfl ?_
  obtain ⟨S217, e218⟩ : ∃ s, s = xm_sr S215 11 this 40 (some k213) := ⟨_, rfl⟩
  rw [← e218]
  replace h := h S217 e218
  refine xw.s (pc' := 323) (st' := [.inr (some (11, this))]) rfl ?_
  refine xw.s (pc' := 325) (st' := [.inl (24 : Int32), .inr (some (11, this))]) rfl ?_
  refine xw.s (pc' := 327) (st' := [.inr (some (13, (xm_n S217 0 13))), .inr (some (11, this))]) (S1 := xm_mk 13 24 S217) rfl ?_
  obtain ⟨k219, q220⟩ : ∃ k, k = xm_n S217 0 13 := ⟨_, rfl⟩
  rw [← q220]
  replace h := h k219 q220
  obtain ⟨S221, e222⟩ : ∃ s, s = xm_mk 13 24 S217 := ⟨_, rfl⟩
  rw [← e222]
  replace h := h S221 e222
  refine xw.fq (c := 11) (j := 41) (e := 13) (nx := 330) (t := (some k219)) rfl rfl ?_
  obtain ⟨S223, e224⟩ : ∃ s, s = xm_sr S221 11 this 41 (some k219) := ⟨_, rfl⟩
  rw [← e224]
  replace h := h S223 e224
  refine xw.s (pc' := 331) (st' := [.inr (some (11, this))]) rfl ?_
  refine xw.s (pc' := 333) (st' := [.inl (24 : Int32), .inr (some (11, this))]) rfl ?_
  refine xw.s (pc' := 335) (st' := [.inr (some (13, (xm_n S223 0 13))), .inr (some (11, this))]) (S1 := xm_mk 13 24 S223) rfl ?_
  obtain ⟨k225, q226⟩ : ∃ k, k = xm_n S223 0 13 := ⟨_, rfl⟩
  rw [← q226]
  replace h := h k225 q226
  obtain ⟨S227, e228⟩ : ∃ s, s = xm_mk 13 24 S223 := ⟨_, rfl⟩
  rw [← e228]
  replace h := h S227 e228
  refine xw.fq (c := 11) (j := 42) (e := 13) (nx := 338) (t := (some k225)) rfl rfl ?_
  obtain ⟨S229, e230⟩ : ∃ s, s = xm_sr S227 11 this 42 (some k225) := ⟨_, rfl⟩
  rw [← e230]
  replace h := h S229 e230
  refine xw.s (pc' := 339) (st' := [.inr (some (11, this))]) rfl ?_
  refine xw.s (pc' := 342) (st' := [.inl (240 : Int32), .inr (some (11, this))]) rfl ?_
  refine xw.s (pc' := 344) (st' := [.inr (some (13, (xm_n S229 0 13))), .inr (some (11, this))]) (S1 := xm_mk 13 240 S229) rfl ?_
  obtain ⟨k231, q232⟩ : ∃ k, k = xm_n S229 0 13 := ⟨_, rfl⟩
  rw [← q232]
  replace h := h k231 q232
  obtain ⟨S233, e234⟩ : ∃ s, s = xm_mk 13 240 S229 := ⟨_, rfl⟩
  rw [← e234]
  replace h := h S233 e234
  refine xw.fq (c := 11) (j := 43) (e := 13) (nx := 347) (t := (some k231)) rfl rfl ?_
  obtain ⟨S235, e236⟩ : ∃ s, s = xm_sr S233 11 this 43 (some k231) := ⟨_, rfl⟩
  rw [← e236]
  replace h := h S235 e236
  refine xw.s (pc' := 348) (st' := [.inr (some (11, this))]) rfl ?_
  refine xw.s (pc' := 351) (st' := [.inl (192 : Int32), .inr (some (11, this))]) rfl ?_
  refine xw.s (pc' := 353) (st' := [.inr (some (13, (xm_n S235 0 13))), .inr (some (11, this))]) (S1 := xm_mk 13 192 S235) rfl ?_
  obtain ⟨k237, q238⟩ : ∃ k, k = xm_n S235 0 13 := ⟨_, rfl⟩
  rw [← q238]
  replace h := h k237 q238
  obtain ⟨S239, e240⟩ : ∃ s, s = xm_mk 13 192 S235 := ⟨_, rfl⟩
  rw [← e240]
  replace h := h S239 e240
  refine xw.fq (c := 11) (j := 44) (e := 13) (nx := 356) (t := (some k237)) rfl rfl ?_
  obtain ⟨S241, e242⟩ : ∃ s, s = xm_sr S239 11 this 44 (some k237) := ⟨_, rfl⟩
  rw [← e242]
  replace h := h S241 e242
  refine xw.s (pc' := 357) (st' := [.inr (some (11, this))]) rfl ?_
  refine xw.s (pc' := 360) (st' := [.inl (192 : Int32), .inr (some (11, this))]) rfl ?_
  refine xw.s (pc' := 362) (st' := [.inr (some (13, (xm_n S241 0 13))), .inr (some (11, this))]) (S1 := xm_mk 13 192 S241) rfl ?_
  obtain ⟨k243, q244⟩ : ∃ k, k = xm_n S241 0 13 := ⟨_, rfl⟩
  rw [← q244]
  replace h := h k243 q244
  obtain ⟨S245, e246⟩ : ∃ s, s = xm_mk 13 192 S241 := ⟨_, rfl⟩
  rw [← e246]
  replace h := h S245 e246
  refine xw.fq (c := 11) (j := 45) (e := 13) (nx := 365) (t := (some k243)) rfl rfl ?_
  obtain ⟨S247, e248⟩ : ∃ s, s = xm_sr S245 11 this 45 (some k243) := ⟨_, rfl⟩
  rw [← e248]
  replace h := h S247 e248
  refine xw.s (pc' := 366) (st' := [.inr (some (11, this))]) rfl ?_
  refine xw.s (pc' := 369) (st' := [.inl (192 : Int32), .inr (some (11, this))]) rfl ?_
  refine xw.s (pc' := 371) (st' := [.inr (some (14, (xm_n S247 0 14))), .inr (some (11, this))]) (S1 := xm_mk 14 192 S247) rfl ?_
  obtain ⟨k249, q250⟩ : ∃ k, k = xm_n S247 0 14 := ⟨_, rfl⟩
  rw [← q250]
  replace h := h k249 q250
  obtain ⟨S251, e252⟩ : ∃ s, s = xm_mk 14 192 S247 := ⟨_, rfl⟩
  rw [← e252]
  replace h := h S251 e252
  refine xw.fq (c := 11) (j := 46) (e := 14) (nx := 374) (t := (some k249)) rfl rfl ?_
  obtain ⟨S253, e254⟩ : ∃ s, s = xm_sr S251 11 this 46 (some k249) := ⟨_, rfl⟩
  rw [← e254]
  replace h := h S253 e254
  refine xw.s (pc' := 375) (st' := [.inr (some (11, this))]) rfl ?_
  refine xw.s (pc' := 376) (st' := [.inl (0 : Int32), .inr (some (11, this))]) rfl ?_
  refine xw.fp (c := 11) (j := 47) (ty := 0) (nx := 379) rfl rfl (Or.inl rfl) ?_
  obtain ⟨S255, e256⟩ : ∃ s, s = xm_si S253 11 this 47 (0 : Int32) := ⟨_, rfl⟩
  rw [← e256]
  replace h := h S255 e256
  refine xw.s (pc' := 380) (st' := [.inr (some (11, this))]) rfl ?_
  refine xw.s (pc' := 382) (st' := [.inl (11 : Int32), .inr (some (11, this))]) rfl ?_
  refine xw.s (pc' := 384) (st' := [.inr (some (13, (xm_n S255 0 13))), .inr (some (11, this))]) (S1 := xm_mk 13 11 S255) rfl ?_
  obtain ⟨k257, q258⟩ : ∃ k, k = xm_n S255 0 13 := ⟨_, rfl⟩
  rw [← q258]
  replace h := h k257 q258
  obtain ⟨S259, e260⟩ : ∃ s, s = xm_mk 13 11 S255 := ⟨_, rfl⟩
  rw [← e260]
  replace h := h S259 e260
  refine xw.fq (c := 11) (j := 48) (e := 13) (nx := 387) (t := (some k257)) rfl rfl ?_
  obtain ⟨S261, e262⟩ : ∃ s, s = xm_sr S259 11 this 48 (some k257) := ⟨_, rfl⟩
  rw [← e262]
  replace h := h S261 e262
  refine xw.s (pc' := 388) (st' := [.inr (some (11, this))]) rfl ?_
  refine xw.s (pc' := 390) (st' := [.inl (55 : Int32), .inr (some (11, this))]) rfl ?_
  refine xw.s (pc' := 392) (st' := [.inr (some (13, (xm_n S261 0 13))), .inr (some (11, this))]) (S1 := xm_mk 13 55 S261) rfl ?_
  obtain ⟨k263, q264⟩ : ∃ k, k = xm_n S261 0 13 := ⟨_, rfl⟩
  rw [← q264]
  replace h := h k263 q264
  obtain ⟨S265, e266⟩ : ∃ s, s = xm_mk 13 55 S261 := ⟨_, rfl⟩
  rw [← e266]
  replace h := h S265 e266
  refine xw.fq (c := 11) (j := 49) (e := 13) (nx := 395) (t := (some k263)) rfl rfl ?_
  obtain ⟨S267, e268⟩ : ∃ s, s = xm_sr S265 11 this 49 (some k263) := ⟨_, rfl⟩
  rw [← e268]
  replace h := h S267 e268
  refine xw.s (pc' := 396) (st' := [.inr (some (11, this))]) rfl ?_
  refine xw.s (pc' := 397) (st' := [.inl (0 : Int32), .inr (some (11, this))]) rfl ?_
  refine xw.fp (c := 11) (j := 50) (ty := 0) (nx := 400) rfl rfl (Or.inl rfl) ?_
  obtain ⟨S269, e270⟩ : ∃ s, s = xm_si S267 11 this 50 (0 : Int32) := ⟨_, rfl⟩
  rw [← e270]
  replace h := h S269 e270
  refine xw.s (pc' := 401) (st' := [.inr (some (11, this))]) rfl ?_
  refine xw.s (pc' := 403) (st' := [.inl (60 : Int32), .inr (some (11, this))]) rfl ?_
  refine xw.s (pc' := 405) (st' := [.inr (some (13, (xm_n S269 0 13))), .inr (some (11, this))]) (S1 := xm_mk 13 60 S269) rfl ?_
  obtain ⟨k271, q272⟩ : ∃ k, k = xm_n S269 0 13 := ⟨_, rfl⟩
  rw [← q272]
  replace h := h k271 q272
  obtain ⟨S273, e274⟩ : ∃ s, s = xm_mk 13 60 S269 := ⟨_, rfl⟩
  rw [← e274]
  replace h := h S273 e274
  refine xw.fq (c := 11) (j := 51) (e := 13) (nx := 408) (t := (some k271)) rfl rfl ?_
  obtain ⟨S275, e276⟩ : ∃ s, s = xm_sr S273 11 this 51 (some k271) := ⟨_, rfl⟩
  rw [← e276]
  replace h := h S275 e276
  refine xw.s (pc' := 409) (st' := [.inr (some (11, this))]) rfl ?_
  refine xw.s (pc' := 411) (st' := [.inl (60 : Int32), .inr (some (11, this))]) rfl ?_
  refine xw.s (pc' := 413) (st' := [.inr (some (13, (xm_n S275 0 13))), .inr (some (11, this))]) (S1 := xm_mk 13 60 S275) rfl ?_
  obtain ⟨k277, q278⟩ : ∃ k, k = xm_n S275 0 13 := ⟨_, rfl⟩
  rw [← q278]
  replace h := h k277 q278
  obtain ⟨S279, e280⟩ : ∃ s, s = xm_mk 13 60 S275 := ⟨_, rfl⟩
  rw [← e280]
  replace h := h S279 e280
  refine xw.fq (c := 11) (j := 52) (e := 13) (nx := 416) (t := (some k277)) rfl rfl ?_
  obtain ⟨S281, e282⟩ : ∃ s, s = xm_sr S279 11 this 52 (some k277) := ⟨_, rfl⟩
  rw [← e282]
  replace h := h S281 e282
  refine xw.s (pc' := 417) (st' := [.inr (some (11, this))]) rfl ?_
  refine xw.s (pc' := 419) (st' := [.inl (60 : Int32), .inr (some (11, this))]) rfl ?_
  refine xw.s (pc' := 421) (st' := [.inr (some (13, (xm_n S281 0 13))), .inr (some (11, this))]) (S1 := xm_mk 13 60 S281) rfl ?_
  obtain ⟨k283, q284⟩ : ∃ k, k = xm_n S281 0 13 := ⟨_, rfl⟩
  rw [← q284]
  replace h := h k283 q284
  obtain ⟨S285, e286⟩ : ∃ s, s = xm_mk 13 60 S281 := ⟨_, rfl⟩
  rw [← e286]
  replace h := h S285 e286
  refine xw.fq (c := 11) (j := 53) (e := 13) (nx := 424) (t := (some k283)) rfl rfl ?_
  obtain ⟨S287, e288⟩ : ∃ s, s = xm_sr S285 11 this 53 (some k283) := ⟨_, rfl⟩
  rw [← e288]
  replace h := h S287 e288
  refine xw.s (pc' := 425) (st' := [.inr (some (11, this))]) rfl ?_
  refine xw.s (pc' := 427) (st' := [.inl (60 : Int32), .inr (some (11, this))]) rfl ?_
  refine xw.s (pc' := 429) (st' := [.inr (some (13, (xm_n S287 0 13))), .inr (some (11, this))]) (S1 := xm_mk 13 60 S287) rfl ?_
  obtain ⟨k289, q290⟩ : ∃ k, k = xm_n S287 0 13 := ⟨_, rfl⟩
  rw [← q290]
  replace h := h k289 q290
  obtain ⟨S291, e292⟩ : ∃ s, s = xm_mk 13 60 S287 := ⟨_, rfl⟩
  rw [← e292]
  replace h := h S291 e292
  refine xw.fq (c := 11) (j := 54) (e := 13) (nx := 432) (t := (some k289)) rfl rfl ?_
  obtain ⟨S293, e294⟩ : ∃ s, s = xm_sr S291 11 this 54 (some k289) := ⟨_, rfl⟩
  rw [← e294]
  replace h := h S293 e294
  refine xw.s (pc' := 433) (st' := [.inr (some (11, this))]) rfl ?_
  refine xw.s (pc' := 435) (st' := [.inl (60 : Int32), .inr (some (11, this))]) rfl ?_
  refine xw.s (pc' := 437) (st' := [.inr (some (13, (xm_n S293 0 13))), .inr (some (11, this))]) (S1 := xm_mk 13 60 S293) rfl ?_
  obtain ⟨k295, q296⟩ : ∃ k, k = xm_n S293 0 13 := ⟨_, rfl⟩
  rw [← q296]
  replace h := h k295 q296
  obtain ⟨S297, e298⟩ : ∃ s, s = xm_mk 13 60 S293 := ⟨_, rfl⟩
  rw [← e298]
  replace h := h S297 e298
  refine xw.fq (c := 11) (j := 55) (e := 13) (nx := 440) (t := (some k295)) rfl rfl ?_
  obtain ⟨S299, e300⟩ : ∃ s, s = xm_sr S297 11 this 55 (some k295) := ⟨_, rfl⟩
  rw [← e300]
  replace h := h S299 e300
  refine xw.s (pc' := 441) (st' := [.inr (some (11, this))]) rfl ?_
  refine xw.s (pc' := 443) (st' := [.inl (60 : Int32), .inr (some (11, this))]) rfl ?_
  refine xw.s (pc' := 445) (st' := [.inr (some (13, (xm_n S299 0 13))), .inr (some (11, this))]) (S1 := xm_mk 13 60 S299) rfl ?_
  obtain ⟨k301, q302⟩ : ∃ k, k = xm_n S299 0 13 := ⟨_, rfl⟩
  rw [← q302]
  replace h := h k301 q302
  obtain ⟨S303, e304⟩ : ∃ s, s = xm_mk 13 60 S299 := ⟨_, rfl⟩
  rw [← e304]
  replace h := h S303 e304
  refine xw.fq (c := 11) (j := 56) (e := 13) (nx := 448) (t := (some k301)) rfl rfl ?_
  obtain ⟨S305, e306⟩ : ∃ s, s = xm_sr S303 11 this 56 (some k301) := ⟨_, rfl⟩
  rw [← e306]
  replace h := h S305 e306
  refine xw.s (pc' := 449) (st' := [.inr (some (11, this))]) rfl ?_
  refine xw.s (pc' := 451) (st' := [.inl (60 : Int32), .inr (some (11, this))]) rfl ?_
  refine xw.s (pc' := 453) (st' := [.inr (some (13, (xm_n S305 0 13))), .inr (some (11, this))]) (S1 := xm_mk 13 60 S305) rfl ?_
  obtain ⟨k307, q308⟩ : ∃ k, k = xm_n S305 0 13 := ⟨_, rfl⟩
  rw [← q308]
  replace h := h k307 q308
  obtain ⟨S309, e310⟩ : ∃ s, s = xm_mk 13 60 S305 := ⟨_, rfl⟩
  rw [← e310]
  replace h := h S309 e310
  refine xw.fq (c := 11) (j := 57) (e := 13) (nx := 456) (t := (some k307)) rfl rfl ?_
  obtain ⟨S311, e312⟩ : ∃ s, s = xm_sr S309 11 this 57 (some k307) := ⟨_, rfl⟩
  rw [← e312]
  replace h := h S311 e312
  refine xw.s (pc' := 457) (st' := [.inr (some (11, this))]) rfl ?_
  refine xw.s (pc' := 459) (st' := [.inl (60 : Int32), .inr (some (11, this))]) rfl ?_
  refine xw.s (pc' := 461) (st' := [.inr (some (13, (xm_n S311 0 13))), .inr (some (11, this))]) (S1 := xm_mk 13 60 S311) rfl ?_
  obtain ⟨k313, q314⟩ : ∃ k, k = xm_n S311 0 13 := ⟨_, rfl⟩
  rw [← q314]
  replace h := h k313 q314
  obtain ⟨S315, e316⟩ : ∃ s, s = xm_mk 13 60 S311 := ⟨_, rfl⟩
  rw [← e316]
  replace h := h S315 e316
  refine xw.fq (c := 11) (j := 58) (e := 13) (nx := 464) (t := (some k313)) rfl rfl ?_
  obtain ⟨S317, e318⟩ : ∃ s, s = xm_sr S315 11 this 58 (some k313) := ⟨_, rfl⟩
  rw [← e318]
  replace h := h S317 e318
  refine xw.s (pc' := 465) (st' := [.inr (some (11, this))]) rfl ?_
  refine xw.s (pc' := 467) (st' := [.inl (60 : Int32), .inr (some (11, this))]) rfl ?_
  refine xw.s (pc' := 469) (st' := [.inr (some (13, (xm_n S317 0 13))), .inr (some (11, this))]) (S1 := xm_mk 13 60 S317) rfl ?_
  obtain ⟨k319, q320⟩ : ∃ k, k = xm_n S317 0 13 := ⟨_, rfl⟩
  rw [← q320]
  replace h := h k319 q320
  obtain ⟨S321, e322⟩ : ∃ s, s = xm_mk 13 60 S317 := ⟨_, rfl⟩
  rw [← e322]
  replace h := h S321 e322
  refine xw.fq (c := 11) (j := 59) (e := 13) (nx := 472) (t := (some k319)) rfl rfl ?_
  obtain ⟨S323, e324⟩ : ∃ s, s = xm_sr S321 11 this 59 (some k319) := ⟨_, rfl⟩
  rw [← e324]
  replace h := h S323 e324
  refine xw.s (pc' := 473) (st' := [.inr (some (11, this))]) rfl ?_
  refine xw.s (pc' := 474) (st' := [.inl (0 : Int32), .inr (some (11, this))]) rfl ?_
  refine xw.fp (c := 11) (j := 60) (ty := 0) (nx := 477) rfl rfl (Or.inl rfl) ?_
  obtain ⟨S325, e326⟩ : ∃ s, s = xm_si S323 11 this 60 (0 : Int32) := ⟨_, rfl⟩
  rw [← e326]
  replace h := h S325 e326
  refine xw.s (pc' := 478) (st' := [.inr (some (11, this))]) rfl ?_
  refine xw.s (pc' := 479) (st' := [.inl (0 : Int32), .inr (some (11, this))]) rfl ?_
  refine xw.fp (c := 11) (j := 61) (ty := 0) (nx := 482) rfl rfl (Or.inl rfl) ?_
  obtain ⟨S327, e328⟩ : ∃ s, s = xm_si S325 11 this 61 (0 : Int32) := ⟨_, rfl⟩
  rw [← e328]
  replace h := h S327 e328
  refine xw.s (pc' := 483) (st' := [.inr (some (11, this))]) rfl ?_
  refine xw.s (pc' := 486) (st' := [.inl (4400 : Int32), .inr (some (11, this))]) rfl ?_
  refine xw.s (pc' := 488) (st' := [.inr (some (13, (xm_n S327 0 13))), .inr (some (11, this))]) (S1 := xm_mk 13 4400 S327) rfl ?_
  obtain ⟨k329, q330⟩ : ∃ k, k = xm_n S327 0 13 := ⟨_, rfl⟩
  rw [← q330]
  replace h := h k329 q330
  obtain ⟨S331, e332⟩ : ∃ s, s = xm_mk 13 4400 S327 := ⟨_, rfl⟩
  rw [← e332]
  replace h := h S331 e332
  refine xw.fq (c := 11) (j := 62) (e := 13) (nx := 491) (t := (some k329)) rfl rfl ?_
  obtain ⟨S333, e334⟩ : ∃ s, s = xm_sr S331 11 this 62 (some k329) := ⟨_, rfl⟩
  rw [← e334]
  replace h := h S333 e334
  refine xw.s (pc' := 492) (st' := [.inr (some (11, this))]) rfl ?_
  refine xw.s (pc' := 495) (st' := [.inl (4400 : Int32), .inr (some (11, this))]) rfl ?_
  refine xw.s (pc' := 497) (st' := [.inr (some (13, (xm_n S333 0 13))), .inr (some (11, this))]) (S1 := xm_mk 13 4400 S333) rfl ?_
  obtain ⟨k335, q336⟩ : ∃ k, k = xm_n S333 0 13 := ⟨_, rfl⟩
  rw [← q336]
  replace h := h k335 q336
  obtain ⟨S337, e338⟩ : ∃ s, s = xm_mk 13 4400 S333 := ⟨_, rfl⟩
  rw [← e338]
  replace h := h S337 e338
  refine xw.fq (c := 11) (j := 63) (e := 13) (nx := 500) (t := (some k335)) rfl rfl ?_
  obtain ⟨S339, e340⟩ : ∃ s, s = xm_sr S337 11 this 63 (some k335) := ⟨_, rfl⟩
  rw [← e340]
  replace h := h S339 e340
  refine xw.s (pc' := 501) (st' := [.inr (some (11, this))]) rfl ?_
  refine xw.s (pc' := 504) (st' := [.inl (4400 : Int32), .inr (some (11, this))]) rfl ?_
  refine xw.s (pc' := 506) (st' := [.inr (some (13, (xm_n S339 0 13))), .inr (some (11, this))]) (S1 := xm_mk 13 4400 S339) rfl ?_
  obtain ⟨k341, q342⟩ : ∃ k, k = xm_n S339 0 13 := ⟨_, rfl⟩
  rw [← q342]
  replace h := h k341 q342
  obtain ⟨S343, e344⟩ : ∃ s, s = xm_mk 13 4400 S339 := ⟨_, rfl⟩
  rw [← e344]
  replace h := h S343 e344
  refine xw.fq (c := 11) (j := 64) (e := 13) (nx := 509) (t := (some k341)) rfl rfl ?_
  obtain ⟨S345, e346⟩ : ∃ s, s = xm_sr S343 11 this 64 (some k341) := ⟨_, rfl⟩
  rw [← e346]
  replace h := h S345 e346
  refine xw.s (pc' := 510) (st' := [.inr (some (11, this))]) rfl ?_
  refine xw.s (pc' := 513) (st' := [.inl (4400 : Int32), .inr (some (11, this))]) rfl ?_
  refine xw.s (pc' := 515) (st' := [.inr (some (13, (xm_n S345 0 13))), .inr (some (11, this))]) (S1 := xm_mk 13 4400 S345) rfl ?_
  obtain ⟨k347, q348⟩ : ∃ k, k = xm_n S345 0 13 := ⟨_, rfl⟩
  rw [← q348]
  replace h := h k347 q348
  obtain ⟨S349, e350⟩ : ∃ s, s = xm_mk 13 4400 S345 := ⟨_, rfl⟩
  rw [← e350]
  replace h := h S349 e350
  refine xw.fq (c := 11) (j := 65) (e := 13) (nx := 518) (t := (some k347)) rfl rfl ?_
  obtain ⟨S351, e352⟩ : ∃ s, s = xm_sr S349 11 this 65 (some k347) := ⟨_, rfl⟩
  rw [← e352]
  replace h := h S351 e352
  refine xw.s (pc' := 519) (st' := [.inr (some (11, this))]) rfl ?_
  refine xw.s (pc' := 522) (st' := [.inl (4400 : Int32), .inr (some (11, this))]) rfl ?_
  refine xw.s (pc' := 524) (st' := [.inr (some (13, (xm_n S351 0 13))), .inr (some (11, this))]) (S1 := xm_mk 13 4400 S351) rfl ?_
  obtain ⟨k353, q354⟩ : ∃ k, k = xm_n S351 0 13 := ⟨_, rfl⟩
  rw [← q354]
  replace h := h k353 q354
  obtain ⟨S355, e356⟩ : ∃ s, s = xm_mk 13 4400 S351 := ⟨_, rfl⟩
  rw [← e356]
  replace h := h S355 e356
  refine xw.fq (c := 11) (j := 66) (e := 13) (nx := 527) (t := (some k353)) rfl rfl ?_
  obtain ⟨S357, e358⟩ : ∃ s, s = xm_sr S355 11 this 66 (some k353) := ⟨_, rfl⟩
  rw [← e358]
  replace h := h S357 e358
  refine xw.s (pc' := 528) (st' := [.inr (some (11, this))]) rfl ?_
  refine xw.s (pc' := 531) (st' := [.inl (4400 : Int32), .inr (some (11, this))]) rfl ?_
  refine xw.s (pc' := 533) (st' := [.inr (some (13, (xm_n S357 0 13))), .inr (some (11, this))]) (S1 := xm_mk 13 4400 S357) rfl ?_
  obtain ⟨k359, q360⟩ : ∃ k, k = xm_n S357 0 13 := ⟨_, rfl⟩
  rw [← q360]
  replace h := h k359 q360
  obtain ⟨S361, e362⟩ : ∃ s, s = xm_mk 13 4400 S357 := ⟨_, rfl⟩
  rw [← e362]
  replace h := h S361 e362
  refine xw.fq (c := 11) (j := 67) (e := 13) (nx := 536) (t := (some k359)) rfl rfl ?_
  obtain ⟨S363, e364⟩ : ∃ s, s = xm_sr S361 11 this 67 (some k359) := ⟨_, rfl⟩
  rw [← e364]
  replace h := h S363 e364
  refine xw.s (pc' := 537) (st' := [.inr (some (11, this))]) rfl ?_
  refine xw.s (pc' := 540) (st' := [.inl (4400 : Int32), .inr (some (11, this))]) rfl ?_
  refine xw.s (pc' := 542) (st' := [.inr (some (13, (xm_n S363 0 13))), .inr (some (11, this))]) (S1 := xm_mk 13 4400 S363) rfl ?_
  obtain ⟨k365, q366⟩ : ∃ k, k = xm_n S363 0 13 := ⟨_, rfl⟩
  rw [← q366]
  replace h := h k365 q366
  obtain ⟨S367, e368⟩ : ∃ s, s = xm_mk 13 4400 S363 := ⟨_, rfl⟩
  rw [← e368]
  replace h := h S367 e368
  refine xw.fq (c := 11) (j := 68) (e := 13) (nx := 545) (t := (some k365)) rfl rfl ?_
  obtain ⟨S369, e370⟩ : ∃ s, s = xm_sr S367 11 this 68 (some k365) := ⟨_, rfl⟩
  rw [← e370]
  replace h := h S369 e370
  refine xw.s (pc' := 546) (st' := [.inr (some (11, this))]) rfl ?_
  refine xw.s (pc' := 549) (st' := [.inl (4400 : Int32), .inr (some (11, this))]) rfl ?_
  refine xw.s (pc' := 551) (st' := [.inr (some (13, (xm_n S369 0 13))), .inr (some (11, this))]) (S1 := xm_mk 13 4400 S369) rfl ?_
  obtain ⟨k371, q372⟩ : ∃ k, k = xm_n S369 0 13 := ⟨_, rfl⟩
  rw [← q372]
  replace h := h k371 q372
  obtain ⟨S373, e374⟩ : ∃ s, s = xm_mk 13 4400 S369 := ⟨_, rfl⟩
  rw [← e374]
  replace h := h S373 e374
  refine xw.fq (c := 11) (j := 69) (e := 13) (nx := 554) (t := (some k371)) rfl rfl ?_
  obtain ⟨S375, e376⟩ : ∃ s, s = xm_sr S373 11 this 69 (some k371) := ⟨_, rfl⟩
  rw [← e376]
  replace h := h S375 e376
  refine xw.s (pc' := 555) (st' := [.inr (some (11, this))]) rfl ?_
  refine xw.s (pc' := 558) (st' := [.inl (4400 : Int32), .inr (some (11, this))]) rfl ?_
  refine xw.s (pc' := 560) (st' := [.inr (some (13, (xm_n S375 0 13))), .inr (some (11, this))]) (S1 := xm_mk 13 4400 S375) rfl ?_
  obtain ⟨k377, q378⟩ : ∃ k, k = xm_n S375 0 13 := ⟨_, rfl⟩
  rw [← q378]
  replace h := h k377 q378
  obtain ⟨S379, e380⟩ : ∃ s, s = xm_mk 13 4400 S375 := ⟨_, rfl⟩
  rw [← e380]
  replace h := h S379 e380
  refine xw.fq (c := 11) (j := 70) (e := 13) (nx := 563) (t := (some k377)) rfl rfl ?_
  obtain ⟨S381, e382⟩ : ∃ s, s = xm_sr S379 11 this 70 (some k377) := ⟨_, rfl⟩
  rw [← e382]
  replace h := h S381 e382
  refine xw.s (pc' := 564) (st' := [.inr (some (11, this))]) rfl ?_
  refine xw.s (pc' := 567) (st' := [.inl (4400 : Int32), .inr (some (11, this))]) rfl ?_
  refine xw.s (pc' := 569) (st' := [.inr (some (14, (xm_n S381 0 14))), .inr (some (11, this))]) (S1 := xm_mk 14 4400 S381) rfl ?_
  obtain ⟨k383, q384⟩ : ∃ k, k = xm_n S381 0 14 := ⟨_, rfl⟩
  rw [← q384]
  replace h := h k383 q384
  obtain ⟨S385, e386⟩ : ∃ s, s = xm_mk 14 4400 S381 := ⟨_, rfl⟩
  rw [← e386]
  replace h := h S385 e386
  refine xw.fq (c := 11) (j := 71) (e := 14) (nx := 572) (t := (some k383)) rfl rfl ?_
  obtain ⟨S387, e388⟩ : ∃ s, s = xm_sr S385 11 this 71 (some k383) := ⟨_, rfl⟩
  rw [← e388]
  replace h := h S387 e388
  refine xw.s (pc' := 573) (st' := [.inr (some (11, this))]) rfl ?_
  refine xw.s (pc' := 576) (st' := [.inl (4400 : Int32), .inr (some (11, this))]) rfl ?_
  refine xw.s (pc' := 578) (st' := [.inr (some (13, (xm_n S387 0 13))), .inr (some (11, this))]) (S1 := xm_mk 13 4400 S387) rfl ?_
  obtain ⟨k389, q390⟩ : ∃ k, k = xm_n S387 0 13 := ⟨_, rfl⟩
  rw [← q390]
  replace h := h k389 q390
  obtain ⟨S391, e392⟩ : ∃ s, s = xm_mk 13 4400 S387 := ⟨_, rfl⟩
  rw [← e392]
  replace h := h S391 e392
  refine xw.fq (c := 11) (j := 72) (e := 13) (nx := 581) (t := (some k389)) rfl rfl ?_
  obtain ⟨S393, e394⟩ : ∃ s, s = xm_sr S391 11 this 72 (some k389) := ⟨_, rfl⟩
  rw [← e394]
  replace h := h S393 e394
  refine xw.s (pc' := 582) (st' := [.inr (some (11, this))]) rfl ?_
  refine xw.s (pc' := 585) (st' := [.inl (4400 : Int32), .inr (some (11, this))]) rfl ?_
  refine xw.s (pc' := 587) (st' := [.inr (some (13, (xm_n S393 0 13))), .inr (some (11, this))]) (S1 := xm_mk 13 4400 S393) rfl ?_
  obtain ⟨k395, q396⟩ : ∃ k, k = xm_n S393 0 13 := ⟨_, rfl⟩
  rw [← q396]
  replace h := h k395 q396
  obtain ⟨S397, e398⟩ : ∃ s, s = xm_mk 13 4400 S393 := ⟨_, rfl⟩
  rw [← e398]
  replace h := h S397 e398
  refine xw.fq (c := 11) (j := 73) (e := 13) (nx := 590) (t := (some k395)) rfl rfl ?_
  obtain ⟨S399, e400⟩ : ∃ s, s = xm_sr S397 11 this 73 (some k395) := ⟨_, rfl⟩
  rw [← e400]
  replace h := h S399 e400
  refine xw.s (pc' := 591) (st' := [.inr (some (11, this))]) rfl ?_
  refine xw.s (pc' := 594) (st' := [.inl (4400 : Int32), .inr (some (11, this))]) rfl ?_
  refine xw.s (pc' := 596) (st' := [.inr (some (13, (xm_n S399 0 13))), .inr (some (11, this))]) (S1 := xm_mk 13 4400 S399) rfl ?_
  obtain ⟨k401, q402⟩ : ∃ k, k = xm_n S399 0 13 := ⟨_, rfl⟩
  rw [← q402]
  replace h := h k401 q402
  obtain ⟨S403, e404⟩ : ∃ s, s = xm_mk 13 4400 S399 := ⟨_, rfl⟩
  rw [← e404]
  replace h := h S403 e404
  refine xw.fq (c := 11) (j := 74) (e := 13) (nx := 599) (t := (some k401)) rfl rfl ?_
  obtain ⟨S405, e406⟩ : ∃ s, s = xm_sr S403 11 this 74 (some k401) := ⟨_, rfl⟩
  rw [← e406]
  replace h := h S405 e406
  refine xw.s (pc' := 600) (st' := [.inr (some (11, this))]) rfl ?_
  refine xw.s (pc' := 603) (st' := [.inl (4400 : Int32), .inr (some (11, this))]) rfl ?_
  refine xw.s (pc' := 605) (st' := [.inr (some (14, (xm_n S405 0 14))), .inr (some (11, this))]) (S1 := xm_mk 14 4400 S405) rfl ?_
  obtain ⟨k407, q408⟩ : ∃ k, k = xm_n S405 0 14 := ⟨_, rfl⟩
  rw [← q408]
  replace h := h k407 q408
  obtain ⟨S409, e410⟩ : ∃ s, s = xm_mk 14 4400 S405 := ⟨_, rfl⟩
  rw [← e410]
  replace h := h S409 e410
  refine xw.fq (c := 11) (j := 75) (e := 14) (nx := 608) (t := (some k407)) rfl rfl ?_
  obtain ⟨S411, e412⟩ : ∃ s, s = xm_sr S409 11 this 75 (some k407) := ⟨_, rfl⟩
  rw [← e412]
  replace h := h S411 e412
  refine xw.s (pc' := 609) (st' := [.inr (some (11, this))]) rfl ?_
  refine xw.s (pc' := 612) (st' := [.inl (4400 : Int32), .inr (some (11, this))]) rfl ?_
  refine xw.s (pc' := 614) (st' := [.inr (some (14, (xm_n S411 0 14))), .inr (some (11, this))]) (S1 := xm_mk 14 4400 S411) rfl ?_
  obtain ⟨k413, q414⟩ : ∃ k, k = xm_n S411 0 14 := ⟨_, rfl⟩
  rw [← q414]
  replace h := h k413 q414
  obtain ⟨S415, e416⟩ : ∃ s, s = xm_mk 14 4400 S411 := ⟨_, rfl⟩
  rw [← e416]
  replace h := h S415 e416
  refine xw.fq (c := 11) (j := 76) (e := 14) (nx := 617) (t := (some k413)) rfl rfl ?_
  obtain ⟨S417, e418⟩ : ∃ s, s = xm_sr S415 11 this 76 (some k413) := ⟨_, rfl⟩
  rw [← e418]
  replace h := h S417 e418
  refine xw.s (pc' := 618) (st' := [.inr (some (11, this))]) rfl ?_
  refine xw.s (pc' := 621) (st' := [.inl (4400 : Int32), .inr (some (11, this))]) rfl ?_
  refine xw.s (pc' := 623) (st' := [.inr (some (14, (xm_n S417 0 14))), .inr (some (11, this))]) (S1 := xm_mk 14 4400 S417) rfl ?_
  obtain ⟨k419, q420⟩ : ∃ k, k = xm_n S417 0 14 := ⟨_, rfl⟩
  rw [← q420]
  replace h := h k419 q420
  obtain ⟨S421, e422⟩ : ∃ s, s = xm_mk 14 4400 S417 := ⟨_, rfl⟩
  rw [← e422]
  replace h := h S421 e422
  refine xw.fq (c := 11) (j := 77) (e := 14) (nx := 626) (t := (some k419)) rfl rfl ?_
  obtain ⟨S423, e424⟩ : ∃ s, s = xm_sr S421 11 this 77 (some k419) := ⟨_, rfl⟩
  rw [← e424]
  replace h := h S423 e424
  refine xw.s (pc' := 627) (st' := [.inr (some (11, this))]) rfl ?_
  refine xw.s (pc' := 630) (st' := [.inl (4400 : Int32), .inr (some (11, this))]) rfl ?_
  refine xw.s (pc' := 632) (st' := [.inr (some (14, (xm_n S423 0 14))), .inr (some (11, this))]) (S1 := xm_mk 14 4400 S423) rfl ?_
  obtain ⟨k425, q426⟩ : ∃ k, k = xm_n S423 0 14 := ⟨_, rfl⟩
  rw [← q426]
  replace h := h k425 q426
  obtain ⟨S427, e428⟩ : ∃ s, s = xm_mk 14 4400 S423 := ⟨_, rfl⟩
  rw [← e428]
  replace h := h S427 e428
  refine xw.fq (c := 11) (j := 78) (e := 14) (nx := 635) (t := (some k425)) rfl rfl ?_
  obtain ⟨S429, e430⟩ : ∃ s, s = xm_sr S427 11 this 78 (some k425) := ⟨_, rfl⟩
  rw [← e430]
  replace h := h S429 e430
  refine xw.s (pc' := 636) (st' := [.inr (some (11, this))]) rfl ?_
  refine xw.s (pc' := 639) (st' := [.inl (4400 : Int32), .inr (some (11, this))]) rfl ?_
  refine xw.s (pc' := 641) (st' := [.inr (some (14, (xm_n S429 0 14))), .inr (some (11, this))]) (S1 := xm_mk 14 4400 S429) rfl ?_
  obtain ⟨k431, q432⟩ : ∃ k, k = xm_n S429 0 14 := ⟨_, rfl⟩
  rw [← q432]
  replace h := h k431 q432
  obtain ⟨S433, e434⟩ : ∃ s, s = xm_mk 14 4400 S429 := ⟨_, rfl⟩
  rw [← e434]
  replace h := h S433 e434
  refine xw.fq (c := 11) (j := 79) (e := 14) (nx := 644) (t := (some k431)) rfl rfl ?_
  obtain ⟨S435, e436⟩ : ∃ s, s = xm_sr S433 11 this 79 (some k431) := ⟨_, rfl⟩
  rw [← e436]
  replace h := h S435 e436
  refine xw.s (pc' := 645) (st' := [.inr (some (11, this))]) rfl ?_
  refine xw.s (pc' := 648) (st' := [.inl (4400 : Int32), .inr (some (11, this))]) rfl ?_
  refine xw.s (pc' := 650) (st' := [.inr (some (14, (xm_n S435 0 14))), .inr (some (11, this))]) (S1 := xm_mk 14 4400 S435) rfl ?_
  obtain ⟨k437, q438⟩ : ∃ k, k = xm_n S435 0 14 := ⟨_, rfl⟩
  rw [← q438]
  replace h := h k437 q438
  obtain ⟨S439, e440⟩ : ∃ s, s = xm_mk 14 4400 S435 := ⟨_, rfl⟩
  rw [← e440]
  replace h := h S439 e440
  refine xw.fq (c := 11) (j := 80) (e := 14) (nx := 653) (t := (some k437)) rfl rfl ?_
  obtain ⟨S441, e442⟩ : ∃ s, s = xm_sr S439 11 this 80 (some k437) := ⟨_, rfl⟩
  rw [← e442]
  replace h := h S441 e442
  refine xw.s (pc' := 654) (st' := [.inr (some (11, this))]) rfl ?_
  refine xw.s (pc' := 657) (st' := [.inl (4400 : Int32), .inr (some (11, this))]) rfl ?_
  refine xw.s (pc' := 659) (st' := [.inr (some (13, (xm_n S441 0 13))), .inr (some (11, this))]) (S1 := xm_mk 13 4400 S441) rfl ?_
  obtain ⟨k443, q444⟩ : ∃ k, k = xm_n S441 0 13 := ⟨_, rfl⟩
  rw [← q444]
  replace h := h k443 q444
  obtain ⟨S445, e446⟩ : ∃ s, s = xm_mk 13 4400 S441 := ⟨_, rfl⟩
  rw [← e446]
  replace h := h S445 e446
  refine xw.fq (c := 11) (j := 81) (e := 13) (nx := 662) (t := (some k443)) rfl rfl ?_
  obtain ⟨S447, e448⟩ : ∃ s, s = xm_sr S445 11 this 81 (some k443) := ⟨_, rfl⟩
  rw [← e448]
  replace h := h S447 e448
  refine xw.s (pc' := 663) (st' := [.inr (some (11, this))]) rfl ?_
  refine xw.s (pc' := 664) (st' := [.inl (0 : Int32), .inr (some (11, this))]) rfl ?_
  refine xw.fp (c := 11) (j := 82) (ty := 0) (nx := 667) rfl rfl (Or.inl rfl) ?_
  obtain ⟨S449, e450⟩ : ∃ s, s = xm_si S447 11 this 82 (0 : Int32) := ⟨_, rfl⟩
  rw [← e450]
  replace h := h S449 e450
  refine xw.s (pc' := 668) (st' := [.inr (some (11, this))]) rfl ?_
  refine xw.s (pc' := 671) (st' := [.inl (20000 : Int32), .inr (some (11, this))]) rfl ?_
  refine xw.s (pc' := 673) (st' := [.inr (some (13, (xm_n S449 0 13))), .inr (some (11, this))]) (S1 := xm_mk 13 20000 S449) rfl ?_
  obtain ⟨k451, q452⟩ : ∃ k, k = xm_n S449 0 13 := ⟨_, rfl⟩
  rw [← q452]
  replace h := h k451 q452
  obtain ⟨S453, e454⟩ : ∃ s, s = xm_mk 13 20000 S449 := ⟨_, rfl⟩
  rw [← e454]
  replace h := h S453 e454
  refine xw.fq (c := 11) (j := 83) (e := 13) (nx := 676) (t := (some k451)) rfl rfl ?_
  obtain ⟨S455, e456⟩ : ∃ s, s = xm_sr S453 11 this 83 (some k451) := ⟨_, rfl⟩
  rw [← e456]
  replace h := h S455 e456
  refine xw.s (pc' := 677) (st' := [.inr (some (11, this))]) rfl ?_
  refine xw.s (pc' := 680) (st' := [.inl (20000 : Int32), .inr (some (11, this))]) rfl ?_
  refine xw.s (pc' := 682) (st' := [.inr (some (13, (xm_n S455 0 13))), .inr (some (11, this))]) (S1 := xm_mk 13 20000 S455) rfl ?_
  obtain ⟨k457, q458⟩ : ∃ k, k = xm_n S455 0 13 := ⟨_, rfl⟩
  rw [← q458]
  replace h := h k457 q458
  obtain ⟨S459, e460⟩ : ∃ s, s = xm_mk 13 20000 S455 := ⟨_, rfl⟩
  rw [← e460]
  replace h := h S459 e460
  refine xw.fq (c := 11) (j := 84) (e := 13) (nx := 685) (t := (some k457)) rfl rfl ?_
  obtain ⟨S461, e462⟩ : ∃ s, s = xm_sr S459 11 this 84 (some k457) := ⟨_, rfl⟩
  rw [← e462]
  replace h := h S461 e462
  refine xw.s (pc' := 686) (st' := [.inr (some (11, this))]) rfl ?_
  refine xw.s (pc' := 689) (st' := [.inl (20000 : Int32), .inr (some (11, this))]) rfl ?_
  refine xw.s (pc' := 691) (st' := [.inr (some (13, (xm_n S461 0 13))), .inr (some (11, this))]) (S1 := xm_mk 13 20000 S461) rfl ?_
  obtain ⟨k463, q464⟩ : ∃ k, k = xm_n S461 0 13 := ⟨_, rfl⟩
  rw [← q464]
  replace h := h k463 q464
  obtain ⟨S465, e466⟩ : ∃ s, s = xm_mk 13 20000 S461 := ⟨_, rfl⟩
  rw [← e466]
  replace h := h S465 e466
  refine xw.fq (c := 11) (j := 85) (e := 13) (nx := 694) (t := (some k463)) rfl rfl ?_
  obtain ⟨S467, e468⟩ : ∃ s, s = xm_sr S465 11 this 85 (some k463) := ⟨_, rfl⟩
  rw [← e468]
  replace h := h S467 e468
  refine xw.s (pc' := 695) (st' := [.inr (some (11, this))]) rfl ?_
  refine xw.s (pc' := 698) (st' := [.inl (20000 : Int32), .inr (some (11, this))]) rfl ?_
  refine xw.s (pc' := 700) (st' := [.inr (some (13, (xm_n S467 0 13))), .inr (some (11, this))]) (S1 := xm_mk 13 20000 S467) rfl ?_
  obtain ⟨k469, q470⟩ : ∃ k, k = xm_n S467 0 13 := ⟨_, rfl⟩
  rw [← q470]
  replace h := h k469 q470
  obtain ⟨S471, e472⟩ : ∃ s, s = xm_mk 13 20000 S467 := ⟨_, rfl⟩
  rw [← e472]
  replace h := h S471 e472
  refine xw.fq (c := 11) (j := 86) (e := 13) (nx := 703) (t := (some k469)) rfl rfl ?_
  obtain ⟨S473, e474⟩ : ∃ s, s = xm_sr S471 11 this 86 (some k469) := ⟨_, rfl⟩
  rw [← e474]
  replace h := h S473 e474
  refine xw.s (pc' := 704) (st' := [.inr (some (11, this))]) rfl ?_
  refine xw.s (pc' := 707) (st' := [.inl (20000 : Int32), .inr (some (11, this))]) rfl ?_
  refine xw.s (pc' := 709) (st' := [.inr (some (13, (xm_n S473 0 13))), .inr (some (11, this))]) (S1 := xm_mk 13 20000 S473) rfl ?_
  obtain ⟨k475, q476⟩ : ∃ k, k = xm_n S473 0 13 := ⟨_, rfl⟩
  rw [← q476]
  replace h := h k475 q476
  obtain ⟨S477, e478⟩ : ∃ s, s = xm_mk 13 20000 S473 := ⟨_, rfl⟩
  rw [← e478]
  replace h := h S477 e478
  refine xw.fq (c := 11) (j := 87) (e := 13) (nx := 712) (t := (some k475)) rfl rfl ?_
  obtain ⟨S479, e480⟩ : ∃ s, s = xm_sr S477 11 this 87 (some k475) := ⟨_, rfl⟩
  rw [← e480]
  replace h := h S479 e480
  refine xw.s (pc' := 713) (st' := [.inr (some (11, this))]) rfl ?_
  refine xw.s (pc' := 714) (st' := [.inl (0 : Int32), .inr (some (11, this))]) rfl ?_
  refine xw.fp (c := 11) (j := 88) (ty := 0) (nx := 717) rfl rfl (Or.inl rfl) ?_
  obtain ⟨S481, e482⟩ : ∃ s, s = xm_si S479 11 this 88 (0 : Int32) := ⟨_, rfl⟩
  rw [← e482]
  replace h := h S481 e482
  refine xw.s (pc' := 718) (st' := [.inr (some (11, this))]) rfl ?_
  refine xw.s (pc' := 719) (st' := [.inl (0 : Int32), .inr (some (11, this))]) rfl ?_
  refine xw.fp (c := 11) (j := 89) (ty := 0) (nx := 722) rfl rfl (Or.inl rfl) ?_
  obtain ⟨S483, e484⟩ : ∃ s, s = xm_si S481 11 this 89 (0 : Int32) := ⟨_, rfl⟩
  rw [← e484]
  replace h := h S483 e484
  refine xw.s (pc' := 723) (st' := [.inr (some (11, this))]) rfl ?_
  refine xw.s (pc' := 725) (st' := [.inl (12 : Int32), .inr (some (11, this))]) rfl ?_
  refine xw.s (pc' := 727) (st' := [.inr (some (13, (xm_n S483 0 13))), .inr (some (11, this))]) (S1 := xm_mk 13 12 S483) rfl ?_
  obtain ⟨k485, q486⟩ : ∃ k, k = xm_n S483 0 13 := ⟨_, rfl⟩
  rw [← q486]
  replace h := h k485 q486
  obtain ⟨S487, e488⟩ : ∃ s, s = xm_mk 13 12 S483 := ⟨_, rfl⟩
  rw [← e488]
  replace h := h S487 e488
  refine xw.fq (c := 11) (j := 90) (e := 13) (nx := 730) (t := (some k485)) rfl rfl ?_
  obtain ⟨S489, e490⟩ : ∃ s, s = xm_sr S487 11 this 90 (some k485) := ⟨_, rfl⟩
  rw [← e490]
  replace h := h S489 e490
  refine xw.s (pc' := 731) (st' := [.inr (some (11, this))]) rfl ?_
  refine xw.s (pc' := 733) (st' := [.inl (12 : Int32), .inr (some (11, this))]) rfl ?_
  refine xw.s (pc' := 735) (st' := [.inr (some (13, (xm_n S489 0 13))), .inr (some (11, this))]) (S1 := xm_mk 13 12 S489) rfl ?_
  obtain ⟨k491, q492⟩ : ∃ k, k = xm_n S489 0 13 := ⟨_, rfl⟩
  rw [← q492]
  replace h := h k491 q492
  obtain ⟨S493, e494⟩ : ∃ s, s = xm_mk 13 12 S489 := ⟨_, rfl⟩
  rw [← e494]
  replace h := h S493 e494
  refine xw.fq (c := 11) (j := 91) (e := 13) (nx := 738) (t := (some k491)) rfl rfl ?_
  obtain ⟨S495, e496⟩ : ∃ s, s = xm_sr S493 11 this 91 (some k491) := ⟨_, rfl⟩
  rw [← e496]
  replace h := h S495 e496
  refine xw.s (pc' := 739) (st' := [.inr (some (11, this))]) rfl ?_
  refine xw.s (pc' := 741) (st' := [.inl (12 : Int32), .inr (some (11, this))]) rfl ?_
  refine xw.s (pc' := 743) (st' := [.inr (some (13, (xm_n S495 0 13))), .inr (some (11, this))]) (S1 := xm_mk 13 12 S495) rfl ?_
  obtain ⟨k497, q498⟩ : ∃ k, k = xm_n S495 0 13 := ⟨_, rfl⟩
  rw [← q498]
  replace h := h k497 q498
  obtain ⟨S499, e500⟩ : ∃ s, s = xm_mk 13 12 S495 := ⟨_, rfl⟩
  rw [← e500]
  replace h := h S499 e500
  refine xw.fq (c := 11) (j := 92) (e := 13) (nx := 746) (t := (some k497)) rfl rfl ?_
  obtain ⟨S501, e502⟩ : ∃ s, s = xm_sr S499 11 this 92 (some k497) := ⟨_, rfl⟩
  rw [← e502]
  replace h := h S501 e502
  refine xw.s (pc' := 747) (st' := [.inr (some (11, this))]) rfl ?_
  refine xw.s (pc' := 749) (st' := [.inl (12 : Int32), .inr (some (11, this))]) rfl ?_
  refine xw.s (pc' := 751) (st' := [.inr (some (13, (xm_n S501 0 13))), .inr (some (11, this))]) (S1 := xm_mk 13 12 S501) rfl ?_
  obtain ⟨k503, q504⟩ : ∃ k, k = xm_n S501 0 13 := ⟨_, rfl⟩
  rw [← q504]
  replace h := h k503 q504
  obtain ⟨S505, e506⟩ : ∃ s, s = xm_mk 13 12 S501 := ⟨_, rfl⟩
  rw [← e506]
  replace h := h S505 e506
  refine xw.fq (c := 11) (j := 93) (e := 13) (nx := 754) (t := (some k503)) rfl rfl ?_
  obtain ⟨S507, e508⟩ : ∃ s, s = xm_sr S505 11 this 93 (some k503) := ⟨_, rfl⟩
  rw [← e508]
  replace h := h S507 e508
  refine xw.s (pc' := 755) (st' := [.inr (some (11, this))]) rfl ?_
  refine xw.s (pc' := 757) (st' := [.inl (12 : Int32), .inr (some (11, this))]) rfl ?_
  refine xw.s (pc' := 759) (st' := [.inr (some (13, (xm_n S507 0 13))), .inr (some (11, this))]) (S1 := xm_mk 13 12 S507) rfl ?_
  obtain ⟨k509, q510⟩ : ∃ k, k = xm_n S507 0 13 := ⟨_, rfl⟩
  rw [← q510]
  replace h := h k509 q510
  obtain ⟨S511, e512⟩ : ∃ s, s = xm_mk 13 12 S507 := ⟨_, rfl⟩
  rw [← e512]
  replace h := h S511 e512
  refine xw.fq (c := 11) (j := 94) (e := 13) (nx := 762) (t := (some k509)) rfl rfl ?_
  obtain ⟨S513, e514⟩ : ∃ s, s = xm_sr S511 11 this 94 (some k509) := ⟨_, rfl⟩
  rw [← e514]
  replace h := h S513 e514
  refine xw.s (pc' := 763) (st' := [.inr (some (11, this))]) rfl ?_
  refine xw.s (pc' := 765) (st' := [.inl (12 : Int32), .inr (some (11, this))]) rfl ?_
  refine xw.s (pc' := 767) (st' := [.inr (some (13, (xm_n S513 0 13))), .inr (some (11, this))]) (S1 := xm_mk 13 12 S513) rfl ?_
  obtain ⟨k515, q516⟩ : ∃ k, k = xm_n S513 0 13 := ⟨_, rfl⟩
  rw [← q516]
  replace h := h k515 q516
  obtain ⟨S517, e518⟩ : ∃ s, s = xm_mk 13 12 S513 := ⟨_, rfl⟩
  rw [← e518]
  replace h := h S517 e518
  refine xw.fq (c := 11) (j := 95) (e := 13) (nx := 770) (t := (some k515)) rfl rfl ?_
  obtain ⟨S519, e520⟩ : ∃ s, s = xm_sr S517 11 this 95 (some k515) := ⟨_, rfl⟩
  rw [← e520]
  replace h := h S519 e520
  refine xw.s (pc' := 771) (st' := [.inr (some (11, this))]) rfl ?_
  refine xw.s (pc' := 773) (st' := [.inl (12 : Int32), .inr (some (11, this))]) rfl ?_
  refine xw.s (pc' := 775) (st' := [.inr (some (13, (xm_n S519 0 13))), .inr (some (11, this))]) (S1 := xm_mk 13 12 S519) rfl ?_
  obtain ⟨k521, q522⟩ : ∃ k, k = xm_n S519 0 13 := ⟨_, rfl⟩
  rw [← q522]
  replace h := h k521 q522
  obtain ⟨S523, e524⟩ : ∃ s, s = xm_mk 13 12 S519 := ⟨_, rfl⟩
  rw [← e524]
  replace h := h S523 e524
  refine xw.fq (c := 11) (j := 96) (e := 13) (nx := 778) (t := (some k521)) rfl rfl ?_
  obtain ⟨S525, e526⟩ : ∃ s, s = xm_sr S523 11 this 96 (some k521) := ⟨_, rfl⟩
  rw [← e526]
  replace h := h S525 e526
  refine xw.s (pc' := 779) (st' := [.inr (some (11, this))]) rfl ?_
  refine xw.s (pc' := 781) (st' := [.inl (12 : Int32), .inr (some (11, this))]) rfl ?_
  refine xw.s (pc' := 783) (st' := [.inr (some (13, (xm_n S525 0 13))), .inr (some (11, this))]) (S1 := xm_mk 13 12 S525) rfl ?_
  obtain ⟨k527, q528⟩ : ∃ k, k = xm_n S525 0 13 := ⟨_, rfl⟩
  rw [← q528]
  replace h := h k527 q528
  obtain ⟨S529, e530⟩ : ∃ s, s = xm_mk 13 12 S525 := ⟨_, rfl⟩
  rw [← e530]
  replace h := h S529 e530
  refine xw.fq (c := 11) (j := 97) (e := 13) (nx := 786) (t := (some k527)) rfl rfl ?_
  obtain ⟨S531, e532⟩ : ∃ s, s = xm_sr S529 11 this 97 (some k527) := ⟨_, rfl⟩
  rw [← e532]
  replace h := h S531 e532
  refine xw.s (pc' := 787) (st' := [.inr (some (11, this))]) rfl ?_
  refine xw.s (pc' := 789) (st' := [.inl (12 : Int32), .inr (some (11, this))]) rfl ?_
  refine xw.s (pc' := 791) (st' := [.inr (some (13, (xm_n S531 0 13))), .inr (some (11, this))]) (S1 := xm_mk 13 12 S531) rfl ?_
  obtain ⟨k533, q534⟩ : ∃ k, k = xm_n S531 0 13 := ⟨_, rfl⟩
  rw [← q534]
  replace h := h k533 q534
  obtain ⟨S535, e536⟩ : ∃ s, s = xm_mk 13 12 S531 := ⟨_, rfl⟩
  rw [← e536]
  replace h := h S535 e536
  refine xw.fq (c := 11) (j := 98) (e := 13) (nx := 794) (t := (some k533)) rfl rfl ?_
  obtain ⟨S537, e538⟩ : ∃ s, s = xm_sr S535 11 this 98 (some k533) := ⟨_, rfl⟩
  rw [← e538]
  replace h := h S537 e538
  refine xw.s (pc' := 795) (st' := [.inr (some (11, this))]) rfl ?_
  refine xw.s (pc' := 797) (st' := [.inl (12 : Int32), .inr (some (11, this))]) rfl ?_
  refine xw.s (pc' := 799) (st' := [.inr (some (13, (xm_n S537 0 13))), .inr (some (11, this))]) (S1 := xm_mk 13 12 S537) rfl ?_
  obtain ⟨k539, q540⟩ : ∃ k, k = xm_n S537 0 13 := ⟨_, rfl⟩
  rw [← q540]
  replace h := h k539 q540
  obtain ⟨S541, e542⟩ : ∃ s, s = xm_mk 13 12 S537 := ⟨_, rfl⟩
  rw [← e542]
  replace h := h S541 e542
  refine xw.fq (c := 11) (j := 99) (e := 13) (nx := 802) (t := (some k539)) rfl rfl ?_
  obtain ⟨S543, e544⟩ : ∃ s, s = xm_sr S541 11 this 99 (some k539) := ⟨_, rfl⟩
  rw [← e544]
  replace h := h S543 e544
  refine xw.s (pc' := 803) (st' := [.inr (some (11, this))]) rfl ?_
  refine xw.s (pc' := 805) (st' := [.inl (12 : Int32), .inr (some (11, this))]) rfl ?_
  refine xw.s (pc' := 807) (st' := [.inr (some (13, (xm_n S543 0 13))), .inr (some (11, this))]) (S1 := xm_mk 13 12 S543) rfl ?_
  obtain ⟨k545, q546⟩ : ∃ k, k = xm_n S543 0 13 := ⟨_, rfl⟩
  rw [← q546]
  replace h := h k545 q546
  obtain ⟨S547, e548⟩ : ∃ s, s = xm_mk 13 12 S543 := ⟨_, rfl⟩
  rw [← e548]
  replace h := h S547 e548
  refine xw.fq (c := 11) (j := 100) (e := 13) (nx := 810) (t := (some k545)) rfl rfl ?_
  obtain ⟨S549, e550⟩ : ∃ s, s = xm_sr S547 11 this 100 (some k545) := ⟨_, rfl⟩
  rw [← e550]
  replace h := h S549 e550
  refine xw.s (pc' := 811) (st' := [.inr (some (11, this))]) rfl ?_
  refine xw.s (pc' := 813) (st' := [.inl (12 : Int32), .inr (some (11, this))]) rfl ?_
  refine xw.s (pc' := 815) (st' := [.inr (some (13, (xm_n S549 0 13))), .inr (some (11, this))]) (S1 := xm_mk 13 12 S549) rfl ?_
  obtain ⟨k551, q552⟩ : ∃ k, k = xm_n S549 0 13 := ⟨_, rfl⟩
  rw [← q552]
  replace h := h k551 q552
  obtain ⟨S553, e554⟩ : ∃ s, s = xm_mk 13 12 S549 := ⟨_, rfl⟩
  rw [← e554]
  replace h := h S553 e554
  refine xw.fq (c := 11) (j := 101) (e := 13) (nx := 818) (t := (some k551)) rfl rfl ?_
  obtain ⟨S555, e556⟩ : ∃ s, s = xm_sr S553 11 this 101 (some k551) := ⟨_, rfl⟩
  rw [← e556]
  replace h := h S555 e556
  refine xw.s (pc' := 819) (st' := [.inr (some (11, this))]) rfl ?_
  refine xw.s (pc' := 821) (st' := [.inl (12 : Int32), .inr (some (11, this))]) rfl ?_
  refine xw.s (pc' := 823) (st' := [.inr (some (14, (xm_n S555 0 14))), .inr (some (11, this))]) (S1 := xm_mk 14 12 S555) rfl ?_
  obtain ⟨k557, q558⟩ : ∃ k, k = xm_n S555 0 14 := ⟨_, rfl⟩
  rw [← q558]
  replace h := h k557 q558
  obtain ⟨S559, e560⟩ : ∃ s, s = xm_mk 14 12 S555 := ⟨_, rfl⟩
  rw [← e560]
  replace h := h S559 e560
  refine xw.fq (c := 11) (j := 102) (e := 14) (nx := 826) (t := (some k557)) rfl rfl ?_
  obtain ⟨S561, e562⟩ : ∃ s, s = xm_sr S559 11 this 102 (some k557) := ⟨_, rfl⟩
  rw [← e562]
  replace h := h S561 e562
  refine xw.s (pc' := 827) (st' := [.inr (some (11, this))]) rfl ?_
  refine xw.s (pc' := 828) (st' := [.inl (0 : Int32), .inr (some (11, this))]) rfl ?_
  refine xw.fp (c := 11) (j := 103) (ty := 0) (nx := 831) rfl rfl (Or.inl rfl) ?_
  obtain ⟨S563, e564⟩ : ∃ s, s = xm_si S561 11 this 103 (0 : Int32) := ⟨_, rfl⟩
  rw [← e564]
  replace h := h S563 e564
  refine xw.s (pc' := 832) (st' := [.inr (some (11, this))]) rfl ?_
  refine xw.s (pc' := 834) (st' := [.inl (10 : Int32), .inr (some (11, this))]) rfl ?_
  refine xw.s (pc' := 836) (st' := [.inr (some (13, (xm_n S563 0 13))), .inr (some (11, this))]) (S1 := xm_mk 13 10 S563) rfl ?_
  obtain ⟨k565, q566⟩ : ∃ k, k = xm_n S563 0 13 := ⟨_, rfl⟩
  rw [← q566]
  replace h := h k565 q566
  obtain ⟨S567, e568⟩ : ∃ s, s = xm_mk 13 10 S563 := ⟨_, rfl⟩
  rw [← e568]
  replace h := h S567 e568
  refine xw.fq (c := 11) (j := 104) (e := 13) (nx := 839) (t := (some k565)) rfl rfl ?_
  obtain ⟨S569, e570⟩ : ∃ s, s = xm_sr S567 11 this 104 (some k565) := ⟨_, rfl⟩
  rw [← e570]
  replace h := h S569 e570
  refine xw.s (pc' := 840) (st' := [.inr (some (11, this))]) rfl ?_
  refine xw.s (pc' := 842) (st' := [.inl (10 : Int32), .inr (some (11, this))]) rfl ?_
  refine xw.s (pc' := 844) (st' := [.inr (some (13, (xm_n S569 0 13))), .inr (some (11, this))]) (S1 := xm_mk 13 10 S569) rfl ?_
  obtain ⟨k571, q572⟩ : ∃ k, k = xm_n S569 0 13 := ⟨_, rfl⟩
  rw [← q572]
  replace h := h k571 q572
  obtain ⟨S573, e574⟩ : ∃ s, s = xm_mk 13 10 S569 := ⟨_, rfl⟩
  rw [← e574]
  replace h := h S573 e574
  refine xw.fq (c := 11) (j := 105) (e := 13) (nx := 847) (t := (some k571)) rfl rfl ?_
  obtain ⟨S575, e576⟩ : ∃ s, s = xm_sr S573 11 this 105 (some k571) := ⟨_, rfl⟩
  rw [← e576]
  replace h := h S575 e576
  refine xw.s (pc' := 848) (st' := [.inr (some (11, this))]) rfl ?_
  refine xw.s (pc' := 850) (st' := [.inl (10 : Int32), .inr (some (11, this))]) rfl ?_
  refine xw.s (pc' := 852) (st' := [.inr (some (13, (xm_n S575 0 13))), .inr (some (11, this))]) (S1 := xm_mk 13 10 S575) rfl ?_
  obtain ⟨k577, q578⟩ : ∃ k, k = xm_n S575 0 13 := ⟨_, rfl⟩
  rw [← q578]
  replace h := h k577 q578
  obtain ⟨S579, e580⟩ : ∃ s, s = xm_mk 13 10 S575 := ⟨_, rfl⟩
  rw [← e580]
  replace h := h S579 e580
  refine xw.fq (c := 11) (j := 106) (e := 13) (nx := 855) (t := (some k577)) rfl rfl ?_
  obtain ⟨S581, e582⟩ : ∃ s, s = xm_sr S579 11 this 106 (some k577) := ⟨_, rfl⟩
  rw [← e582]
  replace h := h S581 e582
  refine xw.s (pc' := 856) (st' := [.inr (some (11, this))]) rfl ?_
  refine xw.s (pc' := 858) (st' := [.inl (10 : Int32), .inr (some (11, this))]) rfl ?_
  refine xw.s (pc' := 860) (st' := [.inr (some (13, (xm_n S581 0 13))), .inr (some (11, this))]) (S1 := xm_mk 13 10 S581) rfl ?_
  obtain ⟨k583, q584⟩ : ∃ k, k = xm_n S581 0 13 := ⟨_, rfl⟩
  rw [← q584]
  replace h := h k583 q584
  obtain ⟨S585, e586⟩ : ∃ s, s = xm_mk 13 10 S581 := ⟨_, rfl⟩
  rw [← e586]
  replace h := h S585 e586
  refine xw.fq (c := 11) (j := 107) (e := 13) (nx := 863) (t := (some k583)) rfl rfl ?_
  obtain ⟨S587, e588⟩ : ∃ s, s = xm_sr S585 11 this 107 (some k583) := ⟨_, rfl⟩
  rw [← e588]
  replace h := h S587 e588
  refine xw.s (pc' := 864) (st' := [.inr (some (11, this))]) rfl ?_
  refine xw.s (pc' := 866) (st' := [.inl (10 : Int32), .inr (some (11, this))]) rfl ?_
  refine xw.s (pc' := 868) (st' := [.inr (some (13, (xm_n S587 0 13))), .inr (some (11, this))]) (S1 := xm_mk 13 10 S587) rfl ?_
  obtain ⟨k589, q590⟩ : ∃ k, k = xm_n S587 0 13 := ⟨_, rfl⟩
  rw [← q590]
  replace h := h k589 q590
  obtain ⟨S591, e592⟩ : ∃ s, s = xm_mk 13 10 S587 := ⟨_, rfl⟩
  rw [← e592]
  replace h := h S591 e592
  refine xw.fq (c := 11) (j := 108) (e := 13) (nx := 871) (t := (some k589)) rfl rfl ?_
  obtain ⟨S593, e594⟩ : ∃ s, s = xm_sr S591 11 this 108 (some k589) := ⟨_, rfl⟩
  rw [← e594]
  replace h := h S593 e594
  refine xw.s (pc' := 872) (st' := [.inr (some (11, this))]) rfl ?_
  refine xw.s (pc' := 874) (st' := [.inl (10 : Int32), .inr (some (11, this))]) rfl ?_
  refine xw.s (pc' := 876) (st' := [.inr (some (14, (xm_n S593 0 14))), .inr (some (11, this))]) (S1 := xm_mk 14 10 S593) rfl ?_
  obtain ⟨k595, q596⟩ : ∃ k, k = xm_n S593 0 14 := ⟨_, rfl⟩
  rw [← q596]
  replace h := h k595 q596
  obtain ⟨S597, e598⟩ : ∃ s, s = xm_mk 14 10 S593 := ⟨_, rfl⟩
  rw [← e598]
  replace h := h S597 e598
  refine xw.fq (c := 11) (j := 109) (e := 14) (nx := 879) (t := (some k595)) rfl rfl ?_
  obtain ⟨S599, e600⟩ : ∃ s, s = xm_sr S597 11 this 109 (some k595) := ⟨_, rfl⟩
  rw [← e600]
  replace h := h S599 e600
  exact xw.ret (r := none) rfl h
theorem c_newM {d : Nat} {S : xm_S} (h13 : xm_n S 0 13 = 0) (h14 : xm_n S 0 14 = 0) : xc d 112 [.inr (some (11, 0))] S (fun r S' => r = none ∧ kMo S S' 110 85 10) := by
  have h0 : kMo S S 0 0 0 := ⟨h13, h14, fun y hy => absurd hy (by omega), fun _ _ _ _ => rfl, fun _ _ _ _ _ => rfl, fun _ _ _ _ _ _ => ⟨rfl, rfl⟩, rfl⟩
  refine cw_newWM ?_
  intro S0 e0
  replace h0 := h0.i rfl e0
  clear e0
  intro S1 e1
  replace h0 := h0.i rfl e1
  clear e1
  intro k2 ek2 T2 f2 S2 e2
  replace h0 := h0.a13 rfl ek2 f2 e2
  clear ek2 f2 e2
  intro k3 ek3 T3 f3 S3 e3
  replace h0 := h0.a13 rfl ek3 f3 e3
  clear ek3 f3 e3
  intro k4 ek4 T4 f4 S4 e4
  replace h0 := h0.a13 rfl ek4 f4 e4
  clear ek4 f4 e4
  intro S5 e5
  replace h0 := h0.i rfl e5
  clear e5
  intro k6 ek6 T6 f6 S6 e6
  replace h0 := h0.a13 rfl ek6 f6 e6
  clear ek6 f6 e6
  intro k7 ek7 T7 f7 S7 e7
  replace h0 := h0.a13 rfl ek7 f7 e7
  clear ek7 f7 e7
  intro k8 ek8 T8 f8 S8 e8
  replace h0 := h0.a13 rfl ek8 f8 e8
  clear ek8 f8 e8
  intro k9 ek9 T9 f9 S9 e9
  replace h0 := h0.a13 rfl ek9 f9 e9
  clear ek9 f9 e9
  intro k10 ek10 T10 f10 S10 e10
  replace h0 := h0.a13 rfl ek10 f10 e10
  clear ek10 f10 e10
  intro S11 e11
  replace h0 := h0.i rfl e11
  clear e11
  intro k12 ek12 T12 f12 S12 e12
  replace h0 := h0.a13 rfl ek12 f12 e12
  clear ek12 f12 e12
  intro k13 ek13 T13 f13 S13 e13
  replace h0 := h0.a13 rfl ek13 f13 e13
  clear ek13 f13 e13
  intro k14 ek14 T14 f14 S14 e14
  replace h0 := h0.a13 rfl ek14 f14 e14
  clear ek14 f14 e14
  intro k15 ek15 T15 f15 S15 e15
  replace h0 := h0.a13 rfl ek15 f15 e15
  clear ek15 f15 e15
  intro k16 ek16 T16 f16 S16 e16
  replace h0 := h0.a13 rfl ek16 f16 e16
  clear ek16 f16 e16
  intro S17 e17
  replace h0 := h0.i rfl e17
  clear e17
  intro k18 ek18 T18 f18 S18 e18
  replace h0 := h0.a13 rfl ek18 f18 e18
  clear ek18 f18 e18
  intro k19 ek19 T19 f19 S19 e19
  replace h0 := h0.a13 rfl ek19 f19 e19
  clear ek19 f19 e19
  intro k20 ek20 T20 f20 S20 e20
  replace h0 := h0.a13 rfl ek20 f20 e20
  clear ek20 f20 e20
  intro k21 ek21 T21 f21 S21 e21
  replace h0 := h0.a13 rfl ek21 f21 e21
  clear ek21 f21 e21
  intro k22 ek22 T22 f22 S22 e22
  replace h0 := h0.a13 rfl ek22 f22 e22
  clear ek22 f22 e22
  intro S23 e23
  replace h0 := h0.i rfl e23
  clear e23
  intro k24 ek24 T24 f24 S24 e24
  replace h0 := h0.a13 rfl ek24 f24 e24
  clear ek24 f24 e24
  intro k25 ek25 T25 f25 S25 e25
  replace h0 := h0.a13 rfl ek25 f25 e25
  clear ek25 f25 e25
  intro k26 ek26 T26 f26 S26 e26
  replace h0 := h0.a13 rfl ek26 f26 e26
  clear ek26 f26 e26
  intro k27 ek27 T27 f27 S27 e27
  replace h0 := h0.a13 rfl ek27 f27 e27
  clear ek27 f27 e27
  intro k28 ek28 T28 f28 S28 e28
  replace h0 := h0.a13 rfl ek28 f28 e28
  clear ek28 f28 e28
  intro k29 ek29 T29 f29 S29 e29
  replace h0 := h0.a13 rfl ek29 f29 e29
  clear ek29 f29 e29
  intro S30 e30
  replace h0 := h0.i rfl e30
  clear e30
  intro k31 ek31 T31 f31 S31 e31
  replace h0 := h0.a13 rfl ek31 f31 e31
  clear ek31 f31 e31
  intro k32 ek32 T32 f32 S32 e32
  replace h0 := h0.a13 rfl ek32 f32 e32
  clear ek32 f32 e32
  intro k33 ek33 T33 f33 S33 e33
  replace h0 := h0.a13 rfl ek33 f33 e33
  clear ek33 f33 e33
  intro k34 ek34 T34 f34 S34 e34
  replace h0 := h0.a13 rfl ek34 f34 e34
  clear ek34 f34 e34
  intro k35 ek35 T35 f35 S35 e35
  replace h0 := h0.a13 rfl ek35 f35 e35
  clear ek35 f35 e35
  intro k36 ek36 T36 f36 S36 e36
  replace h0 := h0.a13 rfl ek36 f36 e36
  clear ek36 f36 e36
  intro k37 ek37 T37 f37 S37 e37
  replace h0 := h0.a13 rfl ek37 f37 e37
  clear ek37 f37 e37
  intro k38 ek38 T38 f38 S38 e38
  replace h0 := h0.a13 rfl ek38 f38 e38
  clear ek38 f38 e38
  intro k39 ek39 T39 f39 S39 e39
  replace h0 := h0.a13 rfl ek39 f39 e39
  clear ek39 f39 e39
  intro k40 ek40 T40 f40 S40 e40
  replace h0 := h0.a13 rfl ek40 f40 e40
  clear ek40 f40 e40
  intro k41 ek41 T41 f41 S41 e41
  replace h0 := h0.a13 rfl ek41 f41 e41
  clear ek41 f41 e41
  intro k42 ek42 T42 f42 S42 e42
  replace h0 := h0.a13 rfl ek42 f42 e42
  clear ek42 f42 e42
  intro k43 ek43 T43 f43 S43 e43
  replace h0 := h0.a13 rfl ek43 f43 e43
  clear ek43 f43 e43
  intro k44 ek44 T44 f44 S44 e44
  replace h0 := h0.a13 rfl ek44 f44 e44
  clear ek44 f44 e44
  intro k45 ek45 T45 f45 S45 e45
  replace h0 := h0.a13 rfl ek45 f45 e45
  clear ek45 f45 e45
  intro k46 ek46 T46 f46 S46 e46
  replace h0 := h0.a14 rfl ek46 f46 e46
  clear ek46 f46 e46
  intro S47 e47
  replace h0 := h0.i rfl e47
  clear e47
  intro k48 ek48 T48 f48 S48 e48
  replace h0 := h0.a13 rfl ek48 f48 e48
  clear ek48 f48 e48
  intro k49 ek49 T49 f49 S49 e49
  replace h0 := h0.a13 rfl ek49 f49 e49
  clear ek49 f49 e49
  intro S50 e50
  replace h0 := h0.i rfl e50
  clear e50
  intro k51 ek51 T51 f51 S51 e51
  replace h0 := h0.a13 rfl ek51 f51 e51
  clear ek51 f51 e51
  intro k52 ek52 T52 f52 S52 e52
  replace h0 := h0.a13 rfl ek52 f52 e52
  clear ek52 f52 e52
  intro k53 ek53 T53 f53 S53 e53
  replace h0 := h0.a13 rfl ek53 f53 e53
  clear ek53 f53 e53
  intro k54 ek54 T54 f54 S54 e54
  replace h0 := h0.a13 rfl ek54 f54 e54
  clear ek54 f54 e54
  intro k55 ek55 T55 f55 S55 e55
  replace h0 := h0.a13 rfl ek55 f55 e55
  clear ek55 f55 e55
  intro k56 ek56 T56 f56 S56 e56
  replace h0 := h0.a13 rfl ek56 f56 e56
  clear ek56 f56 e56
  intro k57 ek57 T57 f57 S57 e57
  replace h0 := h0.a13 rfl ek57 f57 e57
  clear ek57 f57 e57
  intro k58 ek58 T58 f58 S58 e58
  replace h0 := h0.a13 rfl ek58 f58 e58
  clear ek58 f58 e58
  intro k59 ek59 T59 f59 S59 e59
  replace h0 := h0.a13 rfl ek59 f59 e59
  clear ek59 f59 e59
  intro S60 e60
  replace h0 := h0.i rfl e60
  clear e60
  intro S61 e61
  replace h0 := h0.i rfl e61
  clear e61
  intro k62 ek62 T62 f62 S62 e62
  replace h0 := h0.a13 rfl ek62 f62 e62
  clear ek62 f62 e62
  intro k63 ek63 T63 f63 S63 e63
  replace h0 := h0.a13 rfl ek63 f63 e63
  clear ek63 f63 e63
  intro k64 ek64 T64 f64 S64 e64
  replace h0 := h0.a13 rfl ek64 f64 e64
  clear ek64 f64 e64
  intro k65 ek65 T65 f65 S65 e65
  replace h0 := h0.a13 rfl ek65 f65 e65
  clear ek65 f65 e65
  intro k66 ek66 T66 f66 S66 e66
  replace h0 := h0.a13 rfl ek66 f66 e66
  clear ek66 f66 e66
  intro k67 ek67 T67 f67 S67 e67
  replace h0 := h0.a13 rfl ek67 f67 e67
  clear ek67 f67 e67
  intro k68 ek68 T68 f68 S68 e68
  replace h0 := h0.a13 rfl ek68 f68 e68
  clear ek68 f68 e68
  intro k69 ek69 T69 f69 S69 e69
  replace h0 := h0.a13 rfl ek69 f69 e69
  clear ek69 f69 e69
  intro k70 ek70 T70 f70 S70 e70
  replace h0 := h0.a13 rfl ek70 f70 e70
  clear ek70 f70 e70
  intro k71 ek71 T71 f71 S71 e71
  replace h0 := h0.a14 rfl ek71 f71 e71
  clear ek71 f71 e71
  intro k72 ek72 T72 f72 S72 e72
  replace h0 := h0.a13 rfl ek72 f72 e72
  clear ek72 f72 e72
  intro k73 ek73 T73 f73 S73 e73
  replace h0 := h0.a13 rfl ek73 f73 e73
  clear ek73 f73 e73
  intro k74 ek74 T74 f74 S74 e74
  replace h0 := h0.a13 rfl ek74 f74 e74
  clear ek74 f74 e74
  intro k75 ek75 T75 f75 S75 e75
  replace h0 := h0.a14 rfl ek75 f75 e75
  clear ek75 f75 e75
  intro k76 ek76 T76 f76 S76 e76
  replace h0 := h0.a14 rfl ek76 f76 e76
  clear ek76 f76 e76
  intro k77 ek77 T77 f77 S77 e77
  replace h0 := h0.a14 rfl ek77 f77 e77
  clear ek77 f77 e77
  intro k78 ek78 T78 f78 S78 e78
  replace h0 := h0.a14 rfl ek78 f78 e78
  clear ek78 f78 e78
  intro k79 ek79 T79 f79 S79 e79
  replace h0 := h0.a14 rfl ek79 f79 e79
  clear ek79 f79 e79
  intro k80 ek80 T80 f80 S80 e80
  replace h0 := h0.a14 rfl ek80 f80 e80
  clear ek80 f80 e80
  intro k81 ek81 T81 f81 S81 e81
  replace h0 := h0.a13 rfl ek81 f81 e81
  clear ek81 f81 e81
  intro S82 e82
  replace h0 := h0.i rfl e82
  clear e82
  intro k83 ek83 T83 f83 S83 e83
  replace h0 := h0.a13 rfl ek83 f83 e83
  clear ek83 f83 e83
  intro k84 ek84 T84 f84 S84 e84
  replace h0 := h0.a13 rfl ek84 f84 e84
  clear ek84 f84 e84
  intro k85 ek85 T85 f85 S85 e85
  replace h0 := h0.a13 rfl ek85 f85 e85
  clear ek85 f85 e85
  intro k86 ek86 T86 f86 S86 e86
  replace h0 := h0.a13 rfl ek86 f86 e86
  clear ek86 f86 e86
  intro k87 ek87 T87 f87 S87 e87
  replace h0 := h0.a13 rfl ek87 f87 e87
  clear ek87 f87 e87
  intro S88 e88
  replace h0 := h0.i rfl e88
  clear e88
  intro S89 e89
  replace h0 := h0.i rfl e89
  clear e89
  intro k90 ek90 T90 f90 S90 e90
  replace h0 := h0.a13 rfl ek90 f90 e90
  clear ek90 f90 e90
  intro k91 ek91 T91 f91 S91 e91
  replace h0 := h0.a13 rfl ek91 f91 e91
  clear ek91 f91 e91
  intro k92 ek92 T92 f92 S92 e92
  replace h0 := h0.a13 rfl ek92 f92 e92
  clear ek92 f92 e92
  intro k93 ek93 T93 f93 S93 e93
  replace h0 := h0.a13 rfl ek93 f93 e93
  clear ek93 f93 e93
  intro k94 ek94 T94 f94 S94 e94
  replace h0 := h0.a13 rfl ek94 f94 e94
  clear ek94 f94 e94
  intro k95 ek95 T95 f95 S95 e95
  replace h0 := h0.a13 rfl ek95 f95 e95
  clear ek95 f95 e95
  intro k96 ek96 T96 f96 S96 e96
  replace h0 := h0.a13 rfl ek96 f96 e96
  clear ek96 f96 e96
  intro k97 ek97 T97 f97 S97 e97
  replace h0 := h0.a13 rfl ek97 f97 e97
  clear ek97 f97 e97
  intro k98 ek98 T98 f98 S98 e98
  replace h0 := h0.a13 rfl ek98 f98 e98
  clear ek98 f98 e98
  intro k99 ek99 T99 f99 S99 e99
  replace h0 := h0.a13 rfl ek99 f99 e99
  clear ek99 f99 e99
  intro k100 ek100 T100 f100 S100 e100
  replace h0 := h0.a13 rfl ek100 f100 e100
  clear ek100 f100 e100
  intro k101 ek101 T101 f101 S101 e101
  replace h0 := h0.a13 rfl ek101 f101 e101
  clear ek101 f101 e101
  intro k102 ek102 T102 f102 S102 e102
  replace h0 := h0.a14 rfl ek102 f102 e102
  clear ek102 f102 e102
  intro S103 e103
  replace h0 := h0.i rfl e103
  clear e103
  intro k104 ek104 T104 f104 S104 e104
  replace h0 := h0.a13 rfl ek104 f104 e104
  clear ek104 f104 e104
  intro k105 ek105 T105 f105 S105 e105
  replace h0 := h0.a13 rfl ek105 f105 e105
  clear ek105 f105 e105
  intro k106 ek106 T106 f106 S106 e106
  replace h0 := h0.a13 rfl ek106 f106 e106
  clear ek106 f106 e106
  intro k107 ek107 T107 f107 S107 e107
  replace h0 := h0.a13 rfl ek107 f107 e107
  clear ek107 f107 e107
  intro k108 ek108 T108 f108 S108 e108
  replace h0 := h0.a13 rfl ek108 f108 e108
  clear ek108 f108 e108
  intro k109 ek109 T109 f109 S109 e109
  replace h0 := h0.a14 rfl ek109 f109 e109
  clear ek109 f109 e109
  exact ⟨rfl, h0⟩
end
