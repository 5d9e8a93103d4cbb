/-! ===== THE CLASS: its methods (printed by wip/whole/gen49.py out of the bytecode) ===== -/
section
/-- plan -/
theorem cw_plan {d : Nat} {a1 : Int32} {a2 : Int32} {a3 : Int32} {a4 : Int32} {a5 : Int32} {a6 : Int32} {a7 : Int32} {S : xm_S} {Q : Option xm_V → xm_S → Prop} (hC : xk_C S) (h : (a1 < (0 : Int32) → (a2 < (0 : Int32) → Q (some (.inl (-1 : Int32))) S) ∧ (¬ a2 < (0 : Int32) → ((nI (xm_n S 1 0)) ≤ a2 → Q (some (.inl (-1 : Int32))) S) ∧ (¬ (nI (xm_n S 1 0)) ≤ a2 → y_in a2 (xm_n S 1 0) ∧ (∃ k5, (xm_l S 0 (y_ix a2)) = (9, k5) ∧ (Q (some (.inl (-1 : Int32))) S))))) ∧ (¬ a1 < (0 : Int32) → ((nI (xm_n S 1 4)) ≤ a1 → (a2 < (0 : Int32) → Q (some (.inl (-1 : Int32))) S) ∧ (¬ a2 < (0 : Int32) → ((nI (xm_n S 1 0)) ≤ a2 → Q (some (.inl (-1 : Int32))) S) ∧ (¬ (nI (xm_n S 1 0)) ≤ a2 → y_in a2 (xm_n S 1 0) ∧ (∃ k11, (xm_l S 0 (y_ix a2)) = (9, k11) ∧ (Q (some (.inl (-1 : Int32))) S))))) ∧ (¬ (nI (xm_n S 1 4)) ≤ a1 → y_in a1 (xm_n S 1 4) ∧ (∃ k14, (xm_l S 4 (y_ix a1)) = (10, k14) ∧ ((a2 < (0 : Int32) → Q (some (.inl (-1 : Int32))) S) ∧ (¬ a2 < (0 : Int32) → ((nI (xm_n S 1 0)) ≤ a2 → Q (some (.inl (-1 : Int32))) S) ∧ (¬ (nI (xm_n S 1 0)) ≤ a2 → y_in a2 (xm_n S 1 0) ∧ (∃ k19, (xm_l S 0 (y_ix a2)) = (9, k19) ∧ ((a3 < (0 : Int32) → Q (some (.inl (-2 : Int32))) S) ∧ (¬ a3 < (0 : Int32) → ((2 : Int32) < a3 → Q (some (.inl (-2 : Int32))) S) ∧ (¬ (2 : Int32) < a3 → (a3 = (0 : Int32) → (a4 < (0 : Int32) → Q (some (.inl (-2 : Int32))) S) ∧ (¬ a4 < (0 : Int32) → ((0 : Int32) < a4 → Q (some (.inl (-2 : Int32))) S) ∧ (¬ (0 : Int32) < a4 → (a5 < (1 : Int32) → Q (some (.inl (-2 : Int32))) S) ∧ (¬ a5 < (1 : Int32) → ((1000 : Int32) < a5 → Q (some (.inl (-2 : Int32))) S) ∧ (¬ (1000 : Int32) < a5 → (a6 < (0 : Int32) → Q (some (.inl (-2 : Int32))) S) ∧ (¬ a6 < (0 : Int32) → (a6 ≤ a7 → ((nI (xm_n S 1 10)) < (12 : Int32) → ∀ k31, k31 = xm_n S 0 7 → (∀ S33, S33 = xm_mk 7 13 S → (xc (d + 1) 105 [.inr (some (7, k31)), .inr (some (10, k14)), .inr (some (9, k19)), .inl a3, .inl a4, .inl a5, .inl a6, .inl a7] S33 (fun r S35 => r = none ∧ xk_C S35 ∧ (∀ S37, S37 = xm_si S35 7 k31 7 ((xm_i S35 0 0 13) + a5) → (xm_n S37 2 10 ≠ 0 ∧ xm_n S37 1 10 < 100000 ∧ (∀ S41, S41 = xm_push 10 (7, k31) S37 → (Q (some (.inl ((nI (xm_n S41 1 10)) - (1 : Int32)))) S41)))))))) ∧ (¬ (nI (xm_n S 1 10)) < (12 : Int32) → Q (some (.inl (-3 : Int32))) S)) ∧ (¬ a6 ≤ a7 → Q (some (.inl (-2 : Int32))) S))))))) ∧ (¬ a3 = (0 : Int32) → (a4 < (0 : Int32) → Q (some (.inl (-2 : Int32))) S) ∧ (¬ a4 < (0 : Int32) → ((1000000 : Int32) < a4 → Q (some (.inl (-2 : Int32))) S) ∧ (¬ (1000000 : Int32) < a4 → (a5 < (1 : Int32) → Q (some (.inl (-2 : Int32))) S) ∧ (¬ a5 < (1 : Int32) → ((1000 : Int32) < a5 → Q (some (.inl (-2 : Int32))) S) ∧ (¬ (1000 : Int32) < a5 → (a6 < (0 : Int32) → Q (some (.inl (-2 : Int32))) S) ∧ (¬ a6 < (0 : Int32) → (a6 ≤ a7 → ((nI (xm_n S 1 10)) < (12 : Int32) → ∀ k50, k50 = xm_n S 0 7 → (∀ S52, S52 = xm_mk 7 13 S → (xc (d + 1) 105 [.inr (some (7, k50)), .inr (some (10, k14)), .inr (some (9, k19)), .inl a3, .inl a4, .inl a5, .inl a6, .inl a7] S52 (fun r S54 => r = none ∧ xk_C S54 ∧ (∀ S56, S56 = xm_si S54 7 k50 7 ((xm_i S54 0 0 13) + a5) → (xm_n S56 2 10 ≠ 0 ∧ xm_n S56 1 10 < 100000 ∧ (∀ S60, S60 = xm_push 10 (7, k50) S56 → (Q (some (.inl ((nI (xm_n S60 1 10)) - (1 : Int32)))) S60)))))))) ∧ (¬ (nI (xm_n S 1 10)) < (12 : Int32) → Q (some (.inl (-3 : Int32))) S)) ∧ (¬ a6 ≤ a7 → Q (some (.inl (-2 : Int32))) S)))))))))))))))))) : xc (d + 2) 63 [.inr (some (0, 0)), .inl a1, .inl a2, .inl a3, .inl a4, .inl a5, .inl a6, .inl a7] S Q := by
  show xw _ _ _ [some (.inr (some (0, 0))), some (.inl a1), some (.inl a2), some (.inl a3), some (.inl a4), some (.inl a5), some (.inl a6), some (.inl a7), none, none, none] _ _ _
  refine xw.s (pc' := 1) (st' := [.inr (some (0, 0))]) rfl ?_
  refine xw.s (pc' := 2) (st' := [.inl a1, .inr (some (0, 0))]) rfl ?_
  refine xw.call (m := 13) (as := [.inr (some (0, 0)), .inl a1]) (nx := 5) (L' := [some (.inr (some (0, 0))), some (.inl a1), some (.inl a2), some (.inl a3), some (.inl a4), some (.inl a5), some (.inl a6), some (.inl a7), none, none, none]) (st' := []) rfl ?_
  show xw _ _ _ [some (.inr (some (0, 0))), some (.inl a1)] [] _ _
  refine xw.s (pc' := 1) (st' := [.inl a1]) rfl ?_
  refine xw.b (c := a1 < (0 : Int32)) (cd := .lt) (x := a1) (y := (0 : Int32)) 29 4 (st' := []) rfl (y_clt _ _) h (fun c1 h => ?_) (fun c1 h => ?_)
  · skip
    refine xw.s (pc' := 30) (st' := [.inr none]) rfl ?_
    refine xw.ret (r := some (.inr none)) rfl ?_
    show xw _ _ 5 [some (.inr (some (0, 0))), some (.inl a1), some (.inl a2), some (.inl a3), some (.inl a4), some (.inl a5), some (.inl a6), some (.inl a7), none, none, none] [.inr none] S _
    refine xw.s (pc' := 7) (st' := []) (L' := [some (.inr (some (0, 0))), some (.inl a1), some (.inl a2), some (.inl a3), some (.inl a4), some (.inl a5), some (.inl a6), some (.inl a7), some (.inr none), none, none]) rfl ?_
    refine xw.s (pc' := 8) (st' := [.inr (some (0, 0))]) rfl ?_
    refine xw.s (pc' := 9) (st' := [.inl a2, .inr (some (0, 0))]) rfl ?_
    refine xw.call (m := 4) (as := [.inr (some (0, 0)), .inl a2]) (nx := 12) (L' := [some (.inr (some (0, 0))), some (.inl a1), some (.inl a2), some (.inl a3), some (.inl a4), some (.inl a5), some (.inl a6), some (.inl a7), some (.inr none), none, none]) (st' := []) rfl ?_
    show xw _ _ _ [some (.inr (some (0, 0))), some (.inl a2)] [] _ _
    refine xw.s (pc' := 1) (st' := [.inl a2]) rfl ?_
    refine xw.b (c := a2 < (0 : Int32)) (cd := .lt) (x := a2) (y := (0 : Int32)) 29 4 (st' := []) rfl (y_clt _ _) h (fun c2 h => ?_) (fun c2 h => ?_)
    · skip
      refine xw.s (pc' := 30) (st' := [.inr none]) rfl ?_
      refine xw.ret (r := some (.inr none)) rfl ?_
      show xw _ _ 12 [some (.inr (some (0, 0))), some (.inl a1), some (.inl a2), some (.inl a3), some (.inl a4), some (.inl a5), some (.inl a6), some (.inl a7), some (.inr none), none, none] [.inr none] S _
      refine xw.s (pc' := 14) (st' := []) (L' := [some (.inr (some (0, 0))), some (.inl a1), some (.inl a2), some (.inl a3), some (.inl a4), some (.inl a5), some (.inl a6), some (.inl a7), some (.inr none), some (.inr none), none]) rfl ?_
      refine xw.s (pc' := 16) (st' := [.inr none]) rfl ?_
      refine xw.s (pc' := 24) (st' := []) rfl ?_
      refine xw.s (pc' := 25) (st' := [.inl (-1 : Int32)]) rfl ?_
      exact xw.ret (r := (some (.inl (-1 : Int32)))) rfl h
    · skip
      refine xw.s (pc' := 5) (st' := [.inl a2]) rfl ?_
      refine xw.s (pc' := 6) (st' := [.inr (some (0, 0)), .inl a2]) rfl ?_
      refine xw.fr (c := 0) (j := 0) (e := 12) (nx := 9) (t := (some 0)) rfl rfl (hC 0 (by decide)) ?_
      show xw _ _ _ [some (.inr (some (0, 0))), some (.inl a2)] [.inr (some (12, 0)), .inl a2] _ _
      refine xw.lsz (nx := 12) (n := (xm_n S 1 0)) rfl (Nat.le_of_ble_eq_true rfl) rfl ?_
      refine xw.b (c := (nI (xm_n S 1 0)) ≤ a2) (cd := .ge) (x := a2) (y := (nI (xm_n S 1 0))) 29 15 (st' := []) rfl (y_cge _ _) h (fun c3 h => ?_) (fun c3 h => ?_)
      · skip
        refine xw.s (pc' := 30) (st' := [.inr none]) rfl ?_
        refine xw.ret (r := some (.inr none)) rfl ?_
        show xw _ _ 12 [some (.inr (some (0, 0))), some (.inl a1), some (.inl a2), some (.inl a3), some (.inl a4), some (.inl a5), some (.inl a6), some (.inl a7), some (.inr none), none, none] [.inr none] S _
        refine xw.s (pc' := 14) (st' := []) (L' := [some (.inr (some (0, 0))), some (.inl a1), some (.inl a2), some (.inl a3), some (.inl a4), some (.inl a5), some (.inl a6), some (.inl a7), some (.inr none), some (.inr none), none]) rfl ?_
        refine xw.s (pc' := 16) (st' := [.inr none]) rfl ?_
        refine xw.s (pc' := 24) (st' := []) rfl ?_
        refine xw.s (pc' := 25) (st' := [.inl (-1 : Int32)]) rfl ?_
        exact xw.ret (r := (some (.inl (-1 : Int32)))) rfl h
      · skip
        refine xw.s (pc' := 16) (st' := [.inr (some (0, 0))]) rfl ?_
        refine xw.fr (c := 0) (j := 0) (e := 12) (nx := 19) (t := (some 0)) rfl rfl (hC 0 (by decide)) ?_
        show xw _ _ _ [some (.inr (some (0, 0))), some (.inl a2)] [.inr (some (12, 0))] _ _
        refine xw.s (pc' := 20) (st' := [.inl a2, .inr (some (12, 0))]) rfl ?_
        obtain ⟨z4, h⟩ := h
        obtain ⟨k5, q6, h⟩ := h
        refine xw.get (nx := 23) (p := (9, k5)) rfl (Nat.le_of_ble_eq_true rfl) z4 q6 ?_
        refine xw.s (pc' := 26) (st' := [.inr (some (9, k5))]) rfl ?_
        refine xw.s (pc' := 30) (st' := [.inr (some (9, k5))]) rfl ?_
        refine xw.ret (r := some (.inr (some (9, k5)))) rfl ?_
        show xw _ _ 12 [some (.inr (some (0, 0))), some (.inl a1), some (.inl a2), some (.inl a3), some (.inl a4), some (.inl a5), some (.inl a6), some (.inl a7), some (.inr none), none, none] [.inr (some (9, k5))] S _
        refine xw.s (pc' := 14) (st' := []) (L' := [some (.inr (some (0, 0))), some (.inl a1), some (.inl a2), some (.inl a3), some (.inl a4), some (.inl a5), some (.inl a6), some (.inl a7), some (.inr none), some (.inr (some (9, k5))), none]) rfl ?_
        refine xw.s (pc' := 16) (st' := [.inr none]) rfl ?_
        refine xw.s (pc' := 24) (st' := []) rfl ?_
        refine xw.s (pc' := 25) (st' := [.inl (-1 : Int32)]) rfl ?_
        exact xw.ret (r := (some (.inl (-1 : Int32)))) rfl h
  · skip
    refine xw.s (pc' := 5) (st' := [.inl a1]) rfl ?_
    refine xw.s (pc' := 6) (st' := [.inr (some (0, 0)), .inl a1]) rfl ?_
    refine xw.fr (c := 0) (j := 4) (e := 12) (nx := 9) (t := (some 4)) rfl rfl (hC 4 (by decide)) ?_
    show xw _ _ _ [some (.inr (some (0, 0))), some (.inl a1)] [.inr (some (12, 4)), .inl a1] _ _
    refine xw.lsz (nx := 12) (n := (xm_n S 1 4)) rfl (Nat.le_of_ble_eq_true rfl) rfl ?_
    refine xw.b (c := (nI (xm_n S 1 4)) ≤ a1) (cd := .ge) (x := a1) (y := (nI (xm_n S 1 4))) 29 15 (st' := []) rfl (y_cge _ _) h (fun c7 h => ?_) (fun c7 h => ?_)
    · skip
      refine xw.s (pc' := 30) (st' := [.inr none]) rfl ?_
      refine xw.ret (r := some (.inr none)) rfl ?_
      show xw _ _ 5 [some (.inr (some (0, 0))), some (.inl a1), some (.inl a2), some (.inl a3), some (.inl a4), some (.inl a5), some (.inl a6), some (.inl a7), none, none, none] [.inr none] S _
      refine xw.s (pc' := 7) (st' := []) (L' := [some (.inr (some (0, 0))), some (.inl a1), some (.inl a2), some (.inl a3), some (.inl a4), some (.inl a5), some (.inl a6), some (.inl a7), some (.inr none), none, none]) rfl ?_
      refine xw.s (pc' := 8) (st' := [.inr (some (0, 0))]) rfl ?_
      refine xw.s (pc' := 9) (st' := [.inl a2, .inr (some (0, 0))]) rfl ?_
      refine xw.call (m := 4) (as := [.inr (some (0, 0)), .inl a2]) (nx := 12) (L' := [some (.inr (some (0, 0))), some (.inl a1), some (.inl a2), some (.inl a3), some (.inl a4), some (.inl a5), some (.inl a6), some (.inl a7), some (.inr none), none, none]) (st' := []) rfl ?_
      show xw _ _ _ [some (.inr (some (0, 0))), some (.inl a2)] [] _ _
      refine xw.s (pc' := 1) (st' := [.inl a2]) rfl ?_
      refine xw.b (c := a2 < (0 : Int32)) (cd := .lt) (x := a2) (y := (0 : Int32)) 29 4 (st' := []) rfl (y_clt _ _) h (fun c8 h => ?_) (fun c8 h => ?_)
      · skip
        refine xw.s (pc' := 30) (st' := [.inr none]) rfl ?_
        refine xw.ret (r := some (.inr none)) rfl ?_
        show xw _ _ 12 [some (.inr (some (0, 0))), some (.inl a1), some (.inl a2), some (.inl a3), some (.inl a4), some (.inl a5), some (.inl a6), some (.inl a7), some (.inr none), none, none] [.inr none] S _
        refine xw.s (pc' := 14) (st' := []) (L' := [some (.inr (some (0, 0))), some (.inl a1), some (.inl a2), some (.inl a3), some (.inl a4), some (.inl a5), some (.inl a6), some (.inl a7), some (.inr none), some (.inr none), none]) rfl ?_
        refine xw.s (pc' := 16) (st' := [.inr none]) rfl ?_
        refine xw.s (pc' := 24) (st' := []) rfl ?_
        refine xw.s (pc' := 25) (st' := [.inl (-1 : Int32)]) rfl ?_
        exact xw.ret (r := (some (.inl (-1 : Int32)))) rfl h
      · skip
        refine xw.s (pc' := 5) (st' := [.inl a2]) rfl ?_
        refine xw.s (pc' := 6) (st' := [.inr (some (0, 0)), .inl a2]) rfl ?_
        refine xw.fr (c := 0) (j := 0) (e := 12) (nx := 9) (t := (some 0)) rfl rfl (hC 0 (by decide)) ?_
        show xw _ _ _ [some (.inr (some (0, 0))), some (.inl a2)] [.inr (some (12, 0)), .inl a2] _ _
        refine xw.lsz (nx := 12) (n := (xm_n S 1 0)) rfl (Nat.le_of_ble_eq_true rfl) rfl ?_
        refine xw.b (c := (nI (xm_n S 1 0)) ≤ a2) (cd := .ge) (x := a2) (y := (nI (xm_n S 1 0))) 29 15 (st' := []) rfl (y_cge _ _) h (fun c9 h => ?_) (fun c9 h => ?_)
        · skip
          refine xw.s (pc' := 30) (st' := [.inr none]) rfl ?_
          refine xw.ret (r := some (.inr none)) rfl ?_
          show xw _ _ 12 [some (.inr (some (0, 0))), some (.inl a1), some (.inl a2), some (.inl a3), some (.inl a4), some (.inl a5), some (.inl a6), some (.inl a7), some (.inr none), none, none] [.inr none] S _
          refine xw.s (pc' := 14) (st' := []) (L' := [some (.inr (some (0, 0))), some (.inl a1), some (.inl a2), some (.inl a3), some (.inl a4), some (.inl a5), some (.inl a6), some (.inl a7), some (.inr none), some (.inr none), none]) rfl ?_
          refine xw.s (pc' := 16) (st' := [.inr none]) rfl ?_
          refine xw.s (pc' := 24) (st' := []) rfl ?_
          refine xw.s (pc' := 25) (st' := [.inl (-1 : Int32)]) rfl ?_
          exact xw.ret (r := (some (.inl (-1 : Int32)))) rfl h
        · skip
          refine xw.s (pc' := 16) (st' := [.inr (some (0, 0))]) rfl ?_
          refine xw.fr (c := 0) (j := 0) (e := 12) (nx := 19) (t := (some 0)) rfl rfl (hC 0 (by decide)) ?_
          show xw _ _ _ [some (.inr (some (0, 0))), some (.inl a2)] [.inr (some (12, 0))] _ _
          refine xw.s (pc' := 20) (st' := [.inl a2, .inr (some (12, 0))]) rfl ?_
          obtain ⟨z10, h⟩ := h
          obtain ⟨k11, q12, h⟩ := h
          refine xw.get (nx := 23) (p := (9, k11)) rfl (Nat.le_of_ble_eq_true rfl) z10 q12 ?_
          refine xw.s (pc' := 26) (st' := [.inr (some (9, k11))]) rfl ?_
          refine xw.s (pc' := 30) (st' := [.inr (some (9, k11))]) rfl ?_
          refine xw.ret (r := some (.inr (some (9, k11)))) rfl ?_
          show xw _ _ 12 [some (.inr (some (0, 0))), some (.inl a1), some (.inl a2), some (.inl a3), some (.inl a4), some (.inl a5), some (.inl a6), some (.inl a7), some (.inr none), none, none] [.inr (some (9, k11))] S _
          refine xw.s (pc' := 14) (st' := []) (L' := [some (.inr (some (0, 0))), some (.inl a1), some (.inl a2), some (.inl a3), some (.inl a4), some (.inl a5), some (.inl a6), some (.inl a7), some (.inr none), some (.inr (some (9, k11))), none]) rfl ?_
          refine xw.s (pc' := 16) (st' := [.inr none]) rfl ?_
          refine xw.s (pc' := 24) (st' := []) rfl ?_
          refine xw.s (pc' := 25) (st' := [.inl (-1 : Int32)]) rfl ?_
          exact xw.ret (r := (some (.inl (-1 : Int32)))) rfl h
    · skip
      refine xw.s (pc' := 16) (st' := [.inr (some (0, 0))]) rfl ?_
      refine xw.fr (c := 0) (j := 4) (e := 12) (nx := 19) (t := (some 4)) rfl rfl (hC 4 (by decide)) ?_
      show xw _ _ _ [some (.inr (some (0, 0))), some (.inl a1)] [.inr (some (12, 4))] _ _
      refine xw.s (pc' := 20) (st' := [.inl a1, .inr (some (12, 4))]) rfl ?_
      obtain ⟨z13, h⟩ := h
      obtain ⟨k14, q15, h⟩ := h
      refine xw.get (nx := 23) (p := (10, k14)) rfl (Nat.le_of_ble_eq_true rfl) z13 q15 ?_
      refine xw.s (pc' := 26) (st' := [.inr (some (10, k14))]) rfl ?_
      refine xw.s (pc' := 30) (st' := [.inr (some (10, k14))]) rfl ?_
      refine xw.ret (r := some (.inr (some (10, k14)))) rfl ?_
      show xw _ _ 5 [some (.inr (some (0, 0))), some (.inl a1), some (.inl a2), some (.inl a3), some (.inl a4), some (.inl a5), some (.inl a6), some (.inl a7), none, none, none] [.inr (some (10, k14))] S _
      refine xw.s (pc' := 7) (st' := []) (L' := [some (.inr (some (0, 0))), some (.inl a1), some (.inl a2), some (.inl a3), some (.inl a4), some (.inl a5), some (.inl a6), some (.inl a7), some (.inr (some (10, k14))), none, none]) rfl ?_
      refine xw.s (pc' := 8) (st' := [.inr (some (0, 0))]) rfl ?_
      refine xw.s (pc' := 9) (st' := [.inl a2, .inr (some (0, 0))]) rfl ?_
      refine xw.call (m := 4) (as := [.inr (some (0, 0)), .inl a2]) (nx := 12) (L' := [some (.inr (some (0, 0))), some (.inl a1), some (.inl a2), some (.inl a3), some (.inl a4), some (.inl a5), some (.inl a6), some (.inl a7), some (.inr (some (10, k14))), none, none]) (st' := []) rfl ?_
      show xw _ _ _ [some (.inr (some (0, 0))), some (.inl a2)] [] _ _
      refine xw.s (pc' := 1) (st' := [.inl a2]) rfl ?_
      refine xw.b (c := a2 < (0 : Int32)) (cd := .lt) (x := a2) (y := (0 : Int32)) 29 4 (st' := []) rfl (y_clt _ _) h (fun c16 h => ?_) (fun c16 h => ?_)
      · skip
        refine xw.s (pc' := 30) (st' := [.inr none]) rfl ?_
        refine xw.ret (r := some (.inr none)) rfl ?_
        show xw _ _ 12 [some (.inr (some (0, 0))), some (.inl a1), some (.inl a2), some (.inl a3), some (.inl a4), some (.inl a5), some (.inl a6), some (.inl a7), some (.inr (some (10, k14))), none, none] [.inr none] S _
        refine xw.s (pc' := 14) (st' := []) (L' := [some (.inr (some (0, 0))), some (.inl a1), some (.inl a2), some (.inl a3), some (.inl a4), some (.inl a5), some (.inl a6), some (.inl a7), some (.inr (some (10, k14))), some (.inr none), none]) rfl ?_
        refine xw.s (pc' := 16) (st' := [.inr (some (10, k14))]) rfl ?_
        refine xw.s (pc' := 19) (st' := []) rfl ?_
        refine xw.s (pc' := 21) (st' := [.inr none]) rfl ?_
        refine xw.s (pc' := 24) (st' := []) rfl ?_
        refine xw.s (pc' := 25) (st' := [.inl (-1 : Int32)]) rfl ?_
        exact xw.ret (r := (some (.inl (-1 : Int32)))) rfl h
      · skip
        refine xw.s (pc' := 5) (st' := [.inl a2]) rfl ?_
        refine xw.s (pc' := 6) (st' := [.inr (some (0, 0)), .inl a2]) rfl ?_
        refine xw.fr (c := 0) (j := 0) (e := 12) (nx := 9) (t := (some 0)) rfl rfl (hC 0 (by decide)) ?_
        show xw _ _ _ [some (.inr (some (0, 0))), some (.inl a2)] [.inr (some (12, 0)), .inl a2] _ _
        refine xw.lsz (nx := 12) (n := (xm_n S 1 0)) rfl (Nat.le_of_ble_eq_true rfl) rfl ?_
        refine xw.b (c := (nI (xm_n S 1 0)) ≤ a2) (cd := .ge) (x := a2) (y := (nI (xm_n S 1 0))) 29 15 (st' := []) rfl (y_cge _ _) h (fun c17 h => ?_) (fun c17 h => ?_)
        · skip
          refine xw.s (pc' := 30) (st' := [.inr none]) rfl ?_
          refine xw.ret (r := some (.inr none)) rfl ?_
          show xw _ _ 12 [some (.inr (some (0, 0))), some (.inl a1), some (.inl a2), some (.inl a3), some (.inl a4), some (.inl a5), some (.inl a6), some (.inl a7), some (.inr (some (10, k14))), none, none] [.inr none] S _
          refine xw.s (pc' := 14) (st' := []) (L' := [some (.inr (some (0, 0))), some (.inl a1), some (.inl a2), some (.inl a3), some (.inl a4), some (.inl a5), some (.inl a6), some (.inl a7), some (.inr (some (10, k14))), some (.inr none), none]) rfl ?_
          refine xw.s (pc' := 16) (st' := [.inr (some (10, k14))]) rfl ?_
          refine xw.s (pc' := 19) (st' := []) rfl ?_
          refine xw.s (pc' := 21) (st' := [.inr none]) rfl ?_
          refine xw.s (pc' := 24) (st' := []) rfl ?_
          refine xw.s (pc' := 25) (st' := [.inl (-1 : Int32)]) rfl ?_
          exact xw.ret (r := (some (.inl (-1 : Int32)))) rfl h
        · skip
          refine xw.s (pc' := 16) (st' := [.inr (some (0, 0))]) rfl ?_
          refine xw.fr (c := 0) (j := 0) (e := 12) (nx := 19) (t := (some 0)) rfl rfl (hC 0 (by decide)) ?_
          show xw _ _ _ [some (.inr (some (0, 0))), some (.inl a2)] [.inr (some (12, 0))] _ _
          refine xw.s (pc' := 20) (st' := [.inl a2, .inr (some (12, 0))]) rfl ?_
          obtain ⟨z18, h⟩ := h
          obtain ⟨k19, q20, h⟩ := h
          refine xw.get (nx := 23) (p := (9, k19)) rfl (Nat.le_of_ble_eq_true rfl) z18 q20 ?_
          refine xw.s (pc' := 26) (st' := [.inr (some (9, k19))]) rfl ?_
          refine xw.s (pc' := 30) (st' := [.inr (some (9, k19))]) rfl ?_
          refine xw.ret (r := some (.inr (some (9, k19)))) rfl ?_
          show xw _ _ 12 [some (.inr (some (0, 0))), some (.inl a1), some (.inl a2), some (.inl a3), some (.inl a4), some (.inl a5), some (.inl a6), some (.inl a7), some (.inr (some (10, k14))), none, none] [.inr (some (9, k19))] S _
          refine xw.s (pc' := 14) (st' := []) (L' := [some (.inr (some (0, 0))), some (.inl a1), some (.inl a2), some (.inl a3), some (.inl a4), some (.inl a5), some (.inl a6), some (.inl a7), some (.inr (some (10, k14))), some (.inr (some (9, k19))), none]) rfl ?_
          refine xw.s (pc' := 16) (st' := [.inr (some (10, k14))]) rfl ?_
          refine xw.s (pc' := 19) (st' := []) rfl ?_
          refine xw.s (pc' := 21) (st' := [.inr (some (9, k19))]) rfl ?_
          refine xw.s (pc' := 26) (st' := []) rfl ?_
          refine xw.s (pc' := 27) (st' := [.inl a3]) rfl ?_
          refine xw.s (pc' := 29) (st' := [.inl a4, .inl a3]) rfl ?_
          refine xw.call (m := 14) (as := [.inl a3, .inl a4]) (nx := 32) (L' := [some (.inr (some (0, 0))), some (.inl a1), some (.inl a2), some (.inl a3), some (.inl a4), some (.inl a5), some (.inl a6), some (.inl a7), some (.inr (some (10, k14))), some (.inr (some (9, k19))), none]) (st' := []) rfl ?_
          show xw _ _ _ [some (.inl a3), some (.inl a4)] [] _ _
          refine xw.s (pc' := 1) (st' := [.inl a3]) rfl ?_
          refine xw.s (pc' := 2) (st' := [.inl (0 : Int32), .inl a3]) rfl ?_
          refine xw.s (pc' := 3) (st' := [.inl (2 : Int32), .inl (0 : Int32), .inl a3]) rfl ?_
          refine xw.call (m := 2) (as := [.inl a3, .inl (0 : Int32), .inl (2 : Int32)]) (nx := 6) (L' := [some (.inl a3), some (.inl a4)]) (st' := []) rfl ?_
          show xw _ _ _ [some (.inl a3), some (.inl (0 : Int32)), some (.inl (2 : Int32))] [] _ _
          refine xw.s (pc' := 1) (st' := [.inl a3]) rfl ?_
          refine xw.s (pc' := 2) (st' := [.inl (0 : Int32), .inl a3]) rfl ?_
          refine xw.b (c := a3 < (0 : Int32)) (cd := .lt) (x := a3) (y := (0 : Int32)) 14 5 (st' := []) rfl (y_clt _ _) h (fun c21 h => ?_) (fun c21 h => ?_)
          · skip
            refine xw.s (pc' := 15) (st' := [.inl (0 : Int32)]) rfl ?_
            refine xw.retz (nx := 16) rfl (Or.inl rfl) ?_
            show xw _ _ 6 [some (.inl a3), some (.inl a4)] [.inl (0 : Int32)] S _
            refine xw.bt (cd := .eq) (x := (0 : Int32)) (y := (0 : Int32)) 31 9 (st' := []) rfl (y_ceq _ _) (by decide) ?_
            refine xw.s (pc' := 32) (st' := [.inl (0 : Int32)]) rfl ?_
            refine xw.retz (nx := 33) rfl (Or.inl rfl) ?_
            show xw _ _ 32 [some (.inr (some (0, 0))), some (.inl a1), some (.inl a2), some (.inl a3), some (.inl a4), some (.inl a5), some (.inl a6), some (.inl a7), some (.inr (some (10, k14))), some (.inr (some (9, k19))), none] [.inl (0 : Int32)] S _
            refine xw.bt (cd := .eq) (x := (0 : Int32)) (y := (0 : Int32)) 59 35 (st' := []) rfl (y_ceq _ _) (by decide) ?_
            refine xw.s (pc' := 61) (st' := [.inl (-2 : Int32)]) rfl ?_
            exact xw.ret (r := (some (.inl (-2 : Int32)))) rfl h
          · skip
            refine xw.s (pc' := 6) (st' := [.inl a3]) rfl ?_
            refine xw.s (pc' := 7) (st' := [.inl (2 : Int32), .inl a3]) rfl ?_
            refine xw.b (c := (2 : Int32) < a3) (cd := .gt) (x := a3) (y := (2 : Int32)) 14 10 (st' := []) rfl (y_cgt _ _) h (fun c22 h => ?_) (fun c22 h => ?_)
            · skip
              refine xw.s (pc' := 15) (st' := [.inl (0 : Int32)]) rfl ?_
              refine xw.retz (nx := 16) rfl (Or.inl rfl) ?_
              show xw _ _ 6 [some (.inl a3), some (.inl a4)] [.inl (0 : Int32)] S _
              refine xw.bt (cd := .eq) (x := (0 : Int32)) (y := (0 : Int32)) 31 9 (st' := []) rfl (y_ceq _ _) (by decide) ?_
              refine xw.s (pc' := 32) (st' := [.inl (0 : Int32)]) rfl ?_
              refine xw.retz (nx := 33) rfl (Or.inl rfl) ?_
              show xw _ _ 32 [some (.inr (some (0, 0))), some (.inl a1), some (.inl a2), some (.inl a3), some (.inl a4), some (.inl a5), some (.inl a6), some (.inl a7), some (.inr (some (10, k14))), some (.inr (some (9, k19))), none] [.inl (0 : Int32)] S _
              refine xw.bt (cd := .eq) (x := (0 : Int32)) (y := (0 : Int32)) 59 35 (st' := []) rfl (y_ceq _ _) (by decide) ?_
              refine xw.s (pc' := 61) (st' := [.inl (-2 : Int32)]) rfl ?_
              exact xw.ret (r := (some (.inl (-2 : Int32)))) rfl h
            · skip
              refine xw.s (pc' := 11) (st' := [.inl (1 : Int32)]) rfl ?_
              refine xw.s (pc' := 15) (st' := [.inl (1 : Int32)]) rfl ?_
              refine xw.retz (nx := 16) rfl (Or.inr rfl) ?_
              show xw _ _ 6 [some (.inl a3), some (.inl a4)] [.inl (1 : Int32)] S _
              refine xw.bf (cd := .eq) (x := (1 : Int32)) (y := (0 : Int32)) 31 9 (st' := []) rfl (y_ceq _ _) (by decide) ?_
              refine xw.s (pc' := 10) (st' := [.inl a4]) rfl ?_
              refine xw.s (pc' := 11) (st' := [.inl (0 : Int32), .inl a4]) rfl ?_
              refine xw.s (pc' := 12) (st' := [.inl a3, .inl (0 : Int32), .inl a4]) rfl ?_
              refine xw.bn (c := a3 = (0 : Int32)) (cd := .ne) (x := a3) (y := (0 : Int32)) 19 15 (st' := [.inl (0 : Int32), .inl a4]) rfl (y_cne _ _) h (fun c23 h => ?_) (fun c23 h => ?_)
              · skip
                refine xw.s (pc' := 16) (st' := [.inl (0 : Int32), .inl (0 : Int32), .inl a4]) rfl ?_
                refine xw.s (pc' := 21) (st' := [.inl (0 : Int32), .inl (0 : Int32), .inl a4]) rfl ?_
                refine xw.call (m := 2) (as := [.inl a4, .inl (0 : Int32), .inl (0 : Int32)]) (nx := 24) (L' := [some (.inl a3), some (.inl a4)]) (st' := []) rfl ?_
                show xw _ _ _ [some (.inl a4), some (.inl (0 : Int32)), some (.inl (0 : Int32))] [] _ _
                refine xw.s (pc' := 1) (st' := [.inl a4]) rfl ?_
                refine xw.s (pc' := 2) (st' := [.inl (0 : Int32), .inl a4]) rfl ?_
                refine xw.b (c := a4 < (0 : Int32)) (cd := .lt) (x := a4) (y := (0 : Int32)) 14 5 (st' := []) rfl (y_clt _ _) h (fun c24 h => ?_) (fun c24 h => ?_)
                · skip
                  refine xw.s (pc' := 15) (st' := [.inl (0 : Int32)]) rfl ?_
                  refine xw.retz (nx := 16) rfl (Or.inl rfl) ?_
                  show xw _ _ 24 [some (.inl a3), some (.inl a4)] [.inl (0 : Int32)] S _
                  refine xw.bt (cd := .eq) (x := (0 : Int32)) (y := (0 : Int32)) 31 27 (st' := []) rfl (y_ceq _ _) (by decide) ?_
                  refine xw.s (pc' := 32) (st' := [.inl (0 : Int32)]) rfl ?_
                  refine xw.retz (nx := 33) rfl (Or.inl rfl) ?_
                  show xw _ _ 32 [some (.inr (some (0, 0))), some (.inl a1), some (.inl a2), some (.inl a3), some (.inl a4), some (.inl a5), some (.inl a6), some (.inl a7), some (.inr (some (10, k14))), some (.inr (some (9, k19))), none] [.inl (0 : Int32)] S _
                  refine xw.bt (cd := .eq) (x := (0 : Int32)) (y := (0 : Int32)) 59 35 (st' := []) rfl (y_ceq _ _) (by decide) ?_
                  refine xw.s (pc' := 61) (st' := [.inl (-2 : Int32)]) rfl ?_
                  exact xw.ret (r := (some (.inl (-2 : Int32)))) rfl h
                · skip
                  refine xw.s (pc' := 6) (st' := [.inl a4]) rfl ?_
                  refine xw.s (pc' := 7) (st' := [.inl (0 : Int32), .inl a4]) rfl ?_
                  refine xw.b (c := (0 : Int32) < a4) (cd := .gt) (x := a4) (y := (0 : Int32)) 14 10 (st' := []) rfl (y_cgt _ _) h (fun c25 h => ?_) (fun c25 h => ?_)
                  · skip
                    refine xw.s (pc' := 15) (st' := [.inl (0 : Int32)]) rfl ?_
                    refine xw.retz (nx := 16) rfl (Or.inl rfl) ?_
                    show xw _ _ 24 [some (.inl a3), some (.inl a4)] [.inl (0 : Int32)] S _
                    refine xw.bt (cd := .eq) (x := (0 : Int32)) (y := (0 : Int32)) 31 27 (st' := []) rfl (y_ceq _ _) (by decide) ?_
                    refine xw.s (pc' := 32) (st' := [.inl (0 : Int32)]) rfl ?_
                    refine xw.retz (nx := 33) rfl (Or.inl rfl) ?_
                    show xw _ _ 32 [some (.inr (some (0, 0))), some (.inl a1), some (.inl a2), some (.inl a3), some (.inl a4), some (.inl a5), some (.inl a6), some (.inl a7), some (.inr (some (10, k14))), some (.inr (some (9, k19))), none] [.inl (0 : Int32)] S _
                    refine xw.bt (cd := .eq) (x := (0 : Int32)) (y := (0 : Int32)) 59 35 (st' := []) rfl (y_ceq _ _) (by decide) ?_
                    refine xw.s (pc' := 61) (st' := [.inl (-2 : Int32)]) rfl ?_
                    exact xw.ret (r := (some (.inl (-2 : Int32)))) rfl h
                  · skip
                    refine xw.s (pc' := 11) (st' := [.inl (1 : Int32)]) rfl ?_
                    refine xw.s (pc' := 15) (st' := [.inl (1 : Int32)]) rfl ?_
                    refine xw.retz (nx := 16) rfl (Or.inr rfl) ?_
                    show xw _ _ 24 [some (.inl a3), some (.inl a4)] [.inl (1 : Int32)] S _
                    refine xw.bf (cd := .eq) (x := (1 : Int32)) (y := (0 : Int32)) 31 27 (st' := []) rfl (y_ceq _ _) (by decide) ?_
                    refine xw.s (pc' := 28) (st' := [.inl (1 : Int32)]) rfl ?_
                    refine xw.s (pc' := 32) (st' := [.inl (1 : Int32)]) rfl ?_
                    refine xw.retz (nx := 33) rfl (Or.inr rfl) ?_
                    show xw _ _ 32 [some (.inr (some (0, 0))), some (.inl a1), some (.inl a2), some (.inl a3), some (.inl a4), some (.inl a5), some (.inl a6), some (.inl a7), some (.inr (some (10, k14))), some (.inr (some (9, k19))), none] [.inl (1 : Int32)] S _
                    refine xw.bf (cd := .eq) (x := (1 : Int32)) (y := (0 : Int32)) 59 35 (st' := []) rfl (y_ceq _ _) (by decide) ?_
                    refine xw.s (pc' := 37) (st' := [.inl a5]) rfl ?_
                    refine xw.s (pc' := 38) (st' := [.inl (1 : Int32), .inl a5]) rfl ?_
                    refine xw.s (pc' := 41) (st' := [.inl (1000 : Int32), .inl (1 : Int32), .inl a5]) rfl ?_
                    refine xw.call (m := 2) (as := [.inl a5, .inl (1 : Int32), .inl (1000 : Int32)]) (nx := 44) (L' := [some (.inr (some (0, 0))), some (.inl a1), some (.inl a2), some (.inl a3), some (.inl a4), some (.inl a5), some (.inl a6), some (.inl a7), some (.inr (some (10, k14))), some (.inr (some (9, k19))), none]) (st' := []) rfl ?_
                    show xw _ _ _ [some (.inl a5), some (.inl (1 : Int32)), some (.inl (1000 : Int32))] [] _ _
                    refine xw.s (pc' := 1) (st' := [.inl a5]) rfl ?_
                    refine xw.s (pc' := 2) (st' := [.inl (1 : Int32), .inl a5]) rfl ?_
                    refine xw.b (c := a5 < (1 : Int32)) (cd := .lt) (x := a5) (y := (1 : Int32)) 14 5 (st' := []) rfl (y_clt _ _) h (fun c26 h => ?_) (fun c26 h => ?_)
                    · skip
                      refine xw.s (pc' := 15) (st' := [.inl (0 : Int32)]) rfl ?_
                      refine xw.retz (nx := 16) rfl (Or.inl rfl) ?_
                      show xw _ _ 44 [some (.inr (some (0, 0))), some (.inl a1), some (.inl a2), some (.inl a3), some (.inl a4), some (.inl a5), some (.inl a6), some (.inl a7), some (.inr (some (10, k14))), some (.inr (some (9, k19))), none] [.inl (0 : Int32)] S _
                      refine xw.bt (cd := .eq) (x := (0 : Int32)) (y := (0 : Int32)) 59 47 (st' := []) rfl (y_ceq _ _) (by decide) ?_
                      refine xw.s (pc' := 61) (st' := [.inl (-2 : Int32)]) rfl ?_
                      exact xw.ret (r := (some (.inl (-2 : Int32)))) rfl h
                    · skip
                      refine xw.s (pc' := 6) (st' := [.inl a5]) rfl ?_
                      refine xw.s (pc' := 7) (st' := [.inl (1000 : Int32), .inl a5]) rfl ?_
                      refine xw.b (c := (1000 : Int32) < a5) (cd := .gt) (x := a5) (y := (1000 : Int32)) 14 10 (st' := []) rfl (y_cgt _ _) h (fun c27 h => ?_) (fun c27 h => ?_)
                      · skip
                        refine xw.s (pc' := 15) (st' := [.inl (0 : Int32)]) rfl ?_
                        refine xw.retz (nx := 16) rfl (Or.inl rfl) ?_
                        show xw _ _ 44 [some (.inr (some (0, 0))), some (.inl a1), some (.inl a2), some (.inl a3), some (.inl a4), some (.inl a5), some (.inl a6), some (.inl a7), some (.inr (some (10, k14))), some (.inr (some (9, k19))), none] [.inl (0 : Int32)] S _
                        refine xw.bt (cd := .eq) (x := (0 : Int32)) (y := (0 : Int32)) 59 47 (st' := []) rfl (y_ceq _ _) (by decide) ?_
                        refine xw.s (pc' := 61) (st' := [.inl (-2 : Int32)]) rfl ?_
                        exact xw.ret (r := (some (.inl (-2 : Int32)))) rfl h
                      · skip
                        refine xw.s (pc' := 11) (st' := [.inl (1 : Int32)]) rfl ?_
                        refine xw.s (pc' := 15) (st' := [.inl (1 : Int32)]) rfl ?_
                        refine xw.retz (nx := 16) rfl (Or.inr rfl) ?_
                        show xw _ _ 44 [some (.inr (some (0, 0))), some (.inl a1), some (.inl a2), some (.inl a3), some (.inl a4), some (.inl a5), some (.inl a6), some (.inl a7), some (.inr (some (10, k14))), some (.inr (some (9, k19))), none] [.inl (1 : Int32)] S _
                        refine xw.bf (cd := .eq) (x := (1 : Int32)) (y := (0 : Int32)) 59 47 (st' := []) rfl (y_ceq _ _) (by decide) ?_
                        refine xw.s (pc' := 49) (st' := [.inl a6]) rfl ?_
                        refine xw.b (c := a6 < (0 : Int32)) (cd := .lt) (x := a6) (y := (0 : Int32)) 59 52 (st' := []) rfl (y_clt _ _) h (fun c28 h => ?_) (fun c28 h => ?_)
                        · skip
                          refine xw.s (pc' := 61) (st' := [.inl (-2 : Int32)]) rfl ?_
                          exact xw.ret (r := (some (.inl (-2 : Int32)))) rfl h
                        · skip
                          refine xw.s (pc' := 54) (st' := [.inl a7]) rfl ?_
                          refine xw.s (pc' := 56) (st' := [.inl a6, .inl a7]) rfl ?_
                          refine xw.b (c := a6 ≤ a7) (cd := .ge) (x := a7) (y := a6) 62 59 (st' := []) rfl (y_cge _ _) h (fun c29 h => ?_) (fun c29 h => ?_)
                          · skip
                            refine xw.s (pc' := 63) (st' := [.inr (some (0, 0))]) rfl ?_
                            refine xw.fr (c := 0) (j := 10) (e := 12) (nx := 66) (t := (some 10)) rfl rfl (hC 10 (by decide)) ?_
                            show xw _ _ _ [some (.inr (some (0, 0))), some (.inl a1), some (.inl a2), some (.inl a3), some (.inl a4), some (.inl a5), some (.inl a6), some (.inl a7), some (.inr (some (10, k14))), some (.inr (some (9, k19))), none] [.inr (some (12, 10))] _ _
                            refine xw.lsz (nx := 69) (n := (xm_n S 1 10)) rfl (Nat.le_of_ble_eq_true rfl) rfl ?_
                            refine xw.s (pc' := 71) (st' := [.inl (12 : Int32), .inl (nI (xm_n S 1 10))]) rfl ?_
                            refine xw.b (c := (nI (xm_n S 1 10)) < (12 : Int32)) (cd := .lt) (x := (nI (xm_n S 1 10))) (y := (12 : Int32)) 77 74 (st' := []) rfl (y_clt _ _) h (fun c30 h => ?_) (fun c30 h => ?_)
                            · skip
                              refine xw.s (pc' := 80) (st' := [.inr (some (7, (xm_n S 0 7)))]) (S1 := xm_mk 7 13 S) rfl ?_
                              obtain ⟨k31, q32⟩ : ∃ k, k = xm_n S 0 7 := ⟨_, rfl⟩
                              rw [← q32]
                              replace h := h k31 q32
                              obtain ⟨S33, e34⟩ : ∃ s, s = xm_mk 7 13 S := ⟨_, rfl⟩
                              rw [← e34]
                              replace h := h S33 e34
                              refine xw.s (pc' := 81) (st' := [.inr (some (7, k31)), .inr (some (7, k31))]) rfl ?_
                              refine xw.s (pc' := 83) (st' := [.inr (some (10, k14)), .inr (some (7, k31)), .inr (some (7, k31))]) rfl ?_
                              refine xw.s (pc' := 85) (st' := [.inr (some (9, k19)), .inr (some (10, k14)), .inr (some (7, k31)), .inr (some (7, k31))]) rfl ?_
                              refine xw.s (pc' := 86) (st' := [.inl a3, .inr (some (9, k19)), .inr (some (10, k14)), .inr (some (7, k31)), .inr (some (7, k31))]) rfl ?_
                              refine xw.s (pc' := 88) (st' := [.inl a4, .inl a3, .inr (some (9, k19)), .inr (some (10, k14)), .inr (some (7, k31)), .inr (some (7, k31))]) rfl ?_
                              refine xw.s (pc' := 90) (st' := [.inl a5, .inl a4, .inl a3, .inr (some (9, k19)), .inr (some (10, k14)), .inr (some (7, k31)), .inr (some (7, k31))]) rfl ?_
                              refine xw.s (pc' := 92) (st' := [.inl a6, .inl a5, .inl a4, .inl a3, .inr (some (9, k19)), .inr (some (10, k14)), .inr (some (7, k31)), .inr (some (7, k31))]) rfl ?_
                              refine xw.s (pc' := 94) (st' := [.inl a7, .inl a6, .inl a5, .inl a4, .inl a3, .inr (some (9, k19)), .inr (some (10, k14)), .inr (some (7, k31)), .inr (some (7, k31))]) rfl ?_
                              refine xw.call (m := 105) (as := [.inr (some (7, k31)), .inr (some (10, k14)), .inr (some (9, k19)), .inl a3, .inl a4, .inl a5, .inl a6, .inl a7]) (nx := 97) (L' := [some (.inr (some (0, 0))), some (.inl a1), some (.inl a2), some (.inl a3), some (.inl a4), some (.inl a5), some (.inl a6), some (.inl a7), some (.inr (some (10, k14))), some (.inr (some (9, k19))), none]) (st' := [.inr (some (7, k31))]) rfl (xc.mono h ?_)
                              rintro r S35 ⟨rfl, hC36, h⟩
                              show xw _ _ 97 [some (.inr (some (0, 0))), some (.inl a1), some (.inl a2), some (.inl a3), some (.inl a4), some (.inl a5), some (.inl a6), some (.inl a7), some (.inr (some (10, k14))), some (.inr (some (9, k19))), none] [.inr (some (7, k31))] _ _
                              refine xw.s (pc' := 99) (st' := []) (L' := [some (.inr (some (0, 0))), some (.inl a1), some (.inl a2), some (.inl a3), some (.inl a4), some (.inl a5), some (.inl a6), some (.inl a7), some (.inr (some (10, k14))), some (.inr (some (9, k19))), some (.inr (some (7, k31)))]) rfl ?_
                              refine xw.s (pc' := 101) (st' := [.inr (some (7, k31))]) rfl ?_
                              refine xw.s (pc' := 102) (st' := [.inr (some (0, 0)), .inr (some (7, k31))]) rfl ?_
                              refine xw.fi (c := 0) (j := 13) (ty := 0) (nx := 105) (v := (xm_i S35 0 0 13)) rfl rfl rfl ?_
                              refine xw.s (pc' := 107) (st' := [.inl a5, .inl (xm_i S35 0 0 13), .inr (some (7, k31))]) rfl ?_
                              refine xw.s (pc' := 108) (st' := [.inl ((xm_i S35 0 0 13) + a5), .inr (some (7, k31))]) rfl ?_
                              refine xw.fp (c := 7) (j := 7) (ty := 0) (nx := 111) rfl rfl (Or.inl rfl) ?_
                              obtain ⟨S37, e38⟩ : ∃ s, s = xm_si S35 7 k31 7 ((xm_i S35 0 0 13) + a5) := ⟨_, rfl⟩
                              rw [← e38]
                              replace h := h S37 e38
                              refine xw.s (pc' := 112) (st' := [.inr (some (0, 0))]) rfl ?_
                              refine xw.fr (c := 0) (j := 10) (e := 12) (nx := 115) (t := (some 10)) rfl rfl ((congrArg (fun s => xm_r s 0 0 10) e38).trans (hC36 10 (by decide))) ?_
                              show xw _ _ _ [some (.inr (some (0, 0))), some (.inl a1), some (.inl a2), some (.inl a3), some (.inl a4), some (.inl a5), some (.inl a6), some (.inl a7), some (.inr (some (10, k14))), some (.inr (some (9, k19))), some (.inr (some (7, k31)))] [.inr (some (12, 10))] _ _
                              refine xw.s (pc' := 117) (st' := [.inr (some (7, k31)), .inr (some (12, 10))]) rfl ?_
                              obtain ⟨z39, z40, h⟩ := h
                              refine xw.ladd (nx := 120) rfl (Nat.le_of_ble_eq_true rfl) (by decide) z39 z40 ?_
                              obtain ⟨S41, e42⟩ : ∃ s, s = xm_push 10 (7, k31) S37 := ⟨_, rfl⟩
                              rw [← e42]
                              replace h := h S41 e42
                              refine xw.s (pc' := 121) (st' := []) rfl ?_
                              refine xw.s (pc' := 122) (st' := [.inr (some (0, 0))]) rfl ?_
                              refine xw.fr (c := 0) (j := 10) (e := 12) (nx := 125) (t := (some 10)) rfl rfl ((congrArg (fun s => xm_r s 0 0 10) e42).trans (xr_push.trans ((congrArg (fun s => xm_r s 0 0 10) e38).trans (hC36 10 (by decide))))) ?_
                              show xw _ _ _ [some (.inr (some (0, 0))), some (.inl a1), some (.inl a2), some (.inl a3), some (.inl a4), some (.inl a5), some (.inl a6), some (.inl a7), some (.inr (some (10, k14))), some (.inr (some (9, k19))), some (.inr (some (7, k31)))] [.inr (some (12, 10))] _ _
                              refine xw.lsz (nx := 128) (n := (xm_n S41 1 10)) rfl (Nat.le_of_ble_eq_true rfl) rfl ?_
                              refine xw.s (pc' := 129) (st' := [.inl (1 : Int32), .inl (nI (xm_n S41 1 10))]) rfl ?_
                              refine xw.s (pc' := 130) (st' := [.inl ((nI (xm_n S41 1 10)) - (1 : Int32))]) rfl ?_
                              exact xw.ret (r := (some (.inl ((nI (xm_n S41 1 10)) - (1 : Int32))))) rfl h
                            · skip
                              refine xw.s (pc' := 76) (st' := [.inl (-3 : Int32)]) rfl ?_
                              exact xw.ret (r := (some (.inl (-3 : Int32)))) rfl h
                          · skip
                            refine xw.s (pc' := 61) (st' := [.inl (-2 : Int32)]) rfl ?_
                            exact xw.ret (r := (some (.inl (-2 : Int32)))) rfl h
              · skip
                refine xw.s (pc' := 21) (st' := [.inl (1000000 : Int32), .inl (0 : Int32), .inl a4]) rfl ?_
                refine xw.call (m := 2) (as := [.inl a4, .inl (0 : Int32), .inl (1000000 : Int32)]) (nx := 24) (L' := [some (.inl a3), some (.inl a4)]) (st' := []) rfl ?_
                show xw _ _ _ [some (.inl a4), some (.inl (0 : Int32)), some (.inl (1000000 : Int32))] [] _ _
                refine xw.s (pc' := 1) (st' := [.inl a4]) rfl ?_
                refine xw.s (pc' := 2) (st' := [.inl (0 : Int32), .inl a4]) rfl ?_
                refine xw.b (c := a4 < (0 : Int32)) (cd := .lt) (x := a4) (y := (0 : Int32)) 14 5 (st' := []) rfl (y_clt _ _) h (fun c43 h => ?_) (fun c43 h => ?_)
                · skip
                  refine xw.s (pc' := 15) (st' := [.inl (0 : Int32)]) rfl ?_
                  refine xw.retz (nx := 16) rfl (Or.inl rfl) ?_
                  show xw _ _ 24 [some (.inl a3), some (.inl a4)] [.inl (0 : Int32)] S _
                  refine xw.bt (cd := .eq) (x := (0 : Int32)) (y := (0 : Int32)) 31 27 (st' := []) rfl (y_ceq _ _) (by decide) ?_
                  refine xw.s (pc' := 32) (st' := [.inl (0 : Int32)]) rfl ?_
                  refine xw.retz (nx := 33) rfl (Or.inl rfl) ?_
                  show xw _ _ 32 [some (.inr (some (0, 0))), some (.inl a1), some (.inl a2), some (.inl a3), some (.inl a4), some (.inl a5), some (.inl a6), some (.inl a7), some (.inr (some (10, k14))), some (.inr (some (9, k19))), none] [.inl (0 : Int32)] S _
                  refine xw.bt (cd := .eq) (x := (0 : Int32)) (y := (0 : Int32)) 59 35 (st' := []) rfl (y_ceq _ _) (by decide) ?_
                  refine xw.s (pc' := 61) (st' := [.inl (-2 : Int32)]) rfl ?_
                  exact xw.ret (r := (some (.inl (-2 : Int32)))) rfl h
                · skip
                  refine xw.s (pc' := 6) (st' := [.inl a4]) rfl ?_
                  refine xw.s (pc' := 7) (st' := [.inl (1000000 : Int32), .inl a4]) rfl ?_
                  refine xw.b (c := (1000000 : Int32) < a4) (cd := .gt) (x := a4) (y := (1000000 : Int32)) 14 10 (st' := []) rfl (y_cgt _ _) h (fun c44 h => ?_) (fun c44 h => ?_)
                  · skip
                    refine xw.s (pc' := 15) (st' := [.inl (0 : Int32)]) rfl ?_
                    refine xw.retz (nx := 16) rfl (Or.inl rfl) ?_
                    show xw _ _ 24 [some (.inl a3), some (.inl a4)] [.inl (0 : Int32)] S _
                    refine xw.bt (cd := .eq) (x := (0 : Int32)) (y := (0 : Int32)) 31 27 (st' := []) rfl (y_ceq _ _) (by decide) ?_
                    refine xw.s (pc' := 32) (st' := [.inl (0 : Int32)]) rfl ?_
                    refine xw.retz (nx := 33) rfl (Or.inl rfl) ?_
                    show xw _ _ 32 [some (.inr (some (0, 0))), some (.inl a1), some (.inl a2), some (.inl a3), some (.inl a4), some (.inl a5), some (.inl a6), some (.inl a7), some (.inr (some (10, k14))), some (.inr (some (9, k19))), none] [.inl (0 : Int32)] S _
                    refine xw.bt (cd := .eq) (x := (0 : Int32)) (y := (0 : Int32)) 59 35 (st' := []) rfl (y_ceq _ _) (by decide) ?_
                    refine xw.s (pc' := 61) (st' := [.inl (-2 : Int32)]) rfl ?_
                    exact xw.ret (r := (some (.inl (-2 : Int32)))) rfl h
                  · skip
                    refine xw.s (pc' := 11) (st' := [.inl (1 : Int32)]) rfl ?_
                    refine xw.s (pc' := 15) (st' := [.inl (1 : Int32)]) rfl ?_
                    refine xw.retz (nx := 16) rfl (Or.inr rfl) ?_
                    show xw _ _ 24 [some (.inl a3), some (.inl a4)] [.inl (1 : Int32)] S _
                    refine xw.bf (cd := .eq) (x := (1 : Int32)) (y := (0 : Int32)) 31 27 (st' := []) rfl (y_ceq _ _) (by decide) ?_
                    refine xw.s (pc' := 28) (st' := [.inl (1 : Int32)]) rfl ?_
                    refine xw.s (pc' := 32) (st' := [.inl (1 : Int32)]) rfl ?_
                    refine xw.retz (nx := 33) rfl (Or.inr rfl) ?_
                    show xw _ _ 32 [some (.inr (some (0, 0))), some (.inl a1), some (.inl a2), some (.inl a3), some (.inl a4), some (.inl a5), some (.inl a6), some (.inl a7), some (.inr (some (10, k14))), some (.inr (some (9, k19))), none] [.inl (1 : Int32)] S _
                    refine xw.bf (cd := .eq) (x := (1 : Int32)) (y := (0 : Int32)) 59 35 (st' := []) rfl (y_ceq _ _) (by decide) ?_
                    refine xw.s (pc' := 37) (st' := [.inl a5]) rfl ?_
                    refine xw.s (pc' := 38) (st' := [.inl (1 : Int32), .inl a5]) rfl ?_
                    refine xw.s (pc' := 41) (st' := [.inl (1000 : Int32), .inl (1 : Int32), .inl a5]) rfl ?_
                    refine xw.call (m := 2) (as := [.inl a5, .inl (1 : Int32), .inl (1000 : Int32)]) (nx := 44) (L' := [some (.inr (some (0, 0))), some (.inl a1), some (.inl a2), some (.inl a3), some (.inl a4), some (.inl a5), some (.inl a6), some (.inl a7), some (.inr (some (10, k14))), some (.inr (some (9, k19))), none]) (st' := []) rfl ?_
                    show xw _ _ _ [some (.inl a5), some (.inl (1 : Int32)), some (.inl (1000 : Int32))] [] _ _
                    refine xw.s (pc' := 1) (st' := [.inl a5]) rfl ?_
                    refine xw.s (pc' := 2) (st' := [.inl (1 : Int32), .inl a5]) rfl ?_
                    refine xw.b (c := a5 < (1 : Int32)) (cd := .lt) (x := a5) (y := (1 : Int32)) 14 5 (st' := []) rfl (y_clt _ _) h (fun c45 h => ?_) (fun c45 h => ?_)
                    · skip
                      refine xw.s (pc' := 15) (st' := [.inl (0 : Int32)]) rfl ?_
                      refine xw.retz (nx := 16) rfl (Or.inl rfl) ?_
                      show xw _ _ 44 [some (.inr (some (0, 0))), some (.inl a1), some (.inl a2), some (.inl a3), some (.inl a4), some (.inl a5), some (.inl a6), some (.inl a7), some (.inr (some (10, k14))), some (.inr (some (9, k19))), none] [.inl (0 : Int32)] S _
                      refine xw.bt (cd := .eq) (x := (0 : Int32)) (y := (0 : Int32)) 59 47 (st' := []) rfl (y_ceq _ _) (by decide) ?_
                      refine xw.s (pc' := 61) (st' := [.inl (-2 : Int32)]) rfl ?_
                      exact xw.ret (r := (some (.inl (-2 : Int32)))) rfl h
                    · skip
                      refine xw.s (pc' := 6) (st' := [.inl a5]) rfl ?_
                      refine xw.s (pc' := 7) (st' := [.inl (1000 : Int32), .inl a5]) rfl ?_
                      refine xw.b (c := (1000 : Int32) < a5) (cd := .gt) (x := a5) (y := (1000 : Int32)) 14 10 (st' := []) rfl (y_cgt _ _) h (fun c46 h => ?_) (fun c46 h => ?_)
                      · skip
                        refine xw.s (pc' := 15) (st' := [.inl (0 : Int32)]) rfl ?_
                        refine xw.retz (nx := 16) rfl (Or.inl rfl) ?_
                        show xw _ _ 44 [some (.inr (some (0, 0))), some (.inl a1), some (.inl a2), some (.inl a3), some (.inl a4), some (.inl a5), some (.inl a6), some (.inl a7), some (.inr (some (10, k14))), some (.inr (some (9, k19))), none] [.inl (0 : Int32)] S _
                        refine xw.bt (cd := .eq) (x := (0 : Int32)) (y := (0 : Int32)) 59 47 (st' := []) rfl (y_ceq _ _) (by decide) ?_
                        refine xw.s (pc' := 61) (st' := [.inl (-2 : Int32)]) rfl ?_
                        exact xw.ret (r := (some (.inl (-2 : Int32)))) rfl h
                      · skip
                        refine xw.s (pc' := 11) (st' := [.inl (1 : Int32)]) rfl ?_
                        refine xw.s (pc' := 15) (st' := [.inl (1 : Int32)]) rfl ?_
                        refine xw.retz (nx := 16) rfl (Or.inr rfl) ?_
                        show xw _ _ 44 [some (.inr (some (0, 0))), some (.inl a1), some (.inl a2), some (.inl a3), some (.inl a4), some (.inl a5), some (.inl a6), some (.inl a7), some (.inr (some (10, k14))), some (.inr (some (9, k19))), none] [.inl (1 : Int32)] S _
                        refine xw.bf (cd := .eq) (x := (1 : Int32)) (y := (0 : Int32)) 59 47 (st' := []) rfl (y_ceq _ _) (by decide) ?_
                        refine xw.s (pc' := 49) (st' := [.inl a6]) rfl ?_
                        refine xw.b (c := a6 < (0 : Int32)) (cd := .lt) (x := a6) (y := (0 : Int32)) 59 52 (st' := []) rfl (y_clt _ _) h (fun c47 h => ?_) (fun c47 h => ?_)
                        · skip
                          refine xw.s (pc' := 61) (st' := [.inl (-2 : Int32)]) rfl ?_
                          exact xw.ret (r := (some (.inl (-2 : Int32)))) rfl h
                        · skip
                          refine xw.s (pc' := 54) (st' := [.inl a7]) rfl ?_
                          refine xw.s (pc' := 56) (st' := [.inl a6, .inl a7]) rfl ?_
                          refine xw.b (c := a6 ≤ a7) (cd := .ge) (x := a7) (y := a6) 62 59 (st' := []) rfl (y_cge _ _) h (fun c48 h => ?_) (fun c48 h => ?_)
                          · skip
                            refine xw.s (pc' := 63) (st' := [.inr (some (0, 0))]) rfl ?_
                            refine xw.fr (c := 0) (j := 10) (e := 12) (nx := 66) (t := (some 10)) rfl rfl (hC 10 (by decide)) ?_
                            show xw _ _ _ [some (.inr (some (0, 0))), some (.inl a1), some (.inl a2), some (.inl a3), some (.inl a4), some (.inl a5), some (.inl a6), some (.inl a7), some (.inr (some (10, k14))), some (.inr (some (9, k19))), none] [.inr (some (12, 10))] _ _
                            refine xw.lsz (nx := 69) (n := (xm_n S 1 10)) rfl (Nat.le_of_ble_eq_true rfl) rfl ?_
                            refine xw.s (pc' := 71) (st' := [.inl (12 : Int32), .inl (nI (xm_n S 1 10))]) rfl ?_
                            refine xw.b (c := (nI (xm_n S 1 10)) < (12 : Int32)) (cd := .lt) (x := (nI (xm_n S 1 10))) (y := (12 : Int32)) 77 74 (st' := []) rfl (y_clt _ _) h (fun c49 h => ?_) (fun c49 h => ?_)
                            · skip
                              refine xw.s (pc' := 80) (st' := [.inr (some (7, (xm_n S 0 7)))]) (S1 := xm_mk 7 13 S) rfl ?_
                              obtain ⟨k50, q51⟩ : ∃ k, k = xm_n S 0 7 := ⟨_, rfl⟩
                              rw [← q51]
                              replace h := h k50 q51
                              obtain ⟨S52, e53⟩ : ∃ s, s = xm_mk 7 13 S := ⟨_, rfl⟩
                              rw [← e53]
                              replace h := h S52 e53
                              refine xw.s (pc' := 81) (st' := [.inr (some (7, k50)), .inr (some (7, k50))]) rfl ?_
                              refine xw.s (pc' := 83) (st' := [.inr (some (10, k14)), .inr (some (7, k50)), .inr (some (7, k50))]) rfl ?_
                              refine xw.s (pc' := 85) (st' := [.inr (some (9, k19)), .inr (some (10, k14)), .inr (some (7, k50)), .inr (some (7, k50))]) rfl ?_
                              refine xw.s (pc' := 86) (st' := [.inl a3, .inr (some (9, k19)), .inr (some (10, k14)), .inr (some (7, k50)), .inr (some (7, k50))]) rfl ?_
                              refine xw.s (pc' := 88) (st' := [.inl a4, .inl a3, .inr (some (9, k19)), .inr (some (10, k14)), .inr (some (7, k50)), .inr (some (7, k50))]) rfl ?_
                              refine xw.s (pc' := 90) (st' := [.inl a5, .inl a4, .inl a3, .inr (some (9, k19)), .inr (some (10, k14)), .inr (some (7, k50)), .inr (some (7, k50))]) rfl ?_
                              refine xw.s (pc' := 92) (st' := [.inl a6, .inl a5, .inl a4, .inl a3, .inr (some (9, k19)), .inr (some (10, k14)), .inr (some (7, k50)), .inr (some (7, k50))]) rfl ?_
                              refine xw.s (pc' := 94) (st' := [.inl a7, .inl a6, .inl a5, .inl a4, .inl a3, .inr (some (9, k19)), .inr (some (10, k14)), .inr (some (7, k50)), .inr (some (7, k50))]) rfl ?_
                              refine xw.call (m := 105) (as := [.inr (some (7, k50)), .inr (some (10, k14)), .inr (some (9, k19)), .inl a3, .inl a4, .inl a5, .inl a6, .inl a7]) (nx := 97) (L' := [some (.inr (some (0, 0))), some (.inl a1), some (.inl a2), some (.inl a3), some (.inl a4), some (.inl a5), some (.inl a6), some (.inl a7), some (.inr (some (10, k14))), some (.inr (some (9, k19))), none]) (st' := [.inr (some (7, k50))]) rfl (xc.mono h ?_)
                              rintro r S54 ⟨rfl, hC55, h⟩
                              show xw _ _ 97 [some (.inr (some (0, 0))), some (.inl a1), some (.inl a2), some (.inl a3), some (.inl a4), some (.inl a5), some (.inl a6), some (.inl a7), some (.inr (some (10, k14))), some (.inr (some (9, k19))), none] [.inr (some (7, k50))] _ _
                              refine xw.s (pc' := 99) (st' := []) (L' := [some (.inr (some (0, 0))), some (.inl a1), some (.inl a2), some (.inl a3), some (.inl a4), some (.inl a5), some (.inl a6), some (.inl a7), some (.inr (some (10, k14))), some (.inr (some (9, k19))), some (.inr (some (7, k50)))]) rfl ?_
                              refine xw.s (pc' := 101) (st' := [.inr (some (7, k50))]) rfl ?_
                              refine xw.s (pc' := 102) (st' := [.inr (some (0, 0)), .inr (some (7, k50))]) rfl ?_
                              refine xw.fi (c := 0) (j := 13) (ty := 0) (nx := 105) (v := (xm_i S54 0 0 13)) rfl rfl rfl ?_
                              refine xw.s (pc' := 107) (st' := [.inl a5, .inl (xm_i S54 0 0 13), .inr (some (7, k50))]) rfl ?_
                              refine xw.s (pc' := 108) (st' := [.inl ((xm_i S54 0 0 13) + a5), .inr (some (7, k50))]) rfl ?_
                              refine xw.fp (c := 7) (j := 7) (ty := 0) (nx := 111) rfl rfl (Or.inl rfl) ?_
                              obtain ⟨S56, e57⟩ : ∃ s, s = xm_si S54 7 k50 7 ((xm_i S54 0 0 13) + a5) := ⟨_, rfl⟩
                              rw [← e57]
                              replace h := h S56 e57
                              refine xw.s (pc' := 112) (st' := [.inr (some (0, 0))]) rfl ?_
                              refine xw.fr (c := 0) (j := 10) (e := 12) (nx := 115) (t := (some 10)) rfl rfl ((congrArg (fun s => xm_r s 0 0 10) e57).trans (hC55 10 (by decide))) ?_
                              show xw _ _ _ [some (.inr (some (0, 0))), some (.inl a1), some (.inl a2), some (.inl a3), some (.inl a4), some (.inl a5), some (.inl a6), some (.inl a7), some (.inr (some (10, k14))), some (.inr (some (9, k19))), some (.inr (some (7, k50)))] [.inr (some (12, 10))] _ _
                              refine xw.s (pc' := 117) (st' := [.inr (some (7, k50)), .inr (some (12, 10))]) rfl ?_
                              obtain ⟨z58, z59, h⟩ := h
                              refine xw.ladd (nx := 120) rfl (Nat.le_of_ble_eq_true rfl) (by decide) z58 z59 ?_
                              obtain ⟨S60, e61⟩ : ∃ s, s = xm_push 10 (7, k50) S56 := ⟨_, rfl⟩
                              rw [← e61]
                              replace h := h S60 e61
                              refine xw.s (pc' := 121) (st' := []) rfl ?_
                              refine xw.s (pc' := 122) (st' := [.inr (some (0, 0))]) rfl ?_
                              refine xw.fr (c := 0) (j := 10) (e := 12) (nx := 125) (t := (some 10)) rfl rfl ((congrArg (fun s => xm_r s 0 0 10) e61).trans (xr_push.trans ((congrArg (fun s => xm_r s 0 0 10) e57).trans (hC55 10 (by decide))))) ?_
                              show xw _ _ _ [some (.inr (some (0, 0))), some (.inl a1), some (.inl a2), some (.inl a3), some (.inl a4), some (.inl a5), some (.inl a6), some (.inl a7), some (.inr (some (10, k14))), some (.inr (some (9, k19))), some (.inr (some (7, k50)))] [.inr (some (12, 10))] _ _
                              refine xw.lsz (nx := 128) (n := (xm_n S60 1 10)) rfl (Nat.le_of_ble_eq_true rfl) rfl ?_
                              refine xw.s (pc' := 129) (st' := [.inl (1 : Int32), .inl (nI (xm_n S60 1 10))]) rfl ?_
                              refine xw.s (pc' := 130) (st' := [.inl ((nI (xm_n S60 1 10)) - (1 : Int32))]) rfl ?_
                              exact xw.ret (r := (some (.inl ((nI (xm_n S60 1 10)) - (1 : Int32))))) rfl h
                            · skip
                              refine xw.s (pc' := 76) (st' := [.inl (-3 : Int32)]) rfl ?_
                              exact xw.ret (r := (some (.inl (-3 : Int32)))) rfl h
                          · skip
                            refine xw.s (pc' := 61) (st' := [.inl (-2 : Int32)]) rfl ?_
                            exact xw.ret (r := (some (.inl (-2 : Int32)))) rfl h
/-- stop -/
theorem cw_stop {d : Nat} {a1 : Int32} {S : xm_S} {Q : Option xm_V → xm_S → Prop} (hC : xk_C S) (h : (a1 < (0 : Int32) → Q (some (.inl (-1 : Int32))) S) ∧ (¬ a1 < (0 : Int32) → ((nI (xm_n S 1 10)) ≤ a1 → Q (some (.inl (-1 : Int32))) S) ∧ (¬ (nI (xm_n S 1 10)) ≤ a1 → y_in a1 (xm_n S 1 10) ∧ (∃ k4, (xm_l S 10 (y_ix a1)) = (7, k4) ∧ (((xm_i S 7 k4 12) = (0 : Int32) → Q (some (.inl (-4 : Int32))) S) ∧ (¬ (xm_i S 7 k4 12) = (0 : Int32) → ∀ S7, S7 = xm_si S 7 k4 12 (0 : Int32) → (Q (some (.inl (xm_i S 7 k4 8))) S7))))))) : xc (d + 1) 64 [.inr (some (0, 0)), .inl a1] S Q := by
  show xw _ _ _ [some (.inr (some (0, 0))), some (.inl a1), none] _ _ _
  refine xw.s (pc' := 1) (st' := [.inr (some (0, 0))]) rfl ?_
  refine xw.s (pc' := 2) (st' := [.inl a1, .inr (some (0, 0))]) rfl ?_
  refine xw.call (m := 65) (as := [.inr (some (0, 0)), .inl a1]) (nx := 5) (L' := [some (.inr (some (0, 0))), some (.inl a1), none]) (st' := []) rfl ?_
  show xw _ _ _ [some (.inr (some (0, 0))), some (.inl a1)] [] _ _
  refine xw.s (pc' := 1) (st' := [.inl a1]) rfl ?_
  refine xw.b (c := a1 < (0 : Int32)) (cd := .lt) (x := a1) (y := (0 : Int32)) 29 4 (st' := []) rfl (y_clt _ _) h (fun c1 h => ?_) (fun c1 h => ?_)
  · skip
    refine xw.s (pc' := 30) (st' := [.inr none]) rfl ?_
    refine xw.ret (r := some (.inr none)) rfl ?_
    show xw _ _ 5 [some (.inr (some (0, 0))), some (.inl a1), none] [.inr none] S _
    refine xw.s (pc' := 6) (st' := []) (L' := [some (.inr (some (0, 0))), some (.inl a1), some (.inr none)]) rfl ?_
    refine xw.s (pc' := 7) (st' := [.inr none]) rfl ?_
    refine xw.s (pc' := 10) (st' := []) rfl ?_
    refine xw.s (pc' := 11) (st' := [.inl (-1 : Int32)]) rfl ?_
    exact xw.ret (r := (some (.inl (-1 : Int32)))) rfl h
  · skip
    refine xw.s (pc' := 5) (st' := [.inl a1]) rfl ?_
    refine xw.s (pc' := 6) (st' := [.inr (some (0, 0)), .inl a1]) rfl ?_
    refine xw.fr (c := 0) (j := 10) (e := 12) (nx := 9) (t := (some 10)) rfl rfl (hC 10 (by decide)) ?_
    show xw _ _ _ [some (.inr (some (0, 0))), some (.inl a1)] [.inr (some (12, 10)), .inl a1] _ _
    refine xw.lsz (nx := 12) (n := (xm_n S 1 10)) rfl (Nat.le_of_ble_eq_true rfl) rfl ?_
    refine xw.b (c := (nI (xm_n S 1 10)) ≤ a1) (cd := .ge) (x := a1) (y := (nI (xm_n S 1 10))) 29 15 (st' := []) rfl (y_cge _ _) h (fun c2 h => ?_) (fun c2 h => ?_)
    · skip
      refine xw.s (pc' := 30) (st' := [.inr none]) rfl ?_
      refine xw.ret (r := some (.inr none)) rfl ?_
      show xw _ _ 5 [some (.inr (some (0, 0))), some (.inl a1), none] [.inr none] S _
      refine xw.s (pc' := 6) (st' := []) (L' := [some (.inr (some (0, 0))), some (.inl a1), some (.inr none)]) rfl ?_
      refine xw.s (pc' := 7) (st' := [.inr none]) rfl ?_
      refine xw.s (pc' := 10) (st' := []) rfl ?_
      refine xw.s (pc' := 11) (st' := [.inl (-1 : Int32)]) rfl ?_
      exact xw.ret (r := (some (.inl (-1 : Int32)))) rfl h
    · skip
      refine xw.s (pc' := 16) (st' := [.inr (some (0, 0))]) rfl ?_
      refine xw.fr (c := 0) (j := 10) (e := 12) (nx := 19) (t := (some 10)) rfl rfl (hC 10 (by decide)) ?_
      show xw _ _ _ [some (.inr (some (0, 0))), some (.inl a1)] [.inr (some (12, 10))] _ _
      refine xw.s (pc' := 20) (st' := [.inl a1, .inr (some (12, 10))]) rfl ?_
      obtain ⟨z3, h⟩ := h
      obtain ⟨k4, q5, h⟩ := h
      refine xw.get (nx := 23) (p := (7, k4)) rfl (Nat.le_of_ble_eq_true rfl) z3 q5 ?_
      refine xw.s (pc' := 26) (st' := [.inr (some (7, k4))]) rfl ?_
      refine xw.s (pc' := 30) (st' := [.inr (some (7, k4))]) rfl ?_
      refine xw.ret (r := some (.inr (some (7, k4)))) rfl ?_
      show xw _ _ 5 [some (.inr (some (0, 0))), some (.inl a1), none] [.inr (some (7, k4))] S _
      refine xw.s (pc' := 6) (st' := []) (L' := [some (.inr (some (0, 0))), some (.inl a1), some (.inr (some (7, k4)))]) rfl ?_
      refine xw.s (pc' := 7) (st' := [.inr (some (7, k4))]) rfl ?_
      refine xw.s (pc' := 12) (st' := []) rfl ?_
      refine xw.s (pc' := 13) (st' := [.inr (some (7, k4))]) rfl ?_
      refine xw.fi (c := 7) (j := 12) (ty := 1) (nx := 16) (v := (xm_i S 7 k4 12)) rfl rfl rfl ?_
      refine xw.bn (c := (xm_i S 7 k4 12) = (0 : Int32)) (cd := .ne) (x := (xm_i S 7 k4 12)) (y := (0 : Int32)) 22 19 (st' := []) rfl (y_cne _ _) h (fun c6 h => ?_) (fun c6 h => ?_)
      · skip
        refine xw.s (pc' := 21) (st' := [.inl (-4 : Int32)]) rfl ?_
        exact xw.ret (r := (some (.inl (-4 : Int32)))) rfl h
      · skip
        refine xw.s (pc' := 23) (st' := [.inr (some (7, k4))]) rfl ?_
        refine xw.s (pc' := 24) (st' := [.inl (0 : Int32), .inr (some (7, k4))]) rfl ?_
        refine xw.fp (c := 7) (j := 12) (ty := 1) (nx := 27) rfl rfl (Or.inr ⟨rfl, Or.inl rfl⟩) ?_
        obtain ⟨S7, e8⟩ : ∃ s, s = xm_si S 7 k4 12 (0 : Int32) := ⟨_, rfl⟩
        rw [← e8]
        replace h := h S7 e8
        refine xw.s (pc' := 28) (st' := [.inr (some (7, k4))]) rfl ?_
        refine xw.fi (c := 7) (j := 8) (ty := 0) (nx := 31) (v := (xm_i S 7 k4 8)) rfl rfl ((congrArg (fun s => xm_i s 7 k4 8) e8).trans (xi_si (by decide))) ?_
        exact xw.ret (r := (some (.inl (xm_i S 7 k4 8)))) rfl h
/-- planned -/
theorem cw_planned {d : Nat} {a1 : Int32} {a2 : Int32} {S : xm_S} {Q : Option xm_V → xm_S → Prop} (hC : xk_C S) (h : (a1 < (0 : Int32) → Q (some (.inl (-1 : Int32))) S) ∧ (¬ a1 < (0 : Int32) → ((nI (xm_n S 1 10)) ≤ a1 → Q (some (.inl (-1 : Int32))) S) ∧ (¬ (nI (xm_n S 1 10)) ≤ a1 → y_in a1 (xm_n S 1 10) ∧ (∃ k4, (xm_l S 10 (y_ix a1)) = (7, k4) ∧ ((a2 = (0 : Int32) → Q (some (.inl (xm_i S 7 k4 8))) S) ∧ (¬ a2 = (0 : Int32) → (a2 = (1 : Int32) → Q (some (.inl (xm_i S 7 k4 9))) S) ∧ (¬ a2 = (1 : Int32) → (a2 = (2 : Int32) → Q (some (.inl (xm_i S 7 k4 10))) S) ∧ (¬ a2 = (2 : Int32) → (a2 = (3 : Int32) → Q (some (.inl (xm_i S 7 k4 11))) S) ∧ (¬ a2 = (3 : Int32) → (a2 = (4 : Int32) → ((xm_i S 7 k4 12) = (0 : Int32) → Q (some (.inl (0 : Int32))) S) ∧ (¬ (xm_i S 7 k4 12) = (0 : Int32) → Q (some (.inl (1 : Int32))) S)) ∧ (¬ a2 = (4 : Int32) → Q (some (.inl (-1 : Int32))) S)))))))))) : xc (d + 1) 66 [.inr (some (0, 0)), .inl a1, .inl a2] S Q := by
  show xw _ _ _ [some (.inr (some (0, 0))), some (.inl a1), some (.inl a2), none] _ _ _
  refine xw.s (pc' := 1) (st' := [.inr (some (0, 0))]) rfl ?_
  refine xw.s (pc' := 2) (st' := [.inl a1, .inr (some (0, 0))]) rfl ?_
  refine xw.call (m := 65) (as := [.inr (some (0, 0)), .inl a1]) (nx := 5) (L' := [some (.inr (some (0, 0))), some (.inl a1), some (.inl a2), none]) (st' := []) rfl ?_
  show xw _ _ _ [some (.inr (some (0, 0))), some (.inl a1)] [] _ _
  refine xw.s (pc' := 1) (st' := [.inl a1]) rfl ?_
  refine xw.b (c := a1 < (0 : Int32)) (cd := .lt) (x := a1) (y := (0 : Int32)) 29 4 (st' := []) rfl (y_clt _ _) h (fun c1 h => ?_) (fun c1 h => ?_)
  · skip
    refine xw.s (pc' := 30) (st' := [.inr none]) rfl ?_
    refine xw.ret (r := some (.inr none)) rfl ?_
    show xw _ _ 5 [some (.inr (some (0, 0))), some (.inl a1), some (.inl a2), none] [.inr none] S _
    refine xw.s (pc' := 6) (st' := []) (L' := [some (.inr (some (0, 0))), some (.inl a1), some (.inl a2), some (.inr none)]) rfl ?_
    refine xw.s (pc' := 7) (st' := [.inr none]) rfl ?_
    refine xw.s (pc' := 10) (st' := []) rfl ?_
    refine xw.s (pc' := 11) (st' := [.inl (-1 : Int32)]) rfl ?_
    exact xw.ret (r := (some (.inl (-1 : Int32)))) rfl h
  · skip
    refine xw.s (pc' := 5) (st' := [.inl a1]) rfl ?_
    refine xw.s (pc' := 6) (st' := [.inr (some (0, 0)), .inl a1]) rfl ?_
    refine xw.fr (c := 0) (j := 10) (e := 12) (nx := 9) (t := (some 10)) rfl rfl (hC 10 (by decide)) ?_
    show xw _ _ _ [some (.inr (some (0, 0))), some (.inl a1)] [.inr (some (12, 10)), .inl a1] _ _
    refine xw.lsz (nx := 12) (n := (xm_n S 1 10)) rfl (Nat.le_of_ble_eq_true rfl) rfl ?_
    refine xw.b (c := (nI (xm_n S 1 10)) ≤ a1) (cd := .ge) (x := a1) (y := (nI (xm_n S 1 10))) 29 15 (st' := []) rfl (y_cge _ _) h (fun c2 h => ?_) (fun c2 h => ?_)
    · skip
      refine xw.s (pc' := 30) (st' := [.inr none]) rfl ?_
      refine xw.ret (r := some (.inr none)) rfl ?_
      show xw _ _ 5 [some (.inr (some (0, 0))), some (.inl a1), some (.inl a2), none] [.inr none] S _
      refine xw.s (pc' := 6) (st' := []) (L' := [some (.inr (some (0, 0))), some (.inl a1), some (.inl a2), some (.inr none)]) rfl ?_
      refine xw.s (pc' := 7) (st' := [.inr none]) rfl ?_
      refine xw.s (pc' := 10) (st' := []) rfl ?_
      refine xw.s (pc' := 11) (st' := [.inl (-1 : Int32)]) rfl ?_
      exact xw.ret (r := (some (.inl (-1 : Int32)))) rfl h
    · skip
      refine xw.s (pc' := 16) (st' := [.inr (some (0, 0))]) rfl ?_
      refine xw.fr (c := 0) (j := 10) (e := 12) (nx := 19) (t := (some 10)) rfl rfl (hC 10 (by decide)) ?_
      show xw _ _ _ [some (.inr (some (0, 0))), some (.inl a1)] [.inr (some (12, 10))] _ _
      refine xw.s (pc' := 20) (st' := [.inl a1, .inr (some (12, 10))]) rfl ?_
      obtain ⟨z3, h⟩ := h
      obtain ⟨k4, q5, h⟩ := h
      refine xw.get (nx := 23) (p := (7, k4)) rfl (Nat.le_of_ble_eq_true rfl) z3 q5 ?_
      refine xw.s (pc' := 26) (st' := [.inr (some (7, k4))]) rfl ?_
      refine xw.s (pc' := 30) (st' := [.inr (some (7, k4))]) rfl ?_
      refine xw.ret (r := some (.inr (some (7, k4)))) rfl ?_
      show xw _ _ 5 [some (.inr (some (0, 0))), some (.inl a1), some (.inl a2), none] [.inr (some (7, k4))] S _
      refine xw.s (pc' := 6) (st' := []) (L' := [some (.inr (some (0, 0))), some (.inl a1), some (.inl a2), some (.inr (some (7, k4)))]) rfl ?_
      refine xw.s (pc' := 7) (st' := [.inr (some (7, k4))]) rfl ?_
      refine xw.s (pc' := 12) (st' := []) rfl ?_
      refine xw.s (pc' := 13) (st' := [.inl a2]) rfl ?_
      refine xw.ts1 rfl rfl ?_
      refine xw.bw (0 : Int32) rfl h (fun c6 h => ?_) (fun c6 h => ?_)
      · skip
        refine xw.s (pc' := 49) (st' := [.inr (some (7, k4))]) rfl ?_
        refine xw.fi (c := 7) (j := 8) (ty := 0) (nx := 52) (v := (xm_i S 7 k4 8)) rfl rfl rfl ?_
        exact xw.ret (r := (some (.inl (xm_i S 7 k4 8)))) rfl h
      · skip
        refine xw.bw (1 : Int32) rfl h (fun c7 h => ?_) (fun c7 h => ?_)
        · skip
          refine xw.s (pc' := 54) (st' := [.inr (some (7, k4))]) rfl ?_
          refine xw.fi (c := 7) (j := 9) (ty := 0) (nx := 57) (v := (xm_i S 7 k4 9)) rfl rfl rfl ?_
          exact xw.ret (r := (some (.inl (xm_i S 7 k4 9)))) rfl h
        · skip
          refine xw.bw (2 : Int32) rfl h (fun c8 h => ?_) (fun c8 h => ?_)
          · skip
            refine xw.s (pc' := 59) (st' := [.inr (some (7, k4))]) rfl ?_
            refine xw.fi (c := 7) (j := 10) (ty := 0) (nx := 62) (v := (xm_i S 7 k4 10)) rfl rfl rfl ?_
            exact xw.ret (r := (some (.inl (xm_i S 7 k4 10)))) rfl h
          · skip
            refine xw.bw (3 : Int32) rfl h (fun c9 h => ?_) (fun c9 h => ?_)
            · skip
              refine xw.s (pc' := 64) (st' := [.inr (some (7, k4))]) rfl ?_
              refine xw.fi (c := 7) (j := 11) (ty := 0) (nx := 67) (v := (xm_i S 7 k4 11)) rfl rfl rfl ?_
              exact xw.ret (r := (some (.inl (xm_i S 7 k4 11)))) rfl h
            · skip
              refine xw.bw (4 : Int32) rfl h (fun c10 h => ?_) (fun c10 h => ?_)
              · skip
                refine xw.s (pc' := 69) (st' := [.inr (some (7, k4))]) rfl ?_
                refine xw.fi (c := 7) (j := 12) (ty := 1) (nx := 72) (v := (xm_i S 7 k4 12)) rfl rfl rfl ?_
                refine xw.b (c := (xm_i S 7 k4 12) = (0 : Int32)) (cd := .eq) (x := (xm_i S 7 k4 12)) (y := (0 : Int32)) 79 75 (st' := []) rfl (y_ceq _ _) h (fun c11 h => ?_) (fun c11 h => ?_)
                · skip
                  refine xw.s (pc' := 80) (st' := [.inl (0 : Int32)]) rfl ?_
                  exact xw.ret (r := (some (.inl (0 : Int32)))) rfl h
                · skip
                  refine xw.s (pc' := 76) (st' := [.inl (1 : Int32)]) rfl ?_
                  refine xw.s (pc' := 80) (st' := [.inl (1 : Int32)]) rfl ?_
                  exact xw.ret (r := (some (.inl (1 : Int32)))) rfl h
              · skip
                refine xw.s (pc' := 82) (st' := [.inl (-1 : Int32)]) rfl ?_
                exact xw.ret (r := (some (.inl (-1 : Int32)))) rfl h
/-- alarm -/
theorem cw_alarm {d : Nat} {a1 : Int32} {a2 : Int32} {a3 : Int32} {S : xm_S} {Q : Option xm_V → xm_S → Prop} (hC : xk_C S) (h : (a1 = (0 : Int32) → (a2 < (0 : Int32) → Q (some (.inl (-1 : Int32))) S) ∧ (¬ a2 < (0 : Int32) → ((nI (xm_n S 1 3)) ≤ a2 → Q (some (.inl (-1 : Int32))) S) ∧ (¬ (nI (xm_n S 1 3)) ≤ a2 → y_in a2 (xm_n S 1 3) ∧ (∃ k5, (xm_l S 3 (y_ix a2)) = (5, k5) ∧ (((xm_i S 5 k5 1) = (0 : Int32) → (a1 = (0 : Int32) → (a3 = (0 : Int32) → ((nI (xm_n S 1 11)) < (10 : Int32) → ∀ k11, k11 = xm_n S 0 1 → (∀ S13, S13 = xm_mk 1 6 S → (xc (d + 2) 92 [.inr (some (1, k11)), .inl a1, .inl a2, .inl a3] S13 (fun r S15 => r = none ∧ xk_C S15 ∧ (xm_n S15 2 11 ≠ 0 ∧ xm_n S15 1 11 < 100000 ∧ (∀ S19, S19 = xm_push 11 (1, k11) S15 → (Q (some (.inl ((nI (xm_n S19 1 11)) - (1 : Int32)))) S19))))))) ∧ (¬ (nI (xm_n S 1 11)) < (10 : Int32) → Q (some (.inl (-3 : Int32))) S)) ∧ (¬ a3 = (0 : Int32) → Q (some (.inl (-2 : Int32))) S)) ∧ (¬ a1 = (0 : Int32) → (a1 = (1 : Int32) → (a3 < (0 : Int32) → Q (some (.inl (-2 : Int32))) S) ∧ (¬ a3 < (0 : Int32) → ((1000000 : Int32) < a3 → Q (some (.inl (-2 : Int32))) S) ∧ (¬ (1000000 : Int32) < a3 → ((nI (xm_n S 1 11)) < (10 : Int32) → ∀ k25, k25 = xm_n S 0 1 → (∀ S27, S27 = xm_mk 1 6 S → (xc (d + 2) 92 [.inr (some (1, k25)), .inl a1, .inl a2, .inl a3] S27 (fun r S29 => r = none ∧ xk_C S29 ∧ (xm_n S29 2 11 ≠ 0 ∧ xm_n S29 1 11 < 100000 ∧ (∀ S33, S33 = xm_push 11 (1, k25) S29 → (Q (some (.inl ((nI (xm_n S33 1 11)) - (1 : Int32)))) S33))))))) ∧ (¬ (nI (xm_n S 1 11)) < (10 : Int32) → Q (some (.inl (-3 : Int32))) S)))) ∧ (¬ a1 = (1 : Int32) → (a1 = (2 : Int32) → (a3 < (1 : Int32) → Q (some (.inl (-2 : Int32))) S) ∧ (¬ a3 < (1 : Int32) → ((10 : Int32) < a3 → Q (some (.inl (-2 : Int32))) S) ∧ (¬ (10 : Int32) < a3 → ((nI (xm_n S 1 11)) < (10 : Int32) → ∀ k39, k39 = xm_n S 0 1 → (∀ S41, S41 = xm_mk 1 6 S → (xc (d + 2) 92 [.inr (some (1, k39)), .inl a1, .inl a2, .inl a3] S41 (fun r S43 => r = none ∧ xk_C S43 ∧ (xm_n S43 2 11 ≠ 0 ∧ xm_n S43 1 11 < 100000 ∧ (∀ S47, S47 = xm_push 11 (1, k39) S43 → (Q (some (.inl ((nI (xm_n S47 1 11)) - (1 : Int32)))) S47))))))) ∧ (¬ (nI (xm_n S 1 11)) < (10 : Int32) → Q (some (.inl (-3 : Int32))) S)))) ∧ (¬ a1 = (2 : Int32) → (a1 = (3 : Int32) → (a2 = (0 : Int32) → (a3 < (0 : Int32) → Q (some (.inl (-2 : Int32))) S) ∧ (¬ a3 < (0 : Int32) → ((1000000 : Int32) < a3 → Q (some (.inl (-2 : Int32))) S) ∧ (¬ (1000000 : Int32) < a3 → ((nI (xm_n S 1 11)) < (10 : Int32) → ∀ k54, k54 = xm_n S 0 1 → (∀ S56, S56 = xm_mk 1 6 S → (xc (d + 2) 92 [.inr (some (1, k54)), .inl a1, .inl a2, .inl a3] S56 (fun r S58 => r = none ∧ xk_C S58 ∧ (xm_n S58 2 11 ≠ 0 ∧ xm_n S58 1 11 < 100000 ∧ (∀ S62, S62 = xm_push 11 (1, k54) S58 → (Q (some (.inl ((nI (xm_n S62 1 11)) - (1 : Int32)))) S62))))))) ∧ (¬ (nI (xm_n S 1 11)) < (10 : Int32) → Q (some (.inl (-3 : Int32))) S)))) ∧ (¬ a2 = (0 : Int32) → Q (some (.inl (-2 : Int32))) S)) ∧ (¬ a1 = (3 : Int32) → Q (some (.inl (-2 : Int32))) S))))) ∧ (¬ (xm_i S 5 k5 1) = (0 : Int32) → Q (some (.inl (-1 : Int32))) S)))))) ∧ (¬ a1 = (0 : Int32) → (a1 = (1 : Int32) → (a2 < (0 : Int32) → Q (some (.inl (-1 : Int32))) S) ∧ (¬ a2 < (0 : Int32) → ((nI (xm_n S 1 0)) ≤ a2 → Q (some (.inl (-1 : Int32))) S) ∧ (¬ (nI (xm_n S 1 0)) ≤ a2 → y_in a2 (xm_n S 1 0) ∧ (∃ k68, (xm_l S 0 (y_ix a2)) = (9, k68) ∧ ((a1 = (0 : Int32) → (a3 = (0 : Int32) → ((nI (xm_n S 1 11)) < (10 : Int32) → ∀ k73, k73 = xm_n S 0 1 → (∀ S75, S75 = xm_mk 1 6 S → (xc (d + 2) 92 [.inr (some (1, k73)), .inl a1, .inl a2, .inl a3] S75 (fun r S77 => r = none ∧ xk_C S77 ∧ (xm_n S77 2 11 ≠ 0 ∧ xm_n S77 1 11 < 100000 ∧ (∀ S81, S81 = xm_push 11 (1, k73) S77 → (Q (some (.inl ((nI (xm_n S81 1 11)) - (1 : Int32)))) S81))))))) ∧ (¬ (nI (xm_n S 1 11)) < (10 : Int32) → Q (some (.inl (-3 : Int32))) S)) ∧ (¬ a3 = (0 : Int32) → Q (some (.inl (-2 : Int32))) S)) ∧ (¬ a1 = (0 : Int32) → (a1 = (1 : Int32) → (a3 < (0 : Int32) → Q (some (.inl (-2 : Int32))) S) ∧ (¬ a3 < (0 : Int32) → ((1000000 : Int32) < a3 → Q (some (.inl (-2 : Int32))) S) ∧ (¬ (1000000 : Int32) < a3 → ((nI (xm_n S 1 11)) < (10 : Int32) → ∀ k87, k87 = xm_n S 0 1 → (∀ S89, S89 = xm_mk 1 6 S → (xc (d + 2) 92 [.inr (some (1, k87)), .inl a1, .inl a2, .inl a3] S89 (fun r S91 => r = none ∧ xk_C S91 ∧ (xm_n S91 2 11 ≠ 0 ∧ xm_n S91 1 11 < 100000 ∧ (∀ S95, S95 = xm_push 11 (1, k87) S91 → (Q (some (.inl ((nI (xm_n S95 1 11)) - (1 : Int32)))) S95))))))) ∧ (¬ (nI (xm_n S 1 11)) < (10 : Int32) → Q (some (.inl (-3 : Int32))) S)))) ∧ (¬ a1 = (1 : Int32) → (a1 = (2 : Int32) → (a3 < (1 : Int32) → Q (some (.inl (-2 : Int32))) S) ∧ (¬ a3 < (1 : Int32) → ((10 : Int32) < a3 → Q (some (.inl (-2 : Int32))) S) ∧ (¬ (10 : Int32) < a3 → ((nI (xm_n S 1 11)) < (10 : Int32) → ∀ k101, k101 = xm_n S 0 1 → (∀ S103, S103 = xm_mk 1 6 S → (xc (d + 2) 92 [.inr (some (1, k101)), .inl a1, .inl a2, .inl a3] S103 (fun r S105 => r = none ∧ xk_C S105 ∧ (xm_n S105 2 11 ≠ 0 ∧ xm_n S105 1 11 < 100000 ∧ (∀ S109, S109 = xm_push 11 (1, k101) S105 → (Q (some (.inl ((nI (xm_n S109 1 11)) - (1 : Int32)))) S109))))))) ∧ (¬ (nI (xm_n S 1 11)) < (10 : Int32) → Q (some (.inl (-3 : Int32))) S)))) ∧ (¬ a1 = (2 : Int32) → (a1 = (3 : Int32) → (a2 = (0 : Int32) → (a3 < (0 : Int32) → Q (some (.inl (-2 : Int32))) S) ∧ (¬ a3 < (0 : Int32) → ((1000000 : Int32) < a3 → Q (some (.inl (-2 : Int32))) S) ∧ (¬ (1000000 : Int32) < a3 → ((nI (xm_n S 1 11)) < (10 : Int32) → ∀ k116, k116 = xm_n S 0 1 → (∀ S118, S118 = xm_mk 1 6 S → (xc (d + 2) 92 [.inr (some (1, k116)), .inl a1, .inl a2, .inl a3] S118 (fun r S120 => r = none ∧ xk_C S120 ∧ (xm_n S120 2 11 ≠ 0 ∧ xm_n S120 1 11 < 100000 ∧ (∀ S124, S124 = xm_push 11 (1, k116) S120 → (Q (some (.inl ((nI (xm_n S124 1 11)) - (1 : Int32)))) S124))))))) ∧ (¬ (nI (xm_n S 1 11)) < (10 : Int32) → Q (some (.inl (-3 : Int32))) S)))) ∧ (¬ a2 = (0 : Int32) → Q (some (.inl (-2 : Int32))) S)) ∧ (¬ a1 = (3 : Int32) → Q (some (.inl (-2 : Int32))) S))))))))) ∧ (¬ a1 = (1 : Int32) → (a1 = (2 : Int32) → (a2 < (0 : Int32) → Q (some (.inl (-1 : Int32))) S) ∧ (¬ a2 < (0 : Int32) → ((nI (xm_n S 1 3)) ≤ a2 → Q (some (.inl (-1 : Int32))) S) ∧ (¬ (nI (xm_n S 1 3)) ≤ a2 → y_in a2 (xm_n S 1 3) ∧ (∃ k130, (xm_l S 3 (y_ix a2)) = (5, k130) ∧ (((xm_i S 5 k130 1) = (1 : Int32) → (a1 = (0 : Int32) → (a3 = (0 : Int32) → ((nI (xm_n S 1 11)) < (10 : Int32) → ∀ k136, k136 = xm_n S 0 1 → (∀ S138, S138 = xm_mk 1 6 S → (xc (d + 2) 92 [.inr (some (1, k136)), .inl a1, .inl a2, .inl a3] S138 (fun r S140 => r = none ∧ xk_C S140 ∧ (xm_n S140 2 11 ≠ 0 ∧ xm_n S140 1 11 < 100000 ∧ (∀ S144, S144 = xm_push 11 (1, k136) S140 → (Q (some (.inl ((nI (xm_n S144 1 11)) - (1 : Int32)))) S144))))))) ∧ (¬ (nI (xm_n S 1 11)) < (10 : Int32) → Q (some (.inl (-3 : Int32))) S)) ∧ (¬ a3 = (0 : Int32) → Q (some (.inl (-2 : Int32))) S)) ∧ (¬ a1 = (0 : Int32) → (a1 = (1 : Int32) → (a3 < (0 : Int32) → Q (some (.inl (-2 : Int32))) S) ∧ (¬ a3 < (0 : Int32) → ((1000000 : Int32) < a3 → Q (some (.inl (-2 : Int32))) S) ∧ (¬ (1000000 : Int32) < a3 → ((nI (xm_n S 1 11)) < (10 : Int32) → ∀ k150, k150 = xm_n S 0 1 → (∀ S152, S152 = xm_mk 1 6 S → (xc (d + 2) 92 [.inr (some (1, k150)), .inl a1, .inl a2, .inl a3] S152 (fun r S154 => r = none ∧ xk_C S154 ∧ (xm_n S154 2 11 ≠ 0 ∧ xm_n S154 1 11 < 100000 ∧ (∀ S158, S158 = xm_push 11 (1, k150) S154 → (Q (some (.inl ((nI (xm_n S158 1 11)) - (1 : Int32)))) S158))))))) ∧ (¬ (nI (xm_n S 1 11)) < (10 : Int32) → Q (some (.inl (-3 : Int32))) S)))) ∧ (¬ a1 = (1 : Int32) → (a1 = (2 : Int32) → (a3 < (1 : Int32) → Q (some (.inl (-2 : Int32))) S) ∧ (¬ a3 < (1 : Int32) → ((10 : Int32) < a3 → Q (some (.inl (-2 : Int32))) S) ∧ (¬ (10 : Int32) < a3 → ((nI (xm_n S 1 11)) < (10 : Int32) → ∀ k164, k164 = xm_n S 0 1 → (∀ S166, S166 = xm_mk 1 6 S → (xc (d + 2) 92 [.inr (some (1, k164)), .inl a1, .inl a2, .inl a3] S166 (fun r S168 => r = none ∧ xk_C S168 ∧ (xm_n S168 2 11 ≠ 0 ∧ xm_n S168 1 11 < 100000 ∧ (∀ S172, S172 = xm_push 11 (1, k164) S168 → (Q (some (.inl ((nI (xm_n S172 1 11)) - (1 : Int32)))) S172))))))) ∧ (¬ (nI (xm_n S 1 11)) < (10 : Int32) → Q (some (.inl (-3 : Int32))) S)))) ∧ (¬ a1 = (2 : Int32) → (a1 = (3 : Int32) → (a2 = (0 : Int32) → (a3 < (0 : Int32) → Q (some (.inl (-2 : Int32))) S) ∧ (¬ a3 < (0 : Int32) → ((1000000 : Int32) < a3 → Q (some (.inl (-2 : Int32))) S) ∧ (¬ (1000000 : Int32) < a3 → ((nI (xm_n S 1 11)) < (10 : Int32) → ∀ k179, k179 = xm_n S 0 1 → (∀ S181, S181 = xm_mk 1 6 S → (xc (d + 2) 92 [.inr (some (1, k179)), .inl a1, .inl a2, .inl a3] S181 (fun r S183 => r = none ∧ xk_C S183 ∧ (xm_n S183 2 11 ≠ 0 ∧ xm_n S183 1 11 < 100000 ∧ (∀ S187, S187 = xm_push 11 (1, k179) S183 → (Q (some (.inl ((nI (xm_n S187 1 11)) - (1 : Int32)))) S187))))))) ∧ (¬ (nI (xm_n S 1 11)) < (10 : Int32) → Q (some (.inl (-3 : Int32))) S)))) ∧ (¬ a2 = (0 : Int32) → Q (some (.inl (-2 : Int32))) S)) ∧ (¬ a1 = (3 : Int32) → Q (some (.inl (-2 : Int32))) S))))) ∧ (¬ (xm_i S 5 k130 1) = (1 : Int32) → Q (some (.inl (-1 : Int32))) S)))))) ∧ (¬ a1 = (2 : Int32) → (a1 = (0 : Int32) → (a3 = (0 : Int32) → ((nI (xm_n S 1 11)) < (10 : Int32) → ∀ k192, k192 = xm_n S 0 1 → (∀ S194, S194 = xm_mk 1 6 S → (xc (d + 2) 92 [.inr (some (1, k192)), .inl a1, .inl a2, .inl a3] S194 (fun r S196 => r = none ∧ xk_C S196 ∧ (xm_n S196 2 11 ≠ 0 ∧ xm_n S196 1 11 < 100000 ∧ (∀ S200, S200 = xm_push 11 (1, k192) S196 → (Q (some (.inl ((nI (xm_n S200 1 11)) - (1 : Int32)))) S200))))))) ∧ (¬ (nI (xm_n S 1 11)) < (10 : Int32) → Q (some (.inl (-3 : Int32))) S)) ∧ (¬ a3 = (0 : Int32) → Q (some (.inl (-2 : Int32))) S)) ∧ (¬ a1 = (0 : Int32) → (a1 = (1 : Int32) → (a3 < (0 : Int32) → Q (some (.inl (-2 : Int32))) S) ∧ (¬ a3 < (0 : Int32) → ((1000000 : Int32) < a3 → Q (some (.inl (-2 : Int32))) S) ∧ (¬ (1000000 : Int32) < a3 → ((nI (xm_n S 1 11)) < (10 : Int32) → ∀ k206, k206 = xm_n S 0 1 → (∀ S208, S208 = xm_mk 1 6 S → (xc (d + 2) 92 [.inr (some (1, k206)), .inl a1, .inl a2, .inl a3] S208 (fun r S210 => r = none ∧ xk_C S210 ∧ (xm_n S210 2 11 ≠ 0 ∧ xm_n S210 1 11 < 100000 ∧ (∀ S214, S214 = xm_push 11 (1, k206) S210 → (Q (some (.inl ((nI (xm_n S214 1 11)) - (1 : Int32)))) S214))))))) ∧ (¬ (nI (xm_n S 1 11)) < (10 : Int32) → Q (some (.inl (-3 : Int32))) S)))) ∧ (¬ a1 = (1 : Int32) → (a1 = (2 : Int32) → (a3 < (1 : Int32) → Q (some (.inl (-2 : Int32))) S) ∧ (¬ a3 < (1 : Int32) → ((10 : Int32) < a3 → Q (some (.inl (-2 : Int32))) S) ∧ (¬ (10 : Int32) < a3 → ((nI (xm_n S 1 11)) < (10 : Int32) → ∀ k220, k220 = xm_n S 0 1 → (∀ S222, S222 = xm_mk 1 6 S → (xc (d + 2) 92 [.inr (some (1, k220)), .inl a1, .inl a2, .inl a3] S222 (fun r S224 => r = none ∧ xk_C S224 ∧ (xm_n S224 2 11 ≠ 0 ∧ xm_n S224 1 11 < 100000 ∧ (∀ S228, S228 = xm_push 11 (1, k220) S224 → (Q (some (.inl ((nI (xm_n S228 1 11)) - (1 : Int32)))) S228))))))) ∧ (¬ (nI (xm_n S 1 11)) < (10 : Int32) → Q (some (.inl (-3 : Int32))) S)))) ∧ (¬ a1 = (2 : Int32) → (a1 = (3 : Int32) → (a2 = (0 : Int32) → (a3 < (0 : Int32) → Q (some (.inl (-2 : Int32))) S) ∧ (¬ a3 < (0 : Int32) → ((1000000 : Int32) < a3 → Q (some (.inl (-2 : Int32))) S) ∧ (¬ (1000000 : Int32) < a3 → ((nI (xm_n S 1 11)) < (10 : Int32) → ∀ k235, k235 = xm_n S 0 1 → (∀ S237, S237 = xm_mk 1 6 S → (xc (d + 2) 92 [.inr (some (1, k235)), .inl a1, .inl a2, .inl a3] S237 (fun r S239 => r = none ∧ xk_C S239 ∧ (xm_n S239 2 11 ≠ 0 ∧ xm_n S239 1 11 < 100000 ∧ (∀ S243, S243 = xm_push 11 (1, k235) S239 → (Q (some (.inl ((nI (xm_n S243 1 11)) - (1 : Int32)))) S243))))))) ∧ (¬ (nI (xm_n S 1 11)) < (10 : Int32) → Q (some (.inl (-3 : Int32))) S)))) ∧ (¬ a2 = (0 : Int32) → Q (some (.inl (-2 : Int32))) S)) ∧ (¬ a1 = (3 : Int32) → Q (some (.inl (-2 : Int32))) S)))))))) : xc (d + 3) 67 [.inr (some (0, 0)), .inl a1, .inl a2, .inl a3] S Q := by
  show xw _ _ _ [some (.inr (some (0, 0))), some (.inl a1), some (.inl a2), some (.inl a3)] _ _ _
  refine xw.s (pc' := 1) (st' := [.inr (some (0, 0))]) rfl ?_
  refine xw.s (pc' := 2) (st' := [.inl a1, .inr (some (0, 0))]) rfl ?_
  refine xw.s (pc' := 3) (st' := [.inl a2, .inl a1, .inr (some (0, 0))]) rfl ?_
  refine xw.call (m := 68) (as := [.inr (some (0, 0)), .inl a1, .inl a2]) (nx := 6) (L' := [some (.inr (some (0, 0))), some (.inl a1), some (.inl a2), some (.inl a3)]) (st' := []) rfl ?_
  show xw _ _ _ [some (.inr (some (0, 0))), some (.inl a1), some (.inl a2)] [] _ _
  refine xw.s (pc' := 1) (st' := [.inl a1]) rfl ?_
  refine xw.ts1 rfl rfl ?_
  refine xw.bw (0 : Int32) rfl h (fun c1 h => ?_) (fun c1 h => ?_)
  · skip
    refine xw.s (pc' := 29) (st' := [.inr (some (0, 0))]) rfl ?_
    refine xw.s (pc' := 30) (st' := [.inl (0 : Int32), .inr (some (0, 0))]) rfl ?_
    refine xw.s (pc' := 31) (st' := [.inl a2, .inl (0 : Int32), .inr (some (0, 0))]) rfl ?_
    refine xw.call (m := 69) (as := [.inr (some (0, 0)), .inl (0 : Int32), .inl a2]) (nx := 34) (L' := [some (.inr (some (0, 0))), some (.inl a1), some (.inl a2)]) (st' := []) rfl ?_
    show xw _ _ _ [some (.inr (some (0, 0))), some (.inl (0 : Int32)), some (.inl a2), none] [] _ _
    refine xw.s (pc' := 1) (st' := [.inr (some (0, 0))]) rfl ?_
    refine xw.s (pc' := 2) (st' := [.inl a2, .inr (some (0, 0))]) rfl ?_
    refine xw.call (m := 10) (as := [.inr (some (0, 0)), .inl a2]) (nx := 5) (L' := [some (.inr (some (0, 0))), some (.inl (0 : Int32)), some (.inl a2), none]) (st' := []) rfl ?_
    show xw _ _ _ [some (.inr (some (0, 0))), some (.inl a2)] [] _ _
    refine xw.s (pc' := 1) (st' := [.inl a2]) rfl ?_
    refine xw.b (c := a2 < (0 : Int32)) (cd := .lt) (x := a2) (y := (0 : Int32)) 29 4 (st' := []) rfl (y_clt _ _) h (fun c2 h => ?_) (fun c2 h => ?_)
    · skip
      refine xw.s (pc' := 30) (st' := [.inr none]) rfl ?_
      refine xw.ret (r := some (.inr none)) rfl ?_
      show xw _ _ 5 [some (.inr (some (0, 0))), some (.inl (0 : Int32)), some (.inl a2), none] [.inr none] S _
      refine xw.s (pc' := 6) (st' := []) (L' := [some (.inr (some (0, 0))), some (.inl (0 : Int32)), some (.inl a2), some (.inr none)]) rfl ?_
      refine xw.s (pc' := 7) (st' := [.inr none]) rfl ?_
      refine xw.s (pc' := 22) (st' := []) rfl ?_
      refine xw.s (pc' := 23) (st' := [.inr none]) rfl ?_
      refine xw.ret (r := some (.inr none)) rfl ?_
      show xw _ _ 34 [some (.inr (some (0, 0))), some (.inl a1), some (.inl a2)] [.inr none] S _
      refine xw.s (pc' := 37) (st' := []) rfl ?_
      refine xw.s (pc' := 38) (st' := [.inl (1 : Int32)]) rfl ?_
      refine xw.s (pc' := 42) (st' := [.inl (1 : Int32)]) rfl ?_
      refine xw.retz (nx := 43) rfl (Or.inr rfl) ?_
      show xw _ _ 6 [some (.inr (some (0, 0))), some (.inl a1), some (.inl a2), some (.inl a3)] [.inl (1 : Int32)] S _
      refine xw.bf (cd := .eq) (x := (1 : Int32)) (y := (0 : Int32)) 11 9 (st' := []) rfl (y_ceq _ _) (by decide) ?_
      refine xw.s (pc' := 10) (st' := [.inl (-1 : Int32)]) rfl ?_
      exact xw.ret (r := (some (.inl (-1 : Int32)))) rfl h
    · skip
      refine xw.s (pc' := 5) (st' := [.inl a2]) rfl ?_
      refine xw.s (pc' := 6) (st' := [.inr (some (0, 0)), .inl a2]) rfl ?_
      refine xw.fr (c := 0) (j := 3) (e := 12) (nx := 9) (t := (some 3)) rfl rfl (hC 3 (by decide)) ?_
      show xw _ _ _ [some (.inr (some (0, 0))), some (.inl a2)] [.inr (some (12, 3)), .inl a2] _ _
      refine xw.lsz (nx := 12) (n := (xm_n S 1 3)) rfl (Nat.le_of_ble_eq_true rfl) rfl ?_
      refine xw.b (c := (nI (xm_n S 1 3)) ≤ a2) (cd := .ge) (x := a2) (y := (nI (xm_n S 1 3))) 29 15 (st' := []) rfl (y_cge _ _) h (fun c3 h => ?_) (fun c3 h => ?_)
      · skip
        refine xw.s (pc' := 30) (st' := [.inr none]) rfl ?_
        refine xw.ret (r := some (.inr none)) rfl ?_
        show xw _ _ 5 [some (.inr (some (0, 0))), some (.inl (0 : Int32)), some (.inl a2), none] [.inr none] S _
        refine xw.s (pc' := 6) (st' := []) (L' := [some (.inr (some (0, 0))), some (.inl (0 : Int32)), some (.inl a2), some (.inr none)]) rfl ?_
        refine xw.s (pc' := 7) (st' := [.inr none]) rfl ?_
        refine xw.s (pc' := 22) (st' := []) rfl ?_
        refine xw.s (pc' := 23) (st' := [.inr none]) rfl ?_
        refine xw.ret (r := some (.inr none)) rfl ?_
        show xw _ _ 34 [some (.inr (some (0, 0))), some (.inl a1), some (.inl a2)] [.inr none] S _
        refine xw.s (pc' := 37) (st' := []) rfl ?_
        refine xw.s (pc' := 38) (st' := [.inl (1 : Int32)]) rfl ?_
        refine xw.s (pc' := 42) (st' := [.inl (1 : Int32)]) rfl ?_
        refine xw.retz (nx := 43) rfl (Or.inr rfl) ?_
        show xw _ _ 6 [some (.inr (some (0, 0))), some (.inl a1), some (.inl a2), some (.inl a3)] [.inl (1 : Int32)] S _
        refine xw.bf (cd := .eq) (x := (1 : Int32)) (y := (0 : Int32)) 11 9 (st' := []) rfl (y_ceq _ _) (by decide) ?_
        refine xw.s (pc' := 10) (st' := [.inl (-1 : Int32)]) rfl ?_
        exact xw.ret (r := (some (.inl (-1 : Int32)))) rfl h
      · skip
        refine xw.s (pc' := 16) (st' := [.inr (some (0, 0))]) rfl ?_
        refine xw.fr (c := 0) (j := 3) (e := 12) (nx := 19) (t := (some 3)) rfl rfl (hC 3 (by decide)) ?_
        show xw _ _ _ [some (.inr (some (0, 0))), some (.inl a2)] [.inr (some (12, 3))] _ _
        refine xw.s (pc' := 20) (st' := [.inl a2, .inr (some (12, 3))]) rfl ?_
        obtain ⟨z4, h⟩ := h
        obtain ⟨k5, q6, h⟩ := h
        refine xw.get (nx := 23) (p := (5, k5)) rfl (Nat.le_of_ble_eq_true rfl) z4 q6 ?_
        refine xw.s (pc' := 26) (st' := [.inr (some (5, k5))]) rfl ?_
        refine xw.s (pc' := 30) (st' := [.inr (some (5, k5))]) rfl ?_
        refine xw.ret (r := some (.inr (some (5, k5)))) rfl ?_
        show xw _ _ 5 [some (.inr (some (0, 0))), some (.inl (0 : Int32)), some (.inl a2), none] [.inr (some (5, k5))] S _
        refine xw.s (pc' := 6) (st' := []) (L' := [some (.inr (some (0, 0))), some (.inl (0 : Int32)), some (.inl a2), some (.inr (some (5, k5)))]) rfl ?_
        refine xw.s (pc' := 7) (st' := [.inr (some (5, k5))]) rfl ?_
        refine xw.s (pc' := 10) (st' := []) rfl ?_
        refine xw.s (pc' := 11) (st' := [.inr (some (5, k5))]) rfl ?_
        refine xw.fi (c := 5) (j := 1) (ty := 0) (nx := 14) (v := (xm_i S 5 k5 1)) rfl rfl rfl ?_
        refine xw.s (pc' := 15) (st' := [.inl (0 : Int32), .inl (xm_i S 5 k5 1)]) rfl ?_
        refine xw.bn (c := (xm_i S 5 k5 1) = (0 : Int32)) (cd := .ne) (x := (xm_i S 5 k5 1)) (y := (0 : Int32)) 22 18 (st' := []) rfl (y_cne _ _) h (fun c7 h => ?_) (fun c7 h => ?_)
        · skip
          refine xw.s (pc' := 19) (st' := [.inr (some (5, k5))]) rfl ?_
          refine xw.s (pc' := 23) (st' := [.inr (some (5, k5))]) rfl ?_
          refine xw.ret (r := some (.inr (some (5, k5)))) rfl ?_
          show xw _ _ 34 [some (.inr (some (0, 0))), some (.inl a1), some (.inl a2)] [.inr (some (5, k5))] S _
          refine xw.s (pc' := 41) (st' := []) rfl ?_
          refine xw.s (pc' := 42) (st' := [.inl (0 : Int32)]) rfl ?_
          refine xw.retz (nx := 43) rfl (Or.inl rfl) ?_
          show xw _ _ 6 [some (.inr (some (0, 0))), some (.inl a1), some (.inl a2), some (.inl a3)] [.inl (0 : Int32)] S _
          refine xw.bt (cd := .eq) (x := (0 : Int32)) (y := (0 : Int32)) 11 9 (st' := []) rfl (y_ceq _ _) (by decide) ?_
          refine xw.s (pc' := 12) (st' := [.inl a1]) rfl ?_
          refine xw.s (pc' := 13) (st' := [.inl a2, .inl a1]) rfl ?_
          refine xw.s (pc' := 14) (st' := [.inl a3, .inl a2, .inl a1]) rfl ?_
          refine xw.call (m := 70) (as := [.inl a1, .inl a2, .inl a3]) (nx := 17) (L' := [some (.inr (some (0, 0))), some (.inl a1), some (.inl a2), some (.inl a3)]) (st' := []) rfl ?_
          show xw _ _ _ [some (.inl a1), some (.inl a2), some (.inl a3)] [] _ _
          refine xw.s (pc' := 1) (st' := [.inl a1]) rfl ?_
          refine xw.ts1 rfl rfl ?_
          refine xw.bw (0 : Int32) rfl h (fun c8 h => ?_) (fun c8 h => ?_)
          · skip
            refine xw.s (pc' := 33) (st' := [.inl a3]) rfl ?_
            refine xw.bn (c := a3 = (0 : Int32)) (cd := .ne) (x := a3) (y := (0 : Int32)) 40 36 (st' := []) rfl (y_cne _ _) h (fun c9 h => ?_) (fun c9 h => ?_)
            · skip
              refine xw.s (pc' := 37) (st' := [.inl (1 : Int32)]) rfl ?_
              refine xw.s (pc' := 41) (st' := [.inl (1 : Int32)]) rfl ?_
              refine xw.retz (nx := 42) rfl (Or.inr rfl) ?_
              show xw _ _ 17 [some (.inr (some (0, 0))), some (.inl a1), some (.inl a2), some (.inl a3)] [.inl (1 : Int32)] S _
              refine xw.bt (cd := .ne) (x := (1 : Int32)) (y := (0 : Int32)) 23 20 (st' := []) rfl (y_cne _ _) (by decide) ?_
              refine xw.s (pc' := 24) (st' := [.inr (some (0, 0))]) rfl ?_
              refine xw.fr (c := 0) (j := 11) (e := 12) (nx := 27) (t := (some 11)) rfl rfl (hC 11 (by decide)) ?_
              show xw _ _ _ [some (.inr (some (0, 0))), some (.inl a1), some (.inl a2), some (.inl a3)] [.inr (some (12, 11))] _ _
              refine xw.lsz (nx := 30) (n := (xm_n S 1 11)) rfl (Nat.le_of_ble_eq_true rfl) rfl ?_
              refine xw.s (pc' := 32) (st' := [.inl (10 : Int32), .inl (nI (xm_n S 1 11))]) rfl ?_
              refine xw.b (c := (nI (xm_n S 1 11)) < (10 : Int32)) (cd := .lt) (x := (nI (xm_n S 1 11))) (y := (10 : Int32)) 38 35 (st' := []) rfl (y_clt _ _) h (fun c10 h => ?_) (fun c10 h => ?_)
              · skip
                refine xw.s (pc' := 39) (st' := [.inr (some (0, 0))]) rfl ?_
                refine xw.fr (c := 0) (j := 11) (e := 12) (nx := 42) (t := (some 11)) rfl rfl (hC 11 (by decide)) ?_
                show xw _ _ _ [some (.inr (some (0, 0))), some (.inl a1), some (.inl a2), some (.inl a3)] [.inr (some (12, 11))] _ _
                refine xw.s (pc' := 45) (st' := [.inr (some (1, (xm_n S 0 1))), .inr (some (12, 11))]) (S1 := xm_mk 1 6 S) rfl ?_
                obtain ⟨k11, q12⟩ : ∃ k, k = xm_n S 0 1 := ⟨_, rfl⟩
                rw [← q12]
                replace h := h k11 q12
                obtain ⟨S13, e14⟩ : ∃ s, s = xm_mk 1 6 S := ⟨_, rfl⟩
                rw [← e14]
                replace h := h S13 e14
                refine xw.s (pc' := 46) (st' := [.inr (some (1, k11)), .inr (some (1, k11)), .inr (some (12, 11))]) rfl ?_
                refine xw.s (pc' := 47) (st' := [.inl a1, .inr (some (1, k11)), .inr (some (1, k11)), .inr (some (12, 11))]) rfl ?_
                refine xw.s (pc' := 48) (st' := [.inl a2, .inl a1, .inr (some (1, k11)), .inr (some (1, k11)), .inr (some (12, 11))]) rfl ?_
                refine xw.s (pc' := 49) (st' := [.inl a3, .inl a2, .inl a1, .inr (some (1, k11)), .inr (some (1, k11)), .inr (some (12, 11))]) rfl ?_
                refine xw.call (m := 92) (as := [.inr (some (1, k11)), .inl a1, .inl a2, .inl a3]) (nx := 52) (L' := [some (.inr (some (0, 0))), some (.inl a1), some (.inl a2), some (.inl a3)]) (st' := [.inr (some (1, k11)), .inr (some (12, 11))]) rfl (xc.mono h ?_)
                rintro r S15 ⟨rfl, hC16, h⟩
                show xw _ _ 52 [some (.inr (some (0, 0))), some (.inl a1), some (.inl a2), some (.inl a3)] [.inr (some (1, k11)), .inr (some (12, 11))] _ _
                obtain ⟨z17, z18, h⟩ := h
                refine xw.ladd (nx := 55) rfl (Nat.le_of_ble_eq_true rfl) (by decide) z17 z18 ?_
                obtain ⟨S19, e20⟩ : ∃ s, s = xm_push 11 (1, k11) S15 := ⟨_, rfl⟩
                rw [← e20]
                replace h := h S19 e20
                refine xw.s (pc' := 56) (st' := []) rfl ?_
                refine xw.s (pc' := 57) (st' := [.inr (some (0, 0))]) rfl ?_
                refine xw.fr (c := 0) (j := 11) (e := 12) (nx := 60) (t := (some 11)) rfl rfl ((congrArg (fun s => xm_r s 0 0 11) e20).trans (xr_push.trans (hC16 11 (by decide)))) ?_
                show xw _ _ _ [some (.inr (some (0, 0))), some (.inl a1), some (.inl a2), some (.inl a3)] [.inr (some (12, 11))] _ _
                refine xw.lsz (nx := 63) (n := (xm_n S19 1 11)) rfl (Nat.le_of_ble_eq_true rfl) rfl ?_
                refine xw.s (pc' := 64) (st' := [.inl (1 : Int32), .inl (nI (xm_n S19 1 11))]) rfl ?_
                refine xw.s (pc' := 65) (st' := [.inl ((nI (xm_n S19 1 11)) - (1 : Int32))]) rfl ?_
                exact xw.ret (r := (some (.inl ((nI (xm_n S19 1 11)) - (1 : Int32))))) rfl h
              · skip
                refine xw.s (pc' := 37) (st' := [.inl (-3 : Int32)]) rfl ?_
                exact xw.ret (r := (some (.inl (-3 : Int32)))) rfl h
            · skip
              refine xw.s (pc' := 41) (st' := [.inl (0 : Int32)]) rfl ?_
              refine xw.retz (nx := 42) rfl (Or.inl rfl) ?_
              show xw _ _ 17 [some (.inr (some (0, 0))), some (.inl a1), some (.inl a2), some (.inl a3)] [.inl (0 : Int32)] S _
              refine xw.bf (cd := .ne) (x := (0 : Int32)) (y := (0 : Int32)) 23 20 (st' := []) rfl (y_cne _ _) (by decide) ?_
              refine xw.s (pc' := 22) (st' := [.inl (-2 : Int32)]) rfl ?_
              exact xw.ret (r := (some (.inl (-2 : Int32)))) rfl h
          · skip
            refine xw.bw (1 : Int32) rfl h (fun c21 h => ?_) (fun c21 h => ?_)
            · skip
              refine xw.s (pc' := 43) (st' := [.inl a3]) rfl ?_
              refine xw.s (pc' := 44) (st' := [.inl (0 : Int32), .inl a3]) rfl ?_
              refine xw.s (pc' := 46) (st' := [.inl (1000000 : Int32), .inl (0 : Int32), .inl a3]) rfl ?_
              refine xw.call (m := 2) (as := [.inl a3, .inl (0 : Int32), .inl (1000000 : Int32)]) (nx := 49) (L' := [some (.inl a1), some (.inl a2), some (.inl a3)]) (st' := []) rfl ?_
              show xw _ _ _ [some (.inl a3), some (.inl (0 : Int32)), some (.inl (1000000 : Int32))] [] _ _
              refine xw.s (pc' := 1) (st' := [.inl a3]) rfl ?_
              refine xw.s (pc' := 2) (st' := [.inl (0 : Int32), .inl a3]) rfl ?_
              refine xw.b (c := a3 < (0 : Int32)) (cd := .lt) (x := a3) (y := (0 : Int32)) 14 5 (st' := []) rfl (y_clt _ _) h (fun c22 h => ?_) (fun c22 h => ?_)
              · skip
                refine xw.s (pc' := 15) (st' := [.inl (0 : Int32)]) rfl ?_
                refine xw.retz (nx := 16) rfl (Or.inl rfl) ?_
                show xw _ _ 49 [some (.inl a1), some (.inl a2), some (.inl a3)] [.inl (0 : Int32)] S _
                refine xw.retz (nx := 50) rfl (Or.inl rfl) ?_
                show xw _ _ 17 [some (.inr (some (0, 0))), some (.inl a1), some (.inl a2), some (.inl a3)] [.inl (0 : Int32)] S _
                refine xw.bf (cd := .ne) (x := (0 : Int32)) (y := (0 : Int32)) 23 20 (st' := []) rfl (y_cne _ _) (by decide) ?_
                refine xw.s (pc' := 22) (st' := [.inl (-2 : Int32)]) rfl ?_
                exact xw.ret (r := (some (.inl (-2 : Int32)))) rfl h
              · skip
                refine xw.s (pc' := 6) (st' := [.inl a3]) rfl ?_
                refine xw.s (pc' := 7) (st' := [.inl (1000000 : Int32), .inl a3]) rfl ?_
                refine xw.b (c := (1000000 : Int32) < a3) (cd := .gt) (x := a3) (y := (1000000 : Int32)) 14 10 (st' := []) rfl (y_cgt _ _) h (fun c23 h => ?_) (fun c23 h => ?_)
                · skip
                  refine xw.s (pc' := 15) (st' := [.inl (0 : Int32)]) rfl ?_
                  refine xw.retz (nx := 16) rfl (Or.inl rfl) ?_
                  show xw _ _ 49 [some (.inl a1), some (.inl a2), some (.inl a3)] [.inl (0 : Int32)] S _
                  refine xw.retz (nx := 50) rfl (Or.inl rfl) ?_
                  show xw _ _ 17 [some (.inr (some (0, 0))), some (.inl a1), some (.inl a2), some (.inl a3)] [.inl (0 : Int32)] S _
                  refine xw.bf (cd := .ne) (x := (0 : Int32)) (y := (0 : Int32)) 23 20 (st' := []) rfl (y_cne _ _) (by decide) ?_
                  refine xw.s (pc' := 22) (st' := [.inl (-2 : Int32)]) rfl ?_
                  exact xw.ret (r := (some (.inl (-2 : Int32)))) rfl h
                · skip
                  refine xw.s (pc' := 11) (st' := [.inl (1 : Int32)]) rfl ?_
                  refine xw.s (pc' := 15) (st' := [.inl (1 : Int32)]) rfl ?_
                  refine xw.retz (nx := 16) rfl (Or.inr rfl) ?_
                  show xw _ _ 49 [some (.inl a1), some (.inl a2), some (.inl a3)] [.inl (1 : Int32)] S _
                  refine xw.retz (nx := 50) rfl (Or.inr rfl) ?_
                  show xw _ _ 17 [some (.inr (some (0, 0))), some (.inl a1), some (.inl a2), some (.inl a3)] [.inl (1 : Int32)] S _
                  refine xw.bt (cd := .ne) (x := (1 : Int32)) (y := (0 : Int32)) 23 20 (st' := []) rfl (y_cne _ _) (by decide) ?_
                  refine xw.s (pc' := 24) (st' := [.inr (some (0, 0))]) rfl ?_
                  refine xw.fr (c := 0) (j := 11) (e := 12) (nx := 27) (t := (some 11)) rfl rfl (hC 11 (by decide)) ?_
                  show xw _ _ _ [some (.inr (some (0, 0))), some (.inl a1), some (.inl a2), some (.inl a3)] [.inr (some (12, 11))] _ _
                  refine xw.lsz (nx := 30) (n := (xm_n S 1 11)) rfl (Nat.le_of_ble_eq_true rfl) rfl ?_
                  refine xw.s (pc' := 32) (st' := [.inl (10 : Int32), .inl (nI (xm_n S 1 11))]) rfl ?_
                  refine xw.b (c := (nI (xm_n S 1 11)) < (10 : Int32)) (cd := .lt) (x := (nI (xm_n S 1 11))) (y := (10 : Int32)) 38 35 (st' := []) rfl (y_clt _ _) h (fun c24 h => ?_) (fun c24 h => ?_)
                  · skip
                    refine xw.s (pc' := 39) (st' := [.inr (some (0, 0))]) rfl ?_
                    refine xw.fr (c := 0) (j := 11) (e := 12) (nx := 42) (t := (some 11)) rfl rfl (hC 11 (by decide)) ?_
                    show xw _ _ _ [some (.inr (some (0, 0))), some (.inl a1), some (.inl a2), some (.inl a3)] [.inr (some (12, 11))] _ _
                    refine xw.s (pc' := 45) (st' := [.inr (some (1, (xm_n S 0 1))), .inr (some (12, 11))]) (S1 := xm_mk 1 6 S) rfl ?_
                    obtain ⟨k25, q26⟩ : ∃ k, k = xm_n S 0 1 := ⟨_, rfl⟩
                    rw [← q26]
                    replace h := h k25 q26
                    obtain ⟨S27, e28⟩ : ∃ s, s = xm_mk 1 6 S := ⟨_, rfl⟩
                    rw [← e28]
                    replace h := h S27 e28
                    refine xw.s (pc' := 46) (st' := [.inr (some (1, k25)), .inr (some (1, k25)), .inr (some (12, 11))]) rfl ?_
                    refine xw.s (pc' := 47) (st' := [.inl a1, .inr (some (1, k25)), .inr (some (1, k25)), .inr (some (12, 11))]) rfl ?_
                    refine xw.s (pc' := 48) (st' := [.inl a2, .inl a1, .inr (some (1, k25)), .inr (some (1, k25)), .inr (some (12, 11))]) rfl ?_
                    refine xw.s (pc' := 49) (st' := [.inl a3, .inl a2, .inl a1, .inr (some (1, k25)), .inr (some (1, k25)), .inr (some (12, 11))]) rfl ?_
                    refine xw.call (m := 92) (as := [.inr (some (1, k25)), .inl a1, .inl a2, .inl a3]) (nx := 52) (L' := [some (.inr (some (0, 0))), some (.inl a1), some (.inl a2), some (.inl a3)]) (st' := [.inr (some (1, k25)), .inr (some (12, 11))]) rfl (xc.mono h ?_)
                    rintro r S29 ⟨rfl, hC30, h⟩
                    show xw _ _ 52 [some (.inr (some (0, 0))), some (.inl a1), some (.inl a2), some (.inl a3)] [.inr (some (1, k25)), .inr (some (12, 11))] _ _
                    obtain ⟨z31, z32, h⟩ := h
                    refine xw.ladd (nx := 55) rfl (Nat.le_of_ble_eq_true rfl) (by decide) z31 z32 ?_
                    obtain ⟨S33, e34⟩ : ∃ s, s = xm_push 11 (1, k25) S29 := ⟨_, rfl⟩
                    rw [← e34]
                    replace h := h S33 e34
                    refine xw.s (pc' := 56) (st' := []) rfl ?_
                    refine xw.s (pc' := 57) (st' := [.inr (some (0, 0))]) rfl ?_
                    refine xw.fr (c := 0) (j := 11) (e := 12) (nx := 60) (t := (some 11)) rfl rfl ((congrArg (fun s => xm_r s 0 0 11) e34).trans (xr_push.trans (hC30 11 (by decide)))) ?_
                    show xw _ _ _ [some (.inr (some (0, 0))), some (.inl a1), some (.inl a2), some (.inl a3)] [.inr (some (12, 11))] _ _
                    refine xw.lsz (nx := 63) (n := (xm_n S33 1 11)) rfl (Nat.le_of_ble_eq_true rfl) rfl ?_
                    refine xw.s (pc' := 64) (st' := [.inl (1 : Int32), .inl (nI (xm_n S33 1 11))]) rfl ?_
                    refine xw.s (pc' := 65) (st' := [.inl ((nI (xm_n S33 1 11)) - (1 : Int32))]) rfl ?_
                    exact xw.ret (r := (some (.inl ((nI (xm_n S33 1 11)) - (1 : Int32))))) rfl h
                  · skip
                    refine xw.s (pc' := 37) (st' := [.inl (-3 : Int32)]) rfl ?_
                    exact xw.ret (r := (some (.inl (-3 : Int32)))) rfl h
            · skip
              refine xw.bw (2 : Int32) rfl h (fun c35 h => ?_) (fun c35 h => ?_)
              · skip
                refine xw.s (pc' := 51) (st' := [.inl a3]) rfl ?_
                refine xw.s (pc' := 52) (st' := [.inl (1 : Int32), .inl a3]) rfl ?_
                refine xw.s (pc' := 54) (st' := [.inl (10 : Int32), .inl (1 : Int32), .inl a3]) rfl ?_
                refine xw.call (m := 2) (as := [.inl a3, .inl (1 : Int32), .inl (10 : Int32)]) (nx := 57) (L' := [some (.inl a1), some (.inl a2), some (.inl a3)]) (st' := []) rfl ?_
                show xw _ _ _ [some (.inl a3), some (.inl (1 : Int32)), some (.inl (10 : Int32))] [] _ _
                refine xw.s (pc' := 1) (st' := [.inl a3]) rfl ?_
                refine xw.s (pc' := 2) (st' := [.inl (1 : Int32), .inl a3]) rfl ?_
                refine xw.b (c := a3 < (1 : Int32)) (cd := .lt) (x := a3) (y := (1 : Int32)) 14 5 (st' := []) rfl (y_clt _ _) h (fun c36 h => ?_) (fun c36 h => ?_)
                · skip
                  refine xw.s (pc' := 15) (st' := [.inl (0 : Int32)]) rfl ?_
                  refine xw.retz (nx := 16) rfl (Or.inl rfl) ?_
                  show xw _ _ 57 [some (.inl a1), some (.inl a2), some (.inl a3)] [.inl (0 : Int32)] S _
                  refine xw.retz (nx := 58) rfl (Or.inl rfl) ?_
                  show xw _ _ 17 [some (.inr (some (0, 0))), some (.inl a1), some (.inl a2), some (.inl a3)] [.inl (0 : Int32)] S _
                  refine xw.bf (cd := .ne) (x := (0 : Int32)) (y := (0 : Int32)) 23 20 (st' := []) rfl (y_cne _ _) (by decide) ?_
                  refine xw.s (pc' := 22) (st' := [.inl (-2 : Int32)]) rfl ?_
                  exact xw.ret (r := (some (.inl (-2 : Int32)))) rfl h
                · skip
                  refine xw.s (pc' := 6) (st' := [.inl a3]) rfl ?_
                  refine xw.s (pc' := 7) (st' := [.inl (10 : Int32), .inl a3]) rfl ?_
                  refine xw.b (c := (10 : Int32) < a3) (cd := .gt) (x := a3) (y := (10 : Int32)) 14 10 (st' := []) rfl (y_cgt _ _) h (fun c37 h => ?_) (fun c37 h => ?_)
                  · skip
                    refine xw.s (pc' := 15) (st' := [.inl (0 : Int32)]) rfl ?_
                    refine xw.retz (nx := 16) rfl (Or.inl rfl) ?_
                    show xw _ _ 57 [some (.inl a1), some (.inl a2), some (.inl a3)] [.inl (0 : Int32)] S _
                    refine xw.retz (nx := 58) rfl (Or.inl rfl) ?_
                    show xw _ _ 17 [some (.inr (some (0, 0))), some (.inl a1), some (.inl a2), some (.inl a3)] [.inl (0 : Int32)] S _
                    refine xw.bf (cd := .ne) (x := (0 : Int32)) (y := (0 : Int32)) 23 20 (st' := []) rfl (y_cne _ _) (by decide) ?_
                    refine xw.s (pc' := 22) (st' := [.inl (-2 : Int32)]) rfl ?_
                    exact xw.ret (r := (some (.inl (-2 : Int32)))) rfl h
                  · skip
                    refine xw.s (pc' := 11) (st' := [.inl (1 : Int32)]) rfl ?_
                    refine xw.s (pc' := 15) (st' := [.inl (1 : Int32)]) rfl ?_
                    refine xw.retz (nx := 16) rfl (Or.inr rfl) ?_
                    show xw _ _ 57 [some (.inl a1), some (.inl a2), some (.inl a3)] [.inl (1 : Int32)] S _
                    refine xw.retz (nx := 58) rfl (Or.inr rfl) ?_
                    show xw _ _ 17 [some (.inr (some (0, 0))), some (.inl a1), some (.inl a2), some (.inl a3)] [.inl (1 : Int32)] S _
                    refine xw.bt (cd := .ne) (x := (1 : Int32)) (y := (0 : Int32)) 23 20 (st' := []) rfl (y_cne _ _) (by decide) ?_
                    refine xw.s (pc' := 24) (st' := [.inr (some (0, 0))]) rfl ?_
                    refine xw.fr (c := 0) (j := 11) (e := 12) (nx := 27) (t := (some 11)) rfl rfl (hC 11 (by decide)) ?_
                    show xw _ _ _ [some (.inr (some (0, 0))), some (.inl a1), some (.inl a2), some (.inl a3)] [.inr (some (12, 11))] _ _
                    refine xw.lsz (nx := 30) (n := (xm_n S 1 11)) rfl (Nat.le_of_ble_eq_true rfl) rfl ?_
                    refine xw.s (pc' := 32) (st' := [.inl (10 : Int32), .inl (nI (xm_n S 1 11))]) rfl ?_
                    refine xw.b (c := (nI (xm_n S 1 11)) < (10 : Int32)) (cd := .lt) (x := (nI (xm_n S 1 11))) (y := (10 : Int32)) 38 35 (st' := []) rfl (y_clt _ _) h (fun c38 h => ?_) (fun c38 h => ?_)
                    · skip
                      refine xw.s (pc' := 39) (st' := [.inr (some (0, 0))]) rfl ?_
                      refine xw.fr (c := 0) (j := 11) (e := 12) (nx := 42) (t := (some 11)) rfl rfl (hC 11 (by decide)) ?_
                      show xw _ _ _ [some (.inr (some (0, 0))), some (.inl a1), some (.inl a2), some (.inl a3)] [.inr (some (12, 11))] _ _
                      refine xw.s (pc' := 45) (st' := [.inr (some (1, (xm_n S 0 1))), .inr (some (12, 11))]) (S1 := xm_mk 1 6 S) rfl ?_
                      obtain ⟨k39, q40⟩ : ∃ k, k = xm_n S 0 1 := ⟨_, rfl⟩
                      rw [← q40]
                      replace h := h k39 q40
                      obtain ⟨S41, e42⟩ : ∃ s, s = xm_mk 1 6 S := ⟨_, rfl⟩
                      rw [← e42]
                      replace h := h S41 e42
                      refine xw.s (pc' := 46) (st' := [.inr (some (1, k39)), .inr (some (1, k39)), .inr (some (12, 11))]) rfl ?_
                      refine xw.s (pc' := 47) (st' := [.inl a1, .inr (some (1, k39)), .inr (some (1, k39)), .inr (some (12, 11))]) rfl ?_
                      refine xw.s (pc' := 48) (st' := [.inl a2, .inl a1, .inr (some (1, k39)), .inr (some (1, k39)), .inr (some (12, 11))]) rfl ?_
                      refine xw.s (pc' := 49) (st' := [.inl a3, .inl a2, .inl a1, .inr (some (1, k39)), .inr (some (1, k39)), .inr (some (12, 11))]) rfl ?_
                      refine xw.call (m := 92) (as := [.inr (some (1, k39)), .inl a1, .inl a2, .inl a3]) (nx := 52) (L' := [some (.inr (some (0, 0))), some (.inl a1), some (.inl a2), some (.inl a3)]) (st' := [.inr (some (1, k39)), .inr (some (12, 11))]) rfl (xc.mono h ?_)
                      rintro r S43 ⟨rfl, hC44, h⟩
                      show xw _ _ 52 [some (.inr (some (0, 0))), some (.inl a1), some (.inl a2), some (.inl a3)] [.inr (some (1, k39)), .inr (some (12, 11))] _ _
                      obtain ⟨z45, z46, h⟩ := h
                      refine xw.ladd (nx := 55) rfl (Nat.le_of_ble_eq_true rfl) (by decide) z45 z46 ?_
                      obtain ⟨S47, e48⟩ : ∃ s, s = xm_push 11 (1, k39) S43 := ⟨_, rfl⟩
                      rw [← e48]
                      replace h := h S47 e48
                      refine xw.s (pc' := 56) (st' := []) rfl ?_
                      refine xw.s (pc' := 57) (st' := [.inr (some (0, 0))]) rfl ?_
                      refine xw.fr (c := 0) (j := 11) (e := 12) (nx := 60) (t := (some 11)) rfl rfl ((congrArg (fun s => xm_r s 0 0 11) e48).trans (xr_push.trans (hC44 11 (by decide)))) ?_
                      show xw _ _ _ [some (.inr (some (0, 0))), some (.inl a1), some (.inl a2), some (.inl a3)] [.inr (some (12, 11))] _ _
                      refine xw.lsz (nx := 63) (n := (xm_n S47 1 11)) rfl (Nat.le_of_ble_eq_true rfl) rfl ?_
                      refine xw.s (pc' := 64) (st' := [.inl (1 : Int32), .inl (nI (xm_n S47 1 11))]) rfl ?_
                      refine xw.s (pc' := 65) (st' := [.inl ((nI (xm_n S47 1 11)) - (1 : Int32))]) rfl ?_
                      exact xw.ret (r := (some (.inl ((nI (xm_n S47 1 11)) - (1 : Int32))))) rfl h
                    · skip
                      refine xw.s (pc' := 37) (st' := [.inl (-3 : Int32)]) rfl ?_
                      exact xw.ret (r := (some (.inl (-3 : Int32)))) rfl h
              · skip
                refine xw.bw (3 : Int32) rfl h (fun c49 h => ?_) (fun c49 h => ?_)
                · skip
                  refine xw.s (pc' := 59) (st' := [.inl a2]) rfl ?_
                  refine xw.bn (c := a2 = (0 : Int32)) (cd := .ne) (x := a2) (y := (0 : Int32)) 76 62 (st' := []) rfl (y_cne _ _) h (fun c50 h => ?_) (fun c50 h => ?_)
                  · skip
                    refine xw.s (pc' := 63) (st' := [.inl a3]) rfl ?_
                    refine xw.s (pc' := 64) (st' := [.inl (0 : Int32), .inl a3]) rfl ?_
                    refine xw.s (pc' := 66) (st' := [.inl (1000000 : Int32), .inl (0 : Int32), .inl a3]) rfl ?_
                    refine xw.call (m := 2) (as := [.inl a3, .inl (0 : Int32), .inl (1000000 : Int32)]) (nx := 69) (L' := [some (.inl a1), some (.inl a2), some (.inl a3)]) (st' := []) rfl ?_
                    show xw _ _ _ [some (.inl a3), some (.inl (0 : Int32)), some (.inl (1000000 : Int32))] [] _ _
                    refine xw.s (pc' := 1) (st' := [.inl a3]) rfl ?_
                    refine xw.s (pc' := 2) (st' := [.inl (0 : Int32), .inl a3]) rfl ?_
                    refine xw.b (c := a3 < (0 : Int32)) (cd := .lt) (x := a3) (y := (0 : Int32)) 14 5 (st' := []) rfl (y_clt _ _) h (fun c51 h => ?_) (fun c51 h => ?_)
                    · skip
                      refine xw.s (pc' := 15) (st' := [.inl (0 : Int32)]) rfl ?_
                      refine xw.retz (nx := 16) rfl (Or.inl rfl) ?_
                      show xw _ _ 69 [some (.inl a1), some (.inl a2), some (.inl a3)] [.inl (0 : Int32)] S _
                      refine xw.bt (cd := .eq) (x := (0 : Int32)) (y := (0 : Int32)) 76 72 (st' := []) rfl (y_ceq _ _) (by decide) ?_
                      refine xw.s (pc' := 77) (st' := [.inl (0 : Int32)]) rfl ?_
                      refine xw.retz (nx := 78) rfl (Or.inl rfl) ?_
                      show xw _ _ 17 [some (.inr (some (0, 0))), some (.inl a1), some (.inl a2), some (.inl a3)] [.inl (0 : Int32)] S _
                      refine xw.bf (cd := .ne) (x := (0 : Int32)) (y := (0 : Int32)) 23 20 (st' := []) rfl (y_cne _ _) (by decide) ?_
                      refine xw.s (pc' := 22) (st' := [.inl (-2 : Int32)]) rfl ?_
                      exact xw.ret (r := (some (.inl (-2 : Int32)))) rfl h
                    · skip
                      refine xw.s (pc' := 6) (st' := [.inl a3]) rfl ?_
                      refine xw.s (pc' := 7) (st' := [.inl (1000000 : Int32), .inl a3]) rfl ?_
                      refine xw.b (c := (1000000 : Int32) < a3) (cd := .gt) (x := a3) (y := (1000000 : Int32)) 14 10 (st' := []) rfl (y_cgt _ _) h (fun c52 h => ?_) (fun c52 h => ?_)
                      · skip
                        refine xw.s (pc' := 15) (st' := [.inl (0 : Int32)]) rfl ?_
                        refine xw.retz (nx := 16) rfl (Or.inl rfl) ?_
                        show xw _ _ 69 [some (.inl a1), some (.inl a2), some (.inl a3)] [.inl (0 : Int32)] S _
                        refine xw.bt (cd := .eq) (x := (0 : Int32)) (y := (0 : Int32)) 76 72 (st' := []) rfl (y_ceq _ _) (by decide) ?_
                        refine xw.s (pc' := 77) (st' := [.inl (0 : Int32)]) rfl ?_
                        refine xw.retz (nx := 78) rfl (Or.inl rfl) ?_
                        show xw _ _ 17 [some (.inr (some (0, 0))), some (.inl a1), some (.inl a2), some (.inl a3)] [.inl (0 : Int32)] S _
                        refine xw.bf (cd := .ne) (x := (0 : Int32)) (y := (0 : Int32)) 23 20 (st' := []) rfl (y_cne _ _) (by decide) ?_
                        refine xw.s (pc' := 22) (st' := [.inl (-2 : Int32)]) rfl ?_
                        exact xw.ret (r := (some (.inl (-2 : Int32)))) rfl h
                      · skip
                        refine xw.s (pc' := 11) (st' := [.inl (1 : Int32)]) rfl ?_
                        refine xw.s (pc' := 15) (st' := [.inl (1 : Int32)]) rfl ?_
                        refine xw.retz (nx := 16) rfl (Or.inr rfl) ?_
                        show xw _ _ 69 [some (.inl a1), some (.inl a2), some (.inl a3)] [.inl (1 : Int32)] S _
                        refine xw.bf (cd := .eq) (x := (1 : Int32)) (y := (0 : Int32)) 76 72 (st' := []) rfl (y_ceq _ _) (by decide) ?_
                        refine xw.s (pc' := 73) (st' := [.inl (1 : Int32)]) rfl ?_
                        refine xw.s (pc' := 77) (st' := [.inl (1 : Int32)]) rfl ?_
                        refine xw.retz (nx := 78) rfl (Or.inr rfl) ?_
                        show xw _ _ 17 [some (.inr (some (0, 0))), some (.inl a1), some (.inl a2), some (.inl a3)] [.inl (1 : Int32)] S _
                        refine xw.bt (cd := .ne) (x := (1 : Int32)) (y := (0 : Int32)) 23 20 (st' := []) rfl (y_cne _ _) (by decide) ?_
                        refine xw.s (pc' := 24) (st' := [.inr (some (0, 0))]) rfl ?_
                        refine xw.fr (c := 0) (j := 11) (e := 12) (nx := 27) (t := (some 11)) rfl rfl (hC 11 (by decide)) ?_
                        show xw _ _ _ [some (.inr (some (0, 0))), some (.inl a1), some (.inl a2), some (.inl a3)] [.inr (some (12, 11))] _ _
                        refine xw.lsz (nx := 30) (n := (xm_n S 1 11)) rfl (Nat.le_of_ble_eq_true rfl) rfl ?_
                        refine xw.s (pc' := 32) (st' := [.inl (10 : Int32), .inl (nI (xm_n S 1 11))]) rfl ?_
                        refine xw.b (c := (nI (xm_n S 1 11)) < (10 : Int32)) (cd := .lt) (x := (nI (xm_n S 1 11))) (y := (10 : Int32)) 38 35 (st' := []) rfl (y_clt _ _) h (fun c53 h => ?_) (fun c53 h => ?_)
                        · skip
                          refine xw.s (pc' := 39) (st' := [.inr (some (0, 0))]) rfl ?_
                          refine xw.fr (c := 0) (j := 11) (e := 12) (nx := 42) (t := (some 11)) rfl rfl (hC 11 (by decide)) ?_
                          show xw _ _ _ [some (.inr (some (0, 0))), some (.inl a1), some (.inl a2), some (.inl a3)] [.inr (some (12, 11))] _ _
                          refine xw.s (pc' := 45) (st' := [.inr (some (1, (xm_n S 0 1))), .inr (some (12, 11))]) (S1 := xm_mk 1 6 S) rfl ?_
                          obtain ⟨k54, q55⟩ : ∃ k, k = xm_n S 0 1 := ⟨_, rfl⟩
                          rw [← q55]
                          replace h := h k54 q55
                          obtain ⟨S56, e57⟩ : ∃ s, s = xm_mk 1 6 S := ⟨_, rfl⟩
                          rw [← e57]
                          replace h := h S56 e57
                          refine xw.s (pc' := 46) (st' := [.inr (some (1, k54)), .inr (some (1, k54)), .inr (some (12, 11))]) rfl ?_
                          refine xw.s (pc' := 47) (st' := [.inl a1, .inr (some (1, k54)), .inr (some (1, k54)), .inr (some (12, 11))]) rfl ?_
                          refine xw.s (pc' := 48) (st' := [.inl a2, .inl a1, .inr (some (1, k54)), .inr (some (1, k54)), .inr (some (12, 11))]) rfl ?_
                          refine xw.s (pc' := 49) (st' := [.inl a3, .inl a2, .inl a1, .inr (some (1, k54)), .inr (some (1, k54)), .inr (some (12, 11))]) rfl ?_
                          refine xw.call (m := 92) (as := [.inr (some (1, k54)), .inl a1, .inl a2, .inl a3]) (nx := 52) (L' := [some (.inr (some (0, 0))), some (.inl a1), some (.inl a2), some (.inl a3)]) (st' := [.inr (some (1, k54)), .inr (some (12, 11))]) rfl (xc.mono h ?_)
                          rintro r S58 ⟨rfl, hC59, h⟩
                          show xw _ _ 52 [some (.inr (some (0, 0))), some (.inl a1), some (.inl a2), some (.inl a3)] [.inr (some (1, k54)), .inr (some (12, 11))] _ _
                          obtain ⟨z60, z61, h⟩ := h
                          refine xw.ladd (nx := 55) rfl (Nat.le_of_ble_eq_true rfl) (by decide) z60 z61 ?_
                          obtain ⟨S62, e63⟩ : ∃ s, s = xm_push 11 (1, k54) S58 := ⟨_, rfl⟩
                          rw [← e63]
                          replace h := h S62 e63
                          refine xw.s (pc' := 56) (st' := []) rfl ?_
                          refine xw.s (pc' := 57) (st' := [.inr (some (0, 0))]) rfl ?_
                          refine xw.fr (c := 0) (j := 11) (e := 12) (nx := 60) (t := (some 11)) rfl rfl ((congrArg (fun s => xm_r s 0 0 11) e63).trans (xr_push.trans (hC59 11 (by decide)))) ?_
                          show xw _ _ _ [some (.inr (some (0, 0))), some (.inl a1), some (.inl a2), some (.inl a3)] [.inr (some (12, 11))] _ _
                          refine xw.lsz (nx := 63) (n := (xm_n S62 1 11)) rfl (Nat.le_of_ble_eq_true rfl) rfl ?_
                          refine xw.s (pc' := 64) (st' := [.inl (1 : Int32), .inl (nI (xm_n S62 1 11))]) rfl ?_
                          refine xw.s (pc' := 65) (st' := [.inl ((nI (xm_n S62 1 11)) - (1 : Int32))]) rfl ?_
                          exact xw.ret (r := (some (.inl ((nI (xm_n S62 1 11)) - (1 : Int32))))) rfl h
                        · skip
                          refine xw.s (pc' := 37) (st' := [.inl (-3 : Int32)]) rfl ?_
                          exact xw.ret (r := (some (.inl (-3 : Int32)))) rfl h
                  · skip
                    refine xw.s (pc' := 77) (st' := [.inl (0 : Int32)]) rfl ?_
                    refine xw.retz (nx := 78) rfl (Or.inl rfl) ?_
                    show xw _ _ 17 [some (.inr (some (0, 0))), some (.inl a1), some (.inl a2), some (.inl a3)] [.inl (0 : Int32)] S _
                    refine xw.bf (cd := .ne) (x := (0 : Int32)) (y := (0 : Int32)) 23 20 (st' := []) rfl (y_cne _ _) (by decide) ?_
                    refine xw.s (pc' := 22) (st' := [.inl (-2 : Int32)]) rfl ?_
                    exact xw.ret (r := (some (.inl (-2 : Int32)))) rfl h
                · skip
                  refine xw.s (pc' := 79) (st' := [.inl (0 : Int32)]) rfl ?_
                  refine xw.retz (nx := 80) rfl (Or.inl rfl) ?_
                  show xw _ _ 17 [some (.inr (some (0, 0))), some (.inl a1), some (.inl a2), some (.inl a3)] [.inl (0 : Int32)] S _
                  refine xw.bf (cd := .ne) (x := (0 : Int32)) (y := (0 : Int32)) 23 20 (st' := []) rfl (y_cne _ _) (by decide) ?_
                  refine xw.s (pc' := 22) (st' := [.inl (-2 : Int32)]) rfl ?_
                  exact xw.ret (r := (some (.inl (-2 : Int32)))) rfl h
        · skip
          refine xw.s (pc' := 23) (st' := [.inr none]) rfl ?_
          refine xw.ret (r := some (.inr none)) rfl ?_
          show xw _ _ 34 [some (.inr (some (0, 0))), some (.inl a1), some (.inl a2)] [.inr none] S _
          refine xw.s (pc' := 37) (st' := []) rfl ?_
          refine xw.s (pc' := 38) (st' := [.inl (1 : Int32)]) rfl ?_
          refine xw.s (pc' := 42) (st' := [.inl (1 : Int32)]) rfl ?_
          refine xw.retz (nx := 43) rfl (Or.inr rfl) ?_
          show xw _ _ 6 [some (.inr (some (0, 0))), some (.inl a1), some (.inl a2), some (.inl a3)] [.inl (1 : Int32)] S _
          refine xw.bf (cd := .eq) (x := (1 : Int32)) (y := (0 : Int32)) 11 9 (st' := []) rfl (y_ceq _ _) (by decide) ?_
          refine xw.s (pc' := 10) (st' := [.inl (-1 : Int32)]) rfl ?_
          exact xw.ret (r := (some (.inl (-1 : Int32)))) rfl h
  · skip
    refine xw.bw (1 : Int32) rfl h (fun c64 h => ?_) (fun c64 h => ?_)
    · skip
      refine xw.s (pc' := 44) (st' := [.inr (some (0, 0))]) rfl ?_
      refine xw.s (pc' := 45) (st' := [.inl a2, .inr (some (0, 0))]) rfl ?_
      refine xw.call (m := 4) (as := [.inr (some (0, 0)), .inl a2]) (nx := 48) (L' := [some (.inr (some (0, 0))), some (.inl a1), some (.inl a2)]) (st' := []) rfl ?_
      show xw _ _ _ [some (.inr (some (0, 0))), some (.inl a2)] [] _ _
      refine xw.s (pc' := 1) (st' := [.inl a2]) rfl ?_
      refine xw.b (c := a2 < (0 : Int32)) (cd := .lt) (x := a2) (y := (0 : Int32)) 29 4 (st' := []) rfl (y_clt _ _) h (fun c65 h => ?_) (fun c65 h => ?_)
      · skip
        refine xw.s (pc' := 30) (st' := [.inr none]) rfl ?_
        refine xw.ret (r := some (.inr none)) rfl ?_
        show xw _ _ 48 [some (.inr (some (0, 0))), some (.inl a1), some (.inl a2)] [.inr none] S _
        refine xw.s (pc' := 51) (st' := []) rfl ?_
        refine xw.s (pc' := 52) (st' := [.inl (1 : Int32)]) rfl ?_
        refine xw.s (pc' := 56) (st' := [.inl (1 : Int32)]) rfl ?_
        refine xw.retz (nx := 57) rfl (Or.inr rfl) ?_
        show xw _ _ 6 [some (.inr (some (0, 0))), some (.inl a1), some (.inl a2), some (.inl a3)] [.inl (1 : Int32)] S _
        refine xw.bf (cd := .eq) (x := (1 : Int32)) (y := (0 : Int32)) 11 9 (st' := []) rfl (y_ceq _ _) (by decide) ?_
        refine xw.s (pc' := 10) (st' := [.inl (-1 : Int32)]) rfl ?_
        exact xw.ret (r := (some (.inl (-1 : Int32)))) rfl h
      · skip
        refine xw.s (pc' := 5) (st' := [.inl a2]) rfl ?_
        refine xw.s (pc' := 6) (st' := [.inr (some (0, 0)), .inl a2]) rfl ?_
        refine xw.fr (c := 0) (j := 0) (e := 12) (nx := 9) (t := (some 0)) rfl rfl (hC 0 (by decide)) ?_
        show xw _ _ _ [some (.inr (some (0, 0))), some (.inl a2)] [.inr (some (12, 0)), .inl a2] _ _
        refine xw.lsz (nx := 12) (n := (xm_n S 1 0)) rfl (Nat.le_of_ble_eq_true rfl) rfl ?_
        refine xw.b (c := (nI (xm_n S 1 0)) ≤ a2) (cd := .ge) (x := a2) (y := (nI (xm_n S 1 0))) 29 15 (st' := []) rfl (y_cge _ _) h (fun c66 h => ?_) (fun c66 h => ?_)
        · skip
          refine xw.s (pc' := 30) (st' := [.inr none]) rfl ?_
          refine xw.ret (r := some (.inr none)) rfl ?_
          show xw _ _ 48 [some (.inr (some (0, 0))), some (.inl a1), some (.inl a2)] [.inr none] S _
          refine xw.s (pc' := 51) (st' := []) rfl ?_
          refine xw.s (pc' := 52) (st' := [.inl (1 : Int32)]) rfl ?_
          refine xw.s (pc' := 56) (st' := [.inl (1 : Int32)]) rfl ?_
          refine xw.retz (nx := 57) rfl (Or.inr rfl) ?_
          show xw _ _ 6 [some (.inr (some (0, 0))), some (.inl a1), some (.inl a2), some (.inl a3)] [.inl (1 : Int32)] S _
          refine xw.bf (cd := .eq) (x := (1 : Int32)) (y := (0 : Int32)) 11 9 (st' := []) rfl (y_ceq _ _) (by decide) ?_
          refine xw.s (pc' := 10) (st' := [.inl (-1 : Int32)]) rfl ?_
          exact xw.ret (r := (some (.inl (-1 : Int32)))) rfl h
        · skip
          refine xw.s (pc' := 16) (st' := [.inr (some (0, 0))]) rfl ?_
          refine xw.fr (c := 0) (j := 0) (e := 12) (nx := 19) (t := (some 0)) rfl rfl (hC 0 (by decide)) ?_
          show xw _ _ _ [some (.inr (some (0, 0))), some (.inl a2)] [.inr (some (12, 0))] _ _
          refine xw.s (pc' := 20) (st' := [.inl a2, .inr (some (12, 0))]) rfl ?_
          obtain ⟨z67, h⟩ := h
          obtain ⟨k68, q69, h⟩ := h
          refine xw.get (nx := 23) (p := (9, k68)) rfl (Nat.le_of_ble_eq_true rfl) z67 q69 ?_
          refine xw.s (pc' := 26) (st' := [.inr (some (9, k68))]) rfl ?_
          refine xw.s (pc' := 30) (st' := [.inr (some (9, k68))]) rfl ?_
          refine xw.ret (r := some (.inr (some (9, k68)))) rfl ?_
          show xw _ _ 48 [some (.inr (some (0, 0))), some (.inl a1), some (.inl a2)] [.inr (some (9, k68))] S _
          refine xw.s (pc' := 55) (st' := []) rfl ?_
          refine xw.s (pc' := 56) (st' := [.inl (0 : Int32)]) rfl ?_
          refine xw.retz (nx := 57) rfl (Or.inl rfl) ?_
          show xw _ _ 6 [some (.inr (some (0, 0))), some (.inl a1), some (.inl a2), some (.inl a3)] [.inl (0 : Int32)] S _
          refine xw.bt (cd := .eq) (x := (0 : Int32)) (y := (0 : Int32)) 11 9 (st' := []) rfl (y_ceq _ _) (by decide) ?_
          refine xw.s (pc' := 12) (st' := [.inl a1]) rfl ?_
          refine xw.s (pc' := 13) (st' := [.inl a2, .inl a1]) rfl ?_
          refine xw.s (pc' := 14) (st' := [.inl a3, .inl a2, .inl a1]) rfl ?_
          refine xw.call (m := 70) (as := [.inl a1, .inl a2, .inl a3]) (nx := 17) (L' := [some (.inr (some (0, 0))), some (.inl a1), some (.inl a2), some (.inl a3)]) (st' := []) rfl ?_
          show xw _ _ _ [some (.inl a1), some (.inl a2), some (.inl a3)] [] _ _
          refine xw.s (pc' := 1) (st' := [.inl a1]) rfl ?_
          refine xw.ts1 rfl rfl ?_
          refine xw.bw (0 : Int32) rfl h (fun c70 h => ?_) (fun c70 h => ?_)
          · skip
            refine xw.s (pc' := 33) (st' := [.inl a3]) rfl ?_
            refine xw.bn (c := a3 = (0 : Int32)) (cd := .ne) (x := a3) (y := (0 : Int32)) 40 36 (st' := []) rfl (y_cne _ _) h (fun c71 h => ?_) (fun c71 h => ?_)
            · skip
              refine xw.s (pc' := 37) (st' := [.inl (1 : Int32)]) rfl ?_
              refine xw.s (pc' := 41) (st' := [.inl (1 : Int32)]) rfl ?_
              refine xw.retz (nx := 42) rfl (Or.inr rfl) ?_
              show xw _ _ 17 [some (.inr (some (0, 0))), some (.inl a1), some (.inl a2), some (.inl a3)] [.inl (1 : Int32)] S _
              refine xw.bt (cd := .ne) (x := (1 : Int32)) (y := (0 : Int32)) 23 20 (st' := []) rfl (y_cne _ _) (by decide) ?_
              refine xw.s (pc' := 24) (st' := [.inr (some (0, 0))]) rfl ?_
              refine xw.fr (c := 0) (j := 11) (e := 12) (nx := 27) (t := (some 11)) rfl rfl (hC 11 (by decide)) ?_
              show xw _ _ _ [some (.inr (some (0, 0))), some (.inl a1), some (.inl a2), some (.inl a3)] [.inr (some (12, 11))] _ _
              refine xw.lsz (nx := 30) (n := (xm_n S 1 11)) rfl (Nat.le_of_ble_eq_true rfl) rfl ?_
              refine xw.s (pc' := 32) (st' := [.inl (10 : Int32), .inl (nI (xm_n S 1 11))]) rfl ?_
              refine xw.b (c := (nI (xm_n S 1 11)) < (10 : Int32)) (cd := .lt) (x := (nI (xm_n S 1 11))) (y := (10 : Int32)) 38 35 (st' := []) rfl (y_clt _ _) h (fun c72 h => ?_) (fun c72 h => ?_)
              · skip
                refine xw.s (pc' := 39) (st' := [.inr (some (0, 0))]) rfl ?_
                refine xw.fr (c := 0) (j := 11) (e := 12) (nx := 42) (t := (some 11)) rfl rfl (hC 11 (by decide)) ?_
                show xw _ _ _ [some (.inr (some (0, 0))), some (.inl a1), some (.inl a2), some (.inl a3)] [.inr (some (12, 11))] _ _
                refine xw.s (pc' := 45) (st' := [.inr (some (1, (xm_n S 0 1))), .inr (some (12, 11))]) (S1 := xm_mk 1 6 S) rfl ?_
                obtain ⟨k73, q74⟩ : ∃ k, k = xm_n S 0 1 := ⟨_, rfl⟩
                rw [← q74]
                replace h := h k73 q74
                obtain ⟨S75, e76⟩ : ∃ s, s = xm_mk 1 6 S := ⟨_, rfl⟩
                rw [← e76]
                replace h := h S75 e76
                refine xw.s (pc' := 46) (st' := [.inr (some (1, k73)), .inr (some (1, k73)), .inr (some (12, 11))]) rfl ?_
                refine xw.s (pc' := 47) (st' := [.inl a1, .inr (some (1, k73)), .inr (some (1, k73)), .inr (some (12, 11))]) rfl ?_
                refine xw.s (pc' := 48) (st' := [.inl a2, .inl a1, .inr (some (1, k73)), .inr (some (1, k73)), .inr (some (12, 11))]) rfl ?_
                refine xw.s (pc' := 49) (st' := [.inl a3, .inl a2, .inl a1, .inr (some (1, k73)), .inr (some (1, k73)), .inr (some (12, 11))]) rfl ?_
                refine xw.call (m := 92) (as := [.inr (some (1, k73)), .inl a1, .inl a2, .inl a3]) (nx := 52) (L' := [some (.inr (some (0, 0))), some (.inl a1), some (.inl a2), some (.inl a3)]) (st' := [.inr (some (1, k73)), .inr (some (12, 11))]) rfl (xc.mono h ?_)
                rintro r S77 ⟨rfl, hC78, h⟩
                show xw _ _ 52 [some (.inr (some (0, 0))), some (.inl a1), some (.inl a2), some (.inl a3)] [.inr (some (1, k73)), .inr (some (12, 11))] _ _
                obtain ⟨z79, z80, h⟩ := h
                refine xw.ladd (nx := 55) rfl (Nat.le_of_ble_eq_true rfl) (by decide) z79 z80 ?_
                obtain ⟨S81, e82⟩ : ∃ s, s = xm_push 11 (1, k73) S77 := ⟨_, rfl⟩
                rw [← e82]
                replace h := h S81 e82
                refine xw.s (pc' := 56) (st' := []) rfl ?_
                refine xw.s (pc' := 57) (st' := [.inr (some (0, 0))]) rfl ?_
                refine xw.fr (c := 0) (j := 11) (e := 12) (nx := 60) (t := (some 11)) rfl rfl ((congrArg (fun s => xm_r s 0 0 11) e82).trans (xr_push.trans (hC78 11 (by decide)))) ?_
                show xw _ _ _ [some (.inr (some (0, 0))), some (.inl a1), some (.inl a2), some (.inl a3)] [.inr (some (12, 11))] _ _
                refine xw.lsz (nx := 63) (n := (xm_n S81 1 11)) rfl (Nat.le_of_ble_eq_true rfl) rfl ?_
                refine xw.s (pc' := 64) (st' := [.inl (1 : Int32), .inl (nI (xm_n S81 1 11))]) rfl ?_
                refine xw.s (pc' := 65) (st' := [.inl ((nI (xm_n S81 1 11)) - (1 : Int32))]) rfl ?_
                exact xw.ret (r := (some (.inl ((nI (xm_n S81 1 11)) - (1 : Int32))))) rfl h
              · skip
                refine xw.s (pc' := 37) (st' := [.inl (-3 : Int32)]) rfl ?_
                exact xw.ret (r := (some (.inl (-3 : Int32)))) rfl h
            · skip
              refine xw.s (pc' := 41) (st' := [.inl (0 : Int32)]) rfl ?_
              refine xw.retz (nx := 42) rfl (Or.inl rfl) ?_
              show xw _ _ 17 [some (.inr (some (0, 0))), some (.inl a1), some (.inl a2), some (.inl a3)] [.inl (0 : Int32)] S _
              refine xw.bf (cd := .ne) (x := (0 : Int32)) (y := (0 : Int32)) 23 20 (st' := []) rfl (y_cne _ _) (by decide) ?_
              refine xw.s (pc' := 22) (st' := [.inl (-2 : Int32)]) rfl ?_
              exact xw.ret (r := (some (.inl (-2 : Int32)))) rfl h
          · skip
            refine xw.bw (1 : Int32) rfl h (fun c83 h => ?_) (fun c83 h => ?_)
            · skip
              refine xw.s (pc' := 43) (st' := [.inl a3]) rfl ?_
              refine xw.s (pc' := 44) (st' := [.inl (0 : Int32), .inl a3]) rfl ?_
              refine xw.s (pc' := 46) (st' := [.inl (1000000 : Int32), .inl (0 : Int32), .inl a3]) rfl ?_
              refine xw.call (m := 2) (as := [.inl a3, .inl (0 : Int32), .inl (1000000 : Int32)]) (nx := 49) (L' := [some (.inl a1), some (.inl a2), some (.inl a3)]) (st' := []) rfl ?_
              show xw _ _ _ [some (.inl a3), some (.inl (0 : Int32)), some (.inl (1000000 : Int32))] [] _ _
              refine xw.s (pc' := 1) (st' := [.inl a3]) rfl ?_
              refine xw.s (pc' := 2) (st' := [.inl (0 : Int32), .inl a3]) rfl ?_
              refine xw.b (c := a3 < (0 : Int32)) (cd := .lt) (x := a3) (y := (0 : Int32)) 14 5 (st' := []) rfl (y_clt _ _) h (fun c84 h => ?_) (fun c84 h => ?_)
              · skip
                refine xw.s (pc' := 15) (st' := [.inl (0 : Int32)]) rfl ?_
                refine xw.retz (nx := 16) rfl (Or.inl rfl) ?_
                show xw _ _ 49 [some (.inl a1), some (.inl a2), some (.inl a3)] [.inl (0 : Int32)] S _
                refine xw.retz (nx := 50) rfl (Or.inl rfl) ?_
                show xw _ _ 17 [some (.inr (some (0, 0))), some (.inl a1), some (.inl a2), some (.inl a3)] [.inl (0 : Int32)] S _
                refine xw.bf (cd := .ne) (x := (0 : Int32)) (y := (0 : Int32)) 23 20 (st' := []) rfl (y_cne _ _) (by decide) ?_
                refine xw.s (pc' := 22) (st' := [.inl (-2 : Int32)]) rfl ?_
                exact xw.ret (r := (some (.inl (-2 : Int32)))) rfl h
              · skip
                refine xw.s (pc' := 6) (st' := [.inl a3]) rfl ?_
                refine xw.s (pc' := 7) (st' := [.inl (1000000 : Int32), .inl a3]) rfl ?_
                refine xw.b (c := (1000000 : Int32) < a3) (cd := .gt) (x := a3) (y := (1000000 : Int32)) 14 10 (st' := []) rfl (y_cgt _ _) h (fun c85 h => ?_) (fun c85 h => ?_)
                · skip
                  refine xw.s (pc' := 15) (st' := [.inl (0 : Int32)]) rfl ?_
                  refine xw.retz (nx := 16) rfl (Or.inl rfl) ?_
                  show xw _ _ 49 [some (.inl a1), some (.inl a2), some (.inl a3)] [.inl (0 : Int32)] S _
                  refine xw.retz (nx := 50) rfl (Or.inl rfl) ?_
                  show xw _ _ 17 [some (.inr (some (0, 0))), some (.inl a1), some (.inl a2), some (.inl a3)] [.inl (0 : Int32)] S _
                  refine xw.bf (cd := .ne) (x := (0 : Int32)) (y := (0 : Int32)) 23 20 (st' := []) rfl (y_cne _ _) (by decide) ?_
                  refine xw.s (pc' := 22) (st' := [.inl (-2 : Int32)]) rfl ?_
                  exact xw.ret (r := (some (.inl (-2 : Int32)))) rfl h
                · skip
                  refine xw.s (pc' := 11) (st' := [.inl (1 : Int32)]) rfl ?_
                  refine xw.s (pc' := 15) (st' := [.inl (1 : Int32)]) rfl ?_
                  refine xw.retz (nx := 16) rfl (Or.inr rfl) ?_
                  show xw _ _ 49 [some (.inl a1), some (.inl a2), some (.inl a3)] [.inl (1 : Int32)] S _
                  refine xw.retz (nx := 50) rfl (Or.inr rfl) ?_
                  show xw _ _ 17 [some (.inr (some (0, 0))), some (.inl a1), some (.inl a2), some (.inl a3)] [.inl (1 : Int32)] S _
                  refine xw.bt (cd := .ne) (x := (1 : Int32)) (y := (0 : Int32)) 23 20 (st' := []) rfl (y_cne _ _) (by decide) ?_
                  refine xw.s (pc' := 24) (st' := [.inr (some (0, 0))]) rfl ?_
                  refine xw.fr (c := 0) (j := 11) (e := 12) (nx := 27) (t := (some 11)) rfl rfl (hC 11 (by decide)) ?_
                  show xw _ _ _ [some (.inr (some (0, 0))), some (.inl a1), some (.inl a2), some (.inl a3)] [.inr (some (12, 11))] _ _
                  refine xw.lsz (nx := 30) (n := (xm_n S 1 11)) rfl (Nat.le_of_ble_eq_true rfl) rfl ?_
                  refine xw.s (pc' := 32) (st' := [.inl (10 : Int32), .inl (nI (xm_n S 1 11))]) rfl ?_
                  refine xw.b (c := (nI (xm_n S 1 11)) < (10 : Int32)) (cd := .lt) (x := (nI (xm_n S 1 11))) (y := (10 : Int32)) 38 35 (st' := []) rfl (y_clt _ _) h (fun c86 h => ?_) (fun c86 h => ?_)
                  · skip
                    refine xw.s (pc' := 39) (st' := [.inr (some (0, 0))]) rfl ?_
                    refine xw.fr (c := 0) (j := 11) (e := 12) (nx := 42) (t := (some 11)) rfl rfl (hC 11 (by decide)) ?_
                    show xw _ _ _ [some (.inr (some (0, 0))), some (.inl a1), some (.inl a2), some (.inl a3)] [.inr (some (12, 11))] _ _
                    refine xw.s (pc' := 45) (st' := [.inr (some (1, (xm_n S 0 1))), .inr (some (12, 11))]) (S1 := xm_mk 1 6 S) rfl ?_
                    obtain ⟨k87, q88⟩ : ∃ k, k = xm_n S 0 1 := ⟨_, rfl⟩
                    rw [← q88]
                    replace h := h k87 q88
                    obtain ⟨S89, e90⟩ : ∃ s, s = xm_mk 1 6 S := ⟨_, rfl⟩
                    rw [← e90]
                    replace h := h S89 e90
                    refine xw.s (pc' := 46) (st' := [.inr (some (1, k87)), .inr (some (1, k87)), .inr (some (12, 11))]) rfl ?_
                    refine xw.s (pc' := 47) (st' := [.inl a1, .inr (some (1, k87)), .inr (some (1, k87)), .inr (some (12, 11))]) rfl ?_
                    refine xw.s (pc' := 48) (st' := [.inl a2, .inl a1, .inr (some (1, k87)), .inr (some (1, k87)), .inr (some (12, 11))]) rfl ?_
                    refine xw.s (pc' := 49) (st' := [.inl a3, .inl a2, .inl a1, .inr (some (1, k87)), .inr (some (1, k87)), .inr (some (12, 11))]) rfl ?_
                    refine xw.call (m := 92) (as := [.inr (some (1, k87)), .inl a1, .inl a2, .inl a3]) (nx := 52) (L' := [some (.inr (some (0, 0))), some (.inl a1), some (.inl a2), some (.inl a3)]) (st' := [.inr (some (1, k87)), .inr (some (12, 11))]) rfl (xc.mono h ?_)
                    rintro r S91 ⟨rfl, hC92, h⟩
                    show xw _ _ 52 [some (.inr (some (0, 0))), some (.inl a1), some (.inl a2), some (.inl a3)] [.inr (some (1, k87)), .inr (some (12, 11))] _ _
                    obtain ⟨z93, z94, h⟩ := h
                    refine xw.ladd (nx := 55) rfl (Nat.le_of_ble_eq_true rfl) (by decide) z93 z94 ?_
                    obtain ⟨S95, e96⟩ : ∃ s, s = xm_push 11 (1, k87) S91 := ⟨_, rfl⟩
                    rw [← e96]
                    replace h := h S95 e96
                    refine xw.s (pc' := 56) (st' := []) rfl ?_
                    refine xw.s (pc' := 57) (st' := [.inr (some (0, 0))]) rfl ?_
                    refine xw.fr (c := 0) (j := 11) (e := 12) (nx := 60) (t := (some 11)) rfl rfl ((congrArg (fun s => xm_r s 0 0 11) e96).trans (xr_push.trans (hC92 11 (by decide)))) ?_
                    show xw _ _ _ [some (.inr (some (0, 0))), some (.inl a1), some (.inl a2), some (.inl a3)] [.inr (some (12, 11))] _ _
                    refine xw.lsz (nx := 63) (n := (xm_n S95 1 11)) rfl (Nat.le_of_ble_eq_true rfl) rfl ?_
                    refine xw.s (pc' := 64) (st' := [.inl (1 : Int32), .inl (nI (xm_n S95 1 11))]) rfl ?_
                    refine xw.s (pc' := 65) (st' := [.inl ((nI (xm_n S95 1 11)) - (1 : Int32))]) rfl ?_
                    exact xw.ret (r := (some (.inl ((nI (xm_n S95 1 11)) - (1 : Int32))))) rfl h
                  · skip
                    refine xw.s (pc' := 37) (st' := [.inl (-3 : Int32)]) rfl ?_
                    exact xw.ret (r := (some (.inl (-3 : Int32)))) rfl h
            · skip
              refine xw.bw (2 : Int32) rfl h (fun c97 h => ?_) (fun c97 h => ?_)
              · skip
                refine xw.s (pc' := 51) (st' := [.inl a3]) rfl ?_
                refine xw.s (pc' := 52) (st' := [.inl (1 : Int32), .inl a3]) rfl ?_
                refine xw.s (pc' := 54) (st' := [.inl (10 : Int32), .inl (1 : Int32), .inl a3]) rfl ?_
                refine xw.call (m := 2) (as := [.inl a3, .inl (1 : Int32), .inl (10 : Int32)]) (nx := 57) (L' := [some (.inl a1), some (.inl a2), some (.inl a3)]) (st' := []) rfl ?_
                show xw _ _ _ [some (.inl a3), some (.inl (1 : Int32)), some (.inl (10 : Int32))] [] _ _
                refine xw.s (pc' := 1) (st' := [.inl a3]) rfl ?_
                refine xw.s (pc' := 2) (st' := [.inl (1 : Int32), .inl a3]) rfl ?_
                refine xw.b (c := a3 < (1 : Int32)) (cd := .lt) (x := a3) (y := (1 : Int32)) 14 5 (st' := []) rfl (y_clt _ _) h (fun c98 h => ?_) (fun c98 h => ?_)
                · skip
                  refine xw.s (pc' := 15) (st' := [.inl (0 : Int32)]) rfl ?_
                  refine xw.retz (nx := 16) rfl (Or.inl rfl) ?_
                  show xw _ _ 57 [some (.inl a1), some (.inl a2), some (.inl a3)] [.inl (0 : Int32)] S _
                  refine xw.retz (nx := 58) rfl (Or.inl rfl) ?_
                  show xw _ _ 17 [some (.inr (some (0, 0))), some (.inl a1), some (.inl a2), some (.inl a3)] [.inl (0 : Int32)] S _
                  refine xw.bf (cd := .ne) (x := (0 : Int32)) (y := (0 : Int32)) 23 20 (st' := []) rfl (y_cne _ _) (by decide) ?_
                  refine xw.s (pc' := 22) (st' := [.inl (-2 : Int32)]) rfl ?_
                  exact xw.ret (r := (some (.inl (-2 : Int32)))) rfl h
                · skip
                  refine xw.s (pc' := 6) (st' := [.inl a3]) rfl ?_
                  refine xw.s (pc' := 7) (st' := [.inl (10 : Int32), .inl a3]) rfl ?_
                  refine xw.b (c := (10 : Int32) < a3) (cd := .gt) (x := a3) (y := (10 : Int32)) 14 10 (st' := []) rfl (y_cgt _ _) h (fun c99 h => ?_) (fun c99 h => ?_)
                  · skip
                    refine xw.s (pc' := 15) (st' := [.inl (0 : Int32)]) rfl ?_
                    refine xw.retz (nx := 16) rfl (Or.inl rfl) ?_
                    show xw _ _ 57 [some (.inl a1), some (.inl a2), some (.inl a3)] [.inl (0 : Int32)] S _
                    refine xw.retz (nx := 58) rfl (Or.inl rfl) ?_
                    show xw _ _ 17 [some (.inr (some (0, 0))), some (.inl a1), some (.inl a2), some (.inl a3)] [.inl (0 : Int32)] S _
                    refine xw.bf (cd := .ne) (x := (0 : Int32)) (y := (0 : Int32)) 23 20 (st' := []) rfl (y_cne _ _) (by decide) ?_
                    refine xw.s (pc' := 22) (st' := [.inl (-2 : Int32)]) rfl ?_
                    exact xw.ret (r := (some (.inl (-2 : Int32)))) rfl h
                  · skip
                    refine xw.s (pc' := 11) (st' := [.inl (1 : Int32)]) rfl ?_
                    refine xw.s (pc' := 15) (st' := [.inl (1 : Int32)]) rfl ?_
                    refine xw.retz (nx := 16) rfl (Or.inr rfl) ?_
                    show xw _ _ 57 [some (.inl a1), some (.inl a2), some (.inl a3)] [.inl (1 : Int32)] S _
                    refine xw.retz (nx := 58) rfl (Or.inr rfl) ?_
                    show xw _ _ 17 [some (.inr (some (0, 0))), some (.inl a1), some (.inl a2), some (.inl a3)] [.inl (1 : Int32)] S _
                    refine xw.bt (cd := .ne) (x := (1 : Int32)) (y := (0 : Int32)) 23 20 (st' := []) rfl (y_cne _ _) (by decide) ?_
                    refine xw.s (pc' := 24) (st' := [.inr (some (0, 0))]) rfl ?_
                    refine xw.fr (c := 0) (j := 11) (e := 12) (nx := 27) (t := (some 11)) rfl rfl (hC 11 (by decide)) ?_
                    show xw _ _ _ [some (.inr (some (0, 0))), some (.inl a1), some (.inl a2), some (.inl a3)] [.inr (some (12, 11))] _ _
                    refine xw.lsz (nx := 30) (n := (xm_n S 1 11)) rfl (Nat.le_of_ble_eq_true rfl) rfl ?_
                    refine xw.s (pc' := 32) (st' := [.inl (10 : Int32), .inl (nI (xm_n S 1 11))]) rfl ?_
                    refine xw.b (c := (nI (xm_n S 1 11)) < (10 : Int32)) (cd := .lt) (x := (nI (xm_n S 1 11))) (y := (10 : Int32)) 38 35 (st' := []) rfl (y_clt _ _) h (fun c100 h => ?_) (fun c100 h => ?_)
                    · skip
                      refine xw.s (pc' := 39) (st' := [.inr (some (0, 0))]) rfl ?_
                      refine xw.fr (c := 0) (j := 11) (e := 12) (nx := 42) (t := (some 11)) rfl rfl (hC 11 (by decide)) ?_
                      show xw _ _ _ [some (.inr (some (0, 0))), some (.inl a1), some (.inl a2), some (.inl a3)] [.inr (some (12, 11))] _ _
                      refine xw.s (pc' := 45) (st' := [.inr (some (1, (xm_n S 0 1))), .inr (some (12, 11))]) (S1 := xm_mk 1 6 S) rfl ?_
                      obtain ⟨k101, q102⟩ : ∃ k, k = xm_n S 0 1 := ⟨_, rfl⟩
                      rw [← q102]
                      replace h := h k101 q102
                      obtain ⟨S103, e104⟩ : ∃ s, s = xm_mk 1 6 S := ⟨_, rfl⟩
                      rw [← e104]
                      replace h := h S103 e104
                      refine xw.s (pc' := 46) (st' := [.inr (some (1, k101)), .inr (some (1, k101)), .inr (some (12, 11))]) rfl ?_
                      refine xw.s (pc' := 47) (st' := [.inl a1, .inr (some (1, k101)), .inr (some (1, k101)), .inr (some (12, 11))]) rfl ?_
                      refine xw.s (pc' := 48) (st' := [.inl a2, .inl a1, .inr (some (1, k101)), .inr (some (1, k101)), .inr (some (12, 11))]) rfl ?_
                      refine xw.s (pc' := 49) (st' := [.inl a3, .inl a2, .inl a1, .inr (some (1, k101)), .inr (some (1, k101)), .inr (some (12, 11))]) rfl ?_
                      refine xw.call (m := 92) (as := [.inr (some (1, k101)), .inl a1, .inl a2, .inl a3]) (nx := 52) (L' := [some (.inr (some (0, 0))), some (.inl a1), some (.inl a2), some (.inl a3)]) (st' := [.inr (some (1, k101)), .inr (some (12, 11))]) rfl (xc.mono h ?_)
                      rintro r S105 ⟨rfl, hC106, h⟩
                      show xw _ _ 52 [some (.inr (some (0, 0))), some (.inl a1), some (.inl a2), some (.inl a3)] [.inr (some (1, k101)), .inr (some (12, 11))] _ _
                      obtain ⟨z107, z108, h⟩ := h
                      refine xw.ladd (nx := 55) rfl (Nat.le_of_ble_eq_true rfl) (by decide) z107 z108 ?_
                      obtain ⟨S109, e110⟩ : ∃ s, s = xm_push 11 (1, k101) S105 := ⟨_, rfl⟩
                      rw [← e110]
                      replace h := h S109 e110
                      refine xw.s (pc' := 56) (st' := []) rfl ?_
                      refine xw.s (pc' := 57) (st' := [.inr (some (0, 0))]) rfl ?_
                      refine xw.fr (c := 0) (j := 11) (e := 12) (nx := 60) (t := (some 11)) rfl rfl ((congrArg (fun s => xm_r s 0 0 11) e110).trans (xr_push.trans (hC106 11 (by decide)))) ?_
                      show xw _ _ _ [some (.inr (some (0, 0))), some (.inl a1), some (.inl a2), some (.inl a3)] [.inr (some (12, 11))] _ _
                      refine xw.lsz (nx := 63) (n := (xm_n S109 1 11)) rfl (Nat.le_of_ble_eq_true rfl) rfl ?_
                      refine xw.s (pc' := 64) (st' := [.inl (1 : Int32), .inl (nI (xm_n S109 1 11))]) rfl ?_
                      refine xw.s (pc' := 65) (st' := [.inl ((nI (xm_n S109 1 11)) - (1 : Int32))]) rfl ?_
                      exact xw.ret (r := (some (.inl ((nI (xm_n S109 1 11)) - (1 : Int32))))) rfl h
                    · skip
                      refine xw.s (pc' := 37) (st' := [.inl (-3 : Int32)]) rfl ?_
                      exact xw.ret (r := (some (.inl (-3 : Int32)))) rfl h
              · skip
                refine xw.bw (3 : Int32) rfl h (fun c111 h => ?_) (fun c111 h => ?_)
                · skip
                  refine xw.s (pc' := 59) (st' := [.inl a2]) rfl ?_
                  refine xw.bn (c := a2 = (0 : Int32)) (cd := .ne) (x := a2) (y := (0 : Int32)) 76 62 (st' := []) rfl (y_cne _ _) h (fun c112 h => ?_) (fun c112 h => ?_)
                  · skip
                    refine xw.s (pc' := 63) (st' := [.inl a3]) rfl ?_
                    refine xw.s (pc' := 64) (st' := [.inl (0 : Int32), .inl a3]) rfl ?_
                    refine xw.s (pc' := 66) (st' := [.inl (1000000 : Int32), .inl (0 : Int32), .inl a3]) rfl ?_
                    refine xw.call (m := 2) (as := [.inl a3, .inl (0 : Int32), .inl (1000000 : Int32)]) (nx := 69) (L' := [some (.inl a1), some (.inl a2), some (.inl a3)]) (st' := []) rfl ?_
                    show xw _ _ _ [some (.inl a3), some (.inl (0 : Int32)), some (.inl (1000000 : Int32))] [] _ _
                    refine xw.s (pc' := 1) (st' := [.inl a3]) rfl ?_
                    refine xw.s (pc' := 2) (st' := [.inl (0 : Int32), .inl a3]) rfl ?_
                    refine xw.b (c := a3 < (0 : Int32)) (cd := .lt) (x := a3) (y := (0 : Int32)) 14 5 (st' := []) rfl (y_clt _ _) h (fun c113 h => ?_) (fun c113 h => ?_)
                    · skip
                      refine xw.s (pc' := 15) (st' := [.inl (0 : Int32)]) rfl ?_
                      refine xw.retz (nx := 16) rfl (Or.inl rfl) ?_
                      show xw _ _ 69 [some (.inl a1), some (.inl a2), some (.inl a3)] [.inl (0 : Int32)] S _
                      refine xw.bt (cd := .eq) (x := (0 : Int32)) (y := (0 : Int32)) 76 72 (st' := []) rfl (y_ceq _ _) (by decide) ?_
                      refine xw.s (pc' := 77) (st' := [.inl (0 : Int32)]) rfl ?_
                      refine xw.retz (nx := 78) rfl (Or.inl rfl) ?_
                      show xw _ _ 17 [some (.inr (some (0, 0))), some (.inl a1), some (.inl a2), some (.inl a3)] [.inl (0 : Int32)] S _
                      refine xw.bf (cd := .ne) (x := (0 : Int32)) (y := (0 : Int32)) 23 20 (st' := []) rfl (y_cne _ _) (by decide) ?_
                      refine xw.s (pc' := 22) (st' := [.inl (-2 : Int32)]) rfl ?_
                      exact xw.ret (r := (some (.inl (-2 : Int32)))) rfl h
                    · skip
                      refine xw.s (pc' := 6) (st' := [.inl a3]) rfl ?_
                      refine xw.s (pc' := 7) (st' := [.inl (1000000 : Int32), .inl a3]) rfl ?_
                      refine xw.b (c := (1000000 : Int32) < a3) (cd := .gt) (x := a3) (y := (1000000 : Int32)) 14 10 (st' := []) rfl (y_cgt _ _) h (fun c114 h => ?_) (fun c114 h => ?_)
                      · skip
                        refine xw.s (pc' := 15) (st' := [.inl (0 : Int32)]) rfl ?_
                        refine xw.retz (nx := 16) rfl (Or.inl rfl) ?_
                        show xw _ _ 69 [some (.inl a1), some (.inl a2), some (.inl a3)] [.inl (0 : Int32)] S _
                        refine xw.bt (cd := .eq) (x := (0 : Int32)) (y := (0 : Int32)) 76 72 (st' := []) rfl (y_ceq _ _) (by decide) ?_
                        refine xw.s (pc' := 77) (st' := [.inl (0 : Int32)]) rfl ?_
                        refine xw.retz (nx := 78) rfl (Or.inl rfl) ?_
                        show xw _ _ 17 [some (.inr (some (0, 0))), some (.inl a1), some (.inl a2), some (.inl a3)] [.inl (0 : Int32)] S _
                        refine xw.bf (cd := .ne) (x := (0 : Int32)) (y := (0 : Int32)) 23 20 (st' := []) rfl (y_cne _ _) (by decide) ?_
                        refine xw.s (pc' := 22) (st' := [.inl (-2 : Int32)]) rfl ?_
                        exact xw.ret (r := (some (.inl (-2 : Int32)))) rfl h
                      · skip
                        refine xw.s (pc' := 11) (st' := [.inl (1 : Int32)]) rfl ?_
                        refine xw.s (pc' := 15) (st' := [.inl (1 : Int32)]) rfl ?_
                        refine xw.retz (nx := 16) rfl (Or.inr rfl) ?_
                        show xw _ _ 69 [some (.inl a1), some (.inl a2), some (.inl a3)] [.inl (1 : Int32)] S _
                        refine xw.bf (cd := .eq) (x := (1 : Int32)) (y := (0 : Int32)) 76 72 (st' := []) rfl (y_ceq _ _) (by decide) ?_
                        refine xw.s (pc' := 73) (st' := [.inl (1 : Int32)]) rfl ?_
                        refine xw.s (pc' := 77) (st' := [.inl (1 : Int32)]) rfl ?_
                        refine xw.retz (nx := 78) rfl (Or.inr rfl) ?_
                        show xw _ _ 17 [some (.inr (some (0, 0))), some (.inl a1), some (.inl a2), some (.inl a3)] [.inl (1 : Int32)] S _
                        refine xw.bt (cd := .ne) (x := (1 : Int32)) (y := (0 : Int32)) 23 20 (st' := []) rfl (y_cne _ _) (by decide) ?_
                        refine xw.s (pc' := 24) (st' := [.inr (some (0, 0))]) rfl ?_
                        refine xw.fr (c := 0) (j := 11) (e := 12) (nx := 27) (t := (some 11)) rfl rfl (hC 11 (by decide)) ?_
                        show xw _ _ _ [some (.inr (some (0, 0))), some (.inl a1), some (.inl a2), some (.inl a3)] [.inr (some (12, 11))] _ _
                        refine xw.lsz (nx := 30) (n := (xm_n S 1 11)) rfl (Nat.le_of_ble_eq_true rfl) rfl ?_
                        refine xw.s (pc' := 32) (st' := [.inl (10 : Int32), .inl (nI (xm_n S 1 11))]) rfl ?_
                        refine xw.b (c := (nI (xm_n S 1 11)) < (10 : Int32)) (cd := .lt) (x := (nI (xm_n S 1 11))) (y := (10 : Int32)) 38 35 (st' := []) rfl (y_clt _ _) h (fun c115 h => ?_) (fun c115 h => ?_)
                        · skip
                          refine xw.s (pc' := 39) (st' := [.inr (some (0, 0))]) rfl ?_
                          refine xw.fr (c := 0) (j := 11) (e := 12) (nx := 42) (t := (some 11)) rfl rfl (hC 11 (by decide)) ?_
                          show xw _ _ _ [some (.inr (some (0, 0))), some (.inl a1), some (.inl a2), some (.inl a3)] [.inr (some (12, 11))] _ _
                          refine xw.s (pc' := 45) (st' := [.inr (some (1, (xm_n S 0 1))), .inr (some (12, 11))]) (S1 := xm_mk 1 6 S) rfl ?_
                          obtain ⟨k116, q117⟩ : ∃ k, k = xm_n S 0 1 := ⟨_, rfl⟩
                          rw [← q117]
                          replace h := h k116 q117
                          obtain ⟨S118, e119⟩ : ∃ s, s = xm_mk 1 6 S := ⟨_, rfl⟩
                          rw [← e119]
                          replace h := h S118 e119
                          refine xw.s (pc' := 46) (st' := [.inr (some (1, k116)), .inr (some (1, k116)), .inr (some (12, 11))]) rfl ?_
                          refine xw.s (pc' := 47) (st' := [.inl a1, .inr (some (1, k116)), .inr (some (1, k116)), .inr (some (12, 11))]) rfl ?_
                          refine xw.s (pc' := 48) (st' := [.inl a2, .inl a1, .inr (some (1, k116)), .inr (some (1, k116)), .inr (some (12, 11))]) rfl ?_
                          refine xw.s (pc' := 49) (st' := [.inl a3, .inl a2, .inl a1, .inr (some (1, k116)), .inr (some (1, k116)), .inr (some (12, 11))]) rfl ?_
                          refine xw.call (m := 92) (as := [.inr (some (1, k116)), .inl a1, .inl a2, .inl a3]) (nx := 52) (L' := [some (.inr (some (0, 0))), some (.inl a1), some (.inl a2), some (.inl a3)]) (st' := [.inr (some (1, k116)), .inr (some (12, 11))]) rfl (xc.mono h ?_)
                          rintro r S120 ⟨rfl, hC121, h⟩
                          show xw _ _ 52 [some (.inr (some (0, 0))), some (.inl a1), some (.inl a2), some (.inl a3)] [.inr (some (1, k116)), .inr (some (12, 11))] _ _
                          obtain ⟨z122, z123, h⟩ := h
                          refine xw.ladd (nx := 55) rfl (Nat.le_of_ble_eq_true rfl) (by decide) z122 z123 ?_
                          obtain ⟨S124, e125⟩ : ∃ s, s = xm_push 11 (1, k116) S120 := ⟨_, rfl⟩
                          rw [← e125]
                          replace h := h S124 e125
                          refine xw.s (pc' := 56) (st' := []) rfl ?_
                          refine xw.s (pc' := 57) (st' := [.inr (some (0, 0))]) rfl ?_
                          refine xw.fr (c := 0) (j := 11) (e := 12) (nx := 60) (t := (some 11)) rfl rfl ((congrArg (fun s => xm_r s 0 0 11) e125).trans (xr_push.trans (hC121 11 (by decide)))) ?_
                          show xw _ _ _ [some (.inr (some (0, 0))), some (.inl a1), some (.inl a2), some (.inl a3)] [.inr (some (12, 11))] _ _
                          refine xw.lsz (nx := 63) (n := (xm_n S124 1 11)) rfl (Nat.le_of_ble_eq_true rfl) rfl ?_
                          refine xw.s (pc' := 64) (st' := [.inl (1 : Int32), .inl (nI (xm_n S124 1 11))]) rfl ?_
                          refine xw.s (pc' := 65) (st' := [.inl ((nI (xm_n S124 1 11)) - (1 : Int32))]) rfl ?_
                          exact xw.ret (r := (some (.inl ((nI (xm_n S124 1 11)) - (1 : Int32))))) rfl h
                        · skip
                          refine xw.s (pc' := 37) (st' := [.inl (-3 : Int32)]) rfl ?_
                          exact xw.ret (r := (some (.inl (-3 : Int32)))) rfl h
                  · skip
                    refine xw.s (pc' := 77) (st' := [.inl (0 : Int32)]) rfl ?_
                    refine xw.retz (nx := 78) rfl (Or.inl rfl) ?_
                    show xw _ _ 17 [some (.inr (some (0, 0))), some (.inl a1), some (.inl a2), some (.inl a3)] [.inl (0 : Int32)] S _
                    refine xw.bf (cd := .ne) (x := (0 : Int32)) (y := (0 : Int32)) 23 20 (st' := []) rfl (y_cne _ _) (by decide) ?_
                    refine xw.s (pc' := 22) (st' := [.inl (-2 : Int32)]) rfl ?_
                    exact xw.ret (r := (some (.inl (-2 : Int32)))) rfl h
                · skip
                  refine xw.s (pc' := 79) (st' := [.inl (0 : Int32)]) rfl ?_
                  refine xw.retz (nx := 80) rfl (Or.inl rfl) ?_
                  show xw _ _ 17 [some (.inr (some (0, 0))), some (.inl a1), some (.inl a2), some (.inl a3)] [.inl (0 : Int32)] S _
                  refine xw.bf (cd := .ne) (x := (0 : Int32)) (y := (0 : Int32)) 23 20 (st' := []) rfl (y_cne _ _) (by decide) ?_
                  refine xw.s (pc' := 22) (st' := [.inl (-2 : Int32)]) rfl ?_
                  exact xw.ret (r := (some (.inl (-2 : Int32)))) rfl h
    · skip
      refine xw.bw (2 : Int32) rfl h (fun c126 h => ?_) (fun c126 h => ?_)
      · skip
        refine xw.s (pc' := 58) (st' := [.inr (some (0, 0))]) rfl ?_
        refine xw.s (pc' := 59) (st' := [.inl (1 : Int32), .inr (some (0, 0))]) rfl ?_
        refine xw.s (pc' := 60) (st' := [.inl a2, .inl (1 : Int32), .inr (some (0, 0))]) rfl ?_
        refine xw.call (m := 69) (as := [.inr (some (0, 0)), .inl (1 : Int32), .inl a2]) (nx := 63) (L' := [some (.inr (some (0, 0))), some (.inl a1), some (.inl a2)]) (st' := []) rfl ?_
        show xw _ _ _ [some (.inr (some (0, 0))), some (.inl (1 : Int32)), some (.inl a2), none] [] _ _
        refine xw.s (pc' := 1) (st' := [.inr (some (0, 0))]) rfl ?_
        refine xw.s (pc' := 2) (st' := [.inl a2, .inr (some (0, 0))]) rfl ?_
        refine xw.call (m := 10) (as := [.inr (some (0, 0)), .inl a2]) (nx := 5) (L' := [some (.inr (some (0, 0))), some (.inl (1 : Int32)), some (.inl a2), none]) (st' := []) rfl ?_
        show xw _ _ _ [some (.inr (some (0, 0))), some (.inl a2)] [] _ _
        refine xw.s (pc' := 1) (st' := [.inl a2]) rfl ?_
        refine xw.b (c := a2 < (0 : Int32)) (cd := .lt) (x := a2) (y := (0 : Int32)) 29 4 (st' := []) rfl (y_clt _ _) h (fun c127 h => ?_) (fun c127 h => ?_)
        · skip
          refine xw.s (pc' := 30) (st' := [.inr none]) rfl ?_
          refine xw.ret (r := some (.inr none)) rfl ?_
          show xw _ _ 5 [some (.inr (some (0, 0))), some (.inl (1 : Int32)), some (.inl a2), none] [.inr none] S _
          refine xw.s (pc' := 6) (st' := []) (L' := [some (.inr (some (0, 0))), some (.inl (1 : Int32)), some (.inl a2), some (.inr none)]) rfl ?_
          refine xw.s (pc' := 7) (st' := [.inr none]) rfl ?_
          refine xw.s (pc' := 22) (st' := []) rfl ?_
          refine xw.s (pc' := 23) (st' := [.inr none]) rfl ?_
          refine xw.ret (r := some (.inr none)) rfl ?_
          show xw _ _ 63 [some (.inr (some (0, 0))), some (.inl a1), some (.inl a2)] [.inr none] S _
          refine xw.s (pc' := 66) (st' := []) rfl ?_
          refine xw.s (pc' := 67) (st' := [.inl (1 : Int32)]) rfl ?_
          refine xw.s (pc' := 71) (st' := [.inl (1 : Int32)]) rfl ?_
          refine xw.retz (nx := 72) rfl (Or.inr rfl) ?_
          show xw _ _ 6 [some (.inr (some (0, 0))), some (.inl a1), some (.inl a2), some (.inl a3)] [.inl (1 : Int32)] S _
          refine xw.bf (cd := .eq) (x := (1 : Int32)) (y := (0 : Int32)) 11 9 (st' := []) rfl (y_ceq _ _) (by decide) ?_
          refine xw.s (pc' := 10) (st' := [.inl (-1 : Int32)]) rfl ?_
          exact xw.ret (r := (some (.inl (-1 : Int32)))) rfl h
        · skip
          refine xw.s (pc' := 5) (st' := [.inl a2]) rfl ?_
          refine xw.s (pc' := 6) (st' := [.inr (some (0, 0)), .inl a2]) rfl ?_
          refine xw.fr (c := 0) (j := 3) (e := 12) (nx := 9) (t := (some 3)) rfl rfl (hC 3 (by decide)) ?_
          show xw _ _ _ [some (.inr (some (0, 0))), some (.inl a2)] [.inr (some (12, 3)), .inl a2] _ _
          refine xw.lsz (nx := 12) (n := (xm_n S 1 3)) rfl (Nat.le_of_ble_eq_true rfl) rfl ?_
          refine xw.b (c := (nI (xm_n S 1 3)) ≤ a2) (cd := .ge) (x := a2) (y := (nI (xm_n S 1 3))) 29 15 (st' := []) rfl (y_cge _ _) h (fun c128 h => ?_) (fun c128 h => ?_)
          · skip
            refine xw.s (pc' := 30) (st' := [.inr none]) rfl ?_
            refine xw.ret (r := some (.inr none)) rfl ?_
            show xw _ _ 5 [some (.inr (some (0, 0))), some (.inl (1 : Int32)), some (.inl a2), none] [.inr none] S _
            refine xw.s (pc' := 6) (st' := []) (L' := [some (.inr (some (0, 0))), some (.inl (1 : Int32)), some (.inl a2), some (.inr none)]) rfl ?_
            refine xw.s (pc' := 7) (st' := [.inr none]) rfl ?_
            refine xw.s (pc' := 22) (st' := []) rfl ?_
            refine xw.s (pc' := 23) (st' := [.inr none]) rfl ?_
            refine xw.ret (r := some (.inr none)) rfl ?_
            show xw _ _ 63 [some (.inr (some (0, 0))), some (.inl a1), some (.inl a2)] [.inr none] S _
            refine xw.s (pc' := 66) (st' := []) rfl ?_
            refine xw.s (pc' := 67) (st' := [.inl (1 : Int32)]) rfl ?_
            refine xw.s (pc' := 71) (st' := [.inl (1 : Int32)]) rfl ?_
            refine xw.retz (nx := 72) rfl (Or.inr rfl) ?_
            show xw _ _ 6 [some (.inr (some (0, 0))), some (.inl a1), some (.inl a2), some (.inl a3)] [.inl (1 : Int32)] S _
            refine xw.bf (cd := .eq) (x := (1 : Int32)) (y := (0 : Int32)) 11 9 (st' := []) rfl (y_ceq _ _) (by decide) ?_
            refine xw.s (pc' := 10) (st' := [.inl (-1 : Int32)]) rfl ?_
            exact xw.ret (r := (some (.inl (-1 : Int32)))) rfl h
          · skip
            refine xw.s (pc' := 16) (st' := [.inr (some (0, 0))]) rfl ?_
            refine xw.fr (c := 0) (j := 3) (e := 12) (nx := 19) (t := (some 3)) rfl rfl (hC 3 (by decide)) ?_
            show xw _ _ _ [some (.inr (some (0, 0))), some (.inl a2)] [.inr (some (12, 3))] _ _
            refine xw.s (pc' := 20) (st' := [.inl a2, .inr (some (12, 3))]) rfl ?_
            obtain ⟨z129, h⟩ := h
            obtain ⟨k130, q131, h⟩ := h
            refine xw.get (nx := 23) (p := (5, k130)) rfl (Nat.le_of_ble_eq_true rfl) z129 q131 ?_
            refine xw.s (pc' := 26) (st' := [.inr (some (5, k130))]) rfl ?_
            refine xw.s (pc' := 30) (st' := [.inr (some (5, k130))]) rfl ?_
            refine xw.ret (r := some (.inr (some (5, k130)))) rfl ?_
            show xw _ _ 5 [some (.inr (some (0, 0))), some (.inl (1 : Int32)), some (.inl a2), none] [.inr (some (5, k130))] S _
            refine xw.s (pc' := 6) (st' := []) (L' := [some (.inr (some (0, 0))), some (.inl (1 : Int32)), some (.inl a2), some (.inr (some (5, k130)))]) rfl ?_
            refine xw.s (pc' := 7) (st' := [.inr (some (5, k130))]) rfl ?_
            refine xw.s (pc' := 10) (st' := []) rfl ?_
            refine xw.s (pc' := 11) (st' := [.inr (some (5, k130))]) rfl ?_
            refine xw.fi (c := 5) (j := 1) (ty := 0) (nx := 14) (v := (xm_i S 5 k130 1)) rfl rfl rfl ?_
            refine xw.s (pc' := 15) (st' := [.inl (1 : Int32), .inl (xm_i S 5 k130 1)]) rfl ?_
            refine xw.bn (c := (xm_i S 5 k130 1) = (1 : Int32)) (cd := .ne) (x := (xm_i S 5 k130 1)) (y := (1 : Int32)) 22 18 (st' := []) rfl (y_cne _ _) h (fun c132 h => ?_) (fun c132 h => ?_)
            · skip
              refine xw.s (pc' := 19) (st' := [.inr (some (5, k130))]) rfl ?_
              refine xw.s (pc' := 23) (st' := [.inr (some (5, k130))]) rfl ?_
              refine xw.ret (r := some (.inr (some (5, k130)))) rfl ?_
              show xw _ _ 63 [some (.inr (some (0, 0))), some (.inl a1), some (.inl a2)] [.inr (some (5, k130))] S _
              refine xw.s (pc' := 70) (st' := []) rfl ?_
              refine xw.s (pc' := 71) (st' := [.inl (0 : Int32)]) rfl ?_
              refine xw.retz (nx := 72) rfl (Or.inl rfl) ?_
              show xw _ _ 6 [some (.inr (some (0, 0))), some (.inl a1), some (.inl a2), some (.inl a3)] [.inl (0 : Int32)] S _
              refine xw.bt (cd := .eq) (x := (0 : Int32)) (y := (0 : Int32)) 11 9 (st' := []) rfl (y_ceq _ _) (by decide) ?_
              refine xw.s (pc' := 12) (st' := [.inl a1]) rfl ?_
              refine xw.s (pc' := 13) (st' := [.inl a2, .inl a1]) rfl ?_
              refine xw.s (pc' := 14) (st' := [.inl a3, .inl a2, .inl a1]) rfl ?_
              refine xw.call (m := 70) (as := [.inl a1, .inl a2, .inl a3]) (nx := 17) (L' := [some (.inr (some (0, 0))), some (.inl a1), some (.inl a2), some (.inl a3)]) (st' := []) rfl ?_
              show xw _ _ _ [some (.inl a1), some (.inl a2), some (.inl a3)] [] _ _
              refine xw.s (pc' := 1) (st' := [.inl a1]) rfl ?_
              refine xw.ts1 rfl rfl ?_
              refine xw.bw (0 : Int32) rfl h (fun c133 h => ?_) (fun c133 h => ?_)
              · skip
                refine xw.s (pc' := 33) (st' := [.inl a3]) rfl ?_
                refine xw.bn (c := a3 = (0 : Int32)) (cd := .ne) (x := a3) (y := (0 : Int32)) 40 36 (st' := []) rfl (y_cne _ _) h (fun c134 h => ?_) (fun c134 h => ?_)
                · skip
                  refine xw.s (pc' := 37) (st' := [.inl (1 : Int32)]) rfl ?_
                  refine xw.s (pc' := 41) (st' := [.inl (1 : Int32)]) rfl ?_
                  refine xw.retz (nx := 42) rfl (Or.inr rfl) ?_
                  show xw _ _ 17 [some (.inr (some (0, 0))), some (.inl a1), some (.inl a2), some (.inl a3)] [.inl (1 : Int32)] S _
                  refine xw.bt (cd := .ne) (x := (1 : Int32)) (y := (0 : Int32)) 23 20 (st' := []) rfl (y_cne _ _) (by decide) ?_
                  refine xw.s (pc' := 24) (st' := [.inr (some (0, 0))]) rfl ?_
                  refine xw.fr (c := 0) (j := 11) (e := 12) (nx := 27) (t := (some 11)) rfl rfl (hC 11 (by decide)) ?_
                  show xw _ _ _ [some (.inr (some (0, 0))), some (.inl a1), some (.inl a2), some (.inl a3)] [.inr (some (12, 11))] _ _
                  refine xw.lsz (nx := 30) (n := (xm_n S 1 11)) rfl (Nat.le_of_ble_eq_true rfl) rfl ?_
                  refine xw.s (pc' := 32) (st' := [.inl (10 : Int32), .inl (nI (xm_n S 1 11))]) rfl ?_
                  refine xw.b (c := (nI (xm_n S 1 11)) < (10 : Int32)) (cd := .lt) (x := (nI (xm_n S 1 11))) (y := (10 : Int32)) 38 35 (st' := []) rfl (y_clt _ _) h (fun c135 h => ?_) (fun c135 h => ?_)
                  · skip
                    refine xw.s (pc' := 39) (st' := [.inr (some (0, 0))]) rfl ?_
                    refine xw.fr (c := 0) (j := 11) (e := 12) (nx := 42) (t := (some 11)) rfl rfl (hC 11 (by decide)) ?_
                    show xw _ _ _ [some (.inr (some (0, 0))), some (.inl a1), some (.inl a2), some (.inl a3)] [.inr (some (12, 11))] _ _
                    refine xw.s (pc' := 45) (st' := [.inr (some (1, (xm_n S 0 1))), .inr (some (12, 11))]) (S1 := xm_mk 1 6 S) rfl ?_
                    obtain ⟨k136, q137⟩ : ∃ k, k = xm_n S 0 1 := ⟨_, rfl⟩
                    rw [← q137]
                    replace h := h k136 q137
                    obtain ⟨S138, e139⟩ : ∃ s, s = xm_mk 1 6 S := ⟨_, rfl⟩
                    rw [← e139]
                    replace h := h S138 e139
                    refine xw.s (pc' := 46) (st' := [.inr (some (1, k136)), .inr (some (1, k136)), .inr (some (12, 11))]) rfl ?_
                    refine xw.s (pc' := 47) (st' := [.inl a1, .inr (some (1, k136)), .inr (some (1, k136)), .inr (some (12, 11))]) rfl ?_
                    refine xw.s (pc' := 48) (st' := [.inl a2, .inl a1, .inr (some (1, k136)), .inr (some (1, k136)), .inr (some (12, 11))]) rfl ?_
                    refine xw.s (pc' := 49) (st' := [.inl a3, .inl a2, .inl a1, .inr (some (1, k136)), .inr (some (1, k136)), .inr (some (12, 11))]) rfl ?_
                    refine xw.call (m := 92) (as := [.inr (some (1, k136)), .inl a1, .inl a2, .inl a3]) (nx := 52) (L' := [some (.inr (some (0, 0))), some (.inl a1), some (.inl a2), some (.inl a3)]) (st' := [.inr (some (1, k136)), .inr (some (12, 11))]) rfl (xc.mono h ?_)
                    rintro r S140 ⟨rfl, hC141, h⟩
                    show xw _ _ 52 [some (.inr (some (0, 0))), some (.inl a1), some (.inl a2), some (.inl a3)] [.inr (some (1, k136)), .inr (some (12, 11))] _ _
                    obtain ⟨z142, z143, h⟩ := h
                    refine xw.ladd (nx := 55) rfl (Nat.le_of_ble_eq_true rfl) (by decide) z142 z143 ?_
                    obtain ⟨S144, e145⟩ : ∃ s, s = xm_push 11 (1, k136) S140 := ⟨_, rfl⟩
                    rw [← e145]
                    replace h := h S144 e145
                    refine xw.s (pc' := 56) (st' := []) rfl ?_
                    refine xw.s (pc' := 57) (st' := [.inr (some (0, 0))]) rfl ?_
                    refine xw.fr (c := 0) (j := 11) (e := 12) (nx := 60) (t := (some 11)) rfl rfl ((congrArg (fun s => xm_r s 0 0 11) e145).trans (xr_push.trans (hC141 11 (by decide)))) ?_
                    show xw _ _ _ [some (.inr (some (0, 0))), some (.inl a1), some (.inl a2), some (.inl a3)] [.inr (some (12, 11))] _ _
                    refine xw.lsz (nx := 63) (n := (xm_n S144 1 11)) rfl (Nat.le_of_ble_eq_true rfl) rfl ?_
                    refine xw.s (pc' := 64) (st' := [.inl (1 : Int32), .inl (nI (xm_n S144 1 11))]) rfl ?_
                    refine xw.s (pc' := 65) (st' := [.inl ((nI (xm_n S144 1 11)) - (1 : Int32))]) rfl ?_
                    exact xw.ret (r := (some (.inl ((nI (xm_n S144 1 11)) - (1 : Int32))))) rfl h
                  · skip
                    refine xw.s (pc' := 37) (st' := [.inl (-3 : Int32)]) rfl ?_
                    exact xw.ret (r := (some (.inl (-3 : Int32)))) rfl h
                · skip
                  refine xw.s (pc' := 41) (st' := [.inl (0 : Int32)]) rfl ?_
                  refine xw.retz (nx := 42) rfl (Or.inl rfl) ?_
                  show xw _ _ 17 [some (.inr (some (0, 0))), some (.inl a1), some (.inl a2), some (.inl a3)] [.inl (0 : Int32)] S _
                  refine xw.bf (cd := .ne) (x := (0 : Int32)) (y := (0 : Int32)) 23 20 (st' := []) rfl (y_cne _ _) (by decide) ?_
                  refine xw.s (pc' := 22) (st' := [.inl (-2 : Int32)]) rfl ?_
                  exact xw.ret (r := (some (.inl (-2 : Int32)))) rfl h
              · skip
                refine xw.bw (1 : Int32) rfl h (fun c146 h => ?_) (fun c146 h => ?_)
                · skip
                  refine xw.s (pc' := 43) (st' := [.inl a3]) rfl ?_
                  refine xw.s (pc' := 44) (st' := [.inl (0 : Int32), .inl a3]) rfl ?_
                  refine xw.s (pc' := 46) (st' := [.inl (1000000 : Int32), .inl (0 : Int32), .inl a3]) rfl ?_
                  refine xw.call (m := 2) (as := [.inl a3, .inl (0 : Int32), .inl (1000000 : Int32)]) (nx := 49) (L' := [some (.inl a1), some (.inl a2), some (.inl a3)]) (st' := []) rfl ?_
                  show xw _ _ _ [some (.inl a3), some (.inl (0 : Int32)), some (.inl (1000000 : Int32))] [] _ _
                  refine xw.s (pc' := 1) (st' := [.inl a3]) rfl ?_
                  refine xw.s (pc' := 2) (st' := [.inl (0 : Int32), .inl a3]) rfl ?_
                  refine xw.b (c := a3 < (0 : Int32)) (cd := .lt) (x := a3) (y := (0 : Int32)) 14 5 (st' := []) rfl (y_clt _ _) h (fun c147 h => ?_) (fun c147 h => ?_)
                  · skip
                    refine xw.s (pc' := 15) (st' := [.inl (0 : Int32)]) rfl ?_
                    refine xw.retz (nx := 16) rfl (Or.inl rfl) ?_
                    show xw _ _ 49 [some (.inl a1), some (.inl a2), some (.inl a3)] [.inl (0 : Int32)] S _
                    refine xw.retz (nx := 50) rfl (Or.inl rfl) ?_
                    show xw _ _ 17 [some (.inr (some (0, 0))), some (.inl a1), some (.inl a2), some (.inl a3)] [.inl (0 : Int32)] S _
                    refine xw.bf (cd := .ne) (x := (0 : Int32)) (y := (0 : Int32)) 23 20 (st' := []) rfl (y_cne _ _) (by decide) ?_
                    refine xw.s (pc' := 22) (st' := [.inl (-2 : Int32)]) rfl ?_
                    exact xw.ret (r := (some (.inl (-2 : Int32)))) rfl h
                  · skip
                    refine xw.s (pc' := 6) (st' := [.inl a3]) rfl ?_
                    refine xw.s (pc' := 7) (st' := [.inl (1000000 : Int32), .inl a3]) rfl ?_
                    refine xw.b (c := (1000000 : Int32) < a3) (cd := .gt) (x := a3) (y := (1000000 : Int32)) 14 10 (st' := []) rfl (y_cgt _ _) h (fun c148 h => ?_) (fun c148 h => ?_)
                    · skip
                      refine xw.s (pc' := 15) (st' := [.inl (0 : Int32)]) rfl ?_
                      refine xw.retz (nx := 16) rfl (Or.inl rfl) ?_
                      show xw _ _ 49 [some (.inl a1), some (.inl a2), some (.inl a3)] [.inl (0 : Int32)] S _
                      refine xw.retz (nx := 50) rfl (Or.inl rfl) ?_
                      show xw _ _ 17 [some (.inr (some (0, 0))), some (.inl a1), some (.inl a2), some (.inl a3)] [.inl (0 : Int32)] S _
                      refine xw.bf (cd := .ne) (x := (0 : Int32)) (y := (0 : Int32)) 23 20 (st' := []) rfl (y_cne _ _) (by decide) ?_
                      refine xw.s (pc' := 22) (st' := [.inl (-2 : Int32)]) rfl ?_
                      exact xw.ret (r := (some (.inl (-2 : Int32)))) rfl h
                    · skip
                      refine xw.s (pc' := 11) (st' := [.inl (1 : Int32)]) rfl ?_
                      refine xw.s (pc' := 15) (st' := [.inl (1 : Int32)]) rfl ?_
                      refine xw.retz (nx := 16) rfl (Or.inr rfl) ?_
                      show xw _ _ 49 [some (.inl a1), some (.inl a2), some (.inl a3)] [.inl (1 : Int32)] S _
                      refine xw.retz (nx := 50) rfl (Or.inr rfl) ?_
                      show xw _ _ 17 [some (.inr (some (0, 0))), some (.inl a1), some (.inl a2), some (.inl a3)] [.inl (1 : Int32)] S _
                      refine xw.bt (cd := .ne) (x := (1 : Int32)) (y := (0 : Int32)) 23 20 (st' := []) rfl (y_cne _ _) (by decide) ?_
                      refine xw.s (pc' := 24) (st' := [.inr (some (0, 0))]) rfl ?_
                      refine xw.fr (c := 0) (j := 11) (e := 12) (nx := 27) (t := (some 11)) rfl rfl (hC 11 (by decide)) ?_
                      show xw _ _ _ [some (.inr (some (0, 0))), some (.inl a1), some (.inl a2), some (.inl a3)] [.inr (some (12, 11))] _ _
                      refine xw.lsz (nx := 30) (n := (xm_n S 1 11)) rfl (Nat.le_of_ble_eq_true rfl) rfl ?_
                      refine xw.s (pc' := 32) (st' := [.inl (10 : Int32), .inl (nI (xm_n S 1 11))]) rfl ?_
                      refine xw.b (c := (nI (xm_n S 1 11)) < (10 : Int32)) (cd := .lt) (x := (nI (xm_n S 1 11))) (y := (10 : Int32)) 38 35 (st' := []) rfl (y_clt _ _) h (fun c149 h => ?_) (fun c149 h => ?_)
                      · skip
                        refine xw.s (pc' := 39) (st' := [.inr (some (0, 0))]) rfl ?_
                        refine xw.fr (c := 0) (j := 11) (e := 12) (nx := 42) (t := (some 11)) rfl rfl (hC 11 (by decide)) ?_
                        show xw _ _ _ [some (.inr (some (0, 0))), some (.inl a1), some (.inl a2), some (.inl a3)] [.inr (some (12, 11))] _ _
                        refine xw.s (pc' := 45) (st' := [.inr (some (1, (xm_n S 0 1))), .inr (some (12, 11))]) (S1 := xm_mk 1 6 S) rfl ?_
                        obtain ⟨k150, q151⟩ : ∃ k, k = xm_n S 0 1 := ⟨_, rfl⟩
                        rw [← q151]
                        replace h := h k150 q151
                        obtain ⟨S152, e153⟩ : ∃ s, s = xm_mk 1 6 S := ⟨_, rfl⟩
                        rw [← e153]
                        replace h := h S152 e153
                        refine xw.s (pc' := 46) (st' := [.inr (some (1, k150)), .inr (some (1, k150)), .inr (some (12, 11))]) rfl ?_
                        refine xw.s (pc' := 47) (st' := [.inl a1, .inr (some (1, k150)), .inr (some (1, k150)), .inr (some (12, 11))]) rfl ?_
                        refine xw.s (pc' := 48) (st' := [.inl a2, .inl a1, .inr (some (1, k150)), .inr (some (1, k150)), .inr (some (12, 11))]) rfl ?_
                        refine xw.s (pc' := 49) (st' := [.inl a3, .inl a2, .inl a1, .inr (some (1, k150)), .inr (some (1, k150)), .inr (some (12, 11))]) rfl ?_
                        refine xw.call (m := 92) (as := [.inr (some (1, k150)), .inl a1, .inl a2, .inl a3]) (nx := 52) (L' := [some (.inr (some (0, 0))), some (.inl a1), some (.inl a2), some (.inl a3)]) (st' := [.inr (some (1, k150)), .inr (some (12, 11))]) rfl (xc.mono h ?_)
                        rintro r S154 ⟨rfl, hC155, h⟩
                        show xw _ _ 52 [some (.inr (some (0, 0))), some (.inl a1), some (.inl a2), some (.inl a3)] [.inr (some (1, k150)), .inr (some (12, 11))] _ _
                        obtain ⟨z156, z157, h⟩ := h
                        refine xw.ladd (nx := 55) rfl (Nat.le_of_ble_eq_true rfl) (by decide) z156 z157 ?_
                        obtain ⟨S158, e159⟩ : ∃ s, s = xm_push 11 (1, k150) S154 := ⟨_, rfl⟩
                        rw [← e159]
                        replace h := h S158 e159
                        refine xw.s (pc' := 56) (st' := []) rfl ?_
                        refine xw.s (pc' := 57) (st' := [.inr (some (0, 0))]) rfl ?_
                        refine xw.fr (c := 0) (j := 11) (e := 12) (nx := 60) (t := (some 11)) rfl rfl ((congrArg (fun s => xm_r s 0 0 11) e159).trans (xr_push.trans (hC155 11 (by decide)))) ?_
                        show xw _ _ _ [some (.inr (some (0, 0))), some (.inl a1), some (.inl a2), some (.inl a3)] [.inr (some (12, 11))] _ _
                        refine xw.lsz (nx := 63) (n := (xm_n S158 1 11)) rfl (Nat.le_of_ble_eq_true rfl) rfl ?_
                        refine xw.s (pc' := 64) (st' := [.inl (1 : Int32), .inl (nI (xm_n S158 1 11))]) rfl ?_
                        refine xw.s (pc' := 65) (st' := [.inl ((nI (xm_n S158 1 11)) - (1 : Int32))]) rfl ?_
                        exact xw.ret (r := (some (.inl ((nI (xm_n S158 1 11)) - (1 : Int32))))) rfl h
                      · skip
                        refine xw.s (pc' := 37) (st' := [.inl (-3 : Int32)]) rfl ?_
                        exact xw.ret (r := (some (.inl (-3 : Int32)))) rfl h
                · skip
                  refine xw.bw (2 : Int32) rfl h (fun c160 h => ?_) (fun c160 h => ?_)
                  · skip
                    refine xw.s (pc' := 51) (st' := [.inl a3]) rfl ?_
                    refine xw.s (pc' := 52) (st' := [.inl (1 : Int32), .inl a3]) rfl ?_
                    refine xw.s (pc' := 54) (st' := [.inl (10 : Int32), .inl (1 : Int32), .inl a3]) rfl ?_
                    refine xw.call (m := 2) (as := [.inl a3, .inl (1 : Int32), .inl (10 : Int32)]) (nx := 57) (L' := [some (.inl a1), some (.inl a2), some (.inl a3)]) (st' := []) rfl ?_
                    show xw _ _ _ [some (.inl a3), some (.inl (1 : Int32)), some (.inl (10 : Int32))] [] _ _
                    refine xw.s (pc' := 1) (st' := [.inl a3]) rfl ?_
                    refine xw.s (pc' := 2) (st' := [.inl (1 : Int32), .inl a3]) rfl ?_
                    refine xw.b (c := a3 < (1 : Int32)) (cd := .lt) (x := a3) (y := (1 : Int32)) 14 5 (st' := []) rfl (y_clt _ _) h (fun c161 h => ?_) (fun c161 h => ?_)
                    · skip
                      refine xw.s (pc' := 15) (st' := [.inl (0 : Int32)]) rfl ?_
                      refine xw.retz (nx := 16) rfl (Or.inl rfl) ?_
                      show xw _ _ 57 [some (.inl a1), some (.inl a2), some (.inl a3)] [.inl (0 : Int32)] S _
                      refine xw.retz (nx := 58) rfl (Or.inl rfl) ?_
                      show xw _ _ 17 [some (.inr (some (0, 0))), some (.inl a1), some (.inl a2), some (.inl a3)] [.inl (0 : Int32)] S _
                      refine xw.bf (cd := .ne) (x := (0 : Int32)) (y := (0 : Int32)) 23 20 (st' := []) rfl (y_cne _ _) (by decide) ?_
                      refine xw.s (pc' := 22) (st' := [.inl (-2 : Int32)]) rfl ?_
                      exact xw.ret (r := (some (.inl (-2 : Int32)))) rfl h
                    · skip
                      refine xw.s (pc' := 6) (st' := [.inl a3]) rfl ?_
                      refine xw.s (pc' := 7) (st' := [.inl (10 : Int32), .inl a3]) rfl ?_
                      refine xw.b (c := (10 : Int32) < a3) (cd := .gt) (x := a3) (y := (10 : Int32)) 14 10 (st' := []) rfl (y_cgt _ _) h (fun c162 h => ?_) (fun c162 h => ?_)
                      · skip
                        refine xw.s (pc' := 15) (st' := [.inl (0 : Int32)]) rfl ?_
                        refine xw.retz (nx := 16) rfl (Or.inl rfl) ?_
                        show xw _ _ 57 [some (.inl a1), some (.inl a2), some (.inl a3)] [.inl (0 : Int32)] S _
                        refine xw.retz (nx := 58) rfl (Or.inl rfl) ?_
                        show xw _ _ 17 [some (.inr (some (0, 0))), some (.inl a1), some (.inl a2), some (.inl a3)] [.inl (0 : Int32)] S _
                        refine xw.bf (cd := .ne) (x := (0 : Int32)) (y := (0 : Int32)) 23 20 (st' := []) rfl (y_cne _ _) (by decide) ?_
                        refine xw.s (pc' := 22) (st' := [.inl (-2 : Int32)]) rfl ?_
                        exact xw.ret (r := (some (.inl (-2 : Int32)))) rfl h
                      · skip
                        refine xw.s (pc' := 11) (st' := [.inl (1 : Int32)]) rfl ?_
                        refine xw.s (pc' := 15) (st' := [.inl (1 : Int32)]) rfl ?_
                        refine xw.retz (nx := 16) rfl (Or.inr rfl) ?_
                        show xw _ _ 57 [some (.inl a1), some (.inl a2), some (.inl a3)] [.inl (1 : Int32)] S _
                        refine xw.retz (nx := 58) rfl (Or.inr rfl) ?_
                        show xw _ _ 17 [some (.inr (some (0, 0))), some (.inl a1), some (.inl a2), some (.inl a3)] [.inl (1 : Int32)] S _
                        refine xw.bt (cd := .ne) (x := (1 : Int32)) (y := (0 : Int32)) 23 20 (st' := []) rfl (y_cne _ _) (by decide) ?_
                        refine xw.s (pc' := 24) (st' := [.inr (some (0, 0))]) rfl ?_
                        refine xw.fr (c := 0) (j := 11) (e := 12) (nx := 27) (t := (some 11)) rfl rfl (hC 11 (by decide)) ?_
                        show xw _ _ _ [some (.inr (some (0, 0))), some (.inl a1), some (.inl a2), some (.inl a3)] [.inr (some (12, 11))] _ _
                        refine xw.lsz (nx := 30) (n := (xm_n S 1 11)) rfl (Nat.le_of_ble_eq_true rfl) rfl ?_
                        refine xw.s (pc' := 32) (st' := [.inl (10 : Int32), .inl (nI (xm_n S 1 11))]) rfl ?_
                        refine xw.b (c := (nI (xm_n S 1 11)) < (10 : Int32)) (cd := .lt) (x := (nI (xm_n S 1 11))) (y := (10 : Int32)) 38 35 (st' := []) rfl (y_clt _ _) h (fun c163 h => ?_) (fun c163 h => ?_)
                        · skip
                          refine xw.s (pc' := 39) (st' := [.inr (some (0, 0))]) rfl ?_
                          refine xw.fr (c := 0) (j := 11) (e := 12) (nx := 42) (t := (some 11)) rfl rfl (hC 11 (by decide)) ?_
                          show xw _ _ _ [some (.inr (some (0, 0))), some (.inl a1), some (.inl a2), some (.inl a3)] [.inr (some (12, 11))] _ _
                          refine xw.s (pc' := 45) (st' := [.inr (some (1, (xm_n S 0 1))), .inr (some (12, 11))]) (S1 := xm_mk 1 6 S) rfl ?_
                          obtain ⟨k164, q165⟩ : ∃ k, k = xm_n S 0 1 := ⟨_, rfl⟩
                          rw [← q165]
                          replace h := h k164 q165
                          obtain ⟨S166, e167⟩ : ∃ s, s = xm_mk 1 6 S := ⟨_, rfl⟩
                          rw [← e167]
                          replace h := h S166 e167
                          refine xw.s (pc' := 46) (st' := [.inr (some (1, k164)), .inr (some (1, k164)), .inr (some (12, 11))]) rfl ?_
                          refine xw.s (pc' := 47) (st' := [.inl a1, .inr (some (1, k164)), .inr (some (1, k164)), .inr (some (12, 11))]) rfl ?_
                          refine xw.s (pc' := 48) (st' := [.inl a2, .inl a1, .inr (some (1, k164)), .inr (some (1, k164)), .inr (some (12, 11))]) rfl ?_
                          refine xw.s (pc' := 49) (st' := [.inl a3, .inl a2, .inl a1, .inr (some (1, k164)), .inr (some (1, k164)), .inr (some (12, 11))]) rfl ?_
                          refine xw.call (m := 92) (as := [.inr (some (1, k164)), .inl a1, .inl a2, .inl a3]) (nx := 52) (L' := [some (.inr (some (0, 0))), some (.inl a1), some (.inl a2), some (.inl a3)]) (st' := [.inr (some (1, k164)), .inr (some (12, 11))]) rfl (xc.mono h ?_)
                          rintro r S168 ⟨rfl, hC169, h⟩
                          show xw _ _ 52 [some (.inr (some (0, 0))), some (.inl a1), some (.inl a2), some (.inl a3)] [.inr (some (1, k164)), .inr (some (12, 11))] _ _
                          obtain ⟨z170, z171, h⟩ := h
                          refine xw.ladd (nx := 55) rfl (Nat.le_of_ble_eq_true rfl) (by decide) z170 z171 ?_
                          obtain ⟨S172, e173⟩ : ∃ s, s = xm_push 11 (1, k164) S168 := ⟨_, rfl⟩
                          rw [← e173]
                          replace h := h S172 e173
                          refine xw.s (pc' := 56) (st' := []) rfl ?_
                          refine xw.s (pc' := 57) (st' := [.inr (some (0, 0))]) rfl ?_
                          refine xw.fr (c := 0) (j := 11) (e := 12) (nx := 60) (t := (some 11)) rfl rfl ((congrArg (fun s => xm_r s 0 0 11) e173).trans (xr_push.trans (hC169 11 (by decide)))) ?_
                          show xw _ _ _ [some (.inr (some (0, 0))), some (.inl a1), some (.inl a2), some (.inl a3)] [.inr (some (12, 11))] _ _
                          refine xw.lsz (nx := 63) (n := (xm_n S172 1 11)) rfl (Nat.le_of_ble_eq_true rfl) rfl ?_
                          refine xw.s (pc' := 64) (st' := [.inl (1 : Int32), .inl (nI (xm_n S172 1 11))]) rfl ?_
                          refine xw.s (pc' := 65) (st' := [.inl ((nI (xm_n S172 1 11)) - (1 : Int32))]) rfl ?_
                          exact xw.ret (r := (some (.inl ((nI (xm_n S172 1 11)) - (1 : Int32))))) rfl h
                        · skip
                          refine xw.s (pc' := 37) (st' := [.inl (-3 : Int32)]) rfl ?_
                          exact xw.ret (r := (some (.inl (-3 : Int32)))) rfl h
                  · skip
                    refine xw.bw (3 : Int32) rfl h (fun c174 h => ?_) (fun c174 h => ?_)
                    · skip
                      refine xw.s (pc' := 59) (st' := [.inl a2]) rfl ?_
                      refine xw.bn (c := a2 = (0 : Int32)) (cd := .ne) (x := a2) (y := (0 : Int32)) 76 62 (st' := []) rfl (y_cne _ _) h (fun c175 h => ?_) (fun c175 h => ?_)
                      · skip
                        refine xw.s (pc' := 63) (st' := [.inl a3]) rfl ?_
                        refine xw.s (pc' := 64) (st' := [.inl (0 : Int32), .inl a3]) rfl ?_
                        refine xw.s (pc' := 66) (st' := [.inl (1000000 : Int32), .inl (0 : Int32), .inl a3]) rfl ?_
                        refine xw.call (m := 2) (as := [.inl a3, .inl (0 : Int32), .inl (1000000 : Int32)]) (nx := 69) (L' := [some (.inl a1), some (.inl a2), some (.inl a3)]) (st' := []) rfl ?_
                        show xw _ _ _ [some (.inl a3), some (.inl (0 : Int32)), some (.inl (1000000 : Int32))] [] _ _
                        refine xw.s (pc' := 1) (st' := [.inl a3]) rfl ?_
                        refine xw.s (pc' := 2) (st' := [.inl (0 : Int32), .inl a3]) rfl ?_
                        refine xw.b (c := a3 < (0 : Int32)) (cd := .lt) (x := a3) (y := (0 : Int32)) 14 5 (st' := []) rfl (y_clt _ _) h (fun c176 h => ?_) (fun c176 h => ?_)
                        · skip
                          refine xw.s (pc' := 15) (st' := [.inl (0 : Int32)]) rfl ?_
                          refine xw.retz (nx := 16) rfl (Or.inl rfl) ?_
                          show xw _ _ 69 [some (.inl a1), some (.inl a2), some (.inl a3)] [.inl (0 : Int32)] S _
                          refine xw.bt (cd := .eq) (x := (0 : Int32)) (y := (0 : Int32)) 76 72 (st' := []) rfl (y_ceq _ _) (by decide) ?_
                          refine xw.s (pc' := 77) (st' := [.inl (0 : Int32)]) rfl ?_
                          refine xw.retz (nx := 78) rfl (Or.inl rfl) ?_
                          show xw _ _ 17 [some (.inr (some (0, 0))), some (.inl a1), some (.inl a2), some (.inl a3)] [.inl (0 : Int32)] S _
                          refine xw.bf (cd := .ne) (x := (0 : Int32)) (y := (0 : Int32)) 23 20 (st' := []) rfl (y_cne _ _) (by decide) ?_
                          refine xw.s (pc' := 22) (st' := [.inl (-2 : Int32)]) rfl ?_
                          exact xw.ret (r := (some (.inl (-2 : Int32)))) rfl h
                        · skip
                          refine xw.s (pc' := 6) (st' := [.inl a3]) rfl ?_
                          refine xw.s (pc' := 7) (st' := [.inl (1000000 : Int32), .inl a3]) rfl ?_
                          refine xw.b (c := (1000000 : Int32) < a3) (cd := .gt) (x := a3) (y := (1000000 : Int32)) 14 10 (st' := []) rfl (y_cgt _ _) h (fun c177 h => ?_) (fun c177 h => ?_)
                          · skip
                            refine xw.s (pc' := 15) (st' := [.inl (0 : Int32)]) rfl ?_
                            refine xw.retz (nx := 16) rfl (Or.inl rfl) ?_
                            show xw _ _ 69 [some (.inl a1), some (.inl a2), some (.inl a3)] [.inl (0 : Int32)] S _
                            refine xw.bt (cd := .eq) (x := (0 : Int32)) (y := (0 : Int32)) 76 72 (st' := []) rfl (y_ceq _ _) (by decide) ?_
                            refine xw.s (pc' := 77) (st' := [.inl (0 : Int32)]) rfl ?_
                            refine xw.retz (nx := 78) rfl (Or.inl rfl) ?_
                            show xw _ _ 17 [some (.inr (some (0, 0))), some (.inl a1), some (.inl a2), some (.inl a3)] [.inl (0 : Int32)] S _
                            refine xw.bf (cd := .ne) (x := (0 : Int32)) (y := (0 : Int32)) 23 20 (st' := []) rfl (y_cne _ _) (by decide) ?_
                            refine xw.s (pc' := 22) (st' := [.inl (-2 : Int32)]) rfl ?_
                            exact xw.ret (r := (some (.inl (-2 : Int32)))) rfl h
                          · skip
                            refine xw.s (pc' := 11) (st' := [.inl (1 : Int32)]) rfl ?_
                            refine xw.s (pc' := 15) (st' := [.inl (1 : Int32)]) rfl ?_
                            refine xw.retz (nx := 16) rfl (Or.inr rfl) ?_
                            show xw _ _ 69 [some (.inl a1), some (.inl a2), some (.inl a3)] [.inl (1 : Int32)] S _
                            refine xw.bf (cd := .eq) (x := (1 : Int32)) (y := (0 : Int32)) 76 72 (st' := []) rfl (y_ceq _ _) (by decide) ?_
                            refine xw.s (pc' := 73) (st' := [.inl (1 : Int32)]) rfl ?_
                            refine xw.s (pc' := 77) (st' := [.inl (1 : Int32)]) rfl ?_
                            refine xw.retz (nx := 78) rfl (Or.inr rfl) ?_
                            show xw _ _ 17 [some (.inr (some (0, 0))), some (.inl a1), some (.inl a2), some (.inl a3)] [.inl (1 : Int32)] S _
                            refine xw.bt (cd := .ne) (x := (1 : Int32)) (y := (0 : Int32)) 23 20 (st' := []) rfl (y_cne _ _) (by decide) ?_
                            refine xw.s (pc' := 24) (st' := [.inr (some (0, 0))]) rfl ?_
                            refine xw.fr (c := 0) (j := 11) (e := 12) (nx := 27) (t := (some 11)) rfl rfl (hC 11 (by decide)) ?_
                            show xw _ _ _ [some (.inr (some (0, 0))), some (.inl a1), some (.inl a2), some (.inl a3)] [.inr (some (12, 11))] _ _
                            refine xw.lsz (nx := 30) (n := (xm_n S 1 11)) rfl (Nat.le_of_ble_eq_true rfl) rfl ?_
                            refine xw.s (pc' := 32) (st' := [.inl (10 : Int32), .inl (nI (xm_n S 1 11))]) rfl ?_
                            refine xw.b (c := (nI (xm_n S 1 11)) < (10 : Int32)) (cd := .lt) (x := (nI (xm_n S 1 11))) (y := (10 : Int32)) 38 35 (st' := []) rfl (y_clt _ _) h (fun c178 h => ?_) (fun c178 h => ?_)
                            · skip
                              refine xw.s (pc' := 39) (st' := [.inr (some (0, 0))]) rfl ?_
                              refine xw.fr (c := 0) (j := 11) (e := 12) (nx := 42) (t := (some 11)) rfl rfl (hC 11 (by decide)) ?_
                              show xw _ _ _ [some (.inr (some (0, 0))), some (.inl a1), some (.inl a2), some (.inl a3)] [.inr (some (12, 11))] _ _
                              refine xw.s (pc' := 45) (st' := [.inr (some (1, (xm_n S 0 1))), .inr (some (12, 11))]) (S1 := xm_mk 1 6 S) rfl ?_
                              obtain ⟨k179, q180⟩ : ∃ k, k = xm_n S 0 1 := ⟨_, rfl⟩
                              rw [← q180]
                              replace h := h k179 q180
                              obtain ⟨S181, e182⟩ : ∃ s, s = xm_mk 1 6 S := ⟨_, rfl⟩
                              rw [← e182]
                              replace h := h S181 e182
                              refine xw.s (pc' := 46) (st' := [.inr (some (1, k179)), .inr (some (1, k179)), .inr (some (12, 11))]) rfl ?_
                              refine xw.s (pc' := 47) (st' := [.inl a1, .inr (some (1, k179)), .inr (some (1, k179)), .inr (some (12, 11))]) rfl ?_
                              refine xw.s (pc' := 48) (st' := [.inl a2, .inl a1, .inr (some (1, k179)), .inr (some (1, k179)), .inr (some (12, 11))]) rfl ?_
                              refine xw.s (pc' := 49) (st' := [.inl a3, .inl a2, .inl a1, .inr (some (1, k179)), .inr (some (1, k179)), .inr (some (12, 11))]) rfl ?_
                              refine xw.call (m := 92) (as := [.inr (some (1, k179)), .inl a1, .inl a2, .inl a3]) (nx := 52) (L' := [some (.inr (some (0, 0))), some (.inl a1), some (.inl a2), some (.inl a3)]) (st' := [.inr (some (1, k179)), .inr (some (12, 11))]) rfl (xc.mono h ?_)
                              rintro r S183 ⟨rfl, hC184, h⟩
                              show xw _ _ 52 [some (.inr (some (0, 0))), some (.inl a1), some (.inl a2), some (.inl a3)] [.inr (some (1, k179)), .inr (some (12, 11))] _ _
                              obtain ⟨z185, z186, h⟩ := h
                              refine xw.ladd (nx := 55) rfl (Nat.le_of_ble_eq_true rfl) (by decide) z185 z186 ?_
                              obtain ⟨S187, e188⟩ : ∃ s, s = xm_push 11 (1, k179) S183 := ⟨_, rfl⟩
                              rw [← e188]
                              replace h := h S187 e188
                              refine xw.s (pc' := 56) (st' := []) rfl ?_
                              refine xw.s (pc' := 57) (st' := [.inr (some (0, 0))]) rfl ?_
                              refine xw.fr (c := 0) (j := 11) (e := 12) (nx := 60) (t := (some 11)) rfl rfl ((congrArg (fun s => xm_r s 0 0 11) e188).trans (xr_push.trans (hC184 11 (by decide)))) ?_
                              show xw _ _ _ [some (.inr (some (0, 0))), some (.inl a1), some (.inl a2), some (.inl a3)] [.inr (some (12, 11))] _ _
                              refine xw.lsz (nx := 63) (n := (xm_n S187 1 11)) rfl (Nat.le_of_ble_eq_true rfl) rfl ?_
                              refine xw.s (pc' := 64) (st' := [.inl (1 : Int32), .inl (nI (xm_n S187 1 11))]) rfl ?_
                              refine xw.s (pc' := 65) (st' := [.inl ((nI (xm_n S187 1 11)) - (1 : Int32))]) rfl ?_
                              exact xw.ret (r := (some (.inl ((nI (xm_n S187 1 11)) - (1 : Int32))))) rfl h
                            · skip
                              refine xw.s (pc' := 37) (st' := [.inl (-3 : Int32)]) rfl ?_
                              exact xw.ret (r := (some (.inl (-3 : Int32)))) rfl h
                      · skip
                        refine xw.s (pc' := 77) (st' := [.inl (0 : Int32)]) rfl ?_
                        refine xw.retz (nx := 78) rfl (Or.inl rfl) ?_
                        show xw _ _ 17 [some (.inr (some (0, 0))), some (.inl a1), some (.inl a2), some (.inl a3)] [.inl (0 : Int32)] S _
                        refine xw.bf (cd := .ne) (x := (0 : Int32)) (y := (0 : Int32)) 23 20 (st' := []) rfl (y_cne _ _) (by decide) ?_
                        refine xw.s (pc' := 22) (st' := [.inl (-2 : Int32)]) rfl ?_
                        exact xw.ret (r := (some (.inl (-2 : Int32)))) rfl h
                    · skip
                      refine xw.s (pc' := 79) (st' := [.inl (0 : Int32)]) rfl ?_
                      refine xw.retz (nx := 80) rfl (Or.inl rfl) ?_
                      show xw _ _ 17 [some (.inr (some (0, 0))), some (.inl a1), some (.inl a2), some (.inl a3)] [.inl (0 : Int32)] S _
                      refine xw.bf (cd := .ne) (x := (0 : Int32)) (y := (0 : Int32)) 23 20 (st' := []) rfl (y_cne _ _) (by decide) ?_
                      refine xw.s (pc' := 22) (st' := [.inl (-2 : Int32)]) rfl ?_
                      exact xw.ret (r := (some (.inl (-2 : Int32)))) rfl h
            · skip
              refine xw.s (pc' := 23) (st' := [.inr none]) rfl ?_
              refine xw.ret (r := some (.inr none)) rfl ?_
              show xw _ _ 63 [some (.inr (some (0, 0))), some (.inl a1), some (.inl a2)] [.inr none] S _
              refine xw.s (pc' := 66) (st' := []) rfl ?_
              refine xw.s (pc' := 67) (st' := [.inl (1 : Int32)]) rfl ?_
              refine xw.s (pc' := 71) (st' := [.inl (1 : Int32)]) rfl ?_
              refine xw.retz (nx := 72) rfl (Or.inr rfl) ?_
              show xw _ _ 6 [some (.inr (some (0, 0))), some (.inl a1), some (.inl a2), some (.inl a3)] [.inl (1 : Int32)] S _
              refine xw.bf (cd := .eq) (x := (1 : Int32)) (y := (0 : Int32)) 11 9 (st' := []) rfl (y_ceq _ _) (by decide) ?_
              refine xw.s (pc' := 10) (st' := [.inl (-1 : Int32)]) rfl ?_
              exact xw.ret (r := (some (.inl (-1 : Int32)))) rfl h
      · skip
        refine xw.s (pc' := 73) (st' := [.inl (0 : Int32)]) rfl ?_
        refine xw.retz (nx := 74) rfl (Or.inl rfl) ?_
        show xw _ _ 6 [some (.inr (some (0, 0))), some (.inl a1), some (.inl a2), some (.inl a3)] [.inl (0 : Int32)] S _
        refine xw.bt (cd := .eq) (x := (0 : Int32)) (y := (0 : Int32)) 11 9 (st' := []) rfl (y_ceq _ _) (by decide) ?_
        refine xw.s (pc' := 12) (st' := [.inl a1]) rfl ?_
        refine xw.s (pc' := 13) (st' := [.inl a2, .inl a1]) rfl ?_
        refine xw.s (pc' := 14) (st' := [.inl a3, .inl a2, .inl a1]) rfl ?_
        refine xw.call (m := 70) (as := [.inl a1, .inl a2, .inl a3]) (nx := 17) (L' := [some (.inr (some (0, 0))), some (.inl a1), some (.inl a2), some (.inl a3)]) (st' := []) rfl ?_
        show xw _ _ _ [some (.inl a1), some (.inl a2), some (.inl a3)] [] _ _
        refine xw.s (pc' := 1) (st' := [.inl a1]) rfl ?_
        refine xw.ts1 rfl rfl ?_
        refine xw.bw (0 : Int32) rfl h (fun c189 h => ?_) (fun c189 h => ?_)
        · skip
          refine xw.s (pc' := 33) (st' := [.inl a3]) rfl ?_
          refine xw.bn (c := a3 = (0 : Int32)) (cd := .ne) (x := a3) (y := (0 : Int32)) 40 36 (st' := []) rfl (y_cne _ _) h (fun c190 h => ?_) (fun c190 h => ?_)
          · skip
            refine xw.s (pc' := 37) (st' := [.inl (1 : Int32)]) rfl ?_
            refine xw.s (pc' := 41) (st' := [.inl (1 : Int32)]) rfl ?_
            refine xw.retz (nx := 42) rfl (Or.inr rfl) ?_
            show xw _ _ 17 [some (.inr (some (0, 0))), some (.inl a1), some (.inl a2), some (.inl a3)] [.inl (1 : Int32)] S _
            refine xw.bt (cd := .ne) (x := (1 : Int32)) (y := (0 : Int32)) 23 20 (st' := []) rfl (y_cne _ _) (by decide) ?_
            refine xw.s (pc' := 24) (st' := [.inr (some (0, 0))]) rfl ?_
            refine xw.fr (c := 0) (j := 11) (e := 12) (nx := 27) (t := (some 11)) rfl rfl (hC 11 (by decide)) ?_
            show xw _ _ _ [some (.inr (some (0, 0))), some (.inl a1), some (.inl a2), some (.inl a3)] [.inr (some (12, 11))] _ _
            refine xw.lsz (nx := 30) (n := (xm_n S 1 11)) rfl (Nat.le_of_ble_eq_true rfl) rfl ?_
            refine xw.s (pc' := 32) (st' := [.inl (10 : Int32), .inl (nI (xm_n S 1 11))]) rfl ?_
            refine xw.b (c := (nI (xm_n S 1 11)) < (10 : Int32)) (cd := .lt) (x := (nI (xm_n S 1 11))) (y := (10 : Int32)) 38 35 (st' := []) rfl (y_clt _ _) h (fun c191 h => ?_) (fun c191 h => ?_)
            · skip
              refine xw.s (pc' := 39) (st' := [.inr (some (0, 0))]) rfl ?_
              refine xw.fr (c := 0) (j := 11) (e := 12) (nx := 42) (t := (some 11)) rfl rfl (hC 11 (by decide)) ?_
              show xw _ _ _ [some (.inr (some (0, 0))), some (.inl a1), some (.inl a2), some (.inl a3)] [.inr (some (12, 11))] _ _
              refine xw.s (pc' := 45) (st' := [.inr (some (1, (xm_n S 0 1))), .inr (some (12, 11))]) (S1 := xm_mk 1 6 S) rfl ?_
              obtain ⟨k192, q193⟩ : ∃ k, k = xm_n S 0 1 := ⟨_, rfl⟩
              rw [← q193]
              replace h := h k192 q193
              obtain ⟨S194, e195⟩ : ∃ s, s = xm_mk 1 6 S := ⟨_, rfl⟩
              rw [← e195]
              replace h := h S194 e195
              refine xw.s (pc' := 46) (st' := [.inr (some (1, k192)), .inr (some (1, k192)), .inr (some (12, 11))]) rfl ?_
              refine xw.s (pc' := 47) (st' := [.inl a1, .inr (some (1, k192)), .inr (some (1, k192)), .inr (some (12, 11))]) rfl ?_
              refine xw.s (pc' := 48) (st' := [.inl a2, .inl a1, .inr (some (1, k192)), .inr (some (1, k192)), .inr (some (12, 11))]) rfl ?_
              refine xw.s (pc' := 49) (st' := [.inl a3, .inl a2, .inl a1, .inr (some (1, k192)), .inr (some (1, k192)), .inr (some (12, 11))]) rfl ?_
              refine xw.call (m := 92) (as := [.inr (some (1, k192)), .inl a1, .inl a2, .inl a3]) (nx := 52) (L' := [some (.inr (some (0, 0))), some (.inl a1), some (.inl a2), some (.inl a3)]) (st' := [.inr (some (1, k192)), .inr (some (12, 11))]) rfl (xc.mono h ?_)
              rintro r S196 ⟨rfl, hC197, h⟩
              show xw _ _ 52 [some (.inr (some (0, 0))), some (.inl a1), some (.inl a2), some (.inl a3)] [.inr (some (1, k192)), .inr (some (12, 11))] _ _
              obtain ⟨z198, z199, h⟩ := h
              refine xw.ladd (nx := 55) rfl (Nat.le_of_ble_eq_true rfl) (by decide) z198 z199 ?_
              obtain ⟨S200, e201⟩ : ∃ s, s = xm_push 11 (1, k192) S196 := ⟨_, rfl⟩
              rw [← e201]
              replace h := h S200 e201
              refine xw.s (pc' := 56) (st' := []) rfl ?_
              refine xw.s (pc' := 57) (st' := [.inr (some (0, 0))]) rfl ?_
              refine xw.fr (c := 0) (j := 11) (e := 12) (nx := 60) (t := (some 11)) rfl rfl ((congrArg (fun s => xm_r s 0 0 11) e201).trans (xr_push.trans (hC197 11 (by decide)))) ?_
              show xw _ _ _ [some (.inr (some (0, 0))), some (.inl a1), some (.inl a2), some (.inl a3)] [.inr (some (12, 11))] _ _
              refine xw.lsz (nx := 63) (n := (xm_n S200 1 11)) rfl (Nat.le_of_ble_eq_true rfl) rfl ?_
              refine xw.s (pc' := 64) (st' := [.inl (1 : Int32), .inl (nI (xm_n S200 1 11))]) rfl ?_
              refine xw.s (pc' := 65) (st' := [.inl ((nI (xm_n S200 1 11)) - (1 : Int32))]) rfl ?_
              exact xw.ret (r := (some (.inl ((nI (xm_n S200 1 11)) - (1 : Int32))))) rfl h
            · skip
              refine xw.s (pc' := 37) (st' := [.inl (-3 : Int32)]) rfl ?_
              exact xw.ret (r := (some (.inl (-3 : Int32)))) rfl h
          · skip
            refine xw.s (pc' := 41) (st' := [.inl (0 : Int32)]) rfl ?_
            refine xw.retz (nx := 42) rfl (Or.inl rfl) ?_
            show xw _ _ 17 [some (.inr (some (0, 0))), some (.inl a1), some (.inl a2), some (.inl a3)] [.inl (0 : Int32)] S _
            refine xw.bf (cd := .ne) (x := (0 : Int32)) (y := (0 : Int32)) 23 20 (st' := []) rfl (y_cne _ _) (by decide) ?_
            refine xw.s (pc' := 22) (st' := [.inl (-2 : Int32)]) rfl ?_
            exact xw.ret (r := (some (.inl (-2 : Int32)))) rfl h
        · skip
          refine xw.bw (1 : Int32) rfl h (fun c202 h => ?_) (fun c202 h => ?_)
          · skip
            refine xw.s (pc' := 43) (st' := [.inl a3]) rfl ?_
            refine xw.s (pc' := 44) (st' := [.inl (0 : Int32), .inl a3]) rfl ?_
            refine xw.s (pc' := 46) (st' := [.inl (1000000 : Int32), .inl (0 : Int32), .inl a3]) rfl ?_
            refine xw.call (m := 2) (as := [.inl a3, .inl (0 : Int32), .inl (1000000 : Int32)]) (nx := 49) (L' := [some (.inl a1), some (.inl a2), some (.inl a3)]) (st' := []) rfl ?_
            show xw _ _ _ [some (.inl a3), some (.inl (0 : Int32)), some (.inl (1000000 : Int32))] [] _ _
            refine xw.s (pc' := 1) (st' := [.inl a3]) rfl ?_
            refine xw.s (pc' := 2) (st' := [.inl (0 : Int32), .inl a3]) rfl ?_
            refine xw.b (c := a3 < (0 : Int32)) (cd := .lt) (x := a3) (y := (0 : Int32)) 14 5 (st' := []) rfl (y_clt _ _) h (fun c203 h => ?_) (fun c203 h => ?_)
            · skip
              refine xw.s (pc' := 15) (st' := [.inl (0 : Int32)]) rfl ?_
              refine xw.retz (nx := 16) rfl (Or.inl rfl) ?_
              show xw _ _ 49 [some (.inl a1), some (.inl a2), some (.inl a3)] [.inl (0 : Int32)] S _
              refine xw.retz (nx := 50) rfl (Or.inl rfl) ?_
              show xw _ _ 17 [some (.inr (some (0, 0))), some (.inl a1), some (.inl a2), some (.inl a3)] [.inl (0 : Int32)] S _
              refine xw.bf (cd := .ne) (x := (0 : Int32)) (y := (0 : Int32)) 23 20 (st' := []) rfl (y_cne _ _) (by decide) ?_
              refine xw.s (pc' := 22) (st' := [.inl (-2 : Int32)]) rfl ?_
              exact xw.ret (r := (some (.inl (-2 : Int32)))) rfl h
            · skip
              refine xw.s (pc' := 6) (st' := [.inl a3]) rfl ?_
              refine xw.s (pc' := 7) (st' := [.inl (1000000 : Int32), .inl a3]) rfl ?_
              refine xw.b (c := (1000000 : Int32) < a3) (cd := .gt) (x := a3) (y := (1000000 : Int32)) 14 10 (st' := []) rfl (y_cgt _ _) h (fun c204 h => ?_) (fun c204 h => ?_)
              · skip
                refine xw.s (pc' := 15) (st' := [.inl (0 : Int32)]) rfl ?_
                refine xw.retz (nx := 16) rfl (Or.inl rfl) ?_
                show xw _ _ 49 [some (.inl a1), some (.inl a2), some (.inl a3)] [.inl (0 : Int32)] S _
                refine xw.retz (nx := 50) rfl (Or.inl rfl) ?_
                show xw _ _ 17 [some (.inr (some (0, 0))), some (.inl a1), some (.inl a2), some (.inl a3)] [.inl (0 : Int32)] S _
                refine xw.bf (cd := .ne) (x := (0 : Int32)) (y := (0 : Int32)) 23 20 (st' := []) rfl (y_cne _ _) (by decide) ?_
                refine xw.s (pc' := 22) (st' := [.inl (-2 : Int32)]) rfl ?_
                exact xw.ret (r := (some (.inl (-2 : Int32)))) rfl h
              · skip
                refine xw.s (pc' := 11) (st' := [.inl (1 : Int32)]) rfl ?_
                refine xw.s (pc' := 15) (st' := [.inl (1 : Int32)]) rfl ?_
                refine xw.retz (nx := 16) rfl (Or.inr rfl) ?_
                show xw _ _ 49 [some (.inl a1), some (.inl a2), some (.inl a3)] [.inl (1 : Int32)] S _
                refine xw.retz (nx := 50) rfl (Or.inr rfl) ?_
                show xw _ _ 17 [some (.inr (some (0, 0))), some (.inl a1), some (.inl a2), some (.inl a3)] [.inl (1 : Int32)] S _
                refine xw.bt (cd := .ne) (x := (1 : Int32)) (y := (0 : Int32)) 23 20 (st' := []) rfl (y_cne _ _) (by decide) ?_
                refine xw.s (pc' := 24) (st' := [.inr (some (0, 0))]) rfl ?_
                refine xw.fr (c := 0) (j := 11) (e := 12) (nx := 27) (t := (some 11)) rfl rfl (hC 11 (by decide)) ?_
                show xw _ _ _ [some (.inr (some (0, 0))), some (.inl a1), some (.inl a2), some (.inl a3)] [.inr (some (12, 11))] _ _
                refine xw.lsz (nx := 30) (n := (xm_n S 1 11)) rfl (Nat.le_of_ble_eq_true rfl) rfl ?_
                refine xw.s (pc' := 32) (st' := [.inl (10 : Int32), .inl (nI (xm_n S 1 11))]) rfl ?_
                refine xw.b (c := (nI (xm_n S 1 11)) < (10 : Int32)) (cd := .lt) (x := (nI (xm_n S 1 11))) (y := (10 : Int32)) 38 35 (st' := []) rfl (y_clt _ _) h (fun c205 h => ?_) (fun c205 h => ?_)
                · skip
                  refine xw.s (pc' := 39) (st' := [.inr (some (0, 0))]) rfl ?_
                  refine xw.fr (c := 0) (j := 11) (e := 12) (nx := 42) (t := (some 11)) rfl rfl (hC 11 (by decide)) ?_
                  show xw _ _ _ [some (.inr (some (0, 0))), some (.inl a1), some (.inl a2), some (.inl a3)] [.inr (some (12, 11))] _ _
                  refine xw.s (pc' := 45) (st' := [.inr (some (1, (xm_n S 0 1))), .inr (some (12, 11))]) (S1 := xm_mk 1 6 S) rfl ?_
                  obtain ⟨k206, q207⟩ : ∃ k, k = xm_n S 0 1 := ⟨_, rfl⟩
                  rw [← q207]
                  replace h := h k206 q207
                  obtain ⟨S208, e209⟩ : ∃ s, s = xm_mk 1 6 S := ⟨_, rfl⟩
                  rw [← e209]
                  replace h := h S208 e209
                  refine xw.s (pc' := 46) (st' := [.inr (some (1, k206)), .inr (some (1, k206)), .inr (some (12, 11))]) rfl ?_
                  refine xw.s (pc' := 47) (st' := [.inl a1, .inr (some (1, k206)), .inr (some (1, k206)), .inr (some (12, 11))]) rfl ?_
                  refine xw.s (pc' := 48) (st' := [.inl a2, .inl a1, .inr (some (1, k206)), .inr (some (1, k206)), .inr (some (12, 11))]) rfl ?_
                  refine xw.s (pc' := 49) (st' := [.inl a3, .inl a2, .inl a1, .inr (some (1, k206)), .inr (some (1, k206)), .inr (some (12, 11))]) rfl ?_
                  refine xw.call (m := 92) (as := [.inr (some (1, k206)), .inl a1, .inl a2, .inl a3]) (nx := 52) (L' := [some (.inr (some (0, 0))), some (.inl a1), some (.inl a2), some (.inl a3)]) (st' := [.inr (some (1, k206)), .inr (some (12, 11))]) rfl (xc.mono h ?_)
                  rintro r S210 ⟨rfl, hC211, h⟩
                  show xw _ _ 52 [some (.inr (some (0, 0))), some (.inl a1), some (.inl a2), some (.inl a3)] [.inr (some (1, k206)), .inr (some (12, 11))] _ _
                  obtain ⟨z212, z213, h⟩ := h
                  refine xw.ladd (nx := 55) rfl (Nat.le_of_ble_eq_true rfl) (by decide) z212 z213 ?_
                  obtain ⟨S214, e215⟩ : ∃ s, s = xm_push 11 (1, k206) S210 := ⟨_, rfl⟩
                  rw [← e215]
                  replace h := h S214 e215
                  refine xw.s (pc' := 56) (st' := []) rfl ?_
                  refine xw.s (pc' := 57) (st' := [.inr (some (0, 0))]) rfl ?_
                  refine xw.fr (c := 0) (j := 11) (e := 12) (nx := 60) (t := (some 11)) rfl rfl ((congrArg (fun s => xm_r s 0 0 11) e215).trans (xr_push.trans (hC211 11 (by decide)))) ?_
                  show xw _ _ _ [some (.inr (some (0, 0))), some (.inl a1), some (.inl a2), some (.inl a3)] [.inr (some (12, 11))] _ _
                  refine xw.lsz (nx := 63) (n := (xm_n S214 1 11)) rfl (Nat.le_of_ble_eq_true rfl) rfl ?_
                  refine xw.s (pc' := 64) (st' := [.inl (1 : Int32), .inl (nI (xm_n S214 1 11))]) rfl ?_
                  refine xw.s (pc' := 65) (st' := [.inl ((nI (xm_n S214 1 11)) - (1 : Int32))]) rfl ?_
                  exact xw.ret (r := (some (.inl ((nI (xm_n S214 1 11)) - (1 : Int32))))) rfl h
                · skip
                  refine xw.s (pc' := 37) (st' := [.inl (-3 : Int32)]) rfl ?_
                  exact xw.ret (r := (some (.inl (-3 : Int32)))) rfl h
          · skip
            refine xw.bw (2 : Int32) rfl h (fun c216 h => ?_) (fun c216 h => ?_)
            · skip
              refine xw.s (pc' := 51) (st' := [.inl a3]) rfl ?_
              refine xw.s (pc' := 52) (st' := [.inl (1 : Int32), .inl a3]) rfl ?_
              refine xw.s (pc' := 54) (st' := [.inl (10 : Int32), .inl (1 : Int32), .inl a3]) rfl ?_
              refine xw.call (m := 2) (as := [.inl a3, .inl (1 : Int32), .inl (10 : Int32)]) (nx := 57) (L' := [some (.inl a1), some (.inl a2), some (.inl a3)]) (st' := []) rfl ?_
              show xw _ _ _ [some (.inl a3), some (.inl (1 : Int32)), some (.inl (10 : Int32))] [] _ _
              refine xw.s (pc' := 1) (st' := [.inl a3]) rfl ?_
              refine xw.s (pc' := 2) (st' := [.inl (1 : Int32), .inl a3]) rfl ?_
              refine xw.b (c := a3 < (1 : Int32)) (cd := .lt) (x := a3) (y := (1 : Int32)) 14 5 (st' := []) rfl (y_clt _ _) h (fun c217 h => ?_) (fun c217 h => ?_)
              · skip
                refine xw.s (pc' := 15) (st' := [.inl (0 : Int32)]) rfl ?_
                refine xw.retz (nx := 16) rfl (Or.inl rfl) ?_
                show xw _ _ 57 [some (.inl a1), some (.inl a2), some (.inl a3)] [.inl (0 : Int32)] S _
                refine xw.retz (nx := 58) rfl (Or.inl rfl) ?_
                show xw _ _ 17 [some (.inr (some (0, 0))), some (.inl a1), some (.inl a2), some (.inl a3)] [.inl (0 : Int32)] S _
                refine xw.bf (cd := .ne) (x := (0 : Int32)) (y := (0 : Int32)) 23 20 (st' := []) rfl (y_cne _ _) (by decide) ?_
                refine xw.s (pc' := 22) (st' := [.inl (-2 : Int32)]) rfl ?_
                exact xw.ret (r := (some (.inl (-2 : Int32)))) rfl h
              · skip
                refine xw.s (pc' := 6) (st' := [.inl a3]) rfl ?_
                refine xw.s (pc' := 7) (st' := [.inl (10 : Int32), .inl a3]) rfl ?_
                refine xw.b (c := (10 : Int32) < a3) (cd := .gt) (x := a3) (y := (10 : Int32)) 14 10 (st' := []) rfl (y_cgt _ _) h (fun c218 h => ?_) (fun c218 h => ?_)
                · skip
                  refine xw.s (pc' := 15) (st' := [.inl (0 : Int32)]) rfl ?_
                  refine xw.retz (nx := 16) rfl (Or.inl rfl) ?_
                  show xw _ _ 57 [some (.inl a1), some (.inl a2), some (.inl a3)] [.inl (0 : Int32)] S _
                  refine xw.retz (nx := 58) rfl (Or.inl rfl) ?_
                  show xw _ _ 17 [some (.inr (some (0, 0))), some (.inl a1), some (.inl a2), some (.inl a3)] [.inl (0 : Int32)] S _
                  refine xw.bf (cd := .ne) (x := (0 : Int32)) (y := (0 : Int32)) 23 20 (st' := []) rfl (y_cne _ _) (by decide) ?_
                  refine xw.s (pc' := 22) (st' := [.inl (-2 : Int32)]) rfl ?_
                  exact xw.ret (r := (some (.inl (-2 : Int32)))) rfl h
                · skip
                  refine xw.s (pc' := 11) (st' := [.inl (1 : Int32)]) rfl ?_
                  refine xw.s (pc' := 15) (st' := [.inl (1 : Int32)]) rfl ?_
                  refine xw.retz (nx := 16) rfl (Or.inr rfl) ?_
                  show xw _ _ 57 [some (.inl a1), some (.inl a2), some (.inl a3)] [.inl (1 : Int32)] S _
                  refine xw.retz (nx := 58) rfl (Or.inr rfl) ?_
                  show xw _ _ 17 [some (.inr (some (0, 0))), some (.inl a1), some (.inl a2), some (.inl a3)] [.inl (1 : Int32)] S _
                  refine xw.bt (cd := .ne) (x := (1 : Int32)) (y := (0 : Int32)) 23 20 (st' := []) rfl (y_cne _ _) (by decide) ?_
                  refine xw.s (pc' := 24) (st' := [.inr (some (0, 0))]) rfl ?_
                  refine xw.fr (c := 0) (j := 11) (e := 12) (nx := 27) (t := (some 11)) rfl rfl (hC 11 (by decide)) ?_
                  show xw _ _ _ [some (.inr (some (0, 0))), some (.inl a1), some (.inl a2), some (.inl a3)] [.inr (some (12, 11))] _ _
                  refine xw.lsz (nx := 30) (n := (xm_n S 1 11)) rfl (Nat.le_of_ble_eq_true rfl) rfl ?_
                  refine xw.s (pc' := 32) (st' := [.inl (10 : Int32), .inl (nI (xm_n S 1 11))]) rfl ?_
                  refine xw.b (c := (nI (xm_n S 1 11)) < (10 : Int32)) (cd := .lt) (x := (nI (xm_n S 1 11))) (y := (10 : Int32)) 38 35 (st' := []) rfl (y_clt _ _) h (fun c219 h => ?_) (fun c219 h => ?_)
                  · skip
                    refine xw.s (pc' := 39) (st' := [.inr (some (0, 0))]) rfl ?_
                    refine xw.fr (c := 0) (j := 11) (e := 12) (nx := 42) (t := (some 11)) rfl rfl (hC 11 (by decide)) ?_
                    show xw _ _ _ [some (.inr (some (0, 0))), some (.inl a1), some (.inl a2), some (.inl a3)] [.inr (some (12, 11))] _ _
                    refine xw.s (pc' := 45) (st' := [.inr (some (1, (xm_n S 0 1))), .inr (some (12, 11))]) (S1 := xm_mk 1 6 S) rfl ?_
                    obtain ⟨k220, q221⟩ : ∃ k, k = xm_n S 0 1 := ⟨_, rfl⟩
                    rw [← q221]
                    replace h := h k220 q221
                    obtain ⟨S222, e223⟩ : ∃ s, s = xm_mk 1 6 S := ⟨_, rfl⟩
                    rw [← e223]
                    replace h := h S222 e223
                    refine xw.s (pc' := 46) (st' := [.inr (some (1, k220)), .inr (some (1, k220)), .inr (some (12, 11))]) rfl ?_
                    refine xw.s (pc' := 47) (st' := [.inl a1, .inr (some (1, k220)), .inr (some (1, k220)), .inr (some (12, 11))]) rfl ?_
                    refine xw.s (pc' := 48) (st' := [.inl a2, .inl a1, .inr (some (1, k220)), .inr (some (1, k220)), .inr (some (12, 11))]) rfl ?_
                    refine xw.s (pc' := 49) (st' := [.inl a3, .inl a2, .inl a1, .inr (some (1, k220)), .inr (some (1, k220)), .inr (some (12, 11))]) rfl ?_
                    refine xw.call (m := 92) (as := [.inr (some (1, k220)), .inl a1, .inl a2, .inl a3]) (nx := 52) (L' := [some (.inr (some (0, 0))), some (.inl a1), some (.inl a2), some (.inl a3)]) (st' := [.inr (some (1, k220)), .inr (some (12, 11))]) rfl (xc.mono h ?_)
                    rintro r S224 ⟨rfl, hC225, h⟩
                    show xw _ _ 52 [some (.inr (some (0, 0))), some (.inl a1), some (.inl a2), some (.inl a3)] [.inr (some (1, k220)), .inr (some (12, 11))] _ _
                    obtain ⟨z226, z227, h⟩ := h
                    refine xw.ladd (nx := 55) rfl (Nat.le_of_ble_eq_true rfl) (by decide) z226 z227 ?_
                    obtain ⟨S228, e229⟩ : ∃ s, s = xm_push 11 (1, k220) S224 := ⟨_, rfl⟩
                    rw [← e229]
                    replace h := h S228 e229
                    refine xw.s (pc' := 56) (st' := []) rfl ?_
                    refine xw.s (pc' := 57) (st' := [.inr (some (0, 0))]) rfl ?_
                    refine xw.fr (c := 0) (j := 11) (e := 12) (nx := 60) (t := (some 11)) rfl rfl ((congrArg (fun s => xm_r s 0 0 11) e229).trans (xr_push.trans (hC225 11 (by decide)))) ?_
                    show xw _ _ _ [some (.inr (some (0, 0))), some (.inl a1), some (.inl a2), some (.inl a3)] [.inr (some (12, 11))] _ _
                    refine xw.lsz (nx := 63) (n := (xm_n S228 1 11)) rfl (Nat.le_of_ble_eq_true rfl) rfl ?_
                    refine xw.s (pc' := 64) (st' := [.inl (1 : Int32), .inl (nI (xm_n S228 1 11))]) rfl ?_
                    refine xw.s (pc' := 65) (st' := [.inl ((nI (xm_n S228 1 11)) - (1 : Int32))]) rfl ?_
                    exact xw.ret (r := (some (.inl ((nI (xm_n S228 1 11)) - (1 : Int32))))) rfl h
                  · skip
                    refine xw.s (pc' := 37) (st' := [.inl (-3 : Int32)]) rfl ?_
                    exact xw.ret (r := (some (.inl (-3 : Int32)))) rfl h
            · skip
              refine xw.bw (3 : Int32) rfl h (fun c230 h => ?_) (fun c230 h => ?_)
              · skip
                refine xw.s (pc' := 59) (st' := [.inl a2]) rfl ?_
                refine xw.bn (c := a2 = (0 : Int32)) (cd := .ne) (x := a2) (y := (0 : Int32)) 76 62 (st' := []) rfl (y_cne _ _) h (fun c231 h => ?_) (fun c231 h => ?_)
                · skip
                  refine xw.s (pc' := 63) (st' := [.inl a3]) rfl ?_
                  refine xw.s (pc' := 64) (st' := [.inl (0 : Int32), .inl a3]) rfl ?_
                  refine xw.s (pc' := 66) (st' := [.inl (1000000 : Int32), .inl (0 : Int32), .inl a3]) rfl ?_
                  refine xw.call (m := 2) (as := [.inl a3, .inl (0 : Int32), .inl (1000000 : Int32)]) (nx := 69) (L' := [some (.inl a1), some (.inl a2), some (.inl a3)]) (st' := []) rfl ?_
                  show xw _ _ _ [some (.inl a3), some (.inl (0 : Int32)), some (.inl (1000000 : Int32))] [] _ _
                  refine xw.s (pc' := 1) (st' := [.inl a3]) rfl ?_
                  refine xw.s (pc' := 2) (st' := [.inl (0 : Int32), .inl a3]) rfl ?_
                  refine xw.b (c := a3 < (0 : Int32)) (cd := .lt) (x := a3) (y := (0 : Int32)) 14 5 (st' := []) rfl (y_clt _ _) h (fun c232 h => ?_) (fun c232 h => ?_)
                  · skip
                    refine xw.s (pc' := 15) (st' := [.inl (0 : Int32)]) rfl ?_
                    refine xw.retz (nx := 16) rfl (Or.inl rfl) ?_
                    show xw _ _ 69 [some (.inl a1), some (.inl a2), some (.inl a3)] [.inl (0 : Int32)] S _
                    refine xw.bt (cd := .eq) (x := (0 : Int32)) (y := (0 : Int32)) 76 72 (st' := []) rfl (y_ceq _ _) (by decide) ?_
                    refine xw.s (pc' := 77) (st' := [.inl (0 : Int32)]) rfl ?_
                    refine xw.retz (nx := 78) rfl (Or.inl rfl) ?_
                    show xw _ _ 17 [some (.inr (some (0, 0))), some (.inl a1), some (.inl a2), some (.inl a3)] [.inl (0 : Int32)] S _
                    refine xw.bf (cd := .ne) (x := (0 : Int32)) (y := (0 : Int32)) 23 20 (st' := []) rfl (y_cne _ _) (by decide) ?_
                    refine xw.s (pc' := 22) (st' := [.inl (-2 : Int32)]) rfl ?_
                    exact xw.ret (r := (some (.inl (-2 : Int32)))) rfl h
                  · skip
                    refine xw.s (pc' := 6) (st' := [.inl a3]) rfl ?_
                    refine xw.s (pc' := 7) (st' := [.inl (1000000 : Int32), .inl a3]) rfl ?_
                    refine xw.b (c := (1000000 : Int32) < a3) (cd := .gt) (x := a3) (y := (1000000 : Int32)) 14 10 (st' := []) rfl (y_cgt _ _) h (fun c233 h => ?_) (fun c233 h => ?_)
                    · skip
                      refine xw.s (pc' := 15) (st' := [.inl (0 : Int32)]) rfl ?_
                      refine xw.retz (nx := 16) rfl (Or.inl rfl) ?_
                      show xw _ _ 69 [some (.inl a1), some (.inl a2), some (.inl a3)] [.inl (0 : Int32)] S _
                      refine xw.bt (cd := .eq) (x := (0 : Int32)) (y := (0 : Int32)) 76 72 (st' := []) rfl (y_ceq _ _) (by decide) ?_
                      refine xw.s (pc' := 77) (st' := [.inl (0 : Int32)]) rfl ?_
                      refine xw.retz (nx := 78) rfl (Or.inl rfl) ?_
                      show xw _ _ 17 [some (.inr (some (0, 0))), some (.inl a1), some (.inl a2), some (.inl a3)] [.inl (0 : Int32)] S _
                      refine xw.bf (cd := .ne) (x := (0 : Int32)) (y := (0 : Int32)) 23 20 (st' := []) rfl (y_cne _ _) (by decide) ?_
                      refine xw.s (pc' := 22) (st' := [.inl (-2 : Int32)]) rfl ?_
                      exact xw.ret (r := (some (.inl (-2 : Int32)))) rfl h
                    · skip
                      refine xw.s (pc' := 11) (st' := [.inl (1 : Int32)]) rfl ?_
                      refine xw.s (pc' := 15) (st' := [.inl (1 : Int32)]) rfl ?_
                      refine xw.retz (nx := 16) rfl (Or.inr rfl) ?_
                      show xw _ _ 69 [some (.inl a1), some (.inl a2), some (.inl a3)] [.inl (1 : Int32)] S _
                      refine xw.bf (cd := .eq) (x := (1 : Int32)) (y := (0 : Int32)) 76 72 (st' := []) rfl (y_ceq _ _) (by decide) ?_
                      refine xw.s (pc' := 73) (st' := [.inl (1 : Int32)]) rfl ?_
                      refine xw.s (pc' := 77) (st' := [.inl (1 : Int32)]) rfl ?_
                      refine xw.retz (nx := 78) rfl (Or.inr rfl) ?_
                      show xw _ _ 17 [some (.inr (some (0, 0))), some (.inl a1), some (.inl a2), some (.inl a3)] [.inl (1 : Int32)] S _
                      refine xw.bt (cd := .ne) (x := (1 : Int32)) (y := (0 : Int32)) 23 20 (st' := []) rfl (y_cne _ _) (by decide) ?_
                      refine xw.s (pc' := 24) (st' := [.inr (some (0, 0))]) rfl ?_
                      refine xw.fr (c := 0) (j := 11) (e := 12) (nx := 27) (t := (some 11)) rfl rfl (hC 11 (by decide)) ?_
                      show xw _ _ _ [some (.inr (some (0, 0))), some (.inl a1), some (.inl a2), some (.inl a3)] [.inr (some (12, 11))] _ _
                      refine xw.lsz (nx := 30) (n := (xm_n S 1 11)) rfl (Nat.le_of_ble_eq_true rfl) rfl ?_
                      refine xw.s (pc' := 32) (st' := [.inl (10 : Int32), .inl (nI (xm_n S 1 11))]) rfl ?_
                      refine xw.b (c := (nI (xm_n S 1 11)) < (10 : Int32)) (cd := .lt) (x := (nI (xm_n S 1 11))) (y := (10 : Int32)) 38 35 (st' := []) rfl (y_clt _ _) h (fun c234 h => ?_) (fun c234 h => ?_)
                      · skip
                        refine xw.s (pc' := 39) (st' := [.inr (some (0, 0))]) rfl ?_
                        refine xw.fr (c := 0) (j := 11) (e := 12) (nx := 42) (t := (some 11)) rfl rfl (hC 11 (by decide)) ?_
                        show xw _ _ _ [some (.inr (some (0, 0))), some (.inl a1), some (.inl a2), some (.inl a3)] [.inr (some (12, 11))] _ _
                        refine xw.s (pc' := 45) (st' := [.inr (some (1, (xm_n S 0 1))), .inr (some (12, 11))]) (S1 := xm_mk 1 6 S) rfl ?_
                        obtain ⟨k235, q236⟩ : ∃ k, k = xm_n S 0 1 := ⟨_, rfl⟩
                        rw [← q236]
                        replace h := h k235 q236
                        obtain ⟨S237, e238⟩ : ∃ s, s = xm_mk 1 6 S := ⟨_, rfl⟩
                        rw [← e238]
                        replace h := h S237 e238
                        refine xw.s (pc' := 46) (st' := [.inr (some (1, k235)), .inr (some (1, k235)), .inr (some (12, 11))]) rfl ?_
                        refine xw.s (pc' := 47) (st' := [.inl a1, .inr (some (1, k235)), .inr (some (1, k235)), .inr (some (12, 11))]) rfl ?_
                        refine xw.s (pc' := 48) (st' := [.inl a2, .inl a1, .inr (some (1, k235)), .inr (some (1, k235)), .inr (some (12, 11))]) rfl ?_
                        refine xw.s (pc' := 49) (st' := [.inl a3, .inl a2, .inl a1, .inr (some (1, k235)), .inr (some (1, k235)), .inr (some (12, 11))]) rfl ?_
                        refine xw.call (m := 92) (as := [.inr (some (1, k235)), .inl a1, .inl a2, .inl a3]) (nx := 52) (L' := [some (.inr (some (0, 0))), some (.inl a1), some (.inl a2), some (.inl a3)]) (st' := [.inr (some (1, k235)), .inr (some (12, 11))]) rfl (xc.mono h ?_)
                        rintro r S239 ⟨rfl, hC240, h⟩
                        show xw _ _ 52 [some (.inr (some (0, 0))), some (.inl a1), some (.inl a2), some (.inl a3)] [.inr (some (1, k235)), .inr (some (12, 11))] _ _
                        obtain ⟨z241, z242, h⟩ := h
                        refine xw.ladd (nx := 55) rfl (Nat.le_of_ble_eq_true rfl) (by decide) z241 z242 ?_
                        obtain ⟨S243, e244⟩ : ∃ s, s = xm_push 11 (1, k235) S239 := ⟨_, rfl⟩
                        rw [← e244]
                        replace h := h S243 e244
                        refine xw.s (pc' := 56) (st' := []) rfl ?_
                        refine xw.s (pc' := 57) (st' := [.inr (some (0, 0))]) rfl ?_
                        refine xw.fr (c := 0) (j := 11) (e := 12) (nx := 60) (t := (some 11)) rfl rfl ((congrArg (fun s => xm_r s 0 0 11) e244).trans (xr_push.trans (hC240 11 (by decide)))) ?_
                        show xw _ _ _ [some (.inr (some (0, 0))), some (.inl a1), some (.inl a2), some (.inl a3)] [.inr (some (12, 11))] _ _
                        refine xw.lsz (nx := 63) (n := (xm_n S243 1 11)) rfl (Nat.le_of_ble_eq_true rfl) rfl ?_
                        refine xw.s (pc' := 64) (st' := [.inl (1 : Int32), .inl (nI (xm_n S243 1 11))]) rfl ?_
                        refine xw.s (pc' := 65) (st' := [.inl ((nI (xm_n S243 1 11)) - (1 : Int32))]) rfl ?_
                        exact xw.ret (r := (some (.inl ((nI (xm_n S243 1 11)) - (1 : Int32))))) rfl h
                      · skip
                        refine xw.s (pc' := 37) (st' := [.inl (-3 : Int32)]) rfl ?_
                        exact xw.ret (r := (some (.inl (-3 : Int32)))) rfl h
                · skip
                  refine xw.s (pc' := 77) (st' := [.inl (0 : Int32)]) rfl ?_
                  refine xw.retz (nx := 78) rfl (Or.inl rfl) ?_
                  show xw _ _ 17 [some (.inr (some (0, 0))), some (.inl a1), some (.inl a2), some (.inl a3)] [.inl (0 : Int32)] S _
                  refine xw.bf (cd := .ne) (x := (0 : Int32)) (y := (0 : Int32)) 23 20 (st' := []) rfl (y_cne _ _) (by decide) ?_
                  refine xw.s (pc' := 22) (st' := [.inl (-2 : Int32)]) rfl ?_
                  exact xw.ret (r := (some (.inl (-2 : Int32)))) rfl h
              · skip
                refine xw.s (pc' := 79) (st' := [.inl (0 : Int32)]) rfl ?_
                refine xw.retz (nx := 80) rfl (Or.inl rfl) ?_
                show xw _ _ 17 [some (.inr (some (0, 0))), some (.inl a1), some (.inl a2), some (.inl a3)] [.inl (0 : Int32)] S _
                refine xw.bf (cd := .ne) (x := (0 : Int32)) (y := (0 : Int32)) 23 20 (st' := []) rfl (y_cne _ _) (by decide) ?_
                refine xw.s (pc' := 22) (st' := [.inl (-2 : Int32)]) rfl ?_
                exact xw.ret (r := (some (.inl (-2 : Int32)))) rfl h
/-- alarmed -/
theorem cw_alarmed {d : Nat} {a1 : Int32} {a2 : Int32} {S : xm_S} {Q : Option xm_V → xm_S → Prop} (hC : xk_C S) (h : (a1 < (0 : Int32) → Q (some (.inl (-1 : Int32))) S) ∧ (¬ a1 < (0 : Int32) → (a1 < (nI (xm_n S 1 11)) → y_in a1 (xm_n S 1 11) ∧ (∃ k4, (xm_l S 11 (y_ix a1)) = (1, k4) ∧ ((a2 = (0 : Int32) → ((xm_i S 1 k4 3) = (0 : Int32) → Q (some (.inl (0 : Int32))) S) ∧ (¬ (xm_i S 1 k4 3) = (0 : Int32) → Q (some (.inl (1 : Int32))) S)) ∧ (¬ a2 = (0 : Int32) → (a2 = (1 : Int32) → Q (some (.inl (xm_i S 1 k4 4))) S) ∧ (¬ a2 = (1 : Int32) → (a2 = (2 : Int32) → Q (some (.inl (xm_i S 1 k4 5))) S) ∧ (¬ a2 = (2 : Int32) → Q (some (.inl (-1 : Int32))) S)))))) ∧ (¬ a1 < (nI (xm_n S 1 11)) → Q (some (.inl (-1 : Int32))) S))) : xc (d) 71 [.inr (some (0, 0)), .inl a1, .inl a2] S Q := by
  show xw _ _ _ [some (.inr (some (0, 0))), some (.inl a1), some (.inl a2), none] _ _ _
  refine xw.s (pc' := 1) (st' := [.inl a1]) rfl ?_
  refine xw.b (c := a1 < (0 : Int32)) (cd := .lt) (x := a1) (y := (0 : Int32)) 15 4 (st' := []) rfl (y_clt _ _) h (fun c1 h => ?_) (fun c1 h => ?_)
  · skip
    refine xw.s (pc' := 16) (st' := [.inl (-1 : Int32)]) rfl ?_
    exact xw.ret (r := (some (.inl (-1 : Int32)))) rfl h
  · skip
    refine xw.s (pc' := 5) (st' := [.inl a1]) rfl ?_
    refine xw.s (pc' := 6) (st' := [.inr (some (0, 0)), .inl a1]) rfl ?_
    refine xw.fr (c := 0) (j := 11) (e := 12) (nx := 9) (t := (some 11)) rfl rfl (hC 11 (by decide)) ?_
    show xw _ _ _ [some (.inr (some (0, 0))), some (.inl a1), some (.inl a2), none] [.inr (some (12, 11)), .inl a1] _ _
    refine xw.lsz (nx := 12) (n := (xm_n S 1 11)) rfl (Nat.le_of_ble_eq_true rfl) rfl ?_
    refine xw.b (c := a1 < (nI (xm_n S 1 11))) (cd := .lt) (x := a1) (y := (nI (xm_n S 1 11))) 17 15 (st' := []) rfl (y_clt _ _) h (fun c2 h => ?_) (fun c2 h => ?_)
    · skip
      refine xw.s (pc' := 18) (st' := [.inr (some (0, 0))]) rfl ?_
      refine xw.fr (c := 0) (j := 11) (e := 12) (nx := 21) (t := (some 11)) rfl rfl (hC 11 (by decide)) ?_
      show xw _ _ _ [some (.inr (some (0, 0))), some (.inl a1), some (.inl a2), none] [.inr (some (12, 11))] _ _
      refine xw.s (pc' := 22) (st' := [.inl a1, .inr (some (12, 11))]) rfl ?_
      obtain ⟨z3, h⟩ := h
      obtain ⟨k4, q5, h⟩ := h
      refine xw.get (nx := 25) (p := (1, k4)) rfl (Nat.le_of_ble_eq_true rfl) z3 q5 ?_
      refine xw.s (pc' := 28) (st' := [.inr (some (1, k4))]) rfl ?_
      refine xw.s (pc' := 29) (st' := []) (L' := [some (.inr (some (0, 0))), some (.inl a1), some (.inl a2), some (.inr (some (1, k4)))]) rfl ?_
      refine xw.s (pc' := 30) (st' := [.inl a2]) rfl ?_
      refine xw.ts1 rfl rfl ?_
      refine xw.bw (0 : Int32) rfl h (fun c6 h => ?_) (fun c6 h => ?_)
      · skip
        refine xw.s (pc' := 57) (st' := [.inr (some (1, k4))]) rfl ?_
        refine xw.fi (c := 1) (j := 3) (ty := 1) (nx := 60) (v := (xm_i S 1 k4 3)) rfl rfl rfl ?_
        refine xw.b (c := (xm_i S 1 k4 3) = (0 : Int32)) (cd := .eq) (x := (xm_i S 1 k4 3)) (y := (0 : Int32)) 67 63 (st' := []) rfl (y_ceq _ _) h (fun c7 h => ?_) (fun c7 h => ?_)
        · skip
          refine xw.s (pc' := 68) (st' := [.inl (0 : Int32)]) rfl ?_
          exact xw.ret (r := (some (.inl (0 : Int32)))) rfl h
        · skip
          refine xw.s (pc' := 64) (st' := [.inl (1 : Int32)]) rfl ?_
          refine xw.s (pc' := 68) (st' := [.inl (1 : Int32)]) rfl ?_
          exact xw.ret (r := (some (.inl (1 : Int32)))) rfl h
      · skip
        refine xw.bw (1 : Int32) rfl h (fun c8 h => ?_) (fun c8 h => ?_)
        · skip
          refine xw.s (pc' := 70) (st' := [.inr (some (1, k4))]) rfl ?_
          refine xw.fi (c := 1) (j := 4) (ty := 0) (nx := 73) (v := (xm_i S 1 k4 4)) rfl rfl rfl ?_
          exact xw.ret (r := (some (.inl (xm_i S 1 k4 4)))) rfl h
        · skip
          refine xw.bw (2 : Int32) rfl h (fun c9 h => ?_) (fun c9 h => ?_)
          · skip
            refine xw.s (pc' := 75) (st' := [.inr (some (1, k4))]) rfl ?_
            refine xw.fi (c := 1) (j := 5) (ty := 0) (nx := 78) (v := (xm_i S 1 k4 5)) rfl rfl rfl ?_
            exact xw.ret (r := (some (.inl (xm_i S 1 k4 5)))) rfl h
          · skip
            refine xw.s (pc' := 80) (st' := [.inl (-1 : Int32)]) rfl ?_
            exact xw.ret (r := (some (.inl (-1 : Int32)))) rfl h
    · skip
      refine xw.s (pc' := 16) (st' := [.inl (-1 : Int32)]) rfl ?_
      exact xw.ret (r := (some (.inl (-1 : Int32)))) rfl h
/-- now -/
theorem cw_now {d : Nat}  {S : xm_S} {Q : Option xm_V → xm_S → Prop} (hC : xk_C S) (h : Q (some (.inl (xm_i S 0 0 13))) S) : xc (d) 72 [.inr (some (0, 0))] S Q := by
  show xw _ _ _ [some (.inr (some (0, 0)))] _ _ _
  refine xw.s (pc' := 1) (st' := [.inr (some (0, 0))]) rfl ?_
  refine xw.fi (c := 0) (j := 13) (ty := 0) (nx := 4) (v := (xm_i S 0 0 13)) rfl rfl rfl ?_
  exact xw.ret (r := (some (.inl (xm_i S 0 0 13)))) rfl h
/-- outcome -/
theorem cw_outcome {d : Nat} {a1 : Int32} {S : xm_S} {Q : Option xm_V → xm_S → Prop} (hC : xk_C S) (h : (a1 < (0 : Int32) → Q (some (.inl (-1 : Int32))) S) ∧ (¬ a1 < (0 : Int32) → ((nI (xm_n S 1 5)) ≤ a1 → Q (some (.inl (-1 : Int32))) S) ∧ (¬ (nI (xm_n S 1 5)) ≤ a1 → y_in a1 (xm_n S 1 5) ∧ (∃ k4, (xm_l S 5 (y_ix a1)) = (6, k4) ∧ (∀ t6, (xm_r S 6 k4 6) = t6 → ((t6 = none → Q (some (.inl (-1 : Int32))) S) ∧ (∀ k8, t6 = some k8 → ((xm_i S 2 k8 8) = (1 : Int32) → ((xm_i S 2 k8 10) = (0 : Int32) → Q (some (.inl (1 : Int32))) S) ∧ (¬ (xm_i S 2 k8 10) = (0 : Int32) → Q (some (.inl (3 : Int32))) S)) ∧ (¬ (xm_i S 2 k8 8) = (1 : Int32) → ((xm_i S 2 k8 8) = (2 : Int32) → Q (some (.inl (2 : Int32))) S) ∧ (¬ (xm_i S 2 k8 8) = (2 : Int32) → ((xm_i S 2 k8 8) = (3 : Int32) → Q (some (.inl (4 : Int32))) S) ∧ (¬ (xm_i S 2 k8 8) = (3 : Int32) → Q (some (.inl (0 : Int32))) S)))))))))) : xc (d + 1) 73 [.inr (some (0, 0)), .inl a1] S Q := by
  show xw _ _ _ [some (.inr (some (0, 0))), some (.inl a1), none] _ _ _
  refine xw.s (pc' := 1) (st' := [.inr (some (0, 0))]) rfl ?_
  refine xw.s (pc' := 2) (st' := [.inl a1, .inr (some (0, 0))]) rfl ?_
  refine xw.call (m := 48) (as := [.inr (some (0, 0)), .inl a1]) (nx := 5) (L' := [some (.inr (some (0, 0))), some (.inl a1), none]) (st' := []) rfl ?_
  show xw _ _ _ [some (.inr (some (0, 0))), some (.inl a1)] [] _ _
  refine xw.s (pc' := 1) (st' := [.inl a1]) rfl ?_
  refine xw.b (c := a1 < (0 : Int32)) (cd := .lt) (x := a1) (y := (0 : Int32)) 29 4 (st' := []) rfl (y_clt _ _) h (fun c1 h => ?_) (fun c1 h => ?_)
  · skip
    refine xw.s (pc' := 30) (st' := [.inr none]) rfl ?_
    refine xw.ret (r := some (.inr none)) rfl ?_
    show xw _ _ 5 [some (.inr (some (0, 0))), some (.inl a1), none] [.inr none] S _
    refine xw.s (pc' := 6) (st' := []) (L' := [some (.inr (some (0, 0))), some (.inl a1), some (.inr none)]) rfl ?_
    refine xw.s (pc' := 7) (st' := [.inr none]) rfl ?_
    refine xw.s (pc' := 17) (st' := []) rfl ?_
    refine xw.s (pc' := 18) (st' := [.inl (-1 : Int32)]) rfl ?_
    exact xw.ret (r := (some (.inl (-1 : Int32)))) rfl h
  · skip
    refine xw.s (pc' := 5) (st' := [.inl a1]) rfl ?_
    refine xw.s (pc' := 6) (st' := [.inr (some (0, 0)), .inl a1]) rfl ?_
    refine xw.fr (c := 0) (j := 5) (e := 12) (nx := 9) (t := (some 5)) rfl rfl (hC 5 (by decide)) ?_
    show xw _ _ _ [some (.inr (some (0, 0))), some (.inl a1)] [.inr (some (12, 5)), .inl a1] _ _
    refine xw.lsz (nx := 12) (n := (xm_n S 1 5)) rfl (Nat.le_of_ble_eq_true rfl) rfl ?_
    refine xw.b (c := (nI (xm_n S 1 5)) ≤ a1) (cd := .ge) (x := a1) (y := (nI (xm_n S 1 5))) 29 15 (st' := []) rfl (y_cge _ _) h (fun c2 h => ?_) (fun c2 h => ?_)
    · skip
      refine xw.s (pc' := 30) (st' := [.inr none]) rfl ?_
      refine xw.ret (r := some (.inr none)) rfl ?_
      show xw _ _ 5 [some (.inr (some (0, 0))), some (.inl a1), none] [.inr none] S _
      refine xw.s (pc' := 6) (st' := []) (L' := [some (.inr (some (0, 0))), some (.inl a1), some (.inr none)]) rfl ?_
      refine xw.s (pc' := 7) (st' := [.inr none]) rfl ?_
      refine xw.s (pc' := 17) (st' := []) rfl ?_
      refine xw.s (pc' := 18) (st' := [.inl (-1 : Int32)]) rfl ?_
      exact xw.ret (r := (some (.inl (-1 : Int32)))) rfl h
    · skip
      refine xw.s (pc' := 16) (st' := [.inr (some (0, 0))]) rfl ?_
      refine xw.fr (c := 0) (j := 5) (e := 12) (nx := 19) (t := (some 5)) rfl rfl (hC 5 (by decide)) ?_
      show xw _ _ _ [some (.inr (some (0, 0))), some (.inl a1)] [.inr (some (12, 5))] _ _
      refine xw.s (pc' := 20) (st' := [.inl a1, .inr (some (12, 5))]) rfl ?_
      obtain ⟨z3, h⟩ := h
      obtain ⟨k4, q5, h⟩ := h
      refine xw.get (nx := 23) (p := (6, k4)) rfl (Nat.le_of_ble_eq_true rfl) z3 q5 ?_
      refine xw.s (pc' := 26) (st' := [.inr (some (6, k4))]) rfl ?_
      refine xw.s (pc' := 30) (st' := [.inr (some (6, k4))]) rfl ?_
      refine xw.ret (r := some (.inr (some (6, k4)))) rfl ?_
      show xw _ _ 5 [some (.inr (some (0, 0))), some (.inl a1), none] [.inr (some (6, k4))] S _
      refine xw.s (pc' := 6) (st' := []) (L' := [some (.inr (some (0, 0))), some (.inl a1), some (.inr (some (6, k4)))]) rfl ?_
      refine xw.s (pc' := 7) (st' := [.inr (some (6, k4))]) rfl ?_
      refine xw.s (pc' := 10) (st' := []) rfl ?_
      refine xw.s (pc' := 11) (st' := [.inr (some (6, k4))]) rfl ?_
      obtain ⟨t6, q7⟩ : ∃ t, (xm_r S 6 k4 6) = t := ⟨_, rfl⟩
      replace h := h t6 q7
      refine xw.fr (c := 6) (j := 6) (e := 2) (nx := 14) (t := t6) rfl rfl q7 ?_
      show xw _ _ _ [some (.inr (some (0, 0))), some (.inl a1), some (.inr (some (6, k4)))] [.inr (xo 2 t6)] _ _
      refine xw.nnul (o := t6) (t := 19) (nx := 17) rfl rfl ?_
      rcases t6 with _ | k8
      · replace h := h.1 rfl
        show xw _ _ 17 [some (.inr (some (0, 0))), some (.inl a1), some (.inr (some (6, k4)))] [] _ _
        refine xw.s (pc' := 18) (st' := [.inl (-1 : Int32)]) rfl ?_
        exact xw.ret (r := (some (.inl (-1 : Int32)))) rfl h
      · replace h := h.2 k8 rfl
        show xw _ _ 19 [some (.inr (some (0, 0))), some (.inl a1), some (.inr (some (6, k4)))] [] _ _
        refine xw.s (pc' := 20) (st' := [.inr (some (6, k4))]) rfl ?_
        refine xw.fr (c := 6) (j := 6) (e := 2) (nx := 23) (t := (some k8)) rfl rfl q7 ?_
        show xw _ _ _ [some (.inr (some (0, 0))), some (.inl a1), some (.inr (some (6, k4)))] [.inr (some (2, k8))] _ _
        refine xw.fi (c := 2) (j := 8) (ty := 0) (nx := 26) (v := (xm_i S 2 k8 8)) rfl rfl rfl ?_
        refine xw.ts1 rfl rfl ?_
        refine xw.bw (1 : Int32) rfl h (fun c9 h => ?_) (fun c9 h => ?_)
        · skip
          refine xw.s (pc' := 53) (st' := [.inr (some (6, k4))]) rfl ?_
          refine xw.fr (c := 6) (j := 6) (e := 2) (nx := 56) (t := (some k8)) rfl rfl q7 ?_
          show xw _ _ _ [some (.inr (some (0, 0))), some (.inl a1), some (.inr (some (6, k4)))] [.inr (some (2, k8))] _ _
          refine xw.fi (c := 2) (j := 10) (ty := 1) (nx := 59) (v := (xm_i S 2 k8 10)) rfl rfl rfl ?_
          refine xw.b (c := (xm_i S 2 k8 10) = (0 : Int32)) (cd := .eq) (x := (xm_i S 2 k8 10)) (y := (0 : Int32)) 66 62 (st' := []) rfl (y_ceq _ _) h (fun c10 h => ?_) (fun c10 h => ?_)
          · skip
            refine xw.s (pc' := 67) (st' := [.inl (1 : Int32)]) rfl ?_
            exact xw.ret (r := (some (.inl (1 : Int32)))) rfl h
          · skip
            refine xw.s (pc' := 63) (st' := [.inl (3 : Int32)]) rfl ?_
            refine xw.s (pc' := 67) (st' := [.inl (3 : Int32)]) rfl ?_
            exact xw.ret (r := (some (.inl (3 : Int32)))) rfl h
        · skip
          refine xw.bw (2 : Int32) rfl h (fun c11 h => ?_) (fun c11 h => ?_)
          · skip
            refine xw.s (pc' := 69) (st' := [.inl (2 : Int32)]) rfl ?_
            exact xw.ret (r := (some (.inl (2 : Int32)))) rfl h
          · skip
            refine xw.bw (3 : Int32) rfl h (fun c12 h => ?_) (fun c12 h => ?_)
            · skip
              refine xw.s (pc' := 71) (st' := [.inl (4 : Int32)]) rfl ?_
              exact xw.ret (r := (some (.inl (4 : Int32)))) rfl h
            · skip
              refine xw.s (pc' := 73) (st' := [.inl (0 : Int32)]) rfl ?_
              exact xw.ret (r := (some (.inl (0 : Int32)))) rfl h
/-- of -/
theorem cw_of {d : Nat} {a1 : Int32} {a2 : Int32} {S : xm_S} {Q : Option xm_V → xm_S → Prop} (hC : xk_C S) (h : (a1 < (0 : Int32) → Q (some (.inl (-1 : Int32))) S) ∧ (¬ a1 < (0 : Int32) → ((nI (xm_n S 1 5)) ≤ a1 → Q (some (.inl (-1 : Int32))) S) ∧ (¬ (nI (xm_n S 1 5)) ≤ a1 → y_in a1 (xm_n S 1 5) ∧ (∃ k4, (xm_l S 5 (y_ix a1)) = (6, k4) ∧ (∀ t6, (xm_r S 6 k4 6) = t6 → ((t6 = none → Q (some (.inl (-1 : Int32))) S) ∧ (∀ k8, t6 = some k8 → (a2 = (0 : Int32) → Q (some (.inl (xm_i S 2 k8 9))) S) ∧ (¬ a2 = (0 : Int32) → (a2 = (1 : Int32) → ∀ t11, (xm_r S 2 k8 11) = t11 → ((t11 = none → Q (some (.inl (-1 : Int32))) S) ∧ (∀ k13, t11 = some k13 → Q (some (.inl (xm_i S 4 k13 0))) S))) ∧ (¬ a2 = (1 : Int32) → (a2 = (2 : Int32) → Q (some (.inl (xm_i S 2 k8 5))) S) ∧ (¬ a2 = (2 : Int32) → (a2 = (3 : Int32) → Q (some (.inl (xm_i S 2 k8 7))) S) ∧ (¬ a2 = (3 : Int32) → Q (some (.inl (-1 : Int32))) S))))))))))) : xc (d + 1) 74 [.inr (some (0, 0)), .inl a1, .inl a2] S Q := by
  show xw _ _ _ [some (.inr (some (0, 0))), some (.inl a1), some (.inl a2), none] _ _ _
  refine xw.s (pc' := 1) (st' := [.inr (some (0, 0))]) rfl ?_
  refine xw.s (pc' := 2) (st' := [.inl a1, .inr (some (0, 0))]) rfl ?_
  refine xw.call (m := 48) (as := [.inr (some (0, 0)), .inl a1]) (nx := 5) (L' := [some (.inr (some (0, 0))), some (.inl a1), some (.inl a2), none]) (st' := []) rfl ?_
  show xw _ _ _ [some (.inr (some (0, 0))), some (.inl a1)] [] _ _
  refine xw.s (pc' := 1) (st' := [.inl a1]) rfl ?_
  refine xw.b (c := a1 < (0 : Int32)) (cd := .lt) (x := a1) (y := (0 : Int32)) 29 4 (st' := []) rfl (y_clt _ _) h (fun c1 h => ?_) (fun c1 h => ?_)
  · skip
    refine xw.s (pc' := 30) (st' := [.inr none]) rfl ?_
    refine xw.ret (r := some (.inr none)) rfl ?_
    show xw _ _ 5 [some (.inr (some (0, 0))), some (.inl a1), some (.inl a2), none] [.inr none] S _
    refine xw.s (pc' := 6) (st' := []) (L' := [some (.inr (some (0, 0))), some (.inl a1), some (.inl a2), some (.inr none)]) rfl ?_
    refine xw.s (pc' := 7) (st' := [.inr none]) rfl ?_
    refine xw.s (pc' := 17) (st' := []) rfl ?_
    refine xw.s (pc' := 18) (st' := [.inl (-1 : Int32)]) rfl ?_
    exact xw.ret (r := (some (.inl (-1 : Int32)))) rfl h
  · skip
    refine xw.s (pc' := 5) (st' := [.inl a1]) rfl ?_
    refine xw.s (pc' := 6) (st' := [.inr (some (0, 0)), .inl a1]) rfl ?_
    refine xw.fr (c := 0) (j := 5) (e := 12) (nx := 9) (t := (some 5)) rfl rfl (hC 5 (by decide)) ?_
    show xw _ _ _ [some (.inr (some (0, 0))), some (.inl a1)] [.inr (some (12, 5)), .inl a1] _ _
    refine xw.lsz (nx := 12) (n := (xm_n S 1 5)) rfl (Nat.le_of_ble_eq_true rfl) rfl ?_
    refine xw.b (c := (nI (xm_n S 1 5)) ≤ a1) (cd := .ge) (x := a1) (y := (nI (xm_n S 1 5))) 29 15 (st' := []) rfl (y_cge _ _) h (fun c2 h => ?_) (fun c2 h => ?_)
    · skip
      refine xw.s (pc' := 30) (st' := [.inr none]) rfl ?_
      refine xw.ret (r := some (.inr none)) rfl ?_
      show xw _ _ 5 [some (.inr (some (0, 0))), some (.inl a1), some (.inl a2), none] [.inr none] S _
      refine xw.s (pc' := 6) (st' := []) (L' := [some (.inr (some (0, 0))), some (.inl a1), some (.inl a2), some (.inr none)]) rfl ?_
      refine xw.s (pc' := 7) (st' := [.inr none]) rfl ?_
      refine xw.s (pc' := 17) (st' := []) rfl ?_
      refine xw.s (pc' := 18) (st' := [.inl (-1 : Int32)]) rfl ?_
      exact xw.ret (r := (some (.inl (-1 : Int32)))) rfl h
    · skip
      refine xw.s (pc' := 16) (st' := [.inr (some (0, 0))]) rfl ?_
      refine xw.fr (c := 0) (j := 5) (e := 12) (nx := 19) (t := (some 5)) rfl rfl (hC 5 (by decide)) ?_
      show xw _ _ _ [some (.inr (some (0, 0))), some (.inl a1)] [.inr (some (12, 5))] _ _
      refine xw.s (pc' := 20) (st' := [.inl a1, .inr (some (12, 5))]) rfl ?_
      obtain ⟨z3, h⟩ := h
      obtain ⟨k4, q5, h⟩ := h
      refine xw.get (nx := 23) (p := (6, k4)) rfl (Nat.le_of_ble_eq_true rfl) z3 q5 ?_
      refine xw.s (pc' := 26) (st' := [.inr (some (6, k4))]) rfl ?_
      refine xw.s (pc' := 30) (st' := [.inr (some (6, k4))]) rfl ?_
      refine xw.ret (r := some (.inr (some (6, k4)))) rfl ?_
      show xw _ _ 5 [some (.inr (some (0, 0))), some (.inl a1), some (.inl a2), none] [.inr (some (6, k4))] S _
      refine xw.s (pc' := 6) (st' := []) (L' := [some (.inr (some (0, 0))), some (.inl a1), some (.inl a2), some (.inr (some (6, k4)))]) rfl ?_
      refine xw.s (pc' := 7) (st' := [.inr (some (6, k4))]) rfl ?_
      refine xw.s (pc' := 10) (st' := []) rfl ?_
      refine xw.s (pc' := 11) (st' := [.inr (some (6, k4))]) rfl ?_
      obtain ⟨t6, q7⟩ : ∃ t, (xm_r S 6 k4 6) = t := ⟨_, rfl⟩
      replace h := h t6 q7
      refine xw.fr (c := 6) (j := 6) (e := 2) (nx := 14) (t := t6) rfl rfl q7 ?_
      show xw _ _ _ [some (.inr (some (0, 0))), some (.inl a1), some (.inl a2), some (.inr (some (6, k4)))] [.inr (xo 2 t6)] _ _
      refine xw.nnul (o := t6) (t := 19) (nx := 17) rfl rfl ?_
      rcases t6 with _ | k8
      · replace h := h.1 rfl
        show xw _ _ 17 [some (.inr (some (0, 0))), some (.inl a1), some (.inl a2), some (.inr (some (6, k4)))] [] _ _
        refine xw.s (pc' := 18) (st' := [.inl (-1 : Int32)]) rfl ?_
        exact xw.ret (r := (some (.inl (-1 : Int32)))) rfl h
      · replace h := h.2 k8 rfl
        show xw _ _ 19 [some (.inr (some (0, 0))), some (.inl a1), some (.inl a2), some (.inr (some (6, k4)))] [] _ _
        refine xw.s (pc' := 20) (st' := [.inl a2]) rfl ?_
        refine xw.ts1 rfl rfl ?_
        refine xw.bw (0 : Int32) rfl h (fun c9 h => ?_) (fun c9 h => ?_)
        · skip
          refine xw.s (pc' := 53) (st' := [.inr (some (6, k4))]) rfl ?_
          refine xw.fr (c := 6) (j := 6) (e := 2) (nx := 56) (t := (some k8)) rfl rfl q7 ?_
          show xw _ _ _ [some (.inr (some (0, 0))), some (.inl a1), some (.inl a2), some (.inr (some (6, k4)))] [.inr (some (2, k8))] _ _
          refine xw.fi (c := 2) (j := 9) (ty := 0) (nx := 59) (v := (xm_i S 2 k8 9)) rfl rfl rfl ?_
          exact xw.ret (r := (some (.inl (xm_i S 2 k8 9)))) rfl h
        · skip
          refine xw.bw (1 : Int32) rfl h (fun c10 h => ?_) (fun c10 h => ?_)
          · skip
            refine xw.s (pc' := 61) (st' := [.inr (some (6, k4))]) rfl ?_
            refine xw.fr (c := 6) (j := 6) (e := 2) (nx := 64) (t := (some k8)) rfl rfl q7 ?_
            show xw _ _ _ [some (.inr (some (0, 0))), some (.inl a1), some (.inl a2), some (.inr (some (6, k4)))] [.inr (some (2, k8))] _ _
            obtain ⟨t11, q12⟩ : ∃ t, (xm_r S 2 k8 11) = t := ⟨_, rfl⟩
            replace h := h t11 q12
            refine xw.fr (c := 2) (j := 11) (e := 4) (nx := 67) (t := t11) rfl rfl q12 ?_
            show xw _ _ _ [some (.inr (some (0, 0))), some (.inl a1), some (.inl a2), some (.inr (some (6, k4)))] [.inr (xo 4 t11)] _ _
            refine xw.call (m := 75) (as := [.inr (xo 4 t11)]) (nx := 70) (L' := [some (.inr (some (0, 0))), some (.inl a1), some (.inl a2), some (.inr (some (6, k4)))]) (st' := []) rfl ?_
            show xw _ _ _ [some (.inr (xo 4 t11))] [] _ _
            refine xw.s (pc' := 1) (st' := [.inr (xo 4 t11)]) rfl ?_
            refine xw.nnul (o := t11) (t := 8) (nx := 4) rfl rfl ?_
            rcases t11 with _ | k13
            · replace h := h.1 rfl
              show xw _ _ 4 [some (.inr none)] [] _ _
              refine xw.s (pc' := 5) (st' := [.inl (-1 : Int32)]) rfl ?_
              refine xw.s (pc' := 12) (st' := [.inl (-1 : Int32)]) rfl ?_
              refine xw.ret (r := some (.inl (-1 : Int32))) rfl ?_
              show xw _ _ 70 [some (.inr (some (0, 0))), some (.inl a1), some (.inl a2), some (.inr (some (6, k4)))] [.inl (-1 : Int32)] S _
              exact xw.ret (r := (some (.inl (-1 : Int32)))) rfl h
            · replace h := h.2 k13 rfl
              show xw _ _ 8 [some (.inr (some (4, k13)))] [] _ _
              refine xw.s (pc' := 9) (st' := [.inr (some (4, k13))]) rfl ?_
              refine xw.fi (c := 4) (j := 0) (ty := 0) (nx := 12) (v := (xm_i S 4 k13 0)) rfl rfl rfl ?_
              refine xw.ret (r := some (.inl (xm_i S 4 k13 0))) rfl ?_
              show xw _ _ 70 [some (.inr (some (0, 0))), some (.inl a1), some (.inl a2), some (.inr (some (6, k4)))] [.inl (xm_i S 4 k13 0)] S _
              exact xw.ret (r := (some (.inl (xm_i S 4 k13 0)))) rfl h
          · skip
            refine xw.bw (2 : Int32) rfl h (fun c14 h => ?_) (fun c14 h => ?_)
            · skip
              refine xw.s (pc' := 72) (st' := [.inr (some (6, k4))]) rfl ?_
              refine xw.fr (c := 6) (j := 6) (e := 2) (nx := 75) (t := (some k8)) rfl rfl q7 ?_
              show xw _ _ _ [some (.inr (some (0, 0))), some (.inl a1), some (.inl a2), some (.inr (some (6, k4)))] [.inr (some (2, k8))] _ _
              refine xw.fi (c := 2) (j := 5) (ty := 0) (nx := 78) (v := (xm_i S 2 k8 5)) rfl rfl rfl ?_
              exact xw.ret (r := (some (.inl (xm_i S 2 k8 5)))) rfl h
            · skip
              refine xw.bw (3 : Int32) rfl h (fun c15 h => ?_) (fun c15 h => ?_)
              · skip
                refine xw.s (pc' := 80) (st' := [.inr (some (6, k4))]) rfl ?_
                refine xw.fr (c := 6) (j := 6) (e := 2) (nx := 83) (t := (some k8)) rfl rfl q7 ?_
                show xw _ _ _ [some (.inr (some (0, 0))), some (.inl a1), some (.inl a2), some (.inr (some (6, k4)))] [.inr (some (2, k8))] _ _
                refine xw.fi (c := 2) (j := 7) (ty := 0) (nx := 86) (v := (xm_i S 2 k8 7)) rfl rfl rfl ?_
                exact xw.ret (r := (some (.inl (xm_i S 2 k8 7)))) rfl h
              · skip
                refine xw.s (pc' := 88) (st' := [.inl (-1 : Int32)]) rfl ?_
                exact xw.ret (r := (some (.inl (-1 : Int32)))) rfl h
/-- failure -/
theorem cw_failure {d : Nat} {a1 : Int32} {a2 : Int32} {S : xm_S} {Q : Option xm_V → xm_S → Prop} (hC : xk_C S) (h : (a1 < (0 : Int32) → Q (some (.inl (-1 : Int32))) S) ∧ (¬ a1 < (0 : Int32) → (a1 < (nI (xm_n S 1 8)) → y_in a1 (xm_n S 1 8) ∧ (∃ k4, (xm_l S 8 (y_ix a1)) = (4, k4) ∧ ((a2 = (0 : Int32) → Q (some (.inl (xm_i S 4 k4 1))) S) ∧ (¬ a2 = (0 : Int32) → (a2 = (1 : Int32) → Q (some (.inl (xm_i S 4 k4 2))) S) ∧ (¬ a2 = (1 : Int32) → (a2 = (2 : Int32) → ∀ t9, (xm_r S 4 k4 3) = t9 → ((t9 = none → Q (some (.inl (-1 : Int32))) S) ∧ (∀ k11, t9 = some k11 → Q (some (.inl (xm_i S 5 k11 0))) S))) ∧ (¬ a2 = (2 : Int32) → (a2 = (3 : Int32) → ∀ t13, (xm_r S 4 k4 4) = t13 → ((t13 = none → Q (some (.inl (-1 : Int32))) S) ∧ (∀ k15, t13 = some k15 → Q (some (.inl (xm_i S 9 k15 0))) S))) ∧ (¬ a2 = (3 : Int32) → (a2 = (4 : Int32) → ∀ t17, (xm_r S 4 k4 5) = t17 → ((t17 = none → Q (some (.inl (-1 : Int32))) S) ∧ (∀ k19, t17 = some k19 → Q (some (.inl (xm_i S 4 k19 0))) S))) ∧ (¬ a2 = (4 : Int32) → (a2 = (5 : Int32) → ∀ t21, (xm_r S 4 k4 6) = t21 → ((t21 = none → Q (some (.inl (-1 : Int32))) S) ∧ (∀ k23, t21 = some k23 → Q (some (.inl (xm_i S 4 k23 0))) S))) ∧ (¬ a2 = (5 : Int32) → Q (some (.inl (-1 : Int32))) S))))))))) ∧ (¬ a1 < (nI (xm_n S 1 8)) → Q (some (.inl (-1 : Int32))) S))) : xc (d + 1) 76 [.inr (some (0, 0)), .inl a1, .inl a2] S Q := by
  show xw _ _ _ [some (.inr (some (0, 0))), some (.inl a1), some (.inl a2), none] _ _ _
  refine xw.s (pc' := 1) (st' := [.inl a1]) rfl ?_
  refine xw.b (c := a1 < (0 : Int32)) (cd := .lt) (x := a1) (y := (0 : Int32)) 15 4 (st' := []) rfl (y_clt _ _) h (fun c1 h => ?_) (fun c1 h => ?_)
  · skip
    refine xw.s (pc' := 16) (st' := [.inl (-1 : Int32)]) rfl ?_
    exact xw.ret (r := (some (.inl (-1 : Int32)))) rfl h
  · skip
    refine xw.s (pc' := 5) (st' := [.inl a1]) rfl ?_
    refine xw.s (pc' := 6) (st' := [.inr (some (0, 0)), .inl a1]) rfl ?_
    refine xw.fr (c := 0) (j := 8) (e := 12) (nx := 9) (t := (some 8)) rfl rfl (hC 8 (by decide)) ?_
    show xw _ _ _ [some (.inr (some (0, 0))), some (.inl a1), some (.inl a2), none] [.inr (some (12, 8)), .inl a1] _ _
    refine xw.lsz (nx := 12) (n := (xm_n S 1 8)) rfl (Nat.le_of_ble_eq_true rfl) rfl ?_
    refine xw.b (c := a1 < (nI (xm_n S 1 8))) (cd := .lt) (x := a1) (y := (nI (xm_n S 1 8))) 17 15 (st' := []) rfl (y_clt _ _) h (fun c2 h => ?_) (fun c2 h => ?_)
    · skip
      refine xw.s (pc' := 18) (st' := [.inr (some (0, 0))]) rfl ?_
      refine xw.fr (c := 0) (j := 8) (e := 12) (nx := 21) (t := (some 8)) rfl rfl (hC 8 (by decide)) ?_
      show xw _ _ _ [some (.inr (some (0, 0))), some (.inl a1), some (.inl a2), none] [.inr (some (12, 8))] _ _
      refine xw.s (pc' := 22) (st' := [.inl a1, .inr (some (12, 8))]) rfl ?_
      obtain ⟨z3, h⟩ := h
      obtain ⟨k4, q5, h⟩ := h
      refine xw.get (nx := 25) (p := (4, k4)) rfl (Nat.le_of_ble_eq_true rfl) z3 q5 ?_
      refine xw.s (pc' := 28) (st' := [.inr (some (4, k4))]) rfl ?_
      refine xw.s (pc' := 29) (st' := []) (L' := [some (.inr (some (0, 0))), some (.inl a1), some (.inl a2), some (.inr (some (4, k4)))]) rfl ?_
      refine xw.s (pc' := 30) (st' := [.inl a2]) rfl ?_
      refine xw.ts1 rfl rfl ?_
      refine xw.bw (0 : Int32) rfl h (fun c6 h => ?_) (fun c6 h => ?_)
      · skip
        refine xw.s (pc' := 69) (st' := [.inr (some (4, k4))]) rfl ?_
        refine xw.fi (c := 4) (j := 1) (ty := 0) (nx := 72) (v := (xm_i S 4 k4 1)) rfl rfl rfl ?_
        exact xw.ret (r := (some (.inl (xm_i S 4 k4 1)))) rfl h
      · skip
        refine xw.bw (1 : Int32) rfl h (fun c7 h => ?_) (fun c7 h => ?_)
        · skip
          refine xw.s (pc' := 74) (st' := [.inr (some (4, k4))]) rfl ?_
          refine xw.fi (c := 4) (j := 2) (ty := 0) (nx := 77) (v := (xm_i S 4 k4 2)) rfl rfl rfl ?_
          exact xw.ret (r := (some (.inl (xm_i S 4 k4 2)))) rfl h
        · skip
          refine xw.bw (2 : Int32) rfl h (fun c8 h => ?_) (fun c8 h => ?_)
          · skip
            refine xw.s (pc' := 79) (st' := [.inr (some (4, k4))]) rfl ?_
            obtain ⟨t9, q10⟩ : ∃ t, (xm_r S 4 k4 3) = t := ⟨_, rfl⟩
            replace h := h t9 q10
            refine xw.fr (c := 4) (j := 3) (e := 5) (nx := 82) (t := t9) rfl rfl q10 ?_
            show xw _ _ _ [some (.inr (some (0, 0))), some (.inl a1), some (.inl a2), some (.inr (some (4, k4)))] [.inr (xo 5 t9)] _ _
            refine xw.nnul (o := t9) (t := 89) (nx := 85) rfl rfl ?_
            rcases t9 with _ | k11
            · replace h := h.1 rfl
              show xw _ _ 85 [some (.inr (some (0, 0))), some (.inl a1), some (.inl a2), some (.inr (some (4, k4)))] [] _ _
              refine xw.s (pc' := 86) (st' := [.inl (-1 : Int32)]) rfl ?_
              refine xw.s (pc' := 96) (st' := [.inl (-1 : Int32)]) rfl ?_
              exact xw.ret (r := (some (.inl (-1 : Int32)))) rfl h
            · replace h := h.2 k11 rfl
              show xw _ _ 89 [some (.inr (some (0, 0))), some (.inl a1), some (.inl a2), some (.inr (some (4, k4)))] [] _ _
              refine xw.s (pc' := 90) (st' := [.inr (some (4, k4))]) rfl ?_
              refine xw.fr (c := 4) (j := 3) (e := 5) (nx := 93) (t := (some k11)) rfl rfl q10 ?_
              show xw _ _ _ [some (.inr (some (0, 0))), some (.inl a1), some (.inl a2), some (.inr (some (4, k4)))] [.inr (some (5, k11))] _ _
              refine xw.fi (c := 5) (j := 0) (ty := 0) (nx := 96) (v := (xm_i S 5 k11 0)) rfl rfl rfl ?_
              exact xw.ret (r := (some (.inl (xm_i S 5 k11 0)))) rfl h
          · skip
            refine xw.bw (3 : Int32) rfl h (fun c12 h => ?_) (fun c12 h => ?_)
            · skip
              refine xw.s (pc' := 98) (st' := [.inr (some (4, k4))]) rfl ?_
              obtain ⟨t13, q14⟩ : ∃ t, (xm_r S 4 k4 4) = t := ⟨_, rfl⟩
              replace h := h t13 q14
              refine xw.fr (c := 4) (j := 4) (e := 9) (nx := 101) (t := t13) rfl rfl q14 ?_
              show xw _ _ _ [some (.inr (some (0, 0))), some (.inl a1), some (.inl a2), some (.inr (some (4, k4)))] [.inr (xo 9 t13)] _ _
              refine xw.nnul (o := t13) (t := 108) (nx := 104) rfl rfl ?_
              rcases t13 with _ | k15
              · replace h := h.1 rfl
                show xw _ _ 104 [some (.inr (some (0, 0))), some (.inl a1), some (.inl a2), some (.inr (some (4, k4)))] [] _ _
                refine xw.s (pc' := 105) (st' := [.inl (-1 : Int32)]) rfl ?_
                refine xw.s (pc' := 115) (st' := [.inl (-1 : Int32)]) rfl ?_
                exact xw.ret (r := (some (.inl (-1 : Int32)))) rfl h
              · replace h := h.2 k15 rfl
                show xw _ _ 108 [some (.inr (some (0, 0))), some (.inl a1), some (.inl a2), some (.inr (some (4, k4)))] [] _ _
                refine xw.s (pc' := 109) (st' := [.inr (some (4, k4))]) rfl ?_
                refine xw.fr (c := 4) (j := 4) (e := 9) (nx := 112) (t := (some k15)) rfl rfl q14 ?_
                show xw _ _ _ [some (.inr (some (0, 0))), some (.inl a1), some (.inl a2), some (.inr (some (4, k4)))] [.inr (some (9, k15))] _ _
                refine xw.fi (c := 9) (j := 0) (ty := 0) (nx := 115) (v := (xm_i S 9 k15 0)) rfl rfl rfl ?_
                exact xw.ret (r := (some (.inl (xm_i S 9 k15 0)))) rfl h
            · skip
              refine xw.bw (4 : Int32) rfl h (fun c16 h => ?_) (fun c16 h => ?_)
              · skip
                refine xw.s (pc' := 117) (st' := [.inr (some (4, k4))]) rfl ?_
                obtain ⟨t17, q18⟩ : ∃ t, (xm_r S 4 k4 5) = t := ⟨_, rfl⟩
                replace h := h t17 q18
                refine xw.fr (c := 4) (j := 5) (e := 4) (nx := 120) (t := t17) rfl rfl q18 ?_
                show xw _ _ _ [some (.inr (some (0, 0))), some (.inl a1), some (.inl a2), some (.inr (some (4, k4)))] [.inr (xo 4 t17)] _ _
                refine xw.call (m := 75) (as := [.inr (xo 4 t17)]) (nx := 123) (L' := [some (.inr (some (0, 0))), some (.inl a1), some (.inl a2), some (.inr (some (4, k4)))]) (st' := []) rfl ?_
                show xw _ _ _ [some (.inr (xo 4 t17))] [] _ _
                refine xw.s (pc' := 1) (st' := [.inr (xo 4 t17)]) rfl ?_
                refine xw.nnul (o := t17) (t := 8) (nx := 4) rfl rfl ?_
                rcases t17 with _ | k19
                · replace h := h.1 rfl
                  show xw _ _ 4 [some (.inr none)] [] _ _
                  refine xw.s (pc' := 5) (st' := [.inl (-1 : Int32)]) rfl ?_
                  refine xw.s (pc' := 12) (st' := [.inl (-1 : Int32)]) rfl ?_
                  refine xw.ret (r := some (.inl (-1 : Int32))) rfl ?_
                  show xw _ _ 123 [some (.inr (some (0, 0))), some (.inl a1), some (.inl a2), some (.inr (some (4, k4)))] [.inl (-1 : Int32)] S _
                  exact xw.ret (r := (some (.inl (-1 : Int32)))) rfl h
                · replace h := h.2 k19 rfl
                  show xw _ _ 8 [some (.inr (some (4, k19)))] [] _ _
                  refine xw.s (pc' := 9) (st' := [.inr (some (4, k19))]) rfl ?_
                  refine xw.fi (c := 4) (j := 0) (ty := 0) (nx := 12) (v := (xm_i S 4 k19 0)) rfl rfl rfl ?_
                  refine xw.ret (r := some (.inl (xm_i S 4 k19 0))) rfl ?_
                  show xw _ _ 123 [some (.inr (some (0, 0))), some (.inl a1), some (.inl a2), some (.inr (some (4, k4)))] [.inl (xm_i S 4 k19 0)] S _
                  exact xw.ret (r := (some (.inl (xm_i S 4 k19 0)))) rfl h
              · skip
                refine xw.bw (5 : Int32) rfl h (fun c20 h => ?_) (fun c20 h => ?_)
                · skip
                  refine xw.s (pc' := 125) (st' := [.inr (some (4, k4))]) rfl ?_
                  obtain ⟨t21, q22⟩ : ∃ t, (xm_r S 4 k4 6) = t := ⟨_, rfl⟩
                  replace h := h t21 q22
                  refine xw.fr (c := 4) (j := 6) (e := 4) (nx := 128) (t := t21) rfl rfl q22 ?_
                  show xw _ _ _ [some (.inr (some (0, 0))), some (.inl a1), some (.inl a2), some (.inr (some (4, k4)))] [.inr (xo 4 t21)] _ _
                  refine xw.call (m := 75) (as := [.inr (xo 4 t21)]) (nx := 131) (L' := [some (.inr (some (0, 0))), some (.inl a1), some (.inl a2), some (.inr (some (4, k4)))]) (st' := []) rfl ?_
                  show xw _ _ _ [some (.inr (xo 4 t21))] [] _ _
                  refine xw.s (pc' := 1) (st' := [.inr (xo 4 t21)]) rfl ?_
                  refine xw.nnul (o := t21) (t := 8) (nx := 4) rfl rfl ?_
                  rcases t21 with _ | k23
                  · replace h := h.1 rfl
                    show xw _ _ 4 [some (.inr none)] [] _ _
                    refine xw.s (pc' := 5) (st' := [.inl (-1 : Int32)]) rfl ?_
                    refine xw.s (pc' := 12) (st' := [.inl (-1 : Int32)]) rfl ?_
                    refine xw.ret (r := some (.inl (-1 : Int32))) rfl ?_
                    show xw _ _ 131 [some (.inr (some (0, 0))), some (.inl a1), some (.inl a2), some (.inr (some (4, k4)))] [.inl (-1 : Int32)] S _
                    exact xw.ret (r := (some (.inl (-1 : Int32)))) rfl h
                  · replace h := h.2 k23 rfl
                    show xw _ _ 8 [some (.inr (some (4, k23)))] [] _ _
                    refine xw.s (pc' := 9) (st' := [.inr (some (4, k23))]) rfl ?_
                    refine xw.fi (c := 4) (j := 0) (ty := 0) (nx := 12) (v := (xm_i S 4 k23 0)) rfl rfl rfl ?_
                    refine xw.ret (r := some (.inl (xm_i S 4 k23 0))) rfl ?_
                    show xw _ _ 131 [some (.inr (some (0, 0))), some (.inl a1), some (.inl a2), some (.inr (some (4, k4)))] [.inl (xm_i S 4 k23 0)] S _
                    exact xw.ret (r := (some (.inl (xm_i S 4 k23 0)))) rfl h
                · skip
                  refine xw.s (pc' := 133) (st' := [.inl (-1 : Int32)]) rfl ?_
                  exact xw.ret (r := (some (.inl (-1 : Int32)))) rfl h
    · skip
      refine xw.s (pc' := 16) (st' := [.inl (-1 : Int32)]) rfl ?_
      exact xw.ret (r := (some (.inl (-1 : Int32)))) rfl h
/-- call -/
theorem cw_call {d : Nat} {a1 : Int32} {a2 : Int32} {S : xm_S} {Q : Option xm_V → xm_S → Prop} (hC : xk_C S) (h : (a1 < (0 : Int32) → Q (some (.inl (-1 : Int32))) S) ∧ (¬ a1 < (0 : Int32) → (a1 < (nI (xm_n S 1 6)) → y_in a1 (xm_n S 1 6) ∧ (∃ k4, (xm_l S 6 (y_ix a1)) = (2, k4) ∧ ((a2 = (0 : Int32) → ∀ t7, (xm_r S 2 k4 1) = t7 → (∃ k9, t7 = some k9 ∧ (Q (some (.inl (xm_i S 6 k9 0))) S))) ∧ (¬ a2 = (0 : Int32) → (a2 = (1 : Int32) → Q (some (.inl (xm_i S 2 k4 3))) S) ∧ (¬ a2 = (1 : Int32) → (a2 = (2 : Int32) → ∀ t12, (xm_r S 2 k4 2) = t12 → ((t12 = none → Q (some (.inl (-1 : Int32))) S) ∧ (∀ k14, t12 = some k14 → Q (some (.inl (xm_i S 2 k14 0))) S))) ∧ (¬ a2 = (2 : Int32) → (a2 = (3 : Int32) → ∀ t16, (xm_r S 2 k4 4) = t16 → ((t16 = none → Q (some (.inl (-1 : Int32))) S) ∧ (∀ k18, t16 = some k18 → Q (some (.inl (xm_i S 5 k18 0))) S))) ∧ (¬ a2 = (3 : Int32) → (a2 = (4 : Int32) → ∀ t20, (xm_r S 2 k4 6) = t20 → ((t20 = none → Q (some (.inl (-1 : Int32))) S) ∧ (∀ k22, t20 = some k22 → Q (some (.inl (xm_i S 9 k22 0))) S))) ∧ (¬ a2 = (4 : Int32) → (a2 = (5 : Int32) → Q (some (.inl (xm_i S 2 k4 5))) S) ∧ (¬ a2 = (5 : Int32) → (a2 = (6 : Int32) → Q (some (.inl (xm_i S 2 k4 7))) S) ∧ (¬ a2 = (6 : Int32) → (a2 = (7 : Int32) → Q (some (.inl (xm_i S 2 k4 8))) S) ∧ (¬ a2 = (7 : Int32) → (a2 = (8 : Int32) → Q (some (.inl (xm_i S 2 k4 9))) S) ∧ (¬ a2 = (8 : Int32) → (a2 = (9 : Int32) → ∀ t28, (xm_r S 2 k4 11) = t28 → ((t28 = none → Q (some (.inl (-1 : Int32))) S) ∧ (∀ k30, t28 = some k30 → Q (some (.inl (xm_i S 4 k30 0))) S))) ∧ (¬ a2 = (9 : Int32) → (a2 = (10 : Int32) → ((xm_i S 2 k4 8) = (0 : Int32) → Q (some (.inl (xm_i S 2 k4 13))) S) ∧ (¬ (xm_i S 2 k4 8) = (0 : Int32) → Q (some (.inl (0 : Int32))) S)) ∧ (¬ a2 = (10 : Int32) → Q (some (.inl (-1 : Int32))) S)))))))))))))) ∧ (¬ a1 < (nI (xm_n S 1 6)) → Q (some (.inl (-1 : Int32))) S))) : xc (d + 1) 77 [.inr (some (0, 0)), .inl a1, .inl a2] S Q := by
  show xw _ _ _ [some (.inr (some (0, 0))), some (.inl a1), some (.inl a2), none] _ _ _
  refine xw.s (pc' := 1) (st' := [.inl a1]) rfl ?_
  refine xw.b (c := a1 < (0 : Int32)) (cd := .lt) (x := a1) (y := (0 : Int32)) 15 4 (st' := []) rfl (y_clt _ _) h (fun c1 h => ?_) (fun c1 h => ?_)
  · skip
    refine xw.s (pc' := 16) (st' := [.inl (-1 : Int32)]) rfl ?_
    exact xw.ret (r := (some (.inl (-1 : Int32)))) rfl h
  · skip
    refine xw.s (pc' := 5) (st' := [.inl a1]) rfl ?_
    refine xw.s (pc' := 6) (st' := [.inr (some (0, 0)), .inl a1]) rfl ?_
    refine xw.fr (c := 0) (j := 6) (e := 12) (nx := 9) (t := (some 6)) rfl rfl (hC 6 (by decide)) ?_
    show xw _ _ _ [some (.inr (some (0, 0))), some (.inl a1), some (.inl a2), none] [.inr (some (12, 6)), .inl a1] _ _
    refine xw.lsz (nx := 12) (n := (xm_n S 1 6)) rfl (Nat.le_of_ble_eq_true rfl) rfl ?_
    refine xw.b (c := a1 < (nI (xm_n S 1 6))) (cd := .lt) (x := a1) (y := (nI (xm_n S 1 6))) 17 15 (st' := []) rfl (y_clt _ _) h (fun c2 h => ?_) (fun c2 h => ?_)
    · skip
      refine xw.s (pc' := 18) (st' := [.inr (some (0, 0))]) rfl ?_
      refine xw.fr (c := 0) (j := 6) (e := 12) (nx := 21) (t := (some 6)) rfl rfl (hC 6 (by decide)) ?_
      show xw _ _ _ [some (.inr (some (0, 0))), some (.inl a1), some (.inl a2), none] [.inr (some (12, 6))] _ _
      refine xw.s (pc' := 22) (st' := [.inl a1, .inr (some (12, 6))]) rfl ?_
      obtain ⟨z3, h⟩ := h
      obtain ⟨k4, q5, h⟩ := h
      refine xw.get (nx := 25) (p := (2, k4)) rfl (Nat.le_of_ble_eq_true rfl) z3 q5 ?_
      refine xw.s (pc' := 28) (st' := [.inr (some (2, k4))]) rfl ?_
      refine xw.s (pc' := 29) (st' := []) (L' := [some (.inr (some (0, 0))), some (.inl a1), some (.inl a2), some (.inr (some (2, k4)))]) rfl ?_
      refine xw.s (pc' := 30) (st' := [.inl a2]) rfl ?_
      refine xw.ts1 rfl rfl ?_
      refine xw.bw (0 : Int32) rfl h (fun c6 h => ?_) (fun c6 h => ?_)
      · skip
        refine xw.s (pc' := 89) (st' := [.inr (some (2, k4))]) rfl ?_
        obtain ⟨t7, q8⟩ : ∃ t, (xm_r S 2 k4 1) = t := ⟨_, rfl⟩
        replace h := h t7 q8
        refine xw.fr (c := 2) (j := 1) (e := 6) (nx := 92) (t := t7) rfl rfl q8 ?_
        show xw _ _ _ [some (.inr (some (0, 0))), some (.inl a1), some (.inl a2), some (.inr (some (2, k4)))] [.inr (xo 6 t7)] _ _
        obtain ⟨k9, rfl, h⟩ := h
        refine xw.fi (c := 6) (j := 0) (ty := 0) (nx := 95) (v := (xm_i S 6 k9 0)) rfl rfl rfl ?_
        exact xw.ret (r := (some (.inl (xm_i S 6 k9 0)))) rfl h
      · skip
        refine xw.bw (1 : Int32) rfl h (fun c10 h => ?_) (fun c10 h => ?_)
        · skip
          refine xw.s (pc' := 97) (st' := [.inr (some (2, k4))]) rfl ?_
          refine xw.fi (c := 2) (j := 3) (ty := 0) (nx := 100) (v := (xm_i S 2 k4 3)) rfl rfl rfl ?_
          exact xw.ret (r := (some (.inl (xm_i S 2 k4 3)))) rfl h
        · skip
          refine xw.bw (2 : Int32) rfl h (fun c11 h => ?_) (fun c11 h => ?_)
          · skip
            refine xw.s (pc' := 102) (st' := [.inr (some (2, k4))]) rfl ?_
            obtain ⟨t12, q13⟩ : ∃ t, (xm_r S 2 k4 2) = t := ⟨_, rfl⟩
            replace h := h t12 q13
            refine xw.fr (c := 2) (j := 2) (e := 2) (nx := 105) (t := t12) rfl rfl q13 ?_
            show xw _ _ _ [some (.inr (some (0, 0))), some (.inl a1), some (.inl a2), some (.inr (some (2, k4)))] [.inr (xo 2 t12)] _ _
            refine xw.nnul (o := t12) (t := 112) (nx := 108) rfl rfl ?_
            rcases t12 with _ | k14
            · replace h := h.1 rfl
              show xw _ _ 108 [some (.inr (some (0, 0))), some (.inl a1), some (.inl a2), some (.inr (some (2, k4)))] [] _ _
              refine xw.s (pc' := 109) (st' := [.inl (-1 : Int32)]) rfl ?_
              refine xw.s (pc' := 119) (st' := [.inl (-1 : Int32)]) rfl ?_
              exact xw.ret (r := (some (.inl (-1 : Int32)))) rfl h
            · replace h := h.2 k14 rfl
              show xw _ _ 112 [some (.inr (some (0, 0))), some (.inl a1), some (.inl a2), some (.inr (some (2, k4)))] [] _ _
              refine xw.s (pc' := 113) (st' := [.inr (some (2, k4))]) rfl ?_
              refine xw.fr (c := 2) (j := 2) (e := 2) (nx := 116) (t := (some k14)) rfl rfl q13 ?_
              show xw _ _ _ [some (.inr (some (0, 0))), some (.inl a1), some (.inl a2), some (.inr (some (2, k4)))] [.inr (some (2, k14))] _ _
              refine xw.fi (c := 2) (j := 0) (ty := 0) (nx := 119) (v := (xm_i S 2 k14 0)) rfl rfl rfl ?_
              exact xw.ret (r := (some (.inl (xm_i S 2 k14 0)))) rfl h
          · skip
            refine xw.bw (3 : Int32) rfl h (fun c15 h => ?_) (fun c15 h => ?_)
            · skip
              refine xw.s (pc' := 121) (st' := [.inr (some (2, k4))]) rfl ?_
              obtain ⟨t16, q17⟩ : ∃ t, (xm_r S 2 k4 4) = t := ⟨_, rfl⟩
              replace h := h t16 q17
              refine xw.fr (c := 2) (j := 4) (e := 5) (nx := 124) (t := t16) rfl rfl q17 ?_
              show xw _ _ _ [some (.inr (some (0, 0))), some (.inl a1), some (.inl a2), some (.inr (some (2, k4)))] [.inr (xo 5 t16)] _ _
              refine xw.nnul (o := t16) (t := 131) (nx := 127) rfl rfl ?_
              rcases t16 with _ | k18
              · replace h := h.1 rfl
                show xw _ _ 127 [some (.inr (some (0, 0))), some (.inl a1), some (.inl a2), some (.inr (some (2, k4)))] [] _ _
                refine xw.s (pc' := 128) (st' := [.inl (-1 : Int32)]) rfl ?_
                refine xw.s (pc' := 138) (st' := [.inl (-1 : Int32)]) rfl ?_
                exact xw.ret (r := (some (.inl (-1 : Int32)))) rfl h
              · replace h := h.2 k18 rfl
                show xw _ _ 131 [some (.inr (some (0, 0))), some (.inl a1), some (.inl a2), some (.inr (some (2, k4)))] [] _ _
                refine xw.s (pc' := 132) (st' := [.inr (some (2, k4))]) rfl ?_
                refine xw.fr (c := 2) (j := 4) (e := 5) (nx := 135) (t := (some k18)) rfl rfl q17 ?_
                show xw _ _ _ [some (.inr (some (0, 0))), some (.inl a1), some (.inl a2), some (.inr (some (2, k4)))] [.inr (some (5, k18))] _ _
                refine xw.fi (c := 5) (j := 0) (ty := 0) (nx := 138) (v := (xm_i S 5 k18 0)) rfl rfl rfl ?_
                exact xw.ret (r := (some (.inl (xm_i S 5 k18 0)))) rfl h
            · skip
              refine xw.bw (4 : Int32) rfl h (fun c19 h => ?_) (fun c19 h => ?_)
              · skip
                refine xw.s (pc' := 140) (st' := [.inr (some (2, k4))]) rfl ?_
                obtain ⟨t20, q21⟩ : ∃ t, (xm_r S 2 k4 6) = t := ⟨_, rfl⟩
                replace h := h t20 q21
                refine xw.fr (c := 2) (j := 6) (e := 9) (nx := 143) (t := t20) rfl rfl q21 ?_
                show xw _ _ _ [some (.inr (some (0, 0))), some (.inl a1), some (.inl a2), some (.inr (some (2, k4)))] [.inr (xo 9 t20)] _ _
                refine xw.nnul (o := t20) (t := 150) (nx := 146) rfl rfl ?_
                rcases t20 with _ | k22
                · replace h := h.1 rfl
                  show xw _ _ 146 [some (.inr (some (0, 0))), some (.inl a1), some (.inl a2), some (.inr (some (2, k4)))] [] _ _
                  refine xw.s (pc' := 147) (st' := [.inl (-1 : Int32)]) rfl ?_
                  refine xw.s (pc' := 157) (st' := [.inl (-1 : Int32)]) rfl ?_
                  exact xw.ret (r := (some (.inl (-1 : Int32)))) rfl h
                · replace h := h.2 k22 rfl
                  show xw _ _ 150 [some (.inr (some (0, 0))), some (.inl a1), some (.inl a2), some (.inr (some (2, k4)))] [] _ _
                  refine xw.s (pc' := 151) (st' := [.inr (some (2, k4))]) rfl ?_
                  refine xw.fr (c := 2) (j := 6) (e := 9) (nx := 154) (t := (some k22)) rfl rfl q21 ?_
                  show xw _ _ _ [some (.inr (some (0, 0))), some (.inl a1), some (.inl a2), some (.inr (some (2, k4)))] [.inr (some (9, k22))] _ _
                  refine xw.fi (c := 9) (j := 0) (ty := 0) (nx := 157) (v := (xm_i S 9 k22 0)) rfl rfl rfl ?_
                  exact xw.ret (r := (some (.inl (xm_i S 9 k22 0)))) rfl h
              · skip
                refine xw.bw (5 : Int32) rfl h (fun c23 h => ?_) (fun c23 h => ?_)
                · skip
                  refine xw.s (pc' := 159) (st' := [.inr (some (2, k4))]) rfl ?_
                  refine xw.fi (c := 2) (j := 5) (ty := 0) (nx := 162) (v := (xm_i S 2 k4 5)) rfl rfl rfl ?_
                  exact xw.ret (r := (some (.inl (xm_i S 2 k4 5)))) rfl h
                · skip
                  refine xw.bw (6 : Int32) rfl h (fun c24 h => ?_) (fun c24 h => ?_)
                  · skip
                    refine xw.s (pc' := 164) (st' := [.inr (some (2, k4))]) rfl ?_
                    refine xw.fi (c := 2) (j := 7) (ty := 0) (nx := 167) (v := (xm_i S 2 k4 7)) rfl rfl rfl ?_
                    exact xw.ret (r := (some (.inl (xm_i S 2 k4 7)))) rfl h
                  · skip
                    refine xw.bw (7 : Int32) rfl h (fun c25 h => ?_) (fun c25 h => ?_)
                    · skip
                      refine xw.s (pc' := 169) (st' := [.inr (some (2, k4))]) rfl ?_
                      refine xw.fi (c := 2) (j := 8) (ty := 0) (nx := 172) (v := (xm_i S 2 k4 8)) rfl rfl rfl ?_
                      exact xw.ret (r := (some (.inl (xm_i S 2 k4 8)))) rfl h
                    · skip
                      refine xw.bw (8 : Int32) rfl h (fun c26 h => ?_) (fun c26 h => ?_)
                      · skip
                        refine xw.s (pc' := 174) (st' := [.inr (some (2, k4))]) rfl ?_
                        refine xw.fi (c := 2) (j := 9) (ty := 0) (nx := 177) (v := (xm_i S 2 k4 9)) rfl rfl rfl ?_
                        exact xw.ret (r := (some (.inl (xm_i S 2 k4 9)))) rfl h
                      · skip
                        refine xw.bw (9 : Int32) rfl h (fun c27 h => ?_) (fun c27 h => ?_)
                        · skip
                          refine xw.s (pc' := 179) (st' := [.inr (some (2, k4))]) rfl ?_
                          obtain ⟨t28, q29⟩ : ∃ t, (xm_r S 2 k4 11) = t := ⟨_, rfl⟩
                          replace h := h t28 q29
                          refine xw.fr (c := 2) (j := 11) (e := 4) (nx := 182) (t := t28) rfl rfl q29 ?_
                          show xw _ _ _ [some (.inr (some (0, 0))), some (.inl a1), some (.inl a2), some (.inr (some (2, k4)))] [.inr (xo 4 t28)] _ _
                          refine xw.call (m := 75) (as := [.inr (xo 4 t28)]) (nx := 185) (L' := [some (.inr (some (0, 0))), some (.inl a1), some (.inl a2), some (.inr (some (2, k4)))]) (st' := []) rfl ?_
                          show xw _ _ _ [some (.inr (xo 4 t28))] [] _ _
                          refine xw.s (pc' := 1) (st' := [.inr (xo 4 t28)]) rfl ?_
                          refine xw.nnul (o := t28) (t := 8) (nx := 4) rfl rfl ?_
                          rcases t28 with _ | k30
                          · replace h := h.1 rfl
                            show xw _ _ 4 [some (.inr none)] [] _ _
                            refine xw.s (pc' := 5) (st' := [.inl (-1 : Int32)]) rfl ?_
                            refine xw.s (pc' := 12) (st' := [.inl (-1 : Int32)]) rfl ?_
                            refine xw.ret (r := some (.inl (-1 : Int32))) rfl ?_
                            show xw _ _ 185 [some (.inr (some (0, 0))), some (.inl a1), some (.inl a2), some (.inr (some (2, k4)))] [.inl (-1 : Int32)] S _
                            exact xw.ret (r := (some (.inl (-1 : Int32)))) rfl h
                          · replace h := h.2 k30 rfl
                            show xw _ _ 8 [some (.inr (some (4, k30)))] [] _ _
                            refine xw.s (pc' := 9) (st' := [.inr (some (4, k30))]) rfl ?_
                            refine xw.fi (c := 4) (j := 0) (ty := 0) (nx := 12) (v := (xm_i S 4 k30 0)) rfl rfl rfl ?_
                            refine xw.ret (r := some (.inl (xm_i S 4 k30 0))) rfl ?_
                            show xw _ _ 185 [some (.inr (some (0, 0))), some (.inl a1), some (.inl a2), some (.inr (some (2, k4)))] [.inl (xm_i S 4 k30 0)] S _
                            exact xw.ret (r := (some (.inl (xm_i S 4 k30 0)))) rfl h
                        · skip
                          refine xw.bw (10 : Int32) rfl h (fun c31 h => ?_) (fun c31 h => ?_)
                          · skip
                            refine xw.s (pc' := 187) (st' := [.inr (some (2, k4))]) rfl ?_
                            refine xw.fi (c := 2) (j := 8) (ty := 0) (nx := 190) (v := (xm_i S 2 k4 8)) rfl rfl rfl ?_
                            refine xw.bn (c := (xm_i S 2 k4 8) = (0 : Int32)) (cd := .ne) (x := (xm_i S 2 k4 8)) (y := (0 : Int32)) 200 193 (st' := []) rfl (y_cne _ _) h (fun c32 h => ?_) (fun c32 h => ?_)
                            · skip
                              refine xw.s (pc' := 194) (st' := [.inr (some (2, k4))]) rfl ?_
                              refine xw.fi (c := 2) (j := 13) (ty := 0) (nx := 197) (v := (xm_i S 2 k4 13)) rfl rfl rfl ?_
                              refine xw.s (pc' := 201) (st' := [.inl (xm_i S 2 k4 13)]) rfl ?_
                              exact xw.ret (r := (some (.inl (xm_i S 2 k4 13)))) rfl h
                            · skip
                              refine xw.s (pc' := 201) (st' := [.inl (0 : Int32)]) rfl ?_
                              exact xw.ret (r := (some (.inl (0 : Int32)))) rfl h
                          · skip
                            refine xw.s (pc' := 203) (st' := [.inl (-1 : Int32)]) rfl ?_
                            exact xw.ret (r := (some (.inl (-1 : Int32)))) rfl h
    · skip
      refine xw.s (pc' := 16) (st' := [.inl (-1 : Int32)]) rfl ?_
      exact xw.ret (r := (some (.inl (-1 : Int32)))) rfl h
/-- fuse -/
theorem cw_fuse {d : Nat} {a1 : Int32} {a2 : Int32} {S : xm_S} {Q : Option xm_V → xm_S → Prop} (hC : xk_C S) (h : (a1 < (0 : Int32) → Q (some (.inl (-1 : Int32))) S) ∧ (¬ a1 < (0 : Int32) → ((nI (xm_n S 1 3)) ≤ a1 → Q (some (.inl (-1 : Int32))) S) ∧ (¬ (nI (xm_n S 1 3)) ≤ a1 → y_in a1 (xm_n S 1 3) ∧ (∃ k4, (xm_l S 3 (y_ix a1)) = (5, k4) ∧ (((xm_i S 5 k4 1) = (0 : Int32) → (a2 = (0 : Int32) → Q (some (.inl (xm_i S 5 k4 6))) S) ∧ (¬ a2 = (0 : Int32) → (a2 = (1 : Int32) → Q (some (.inl (xm_i S 5 k4 7))) S) ∧ (¬ a2 = (1 : Int32) → (a2 = (2 : Int32) → Q (some (.inl (xm_i S 5 k4 8))) S) ∧ (¬ a2 = (2 : Int32) → Q (some (.inl (-1 : Int32))) S)))) ∧ (¬ (xm_i S 5 k4 1) = (0 : Int32) → Q (some (.inl (-1 : Int32))) S)))))) : xc (d + 2) 78 [.inr (some (0, 0)), .inl a1, .inl a2] S Q := by
  show xw _ _ _ [some (.inr (some (0, 0))), some (.inl a1), some (.inl a2), none] _ _ _
  refine xw.s (pc' := 1) (st' := [.inr (some (0, 0))]) rfl ?_
  refine xw.s (pc' := 2) (st' := [.inl (0 : Int32), .inr (some (0, 0))]) rfl ?_
  refine xw.s (pc' := 3) (st' := [.inl a1, .inl (0 : Int32), .inr (some (0, 0))]) rfl ?_
  refine xw.call (m := 69) (as := [.inr (some (0, 0)), .inl (0 : Int32), .inl a1]) (nx := 6) (L' := [some (.inr (some (0, 0))), some (.inl a1), some (.inl a2), none]) (st' := []) rfl ?_
  show xw _ _ _ [some (.inr (some (0, 0))), some (.inl (0 : Int32)), some (.inl a1), none] [] _ _
  refine xw.s (pc' := 1) (st' := [.inr (some (0, 0))]) rfl ?_
  refine xw.s (pc' := 2) (st' := [.inl a1, .inr (some (0, 0))]) rfl ?_
  refine xw.call (m := 10) (as := [.inr (some (0, 0)), .inl a1]) (nx := 5) (L' := [some (.inr (some (0, 0))), some (.inl (0 : Int32)), some (.inl a1), none]) (st' := []) rfl ?_
  show xw _ _ _ [some (.inr (some (0, 0))), some (.inl a1)] [] _ _
  refine xw.s (pc' := 1) (st' := [.inl a1]) rfl ?_
  refine xw.b (c := a1 < (0 : Int32)) (cd := .lt) (x := a1) (y := (0 : Int32)) 29 4 (st' := []) rfl (y_clt _ _) h (fun c1 h => ?_) (fun c1 h => ?_)
  · skip
    refine xw.s (pc' := 30) (st' := [.inr none]) rfl ?_
    refine xw.ret (r := some (.inr none)) rfl ?_
    show xw _ _ 5 [some (.inr (some (0, 0))), some (.inl (0 : Int32)), some (.inl a1), none] [.inr none] S _
    refine xw.s (pc' := 6) (st' := []) (L' := [some (.inr (some (0, 0))), some (.inl (0 : Int32)), some (.inl a1), some (.inr none)]) rfl ?_
    refine xw.s (pc' := 7) (st' := [.inr none]) rfl ?_
    refine xw.s (pc' := 22) (st' := []) rfl ?_
    refine xw.s (pc' := 23) (st' := [.inr none]) rfl ?_
    refine xw.ret (r := some (.inr none)) rfl ?_
    show xw _ _ 6 [some (.inr (some (0, 0))), some (.inl a1), some (.inl a2), none] [.inr none] S _
    refine xw.s (pc' := 7) (st' := []) (L' := [some (.inr (some (0, 0))), some (.inl a1), some (.inl a2), some (.inr none)]) rfl ?_
    refine xw.s (pc' := 8) (st' := [.inr none]) rfl ?_
    refine xw.s (pc' := 11) (st' := []) rfl ?_
    refine xw.s (pc' := 12) (st' := [.inl (-1 : Int32)]) rfl ?_
    exact xw.ret (r := (some (.inl (-1 : Int32)))) rfl h
  · skip
    refine xw.s (pc' := 5) (st' := [.inl a1]) rfl ?_
    refine xw.s (pc' := 6) (st' := [.inr (some (0, 0)), .inl a1]) rfl ?_
    refine xw.fr (c := 0) (j := 3) (e := 12) (nx := 9) (t := (some 3)) rfl rfl (hC 3 (by decide)) ?_
    show xw _ _ _ [some (.inr (some (0, 0))), some (.inl a1)] [.inr (some (12, 3)), .inl a1] _ _
    refine xw.lsz (nx := 12) (n := (xm_n S 1 3)) rfl (Nat.le_of_ble_eq_true rfl) rfl ?_
    refine xw.b (c := (nI (xm_n S 1 3)) ≤ a1) (cd := .ge) (x := a1) (y := (nI (xm_n S 1 3))) 29 15 (st' := []) rfl (y_cge _ _) h (fun c2 h => ?_) (fun c2 h => ?_)
    · skip
      refine xw.s (pc' := 30) (st' := [.inr none]) rfl ?_
      refine xw.ret (r := some (.inr none)) rfl ?_
      show xw _ _ 5 [some (.inr (some (0, 0))), some (.inl (0 : Int32)), some (.inl a1), none] [.inr none] S _
      refine xw.s (pc' := 6) (st' := []) (L' := [some (.inr (some (0, 0))), some (.inl (0 : Int32)), some (.inl a1), some (.inr none)]) rfl ?_
      refine xw.s (pc' := 7) (st' := [.inr none]) rfl ?_
      refine xw.s (pc' := 22) (st' := []) rfl ?_
      refine xw.s (pc' := 23) (st' := [.inr none]) rfl ?_
      refine xw.ret (r := some (.inr none)) rfl ?_
      show xw _ _ 6 [some (.inr (some (0, 0))), some (.inl a1), some (.inl a2), none] [.inr none] S _
      refine xw.s (pc' := 7) (st' := []) (L' := [some (.inr (some (0, 0))), some (.inl a1), some (.inl a2), some (.inr none)]) rfl ?_
      refine xw.s (pc' := 8) (st' := [.inr none]) rfl ?_
      refine xw.s (pc' := 11) (st' := []) rfl ?_
      refine xw.s (pc' := 12) (st' := [.inl (-1 : Int32)]) rfl ?_
      exact xw.ret (r := (some (.inl (-1 : Int32)))) rfl h
    · skip
      refine xw.s (pc' := 16) (st' := [.inr (some (0, 0))]) rfl ?_
      refine xw.fr (c := 0) (j := 3) (e := 12) (nx := 19) (t := (some 3)) rfl rfl (hC 3 (by decide)) ?_
      show xw _ _ _ [some (.inr (some (0, 0))), some (.inl a1)] [.inr (some (12, 3))] _ _
      refine xw.s (pc' := 20) (st' := [.inl a1, .inr (some (12, 3))]) rfl ?_
      obtain ⟨z3, h⟩ := h
      obtain ⟨k4, q5, h⟩ := h
      refine xw.get (nx := 23) (p := (5, k4)) rfl (Nat.le_of_ble_eq_true rfl) z3 q5 ?_
      refine xw.s (pc' := 26) (st' := [.inr (some (5, k4))]) rfl ?_
      refine xw.s (pc' := 30) (st' := [.inr (some (5, k4))]) rfl ?_
      refine xw.ret (r := some (.inr (some (5, k4)))) rfl ?_
      show xw _ _ 5 [some (.inr (some (0, 0))), some (.inl (0 : Int32)), some (.inl a1), none] [.inr (some (5, k4))] S _
      refine xw.s (pc' := 6) (st' := []) (L' := [some (.inr (some (0, 0))), some (.inl (0 : Int32)), some (.inl a1), some (.inr (some (5, k4)))]) rfl ?_
      refine xw.s (pc' := 7) (st' := [.inr (some (5, k4))]) rfl ?_
      refine xw.s (pc' := 10) (st' := []) rfl ?_
      refine xw.s (pc' := 11) (st' := [.inr (some (5, k4))]) rfl ?_
      refine xw.fi (c := 5) (j := 1) (ty := 0) (nx := 14) (v := (xm_i S 5 k4 1)) rfl rfl rfl ?_
      refine xw.s (pc' := 15) (st' := [.inl (0 : Int32), .inl (xm_i S 5 k4 1)]) rfl ?_
      refine xw.bn (c := (xm_i S 5 k4 1) = (0 : Int32)) (cd := .ne) (x := (xm_i S 5 k4 1)) (y := (0 : Int32)) 22 18 (st' := []) rfl (y_cne _ _) h (fun c6 h => ?_) (fun c6 h => ?_)
      · skip
        refine xw.s (pc' := 19) (st' := [.inr (some (5, k4))]) rfl ?_
        refine xw.s (pc' := 23) (st' := [.inr (some (5, k4))]) rfl ?_
        refine xw.ret (r := some (.inr (some (5, k4)))) rfl ?_
        show xw _ _ 6 [some (.inr (some (0, 0))), some (.inl a1), some (.inl a2), none] [.inr (some (5, k4))] S _
        refine xw.s (pc' := 7) (st' := []) (L' := [some (.inr (some (0, 0))), some (.inl a1), some (.inl a2), some (.inr (some (5, k4)))]) rfl ?_
        refine xw.s (pc' := 8) (st' := [.inr (some (5, k4))]) rfl ?_
        refine xw.s (pc' := 13) (st' := []) rfl ?_
        refine xw.s (pc' := 14) (st' := [.inl a2]) rfl ?_
        refine xw.ts1 rfl rfl ?_
        refine xw.bw (0 : Int32) rfl h (fun c7 h => ?_) (fun c7 h => ?_)
        · skip
          refine xw.s (pc' := 41) (st' := [.inr (some (5, k4))]) rfl ?_
          refine xw.fi (c := 5) (j := 6) (ty := 0) (nx := 44) (v := (xm_i S 5 k4 6)) rfl rfl rfl ?_
          exact xw.ret (r := (some (.inl (xm_i S 5 k4 6)))) rfl h
        · skip
          refine xw.bw (1 : Int32) rfl h (fun c8 h => ?_) (fun c8 h => ?_)
          · skip
            refine xw.s (pc' := 46) (st' := [.inr (some (5, k4))]) rfl ?_
            refine xw.fi (c := 5) (j := 7) (ty := 0) (nx := 49) (v := (xm_i S 5 k4 7)) rfl rfl rfl ?_
            exact xw.ret (r := (some (.inl (xm_i S 5 k4 7)))) rfl h
          · skip
            refine xw.bw (2 : Int32) rfl h (fun c9 h => ?_) (fun c9 h => ?_)
            · skip
              refine xw.s (pc' := 51) (st' := [.inr (some (5, k4))]) rfl ?_
              refine xw.fi (c := 5) (j := 8) (ty := 0) (nx := 54) (v := (xm_i S 5 k4 8)) rfl rfl rfl ?_
              exact xw.ret (r := (some (.inl (xm_i S 5 k4 8)))) rfl h
            · skip
              refine xw.s (pc' := 56) (st' := [.inl (-1 : Int32)]) rfl ?_
              exact xw.ret (r := (some (.inl (-1 : Int32)))) rfl h
      · skip
        refine xw.s (pc' := 23) (st' := [.inr none]) rfl ?_
        refine xw.ret (r := some (.inr none)) rfl ?_
        show xw _ _ 6 [some (.inr (some (0, 0))), some (.inl a1), some (.inl a2), none] [.inr none] S _
        refine xw.s (pc' := 7) (st' := []) (L' := [some (.inr (some (0, 0))), some (.inl a1), some (.inl a2), some (.inr none)]) rfl ?_
        refine xw.s (pc' := 8) (st' := [.inr none]) rfl ?_
        refine xw.s (pc' := 11) (st' := []) rfl ?_
        refine xw.s (pc' := 12) (st' := [.inl (-1 : Int32)]) rfl ?_
        exact xw.ret (r := (some (.inl (-1 : Int32)))) rfl h
/-- bulkhead -/
theorem cw_bulkhead {d : Nat} {a1 : Int32} {a2 : Int32} {S : xm_S} {Q : Option xm_V → xm_S → Prop} (hC : xk_C S) (h : (a1 < (0 : Int32) → Q (some (.inl (-1 : Int32))) S) ∧ (¬ a1 < (0 : Int32) → ((nI (xm_n S 1 3)) ≤ a1 → Q (some (.inl (-1 : Int32))) S) ∧ (¬ (nI (xm_n S 1 3)) ≤ a1 → y_in a1 (xm_n S 1 3) ∧ (∃ k4, (xm_l S 3 (y_ix a1)) = (5, k4) ∧ (((xm_i S 5 k4 1) = (1 : Int32) → (a2 = (0 : Int32) → Q (some (.inl (xm_i S 5 k4 10))) S) ∧ (¬ a2 = (0 : Int32) → (a2 = (1 : Int32) → ∀ t9, (xm_r S 5 k4 12) = t9 → (∃ k11, t9 = some k11 ∧ (Q (some (.inl (nI (xm_n S 1 k11)))) S))) ∧ (¬ a2 = (1 : Int32) → (a2 = (2 : Int32) → Q (some (.inl (xm_i S 5 k4 11))) S) ∧ (¬ a2 = (2 : Int32) → Q (some (.inl (-1 : Int32))) S)))) ∧ (¬ (xm_i S 5 k4 1) = (1 : Int32) → Q (some (.inl (-1 : Int32))) S)))))) : xc (d + 2) 79 [.inr (some (0, 0)), .inl a1, .inl a2] S Q := by
  show xw _ _ _ [some (.inr (some (0, 0))), some (.inl a1), some (.inl a2), none] _ _ _
  refine xw.s (pc' := 1) (st' := [.inr (some (0, 0))]) rfl ?_
  refine xw.s (pc' := 2) (st' := [.inl (1 : Int32), .inr (some (0, 0))]) rfl ?_
  refine xw.s (pc' := 3) (st' := [.inl a1, .inl (1 : Int32), .inr (some (0, 0))]) rfl ?_
  refine xw.call (m := 69) (as := [.inr (some (0, 0)), .inl (1 : Int32), .inl a1]) (nx := 6) (L' := [some (.inr (some (0, 0))), some (.inl a1), some (.inl a2), none]) (st' := []) rfl ?_
  show xw _ _ _ [some (.inr (some (0, 0))), some (.inl (1 : Int32)), some (.inl a1), none] [] _ _
  refine xw.s (pc' := 1) (st' := [.inr (some (0, 0))]) rfl ?_
  refine xw.s (pc' := 2) (st' := [.inl a1, .inr (some (0, 0))]) rfl ?_
  refine xw.call (m := 10) (as := [.inr (some (0, 0)), .inl a1]) (nx := 5) (L' := [some (.inr (some (0, 0))), some (.inl (1 : Int32)), some (.inl a1), none]) (st' := []) rfl ?_
  show xw _ _ _ [some (.inr (some (0, 0))), some (.inl a1)] [] _ _
  refine xw.s (pc' := 1) (st' := [.inl a1]) rfl ?_
  refine xw.b (c := a1 < (0 : Int32)) (cd := .lt) (x := a1) (y := (0 : Int32)) 29 4 (st' := []) rfl (y_clt _ _) h (fun c1 h => ?_) (fun c1 h => ?_)
  · skip
    refine xw.s (pc' := 30) (st' := [.inr none]) rfl ?_
    refine xw.ret (r := some (.inr none)) rfl ?_
    show xw _ _ 5 [some (.inr (some (0, 0))), some (.inl (1 : Int32)), some (.inl a1), none] [.inr none] S _
    refine xw.s (pc' := 6) (st' := []) (L' := [some (.inr (some (0, 0))), some (.inl (1 : Int32)), some (.inl a1), some (.inr none)]) rfl ?_
    refine xw.s (pc' := 7) (st' := [.inr none]) rfl ?_
    refine xw.s (pc' := 22) (st' := []) rfl ?_
    refine xw.s (pc' := 23) (st' := [.inr none]) rfl ?_
    refine xw.ret (r := some (.inr none)) rfl ?_
    show xw _ _ 6 [some (.inr (some (0, 0))), some (.inl a1), some (.inl a2), none] [.inr none] S _
    refine xw.s (pc' := 7) (st' := []) (L' := [some (.inr (some (0, 0))), some (.inl a1), some (.inl a2), some (.inr none)]) rfl ?_
    refine xw.s (pc' := 8) (st' := [.inr none]) rfl ?_
    refine xw.s (pc' := 11) (st' := []) rfl ?_
    refine xw.s (pc' := 12) (st' := [.inl (-1 : Int32)]) rfl ?_
    exact xw.ret (r := (some (.inl (-1 : Int32)))) rfl h
  · skip
    refine xw.s (pc' := 5) (st' := [.inl a1]) rfl ?_
    refine xw.s (pc' := 6) (st' := [.inr (some (0, 0)), .inl a1]) rfl ?_
    refine xw.fr (c := 0) (j := 3) (e := 12) (nx := 9) (t := (some 3)) rfl rfl (hC 3 (by decide)) ?_
    show xw _ _ _ [some (.inr (some (0, 0))), some (.inl a1)] [.inr (some (12, 3)), .inl a1] _ _
    refine xw.lsz (nx := 12) (n := (xm_n S 1 3)) rfl (Nat.le_of_ble_eq_true rfl) rfl ?_
    refine xw.b (c := (nI (xm_n S 1 3)) ≤ a1) (cd := .ge) (x := a1) (y := (nI (xm_n S 1 3))) 29 15 (st' := []) rfl (y_cge _ _) h (fun c2 h => ?_) (fun c2 h => ?_)
    · skip
      refine xw.s (pc' := 30) (st' := [.inr none]) rfl ?_
      refine xw.ret (r := some (.inr none)) rfl ?_
      show xw _ _ 5 [some (.inr (some (0, 0))), some (.inl (1 : Int32)), some (.inl a1), none] [.inr none] S _
      refine xw.s (pc' := 6) (st' := []) (L' := [some (.inr (some (0, 0))), some (.inl (1 : Int32)), some (.inl a1), some (.inr none)]) rfl ?_
      refine xw.s (pc' := 7) (st' := [.inr none]) rfl ?_
      refine xw.s (pc' := 22) (st' := []) rfl ?_
      refine xw.s (pc' := 23) (st' := [.inr none]) rfl ?_
      refine xw.ret (r := some (.inr none)) rfl ?_
      show xw _ _ 6 [some (.inr (some (0, 0))), some (.inl a1), some (.inl a2), none] [.inr none] S _
      refine xw.s (pc' := 7) (st' := []) (L' := [some (.inr (some (0, 0))), some (.inl a1), some (.inl a2), some (.inr none)]) rfl ?_
      refine xw.s (pc' := 8) (st' := [.inr none]) rfl ?_
      refine xw.s (pc' := 11) (st' := []) rfl ?_
      refine xw.s (pc' := 12) (st' := [.inl (-1 : Int32)]) rfl ?_
      exact xw.ret (r := (some (.inl (-1 : Int32)))) rfl h
    · skip
      refine xw.s (pc' := 16) (st' := [.inr (some (0, 0))]) rfl ?_
      refine xw.fr (c := 0) (j := 3) (e := 12) (nx := 19) (t := (some 3)) rfl rfl (hC 3 (by decide)) ?_
      show xw _ _ _ [some (.inr (some (0, 0))), some (.inl a1)] [.inr (some (12, 3))] _ _
      refine xw.s (pc' := 20) (st' := [.inl a1, .inr (some (12, 3))]) rfl ?_
      obtain ⟨z3, h⟩ := h
      obtain ⟨k4, q5, h⟩ := h
      refine xw.get (nx := 23) (p := (5, k4)) rfl (Nat.le_of_ble_eq_true rfl) z3 q5 ?_
      refine xw.s (pc' := 26) (st' := [.inr (some (5, k4))]) rfl ?_
      refine xw.s (pc' := 30) (st' := [.inr (some (5, k4))]) rfl ?_
      refine xw.ret (r := some (.inr (some (5, k4)))) rfl ?_
      show xw _ _ 5 [some (.inr (some (0, 0))), some (.inl (1 : Int32)), some (.inl a1), none] [.inr (some (5, k4))] S _
      refine xw.s (pc' := 6) (st' := []) (L' := [some (.inr (some (0, 0))), some (.inl (1 : Int32)), some (.inl a1), some (.inr (some (5, k4)))]) rfl ?_
      refine xw.s (pc' := 7) (st' := [.inr (some (5, k4))]) rfl ?_
      refine xw.s (pc' := 10) (st' := []) rfl ?_
      refine xw.s (pc' := 11) (st' := [.inr (some (5, k4))]) rfl ?_
      refine xw.fi (c := 5) (j := 1) (ty := 0) (nx := 14) (v := (xm_i S 5 k4 1)) rfl rfl rfl ?_
      refine xw.s (pc' := 15) (st' := [.inl (1 : Int32), .inl (xm_i S 5 k4 1)]) rfl ?_
      refine xw.bn (c := (xm_i S 5 k4 1) = (1 : Int32)) (cd := .ne) (x := (xm_i S 5 k4 1)) (y := (1 : Int32)) 22 18 (st' := []) rfl (y_cne _ _) h (fun c6 h => ?_) (fun c6 h => ?_)
      · skip
        refine xw.s (pc' := 19) (st' := [.inr (some (5, k4))]) rfl ?_
        refine xw.s (pc' := 23) (st' := [.inr (some (5, k4))]) rfl ?_
        refine xw.ret (r := some (.inr (some (5, k4)))) rfl ?_
        show xw _ _ 6 [some (.inr (some (0, 0))), some (.inl a1), some (.inl a2), none] [.inr (some (5, k4))] S _
        refine xw.s (pc' := 7) (st' := []) (L' := [some (.inr (some (0, 0))), some (.inl a1), some (.inl a2), some (.inr (some (5, k4)))]) rfl ?_
        refine xw.s (pc' := 8) (st' := [.inr (some (5, k4))]) rfl ?_
        refine xw.s (pc' := 13) (st' := []) rfl ?_
        refine xw.s (pc' := 14) (st' := [.inl a2]) rfl ?_
        refine xw.ts1 rfl rfl ?_
        refine xw.bw (0 : Int32) rfl h (fun c7 h => ?_) (fun c7 h => ?_)
        · skip
          refine xw.s (pc' := 41) (st' := [.inr (some (5, k4))]) rfl ?_
          refine xw.fi (c := 5) (j := 10) (ty := 0) (nx := 44) (v := (xm_i S 5 k4 10)) rfl rfl rfl ?_
          exact xw.ret (r := (some (.inl (xm_i S 5 k4 10)))) rfl h
        · skip
          refine xw.bw (1 : Int32) rfl h (fun c8 h => ?_) (fun c8 h => ?_)
          · skip
            refine xw.s (pc' := 46) (st' := [.inr (some (5, k4))]) rfl ?_
            obtain ⟨t9, q10⟩ : ∃ t, (xm_r S 5 k4 12) = t := ⟨_, rfl⟩
            replace h := h t9 q10
            refine xw.fr (c := 5) (j := 12) (e := 12) (nx := 49) (t := t9) rfl rfl q10 ?_
            show xw _ _ _ [some (.inr (some (0, 0))), some (.inl a1), some (.inl a2), some (.inr (some (5, k4)))] [.inr (xo 12 t9)] _ _
            obtain ⟨k11, rfl, h⟩ := h
            refine xw.lsz (nx := 52) (n := (xm_n S 1 k11)) rfl (Nat.le_of_ble_eq_true rfl) rfl ?_
            exact xw.ret (r := (some (.inl (nI (xm_n S 1 k11))))) rfl h
          · skip
            refine xw.bw (2 : Int32) rfl h (fun c12 h => ?_) (fun c12 h => ?_)
            · skip
              refine xw.s (pc' := 54) (st' := [.inr (some (5, k4))]) rfl ?_
              refine xw.fi (c := 5) (j := 11) (ty := 0) (nx := 57) (v := (xm_i S 5 k4 11)) rfl rfl rfl ?_
              exact xw.ret (r := (some (.inl (xm_i S 5 k4 11)))) rfl h
            · skip
              refine xw.s (pc' := 59) (st' := [.inl (-1 : Int32)]) rfl ?_
              exact xw.ret (r := (some (.inl (-1 : Int32)))) rfl h
      · skip
        refine xw.s (pc' := 23) (st' := [.inr none]) rfl ?_
        refine xw.ret (r := some (.inr none)) rfl ?_
        show xw _ _ 6 [some (.inr (some (0, 0))), some (.inl a1), some (.inl a2), none] [.inr none] S _
        refine xw.s (pc' := 7) (st' := []) (L' := [some (.inr (some (0, 0))), some (.inl a1), some (.inl a2), some (.inr none)]) rfl ?_
        refine xw.s (pc' := 8) (st' := [.inr none]) rfl ?_
        refine xw.s (pc' := 11) (st' := []) rfl ?_
        refine xw.s (pc' := 12) (st' := [.inl (-1 : Int32)]) rfl ?_
        exact xw.ret (r := (some (.inl (-1 : Int32)))) rfl h
/-- waiting -/
theorem cw_waiting {d : Nat} {a1 : Int32} {a2 : Int32} {S : xm_S} {Q : Option xm_V → xm_S → Prop} (hC : xk_C S) (h : (a1 < (0 : Int32) → Q (some (.inl (-1 : Int32))) S) ∧ (¬ a1 < (0 : Int32) → ((nI (xm_n S 1 3)) ≤ a1 → Q (some (.inl (-1 : Int32))) S) ∧ (¬ (nI (xm_n S 1 3)) ≤ a1 → y_in a1 (xm_n S 1 3) ∧ (∃ k4, (xm_l S 3 (y_ix a1)) = (5, k4) ∧ (((xm_i S 5 k4 1) = (1 : Int32) → (a2 < (0 : Int32) → Q (some (.inl (-1 : Int32))) S) ∧ (¬ a2 < (0 : Int32) → ∀ t8, (xm_r S 5 k4 12) = t8 → (∃ k10, t8 = some k10 ∧ ((a2 < (nI (xm_n S 1 k10)) → y_in a2 (xm_n S 1 k10) ∧ (∃ k13, (xm_l S k10 (y_ix a2)) = (2, k13) ∧ (Q (some (.inl (xm_i S 2 k13 0))) S))) ∧ (¬ a2 < (nI (xm_n S 1 k10)) → Q (some (.inl (-1 : Int32))) S))))) ∧ (¬ (xm_i S 5 k4 1) = (1 : Int32) → Q (some (.inl (-1 : Int32))) S)))))) : xc (d + 2) 80 [.inr (some (0, 0)), .inl a1, .inl a2] S Q := by
  show xw _ _ _ [some (.inr (some (0, 0))), some (.inl a1), some (.inl a2), none] _ _ _
  refine xw.s (pc' := 1) (st' := [.inr (some (0, 0))]) rfl ?_
  refine xw.s (pc' := 2) (st' := [.inl (1 : Int32), .inr (some (0, 0))]) rfl ?_
  refine xw.s (pc' := 3) (st' := [.inl a1, .inl (1 : Int32), .inr (some (0, 0))]) rfl ?_
  refine xw.call (m := 69) (as := [.inr (some (0, 0)), .inl (1 : Int32), .inl a1]) (nx := 6) (L' := [some (.inr (some (0, 0))), some (.inl a1), some (.inl a2), none]) (st' := []) rfl ?_
  show xw _ _ _ [some (.inr (some (0, 0))), some (.inl (1 : Int32)), some (.inl a1), none] [] _ _
  refine xw.s (pc' := 1) (st' := [.inr (some (0, 0))]) rfl ?_
  refine xw.s (pc' := 2) (st' := [.inl a1, .inr (some (0, 0))]) rfl ?_
  refine xw.call (m := 10) (as := [.inr (some (0, 0)), .inl a1]) (nx := 5) (L' := [some (.inr (some (0, 0))), some (.inl (1 : Int32)), some (.inl a1), none]) (st' := []) rfl ?_
  show xw _ _ _ [some (.inr (some (0, 0))), some (.inl a1)] [] _ _
  refine xw.s (pc' := 1) (st' := [.inl a1]) rfl ?_
  refine xw.b (c := a1 < (0 : Int32)) (cd := .lt) (x := a1) (y := (0 : Int32)) 29 4 (st' := []) rfl (y_clt _ _) h (fun c1 h => ?_) (fun c1 h => ?_)
  · skip
    refine xw.s (pc' := 30) (st' := [.inr none]) rfl ?_
    refine xw.ret (r := some (.inr none)) rfl ?_
    show xw _ _ 5 [some (.inr (some (0, 0))), some (.inl (1 : Int32)), some (.inl a1), none] [.inr none] S _
    refine xw.s (pc' := 6) (st' := []) (L' := [some (.inr (some (0, 0))), some (.inl (1 : Int32)), some (.inl a1), some (.inr none)]) rfl ?_
    refine xw.s (pc' := 7) (st' := [.inr none]) rfl ?_
    refine xw.s (pc' := 22) (st' := []) rfl ?_
    refine xw.s (pc' := 23) (st' := [.inr none]) rfl ?_
    refine xw.ret (r := some (.inr none)) rfl ?_
    show xw _ _ 6 [some (.inr (some (0, 0))), some (.inl a1), some (.inl a2), none] [.inr none] S _
    refine xw.s (pc' := 7) (st' := []) (L' := [some (.inr (some (0, 0))), some (.inl a1), some (.inl a2), some (.inr none)]) rfl ?_
    refine xw.s (pc' := 8) (st' := [.inr none]) rfl ?_
    refine xw.s (pc' := 26) (st' := []) rfl ?_
    refine xw.s (pc' := 27) (st' := [.inl (-1 : Int32)]) rfl ?_
    exact xw.ret (r := (some (.inl (-1 : Int32)))) rfl h
  · skip
    refine xw.s (pc' := 5) (st' := [.inl a1]) rfl ?_
    refine xw.s (pc' := 6) (st' := [.inr (some (0, 0)), .inl a1]) rfl ?_
    refine xw.fr (c := 0) (j := 3) (e := 12) (nx := 9) (t := (some 3)) rfl rfl (hC 3 (by decide)) ?_
    show xw _ _ _ [some (.inr (some (0, 0))), some (.inl a1)] [.inr (some (12, 3)), .inl a1] _ _
    refine xw.lsz (nx := 12) (n := (xm_n S 1 3)) rfl (Nat.le_of_ble_eq_true rfl) rfl ?_
    refine xw.b (c := (nI (xm_n S 1 3)) ≤ a1) (cd := .ge) (x := a1) (y := (nI (xm_n S 1 3))) 29 15 (st' := []) rfl (y_cge _ _) h (fun c2 h => ?_) (fun c2 h => ?_)
    · skip
      refine xw.s (pc' := 30) (st' := [.inr none]) rfl ?_
      refine xw.ret (r := some (.inr none)) rfl ?_
      show xw _ _ 5 [some (.inr (some (0, 0))), some (.inl (1 : Int32)), some (.inl a1), none] [.inr none] S _
      refine xw.s (pc' := 6) (st' := []) (L' := [some (.inr (some (0, 0))), some (.inl (1 : Int32)), some (.inl a1), some (.inr none)]) rfl ?_
      refine xw.s (pc' := 7) (st' := [.inr none]) rfl ?_
      refine xw.s (pc' := 22) (st' := []) rfl ?_
      refine xw.s (pc' := 23) (st' := [.inr none]) rfl ?_
      refine xw.ret (r := some (.inr none)) rfl ?_
      show xw _ _ 6 [some (.inr (some (0, 0))), some (.inl a1), some (.inl a2), none] [.inr none] S _
      refine xw.s (pc' := 7) (st' := []) (L' := [some (.inr (some (0, 0))), some (.inl a1), some (.inl a2), some (.inr none)]) rfl ?_
      refine xw.s (pc' := 8) (st' := [.inr none]) rfl ?_
      refine xw.s (pc' := 26) (st' := []) rfl ?_
      refine xw.s (pc' := 27) (st' := [.inl (-1 : Int32)]) rfl ?_
      exact xw.ret (r := (some (.inl (-1 : Int32)))) rfl h
    · skip
      refine xw.s (pc' := 16) (st' := [.inr (some (0, 0))]) rfl ?_
      refine xw.fr (c := 0) (j := 3) (e := 12) (nx := 19) (t := (some 3)) rfl rfl (hC 3 (by decide)) ?_
      show xw _ _ _ [some (.inr (some (0, 0))), some (.inl a1)] [.inr (some (12, 3))] _ _
      refine xw.s (pc' := 20) (st' := [.inl a1, .inr (some (12, 3))]) rfl ?_
      obtain ⟨z3, h⟩ := h
      obtain ⟨k4, q5, h⟩ := h
      refine xw.get (nx := 23) (p := (5, k4)) rfl (Nat.le_of_ble_eq_true rfl) z3 q5 ?_
      refine xw.s (pc' := 26) (st' := [.inr (some (5, k4))]) rfl ?_
      refine xw.s (pc' := 30) (st' := [.inr (some (5, k4))]) rfl ?_
      refine xw.ret (r := some (.inr (some (5, k4)))) rfl ?_
      show xw _ _ 5 [some (.inr (some (0, 0))), some (.inl (1 : Int32)), some (.inl a1), none] [.inr (some (5, k4))] S _
      refine xw.s (pc' := 6) (st' := []) (L' := [some (.inr (some (0, 0))), some (.inl (1 : Int32)), some (.inl a1), some (.inr (some (5, k4)))]) rfl ?_
      refine xw.s (pc' := 7) (st' := [.inr (some (5, k4))]) rfl ?_
      refine xw.s (pc' := 10) (st' := []) rfl ?_
      refine xw.s (pc' := 11) (st' := [.inr (some (5, k4))]) rfl ?_
      refine xw.fi (c := 5) (j := 1) (ty := 0) (nx := 14) (v := (xm_i S 5 k4 1)) rfl rfl rfl ?_
      refine xw.s (pc' := 15) (st' := [.inl (1 : Int32), .inl (xm_i S 5 k4 1)]) rfl ?_
      refine xw.bn (c := (xm_i S 5 k4 1) = (1 : Int32)) (cd := .ne) (x := (xm_i S 5 k4 1)) (y := (1 : Int32)) 22 18 (st' := []) rfl (y_cne _ _) h (fun c6 h => ?_) (fun c6 h => ?_)
      · skip
        refine xw.s (pc' := 19) (st' := [.inr (some (5, k4))]) rfl ?_
        refine xw.s (pc' := 23) (st' := [.inr (some (5, k4))]) rfl ?_
        refine xw.ret (r := some (.inr (some (5, k4)))) rfl ?_
        show xw _ _ 6 [some (.inr (some (0, 0))), some (.inl a1), some (.inl a2), none] [.inr (some (5, k4))] S _
        refine xw.s (pc' := 7) (st' := []) (L' := [some (.inr (some (0, 0))), some (.inl a1), some (.inl a2), some (.inr (some (5, k4)))]) rfl ?_
        refine xw.s (pc' := 8) (st' := [.inr (some (5, k4))]) rfl ?_
        refine xw.s (pc' := 11) (st' := []) rfl ?_
        refine xw.s (pc' := 12) (st' := [.inl a2]) rfl ?_
        refine xw.b (c := a2 < (0 : Int32)) (cd := .lt) (x := a2) (y := (0 : Int32)) 26 15 (st' := []) rfl (y_clt _ _) h (fun c7 h => ?_) (fun c7 h => ?_)
        · skip
          refine xw.s (pc' := 27) (st' := [.inl (-1 : Int32)]) rfl ?_
          exact xw.ret (r := (some (.inl (-1 : Int32)))) rfl h
        · skip
          refine xw.s (pc' := 16) (st' := [.inl a2]) rfl ?_
          refine xw.s (pc' := 17) (st' := [.inr (some (5, k4)), .inl a2]) rfl ?_
          obtain ⟨t8, q9⟩ : ∃ t, (xm_r S 5 k4 12) = t := ⟨_, rfl⟩
          replace h := h t8 q9
          refine xw.fr (c := 5) (j := 12) (e := 12) (nx := 20) (t := t8) rfl rfl q9 ?_
          show xw _ _ _ [some (.inr (some (0, 0))), some (.inl a1), some (.inl a2), some (.inr (some (5, k4)))] [.inr (xo 12 t8), .inl a2] _ _
          obtain ⟨k10, rfl, h⟩ := h
          refine xw.lsz (nx := 23) (n := (xm_n S 1 k10)) rfl (Nat.le_of_ble_eq_true rfl) rfl ?_
          refine xw.b (c := a2 < (nI (xm_n S 1 k10))) (cd := .lt) (x := a2) (y := (nI (xm_n S 1 k10))) 28 26 (st' := []) rfl (y_clt _ _) h (fun c11 h => ?_) (fun c11 h => ?_)
          · skip
            refine xw.s (pc' := 29) (st' := [.inr (some (5, k4))]) rfl ?_
            refine xw.fr (c := 5) (j := 12) (e := 12) (nx := 32) (t := (some k10)) rfl rfl q9 ?_
            show xw _ _ _ [some (.inr (some (0, 0))), some (.inl a1), some (.inl a2), some (.inr (some (5, k4)))] [.inr (some (12, k10))] _ _
            refine xw.s (pc' := 33) (st' := [.inl a2, .inr (some (12, k10))]) rfl ?_
            obtain ⟨z12, h⟩ := h
            obtain ⟨k13, q14, h⟩ := h
            refine xw.get (nx := 36) (p := (2, k13)) rfl (Nat.le_of_ble_eq_true rfl) z12 q14 ?_
            refine xw.s (pc' := 39) (st' := [.inr (some (2, k13))]) rfl ?_
            refine xw.fi (c := 2) (j := 0) (ty := 0) (nx := 42) (v := (xm_i S 2 k13 0)) rfl rfl rfl ?_
            exact xw.ret (r := (some (.inl (xm_i S 2 k13 0)))) rfl h
          · skip
            refine xw.s (pc' := 27) (st' := [.inl (-1 : Int32)]) rfl ?_
            exact xw.ret (r := (some (.inl (-1 : Int32)))) rfl h
      · skip
        refine xw.s (pc' := 23) (st' := [.inr none]) rfl ?_
        refine xw.ret (r := some (.inr none)) rfl ?_
        show xw _ _ 6 [some (.inr (some (0, 0))), some (.inl a1), some (.inl a2), none] [.inr none] S _
        refine xw.s (pc' := 7) (st' := []) (L' := [some (.inr (some (0, 0))), some (.inl a1), some (.inl a2), some (.inr none)]) rfl ?_
        refine xw.s (pc' := 8) (st' := [.inr none]) rfl ?_
        refine xw.s (pc' := 26) (st' := []) rfl ?_
        refine xw.s (pc' := 27) (st' := [.inl (-1 : Int32)]) rfl ?_
        exact xw.ret (r := (some (.inl (-1 : Int32)))) rfl h
/-- tokens -/
theorem cw_tokens {d : Nat} {a1 : Int32} {S : xm_S} {Q : Option xm_V → xm_S → Prop} (hC : xk_C S) (h : (a1 < (0 : Int32) → Q (some (.inl (-1 : Int32))) S) ∧ (¬ a1 < (0 : Int32) → ((nI (xm_n S 1 3)) ≤ a1 → Q (some (.inl (-1 : Int32))) S) ∧ (¬ (nI (xm_n S 1 3)) ≤ a1 → y_in a1 (xm_n S 1 3) ∧ (∃ k4, (xm_l S 3 (y_ix a1)) = (5, k4) ∧ (((xm_i S 5 k4 1) = (2 : Int32) → Q (some (.inl (xm_i S 5 k4 13))) S) ∧ (¬ (xm_i S 5 k4 1) = (2 : Int32) → Q (some (.inl (-1 : Int32))) S)))))) : xc (d + 2) 81 [.inr (some (0, 0)), .inl a1] S Q := by
  show xw _ _ _ [some (.inr (some (0, 0))), some (.inl a1), none] _ _ _
  refine xw.s (pc' := 1) (st' := [.inr (some (0, 0))]) rfl ?_
  refine xw.s (pc' := 2) (st' := [.inl (2 : Int32), .inr (some (0, 0))]) rfl ?_
  refine xw.s (pc' := 3) (st' := [.inl a1, .inl (2 : Int32), .inr (some (0, 0))]) rfl ?_
  refine xw.call (m := 69) (as := [.inr (some (0, 0)), .inl (2 : Int32), .inl a1]) (nx := 6) (L' := [some (.inr (some (0, 0))), some (.inl a1), none]) (st' := []) rfl ?_
  show xw _ _ _ [some (.inr (some (0, 0))), some (.inl (2 : Int32)), some (.inl a1), none] [] _ _
  refine xw.s (pc' := 1) (st' := [.inr (some (0, 0))]) rfl ?_
  refine xw.s (pc' := 2) (st' := [.inl a1, .inr (some (0, 0))]) rfl ?_
  refine xw.call (m := 10) (as := [.inr (some (0, 0)), .inl a1]) (nx := 5) (L' := [some (.inr (some (0, 0))), some (.inl (2 : Int32)), some (.inl a1), none]) (st' := []) rfl ?_
  show xw _ _ _ [some (.inr (some (0, 0))), some (.inl a1)] [] _ _
  refine xw.s (pc' := 1) (st' := [.inl a1]) rfl ?_
  refine xw.b (c := a1 < (0 : Int32)) (cd := .lt) (x := a1) (y := (0 : Int32)) 29 4 (st' := []) rfl (y_clt _ _) h (fun c1 h => ?_) (fun c1 h => ?_)
  · skip
    refine xw.s (pc' := 30) (st' := [.inr none]) rfl ?_
    refine xw.ret (r := some (.inr none)) rfl ?_
    show xw _ _ 5 [some (.inr (some (0, 0))), some (.inl (2 : Int32)), some (.inl a1), none] [.inr none] S _
    refine xw.s (pc' := 6) (st' := []) (L' := [some (.inr (some (0, 0))), some (.inl (2 : Int32)), some (.inl a1), some (.inr none)]) rfl ?_
    refine xw.s (pc' := 7) (st' := [.inr none]) rfl ?_
    refine xw.s (pc' := 22) (st' := []) rfl ?_
    refine xw.s (pc' := 23) (st' := [.inr none]) rfl ?_
    refine xw.ret (r := some (.inr none)) rfl ?_
    show xw _ _ 6 [some (.inr (some (0, 0))), some (.inl a1), none] [.inr none] S _
    refine xw.s (pc' := 7) (st' := []) (L' := [some (.inr (some (0, 0))), some (.inl a1), some (.inr none)]) rfl ?_
    refine xw.s (pc' := 8) (st' := [.inr none]) rfl ?_
    refine xw.s (pc' := 11) (st' := []) rfl ?_
    refine xw.s (pc' := 12) (st' := [.inl (-1 : Int32)]) rfl ?_
    refine xw.s (pc' := 19) (st' := [.inl (-1 : Int32)]) rfl ?_
    exact xw.ret (r := (some (.inl (-1 : Int32)))) rfl h
  · skip
    refine xw.s (pc' := 5) (st' := [.inl a1]) rfl ?_
    refine xw.s (pc' := 6) (st' := [.inr (some (0, 0)), .inl a1]) rfl ?_
    refine xw.fr (c := 0) (j := 3) (e := 12) (nx := 9) (t := (some 3)) rfl rfl (hC 3 (by decide)) ?_
    show xw _ _ _ [some (.inr (some (0, 0))), some (.inl a1)] [.inr (some (12, 3)), .inl a1] _ _
    refine xw.lsz (nx := 12) (n := (xm_n S 1 3)) rfl (Nat.le_of_ble_eq_true rfl) rfl ?_
    refine xw.b (c := (nI (xm_n S 1 3)) ≤ a1) (cd := .ge) (x := a1) (y := (nI (xm_n S 1 3))) 29 15 (st' := []) rfl (y_cge _ _) h (fun c2 h => ?_) (fun c2 h => ?_)
    · skip
      refine xw.s (pc' := 30) (st' := [.inr none]) rfl ?_
      refine xw.ret (r := some (.inr none)) rfl ?_
      show xw _ _ 5 [some (.inr (some (0, 0))), some (.inl (2 : Int32)), some (.inl a1), none] [.inr none] S _
      refine xw.s (pc' := 6) (st' := []) (L' := [some (.inr (some (0, 0))), some (.inl (2 : Int32)), some (.inl a1), some (.inr none)]) rfl ?_
      refine xw.s (pc' := 7) (st' := [.inr none]) rfl ?_
      refine xw.s (pc' := 22) (st' := []) rfl ?_
      refine xw.s (pc' := 23) (st' := [.inr none]) rfl ?_
      refine xw.ret (r := some (.inr none)) rfl ?_
      show xw _ _ 6 [some (.inr (some (0, 0))), some (.inl a1), none] [.inr none] S _
      refine xw.s (pc' := 7) (st' := []) (L' := [some (.inr (some (0, 0))), some (.inl a1), some (.inr none)]) rfl ?_
      refine xw.s (pc' := 8) (st' := [.inr none]) rfl ?_
      refine xw.s (pc' := 11) (st' := []) rfl ?_
      refine xw.s (pc' := 12) (st' := [.inl (-1 : Int32)]) rfl ?_
      refine xw.s (pc' := 19) (st' := [.inl (-1 : Int32)]) rfl ?_
      exact xw.ret (r := (some (.inl (-1 : Int32)))) rfl h
    · skip
      refine xw.s (pc' := 16) (st' := [.inr (some (0, 0))]) rfl ?_
      refine xw.fr (c := 0) (j := 3) (e := 12) (nx := 19) (t := (some 3)) rfl rfl (hC 3 (by decide)) ?_
      show xw _ _ _ [some (.inr (some (0, 0))), some (.inl a1)] [.inr (some (12, 3))] _ _
      refine xw.s (pc' := 20) (st' := [.inl a1, .inr (some (12, 3))]) rfl ?_
      obtain ⟨z3, h⟩ := h
      obtain ⟨k4, q5, h⟩ := h
      refine xw.get (nx := 23) (p := (5, k4)) rfl (Nat.le_of_ble_eq_true rfl) z3 q5 ?_
      refine xw.s (pc' := 26) (st' := [.inr (some (5, k4))]) rfl ?_
      refine xw.s (pc' := 30) (st' := [.inr (some (5, k4))]) rfl ?_
      refine xw.ret (r := some (.inr (some (5, k4)))) rfl ?_
      show xw _ _ 5 [some (.inr (some (0, 0))), some (.inl (2 : Int32)), some (.inl a1), none] [.inr (some (5, k4))] S _
      refine xw.s (pc' := 6) (st' := []) (L' := [some (.inr (some (0, 0))), some (.inl (2 : Int32)), some (.inl a1), some (.inr (some (5, k4)))]) rfl ?_
      refine xw.s (pc' := 7) (st' := [.inr (some (5, k4))]) rfl ?_
      refine xw.s (pc' := 10) (st' := []) rfl ?_
      refine xw.s (pc' := 11) (st' := [.inr (some (5, k4))]) rfl ?_
      refine xw.fi (c := 5) (j := 1) (ty := 0) (nx := 14) (v := (xm_i S 5 k4 1)) rfl rfl rfl ?_
      refine xw.s (pc' := 15) (st' := [.inl (2 : Int32), .inl (xm_i S 5 k4 1)]) rfl ?_
      refine xw.bn (c := (xm_i S 5 k4 1) = (2 : Int32)) (cd := .ne) (x := (xm_i S 5 k4 1)) (y := (2 : Int32)) 22 18 (st' := []) rfl (y_cne _ _) h (fun c6 h => ?_) (fun c6 h => ?_)
      · skip
        refine xw.s (pc' := 19) (st' := [.inr (some (5, k4))]) rfl ?_
        refine xw.s (pc' := 23) (st' := [.inr (some (5, k4))]) rfl ?_
        refine xw.ret (r := some (.inr (some (5, k4)))) rfl ?_
        show xw _ _ 6 [some (.inr (some (0, 0))), some (.inl a1), none] [.inr (some (5, k4))] S _
        refine xw.s (pc' := 7) (st' := []) (L' := [some (.inr (some (0, 0))), some (.inl a1), some (.inr (some (5, k4)))]) rfl ?_
        refine xw.s (pc' := 8) (st' := [.inr (some (5, k4))]) rfl ?_
        refine xw.s (pc' := 15) (st' := []) rfl ?_
        refine xw.s (pc' := 16) (st' := [.inr (some (5, k4))]) rfl ?_
        refine xw.fi (c := 5) (j := 13) (ty := 0) (nx := 19) (v := (xm_i S 5 k4 13)) rfl rfl rfl ?_
        exact xw.ret (r := (some (.inl (xm_i S 5 k4 13)))) rfl h
      · skip
        refine xw.s (pc' := 23) (st' := [.inr none]) rfl ?_
        refine xw.ret (r := some (.inr none)) rfl ?_
        show xw _ _ 6 [some (.inr (some (0, 0))), some (.inl a1), none] [.inr none] S _
        refine xw.s (pc' := 7) (st' := []) (L' := [some (.inr (some (0, 0))), some (.inl a1), some (.inr none)]) rfl ?_
        refine xw.s (pc' := 8) (st' := [.inr none]) rfl ?_
        refine xw.s (pc' := 11) (st' := []) rfl ?_
        refine xw.s (pc' := 12) (st' := [.inl (-1 : Int32)]) rfl ?_
        refine xw.s (pc' := 19) (st' := [.inl (-1 : Int32)]) rfl ?_
        exact xw.ret (r := (some (.inl (-1 : Int32)))) rfl h
end
