/-! ===== THE CLASS: its methods (printed by wip/whole/gen49.py out of the bytecode) ===== -/
section
/-- kept -/
theorem cw_kept {d : Nat} {a1 : Int32} {a2 : Int32} {a3 : Int32} {S : xm_S} {Q : Option xm_V → xm_S → Prop} (hC : xk_C S) (h : (a1 < (0 : Int32) → (a2 < (0 : Int32) → Q (some (.inl (-1 : Int32))) S) ∧ (¬ a2 < (0 : Int32) → ((nI (xm_n S 1 0)) ≤ a2 → Q (some (.inl (-1 : Int32))) S) ∧ (¬ (nI (xm_n S 1 0)) ≤ a2 → y_in a2 (xm_n S 1 0) ∧ (∃ k5, (xm_l S 0 (y_ix a2)) = (9, k5) ∧ (Q (some (.inl (-1 : Int32))) S))))) ∧ (¬ a1 < (0 : Int32) → ((nI (xm_n S 1 3)) ≤ a1 → (a2 < (0 : Int32) → Q (some (.inl (-1 : Int32))) S) ∧ (¬ a2 < (0 : Int32) → ((nI (xm_n S 1 0)) ≤ a2 → Q (some (.inl (-1 : Int32))) S) ∧ (¬ (nI (xm_n S 1 0)) ≤ a2 → y_in a2 (xm_n S 1 0) ∧ (∃ k11, (xm_l S 0 (y_ix a2)) = (9, k11) ∧ (Q (some (.inl (-1 : Int32))) S))))) ∧ (¬ (nI (xm_n S 1 3)) ≤ a1 → y_in a1 (xm_n S 1 3) ∧ (∃ k14, (xm_l S 3 (y_ix a1)) = (5, k14) ∧ (((xm_i S 5 k14 1) = (7 : Int32) → (a2 < (0 : Int32) → Q (some (.inl (-1 : Int32))) S) ∧ (¬ a2 < (0 : Int32) → ((nI (xm_n S 1 0)) ≤ a2 → Q (some (.inl (-1 : Int32))) S) ∧ (¬ (nI (xm_n S 1 0)) ≤ a2 → y_in a2 (xm_n S 1 0) ∧ (∃ k20, (xm_l S 0 (y_ix a2)) = (9, k20) ∧ (((xm_i S 9 k20 0) < (0 : Int32) → Q (some (.inl (-1 : Int32))) S) ∧ (¬ (xm_i S 9 k20 0) < (0 : Int32) → ∀ t23, (xm_r S 5 k14 14) = t23 → (∃ k25, t23 = some k25 ∧ (((nI (xm_n S 25 k25)) ≤ (xm_i S 9 k20 0) → Q (some (.inl (-1 : Int32))) S) ∧ (¬ (nI (xm_n S 25 k25)) ≤ (xm_i S 9 k20 0) → y_in (xm_i S 9 k20 0) (xm_n S 25 k25) ∧ (∀ t28, (xm_r S 15 k25 (y_ix (xm_i S 9 k20 0))) = t28 → ((t28 = none → Q (some (.inl (-1 : Int32))) S) ∧ (∀ k30, t28 = some k30 → (a3 = (0 : Int32) → Q (some (.inl (xm_i S 2 k30 9))) S) ∧ (¬ a3 = (0 : Int32) → (a3 = (1 : Int32) → Q (some (.inl (xm_i S 2 k30 7))) S) ∧ (¬ a3 = (1 : Int32) → Q (some (.inl (-1 : Int32))) S)))))))))))))) ∧ (¬ (xm_i S 5 k14 1) = (7 : Int32) → (a2 < (0 : Int32) → Q (some (.inl (-1 : Int32))) S) ∧ (¬ a2 < (0 : Int32) → ((nI (xm_n S 1 0)) ≤ a2 → Q (some (.inl (-1 : Int32))) S) ∧ (¬ (nI (xm_n S 1 0)) ≤ a2 → y_in a2 (xm_n S 1 0) ∧ (∃ k36, (xm_l S 0 (y_ix a2)) = (9, k36) ∧ (Q (some (.inl (-1 : Int32))) S)))))))))) : xc (d + 2) 82 [.inr (some (0, 0)), .inl a1, .inl a2, .inl a3] S Q := by
  show xw _ _ _ [some (.inr (some (0, 0))), some (.inl a1), some (.inl a2), some (.inl a3), none, none, none] _ _ _
  refine xw.s (pc' := 1) (st' := [.inr (some (0, 0))]) rfl ?_
  refine xw.s (pc' := 3) (st' := [.inl (7 : Int32), .inr (some (0, 0))]) rfl ?_
  refine xw.s (pc' := 4) (st' := [.inl a1, .inl (7 : Int32), .inr (some (0, 0))]) rfl ?_
  refine xw.call (m := 69) (as := [.inr (some (0, 0)), .inl (7 : Int32), .inl a1]) (nx := 7) (L' := [some (.inr (some (0, 0))), some (.inl a1), some (.inl a2), some (.inl a3), none, none, none]) (st' := []) rfl ?_
  show xw _ _ _ [some (.inr (some (0, 0))), some (.inl (7 : Int32)), some (.inl a1), none] [] _ _
  refine xw.s (pc' := 1) (st' := [.inr (some (0, 0))]) rfl ?_
  refine xw.s (pc' := 2) (st' := [.inl a1, .inr (some (0, 0))]) rfl ?_
  refine xw.call (m := 10) (as := [.inr (some (0, 0)), .inl a1]) (nx := 5) (L' := [some (.inr (some (0, 0))), some (.inl (7 : Int32)), some (.inl a1), none]) (st' := []) rfl ?_
  show xw _ _ _ [some (.inr (some (0, 0))), some (.inl a1)] [] _ _
  refine xw.s (pc' := 1) (st' := [.inl a1]) rfl ?_
  refine xw.b (c := a1 < (0 : Int32)) (cd := .lt) (x := a1) (y := (0 : Int32)) 29 4 (st' := []) rfl (y_clt _ _) h (fun c1 h => ?_) (fun c1 h => ?_)
  · skip
    refine xw.s (pc' := 30) (st' := [.inr none]) rfl ?_
    refine xw.ret (r := some (.inr none)) rfl ?_
    show xw _ _ 5 [some (.inr (some (0, 0))), some (.inl (7 : Int32)), some (.inl a1), none] [.inr none] S _
    refine xw.s (pc' := 6) (st' := []) (L' := [some (.inr (some (0, 0))), some (.inl (7 : Int32)), some (.inl a1), some (.inr none)]) rfl ?_
    refine xw.s (pc' := 7) (st' := [.inr none]) rfl ?_
    refine xw.s (pc' := 22) (st' := []) rfl ?_
    refine xw.s (pc' := 23) (st' := [.inr none]) rfl ?_
    refine xw.ret (r := some (.inr none)) rfl ?_
    show xw _ _ 7 [some (.inr (some (0, 0))), some (.inl a1), some (.inl a2), some (.inl a3), none, none, none] [.inr none] S _
    refine xw.s (pc' := 9) (st' := []) (L' := [some (.inr (some (0, 0))), some (.inl a1), some (.inl a2), some (.inl a3), some (.inr none), none, none]) rfl ?_
    refine xw.s (pc' := 10) (st' := [.inr (some (0, 0))]) rfl ?_
    refine xw.s (pc' := 11) (st' := [.inl a2, .inr (some (0, 0))]) rfl ?_
    refine xw.call (m := 4) (as := [.inr (some (0, 0)), .inl a2]) (nx := 14) (L' := [some (.inr (some (0, 0))), some (.inl a1), some (.inl a2), some (.inl a3), some (.inr none), none, none]) (st' := []) rfl ?_
    show xw _ _ _ [some (.inr (some (0, 0))), some (.inl a2)] [] _ _
    refine xw.s (pc' := 1) (st' := [.inl a2]) rfl ?_
    refine xw.b (c := a2 < (0 : Int32)) (cd := .lt) (x := a2) (y := (0 : Int32)) 29 4 (st' := []) rfl (y_clt _ _) h (fun c2 h => ?_) (fun c2 h => ?_)
    · skip
      refine xw.s (pc' := 30) (st' := [.inr none]) rfl ?_
      refine xw.ret (r := some (.inr none)) rfl ?_
      show xw _ _ 14 [some (.inr (some (0, 0))), some (.inl a1), some (.inl a2), some (.inl a3), some (.inr none), none, none] [.inr none] S _
      refine xw.s (pc' := 16) (st' := []) (L' := [some (.inr (some (0, 0))), some (.inl a1), some (.inl a2), some (.inl a3), some (.inr none), some (.inr none), none]) rfl ?_
      refine xw.s (pc' := 18) (st' := [.inr none]) rfl ?_
      refine xw.s (pc' := 26) (st' := []) rfl ?_
      refine xw.s (pc' := 27) (st' := [.inr none]) rfl ?_
      refine xw.s (pc' := 37) (st' := [.inr none]) rfl ?_
      refine xw.s (pc' := 39) (st' := []) (L' := [some (.inr (some (0, 0))), some (.inl a1), some (.inl a2), some (.inl a3), some (.inr none), some (.inr none), some (.inr none)]) rfl ?_
      refine xw.s (pc' := 41) (st' := [.inr none]) rfl ?_
      refine xw.s (pc' := 44) (st' := []) rfl ?_
      refine xw.s (pc' := 45) (st' := [.inl (-1 : Int32)]) rfl ?_
      exact xw.ret (r := (some (.inl (-1 : Int32)))) rfl h
    · skip
      refine xw.s (pc' := 5) (st' := [.inl a2]) rfl ?_
      refine xw.s (pc' := 6) (st' := [.inr (some (0, 0)), .inl a2]) rfl ?_
      refine xw.fr (c := 0) (j := 0) (e := 12) (nx := 9) (t := (some 0)) rfl rfl (hC 0 (by decide)) ?_
      show xw _ _ _ [some (.inr (some (0, 0))), some (.inl a2)] [.inr (some (12, 0)), .inl a2] _ _
      refine xw.lsz (nx := 12) (n := (xm_n S 1 0)) rfl (Nat.le_of_ble_eq_true rfl) rfl ?_
      refine xw.b (c := (nI (xm_n S 1 0)) ≤ a2) (cd := .ge) (x := a2) (y := (nI (xm_n S 1 0))) 29 15 (st' := []) rfl (y_cge _ _) h (fun c3 h => ?_) (fun c3 h => ?_)
      · skip
        refine xw.s (pc' := 30) (st' := [.inr none]) rfl ?_
        refine xw.ret (r := some (.inr none)) rfl ?_
        show xw _ _ 14 [some (.inr (some (0, 0))), some (.inl a1), some (.inl a2), some (.inl a3), some (.inr none), none, none] [.inr none] S _
        refine xw.s (pc' := 16) (st' := []) (L' := [some (.inr (some (0, 0))), some (.inl a1), some (.inl a2), some (.inl a3), some (.inr none), some (.inr none), none]) rfl ?_
        refine xw.s (pc' := 18) (st' := [.inr none]) rfl ?_
        refine xw.s (pc' := 26) (st' := []) rfl ?_
        refine xw.s (pc' := 27) (st' := [.inr none]) rfl ?_
        refine xw.s (pc' := 37) (st' := [.inr none]) rfl ?_
        refine xw.s (pc' := 39) (st' := []) (L' := [some (.inr (some (0, 0))), some (.inl a1), some (.inl a2), some (.inl a3), some (.inr none), some (.inr none), some (.inr none)]) rfl ?_
        refine xw.s (pc' := 41) (st' := [.inr none]) rfl ?_
        refine xw.s (pc' := 44) (st' := []) rfl ?_
        refine xw.s (pc' := 45) (st' := [.inl (-1 : Int32)]) rfl ?_
        exact xw.ret (r := (some (.inl (-1 : Int32)))) rfl h
      · skip
        refine xw.s (pc' := 16) (st' := [.inr (some (0, 0))]) rfl ?_
        refine xw.fr (c := 0) (j := 0) (e := 12) (nx := 19) (t := (some 0)) rfl rfl (hC 0 (by decide)) ?_
        show xw _ _ _ [some (.inr (some (0, 0))), some (.inl a2)] [.inr (some (12, 0))] _ _
        refine xw.s (pc' := 20) (st' := [.inl a2, .inr (some (12, 0))]) rfl ?_
        obtain ⟨z4, h⟩ := h
        obtain ⟨k5, q6, h⟩ := h
        refine xw.get (nx := 23) (p := (9, k5)) rfl (Nat.le_of_ble_eq_true rfl) z4 q6 ?_
        refine xw.s (pc' := 26) (st' := [.inr (some (9, k5))]) rfl ?_
        refine xw.s (pc' := 30) (st' := [.inr (some (9, k5))]) rfl ?_
        refine xw.ret (r := some (.inr (some (9, k5)))) rfl ?_
        show xw _ _ 14 [some (.inr (some (0, 0))), some (.inl a1), some (.inl a2), some (.inl a3), some (.inr none), none, none] [.inr (some (9, k5))] S _
        refine xw.s (pc' := 16) (st' := []) (L' := [some (.inr (some (0, 0))), some (.inl a1), some (.inl a2), some (.inl a3), some (.inr none), some (.inr (some (9, k5))), none]) rfl ?_
        refine xw.s (pc' := 18) (st' := [.inr none]) rfl ?_
        refine xw.s (pc' := 26) (st' := []) rfl ?_
        refine xw.s (pc' := 27) (st' := [.inr none]) rfl ?_
        refine xw.s (pc' := 37) (st' := [.inr none]) rfl ?_
        refine xw.s (pc' := 39) (st' := []) (L' := [some (.inr (some (0, 0))), some (.inl a1), some (.inl a2), some (.inl a3), some (.inr none), some (.inr (some (9, k5))), some (.inr none)]) rfl ?_
        refine xw.s (pc' := 41) (st' := [.inr none]) rfl ?_
        refine xw.s (pc' := 44) (st' := []) rfl ?_
        refine xw.s (pc' := 45) (st' := [.inl (-1 : Int32)]) rfl ?_
        exact xw.ret (r := (some (.inl (-1 : Int32)))) rfl h
  · skip
    refine xw.s (pc' := 5) (st' := [.inl a1]) rfl ?_
    refine xw.s (pc' := 6) (st' := [.inr (some (0, 0)), .inl a1]) rfl ?_
    refine xw.fr (c := 0) (j := 3) (e := 12) (nx := 9) (t := (some 3)) rfl rfl (hC 3 (by decide)) ?_
    show xw _ _ _ [some (.inr (some (0, 0))), some (.inl a1)] [.inr (some (12, 3)), .inl a1] _ _
    refine xw.lsz (nx := 12) (n := (xm_n S 1 3)) rfl (Nat.le_of_ble_eq_true rfl) rfl ?_
    refine xw.b (c := (nI (xm_n S 1 3)) ≤ a1) (cd := .ge) (x := a1) (y := (nI (xm_n S 1 3))) 29 15 (st' := []) rfl (y_cge _ _) h (fun c7 h => ?_) (fun c7 h => ?_)
    · skip
      refine xw.s (pc' := 30) (st' := [.inr none]) rfl ?_
      refine xw.ret (r := some (.inr none)) rfl ?_
      show xw _ _ 5 [some (.inr (some (0, 0))), some (.inl (7 : Int32)), some (.inl a1), none] [.inr none] S _
      refine xw.s (pc' := 6) (st' := []) (L' := [some (.inr (some (0, 0))), some (.inl (7 : Int32)), some (.inl a1), some (.inr none)]) rfl ?_
      refine xw.s (pc' := 7) (st' := [.inr none]) rfl ?_
      refine xw.s (pc' := 22) (st' := []) rfl ?_
      refine xw.s (pc' := 23) (st' := [.inr none]) rfl ?_
      refine xw.ret (r := some (.inr none)) rfl ?_
      show xw _ _ 7 [some (.inr (some (0, 0))), some (.inl a1), some (.inl a2), some (.inl a3), none, none, none] [.inr none] S _
      refine xw.s (pc' := 9) (st' := []) (L' := [some (.inr (some (0, 0))), some (.inl a1), some (.inl a2), some (.inl a3), some (.inr none), none, none]) rfl ?_
      refine xw.s (pc' := 10) (st' := [.inr (some (0, 0))]) rfl ?_
      refine xw.s (pc' := 11) (st' := [.inl a2, .inr (some (0, 0))]) rfl ?_
      refine xw.call (m := 4) (as := [.inr (some (0, 0)), .inl a2]) (nx := 14) (L' := [some (.inr (some (0, 0))), some (.inl a1), some (.inl a2), some (.inl a3), some (.inr none), none, none]) (st' := []) rfl ?_
      show xw _ _ _ [some (.inr (some (0, 0))), some (.inl a2)] [] _ _
      refine xw.s (pc' := 1) (st' := [.inl a2]) rfl ?_
      refine xw.b (c := a2 < (0 : Int32)) (cd := .lt) (x := a2) (y := (0 : Int32)) 29 4 (st' := []) rfl (y_clt _ _) h (fun c8 h => ?_) (fun c8 h => ?_)
      · skip
        refine xw.s (pc' := 30) (st' := [.inr none]) rfl ?_
        refine xw.ret (r := some (.inr none)) rfl ?_
        show xw _ _ 14 [some (.inr (some (0, 0))), some (.inl a1), some (.inl a2), some (.inl a3), some (.inr none), none, none] [.inr none] S _
        refine xw.s (pc' := 16) (st' := []) (L' := [some (.inr (some (0, 0))), some (.inl a1), some (.inl a2), some (.inl a3), some (.inr none), some (.inr none), none]) rfl ?_
        refine xw.s (pc' := 18) (st' := [.inr none]) rfl ?_
        refine xw.s (pc' := 26) (st' := []) rfl ?_
        refine xw.s (pc' := 27) (st' := [.inr none]) rfl ?_
        refine xw.s (pc' := 37) (st' := [.inr none]) rfl ?_
        refine xw.s (pc' := 39) (st' := []) (L' := [some (.inr (some (0, 0))), some (.inl a1), some (.inl a2), some (.inl a3), some (.inr none), some (.inr none), some (.inr none)]) rfl ?_
        refine xw.s (pc' := 41) (st' := [.inr none]) rfl ?_
        refine xw.s (pc' := 44) (st' := []) rfl ?_
        refine xw.s (pc' := 45) (st' := [.inl (-1 : Int32)]) rfl ?_
        exact xw.ret (r := (some (.inl (-1 : Int32)))) rfl h
      · skip
        refine xw.s (pc' := 5) (st' := [.inl a2]) rfl ?_
        refine xw.s (pc' := 6) (st' := [.inr (some (0, 0)), .inl a2]) rfl ?_
        refine xw.fr (c := 0) (j := 0) (e := 12) (nx := 9) (t := (some 0)) rfl rfl (hC 0 (by decide)) ?_
        show xw _ _ _ [some (.inr (some (0, 0))), some (.inl a2)] [.inr (some (12, 0)), .inl a2] _ _
        refine xw.lsz (nx := 12) (n := (xm_n S 1 0)) rfl (Nat.le_of_ble_eq_true rfl) rfl ?_
        refine xw.b (c := (nI (xm_n S 1 0)) ≤ a2) (cd := .ge) (x := a2) (y := (nI (xm_n S 1 0))) 29 15 (st' := []) rfl (y_cge _ _) h (fun c9 h => ?_) (fun c9 h => ?_)
        · skip
          refine xw.s (pc' := 30) (st' := [.inr none]) rfl ?_
          refine xw.ret (r := some (.inr none)) rfl ?_
          show xw _ _ 14 [some (.inr (some (0, 0))), some (.inl a1), some (.inl a2), some (.inl a3), some (.inr none), none, none] [.inr none] S _
          refine xw.s (pc' := 16) (st' := []) (L' := [some (.inr (some (0, 0))), some (.inl a1), some (.inl a2), some (.inl a3), some (.inr none), some (.inr none), none]) rfl ?_
          refine xw.s (pc' := 18) (st' := [.inr none]) rfl ?_
          refine xw.s (pc' := 26) (st' := []) rfl ?_
          refine xw.s (pc' := 27) (st' := [.inr none]) rfl ?_
          refine xw.s (pc' := 37) (st' := [.inr none]) rfl ?_
          refine xw.s (pc' := 39) (st' := []) (L' := [some (.inr (some (0, 0))), some (.inl a1), some (.inl a2), some (.inl a3), some (.inr none), some (.inr none), some (.inr none)]) rfl ?_
          refine xw.s (pc' := 41) (st' := [.inr none]) rfl ?_
          refine xw.s (pc' := 44) (st' := []) rfl ?_
          refine xw.s (pc' := 45) (st' := [.inl (-1 : Int32)]) rfl ?_
          exact xw.ret (r := (some (.inl (-1 : Int32)))) rfl h
        · skip
          refine xw.s (pc' := 16) (st' := [.inr (some (0, 0))]) rfl ?_
          refine xw.fr (c := 0) (j := 0) (e := 12) (nx := 19) (t := (some 0)) rfl rfl (hC 0 (by decide)) ?_
          show xw _ _ _ [some (.inr (some (0, 0))), some (.inl a2)] [.inr (some (12, 0))] _ _
          refine xw.s (pc' := 20) (st' := [.inl a2, .inr (some (12, 0))]) rfl ?_
          obtain ⟨z10, h⟩ := h
          obtain ⟨k11, q12, h⟩ := h
          refine xw.get (nx := 23) (p := (9, k11)) rfl (Nat.le_of_ble_eq_true rfl) z10 q12 ?_
          refine xw.s (pc' := 26) (st' := [.inr (some (9, k11))]) rfl ?_
          refine xw.s (pc' := 30) (st' := [.inr (some (9, k11))]) rfl ?_
          refine xw.ret (r := some (.inr (some (9, k11)))) rfl ?_
          show xw _ _ 14 [some (.inr (some (0, 0))), some (.inl a1), some (.inl a2), some (.inl a3), some (.inr none), none, none] [.inr (some (9, k11))] S _
          refine xw.s (pc' := 16) (st' := []) (L' := [some (.inr (some (0, 0))), some (.inl a1), some (.inl a2), some (.inl a3), some (.inr none), some (.inr (some (9, k11))), none]) rfl ?_
          refine xw.s (pc' := 18) (st' := [.inr none]) rfl ?_
          refine xw.s (pc' := 26) (st' := []) rfl ?_
          refine xw.s (pc' := 27) (st' := [.inr none]) rfl ?_
          refine xw.s (pc' := 37) (st' := [.inr none]) rfl ?_
          refine xw.s (pc' := 39) (st' := []) (L' := [some (.inr (some (0, 0))), some (.inl a1), some (.inl a2), some (.inl a3), some (.inr none), some (.inr (some (9, k11))), some (.inr none)]) rfl ?_
          refine xw.s (pc' := 41) (st' := [.inr none]) rfl ?_
          refine xw.s (pc' := 44) (st' := []) rfl ?_
          refine xw.s (pc' := 45) (st' := [.inl (-1 : Int32)]) rfl ?_
          exact xw.ret (r := (some (.inl (-1 : Int32)))) rfl h
    · skip
      refine xw.s (pc' := 16) (st' := [.inr (some (0, 0))]) rfl ?_
      refine xw.fr (c := 0) (j := 3) (e := 12) (nx := 19) (t := (some 3)) rfl rfl (hC 3 (by decide)) ?_
      show xw _ _ _ [some (.inr (some (0, 0))), some (.inl a1)] [.inr (some (12, 3))] _ _
      refine xw.s (pc' := 20) (st' := [.inl a1, .inr (some (12, 3))]) rfl ?_
      obtain ⟨z13, h⟩ := h
      obtain ⟨k14, q15, h⟩ := h
      refine xw.get (nx := 23) (p := (5, k14)) rfl (Nat.le_of_ble_eq_true rfl) z13 q15 ?_
      refine xw.s (pc' := 26) (st' := [.inr (some (5, k14))]) rfl ?_
      refine xw.s (pc' := 30) (st' := [.inr (some (5, k14))]) rfl ?_
      refine xw.ret (r := some (.inr (some (5, k14)))) rfl ?_
      show xw _ _ 5 [some (.inr (some (0, 0))), some (.inl (7 : Int32)), some (.inl a1), none] [.inr (some (5, k14))] S _
      refine xw.s (pc' := 6) (st' := []) (L' := [some (.inr (some (0, 0))), some (.inl (7 : Int32)), some (.inl a1), some (.inr (some (5, k14)))]) rfl ?_
      refine xw.s (pc' := 7) (st' := [.inr (some (5, k14))]) rfl ?_
      refine xw.s (pc' := 10) (st' := []) rfl ?_
      refine xw.s (pc' := 11) (st' := [.inr (some (5, k14))]) rfl ?_
      refine xw.fi (c := 5) (j := 1) (ty := 0) (nx := 14) (v := (xm_i S 5 k14 1)) rfl rfl rfl ?_
      refine xw.s (pc' := 15) (st' := [.inl (7 : Int32), .inl (xm_i S 5 k14 1)]) rfl ?_
      refine xw.bn (c := (xm_i S 5 k14 1) = (7 : Int32)) (cd := .ne) (x := (xm_i S 5 k14 1)) (y := (7 : Int32)) 22 18 (st' := []) rfl (y_cne _ _) h (fun c16 h => ?_) (fun c16 h => ?_)
      · skip
        refine xw.s (pc' := 19) (st' := [.inr (some (5, k14))]) rfl ?_
        refine xw.s (pc' := 23) (st' := [.inr (some (5, k14))]) rfl ?_
        refine xw.ret (r := some (.inr (some (5, k14)))) rfl ?_
        show xw _ _ 7 [some (.inr (some (0, 0))), some (.inl a1), some (.inl a2), some (.inl a3), none, none, none] [.inr (some (5, k14))] S _
        refine xw.s (pc' := 9) (st' := []) (L' := [some (.inr (some (0, 0))), some (.inl a1), some (.inl a2), some (.inl a3), some (.inr (some (5, k14))), none, none]) rfl ?_
        refine xw.s (pc' := 10) (st' := [.inr (some (0, 0))]) rfl ?_
        refine xw.s (pc' := 11) (st' := [.inl a2, .inr (some (0, 0))]) rfl ?_
        refine xw.call (m := 4) (as := [.inr (some (0, 0)), .inl a2]) (nx := 14) (L' := [some (.inr (some (0, 0))), some (.inl a1), some (.inl a2), some (.inl a3), some (.inr (some (5, k14))), none, none]) (st' := []) rfl ?_
        show xw _ _ _ [some (.inr (some (0, 0))), some (.inl a2)] [] _ _
        refine xw.s (pc' := 1) (st' := [.inl a2]) rfl ?_
        refine xw.b (c := a2 < (0 : Int32)) (cd := .lt) (x := a2) (y := (0 : Int32)) 29 4 (st' := []) rfl (y_clt _ _) h (fun c17 h => ?_) (fun c17 h => ?_)
        · skip
          refine xw.s (pc' := 30) (st' := [.inr none]) rfl ?_
          refine xw.ret (r := some (.inr none)) rfl ?_
          show xw _ _ 14 [some (.inr (some (0, 0))), some (.inl a1), some (.inl a2), some (.inl a3), some (.inr (some (5, k14))), none, none] [.inr none] S _
          refine xw.s (pc' := 16) (st' := []) (L' := [some (.inr (some (0, 0))), some (.inl a1), some (.inl a2), some (.inl a3), some (.inr (some (5, k14))), some (.inr none), none]) rfl ?_
          refine xw.s (pc' := 18) (st' := [.inr (some (5, k14))]) rfl ?_
          refine xw.s (pc' := 21) (st' := []) rfl ?_
          refine xw.s (pc' := 23) (st' := [.inr none]) rfl ?_
          refine xw.s (pc' := 26) (st' := []) rfl ?_
          refine xw.s (pc' := 27) (st' := [.inr none]) rfl ?_
          refine xw.s (pc' := 37) (st' := [.inr none]) rfl ?_
          refine xw.s (pc' := 39) (st' := []) (L' := [some (.inr (some (0, 0))), some (.inl a1), some (.inl a2), some (.inl a3), some (.inr (some (5, k14))), some (.inr none), some (.inr none)]) rfl ?_
          refine xw.s (pc' := 41) (st' := [.inr none]) rfl ?_
          refine xw.s (pc' := 44) (st' := []) rfl ?_
          refine xw.s (pc' := 45) (st' := [.inl (-1 : Int32)]) rfl ?_
          exact xw.ret (r := (some (.inl (-1 : Int32)))) rfl h
        · skip
          refine xw.s (pc' := 5) (st' := [.inl a2]) rfl ?_
          refine xw.s (pc' := 6) (st' := [.inr (some (0, 0)), .inl a2]) rfl ?_
          refine xw.fr (c := 0) (j := 0) (e := 12) (nx := 9) (t := (some 0)) rfl rfl (hC 0 (by decide)) ?_
          show xw _ _ _ [some (.inr (some (0, 0))), some (.inl a2)] [.inr (some (12, 0)), .inl a2] _ _
          refine xw.lsz (nx := 12) (n := (xm_n S 1 0)) rfl (Nat.le_of_ble_eq_true rfl) rfl ?_
          refine xw.b (c := (nI (xm_n S 1 0)) ≤ a2) (cd := .ge) (x := a2) (y := (nI (xm_n S 1 0))) 29 15 (st' := []) rfl (y_cge _ _) h (fun c18 h => ?_) (fun c18 h => ?_)
          · skip
            refine xw.s (pc' := 30) (st' := [.inr none]) rfl ?_
            refine xw.ret (r := some (.inr none)) rfl ?_
            show xw _ _ 14 [some (.inr (some (0, 0))), some (.inl a1), some (.inl a2), some (.inl a3), some (.inr (some (5, k14))), none, none] [.inr none] S _
            refine xw.s (pc' := 16) (st' := []) (L' := [some (.inr (some (0, 0))), some (.inl a1), some (.inl a2), some (.inl a3), some (.inr (some (5, k14))), some (.inr none), none]) rfl ?_
            refine xw.s (pc' := 18) (st' := [.inr (some (5, k14))]) rfl ?_
            refine xw.s (pc' := 21) (st' := []) rfl ?_
            refine xw.s (pc' := 23) (st' := [.inr none]) rfl ?_
            refine xw.s (pc' := 26) (st' := []) rfl ?_
            refine xw.s (pc' := 27) (st' := [.inr none]) rfl ?_
            refine xw.s (pc' := 37) (st' := [.inr none]) rfl ?_
            refine xw.s (pc' := 39) (st' := []) (L' := [some (.inr (some (0, 0))), some (.inl a1), some (.inl a2), some (.inl a3), some (.inr (some (5, k14))), some (.inr none), some (.inr none)]) rfl ?_
            refine xw.s (pc' := 41) (st' := [.inr none]) rfl ?_
            refine xw.s (pc' := 44) (st' := []) rfl ?_
            refine xw.s (pc' := 45) (st' := [.inl (-1 : Int32)]) rfl ?_
            exact xw.ret (r := (some (.inl (-1 : Int32)))) rfl h
          · skip
            refine xw.s (pc' := 16) (st' := [.inr (some (0, 0))]) rfl ?_
            refine xw.fr (c := 0) (j := 0) (e := 12) (nx := 19) (t := (some 0)) rfl rfl (hC 0 (by decide)) ?_
            show xw _ _ _ [some (.inr (some (0, 0))), some (.inl a2)] [.inr (some (12, 0))] _ _
            refine xw.s (pc' := 20) (st' := [.inl a2, .inr (some (12, 0))]) rfl ?_
            obtain ⟨z19, h⟩ := h
            obtain ⟨k20, q21, h⟩ := h
            refine xw.get (nx := 23) (p := (9, k20)) rfl (Nat.le_of_ble_eq_true rfl) z19 q21 ?_
            refine xw.s (pc' := 26) (st' := [.inr (some (9, k20))]) rfl ?_
            refine xw.s (pc' := 30) (st' := [.inr (some (9, k20))]) rfl ?_
            refine xw.ret (r := some (.inr (some (9, k20)))) rfl ?_
            show xw _ _ 14 [some (.inr (some (0, 0))), some (.inl a1), some (.inl a2), some (.inl a3), some (.inr (some (5, k14))), none, none] [.inr (some (9, k20))] S _
            refine xw.s (pc' := 16) (st' := []) (L' := [some (.inr (some (0, 0))), some (.inl a1), some (.inl a2), some (.inl a3), some (.inr (some (5, k14))), some (.inr (some (9, k20))), none]) rfl ?_
            refine xw.s (pc' := 18) (st' := [.inr (some (5, k14))]) rfl ?_
            refine xw.s (pc' := 21) (st' := []) rfl ?_
            refine xw.s (pc' := 23) (st' := [.inr (some (9, k20))]) rfl ?_
            refine xw.s (pc' := 30) (st' := []) rfl ?_
            refine xw.s (pc' := 32) (st' := [.inr (some (5, k14))]) rfl ?_
            refine xw.s (pc' := 34) (st' := [.inr (some (9, k20)), .inr (some (5, k14))]) rfl ?_
            refine xw.call (m := 101) (as := [.inr (some (5, k14)), .inr (some (9, k20))]) (nx := 37) (L' := [some (.inr (some (0, 0))), some (.inl a1), some (.inl a2), some (.inl a3), some (.inr (some (5, k14))), some (.inr (some (9, k20))), none]) (st' := []) rfl ?_
            show xw _ _ _ [some (.inr (some (5, k14))), some (.inr (some (9, k20)))] [] _ _
            refine xw.s (pc' := 1) (st' := [.inr (some (9, k20))]) rfl ?_
            refine xw.fi (c := 9) (j := 0) (ty := 0) (nx := 4) (v := (xm_i S 9 k20 0)) rfl rfl rfl ?_
            refine xw.b (c := (xm_i S 9 k20 0) < (0 : Int32)) (cd := .lt) (x := (xm_i S 9 k20 0)) (y := (0 : Int32)) 31 7 (st' := []) rfl (y_clt _ _) h (fun c22 h => ?_) (fun c22 h => ?_)
            · skip
              refine xw.s (pc' := 32) (st' := [.inr none]) rfl ?_
              refine xw.ret (r := some (.inr none)) rfl ?_
              show xw _ _ 37 [some (.inr (some (0, 0))), some (.inl a1), some (.inl a2), some (.inl a3), some (.inr (some (5, k14))), some (.inr (some (9, k20))), none] [.inr none] S _
              refine xw.s (pc' := 39) (st' := []) (L' := [some (.inr (some (0, 0))), some (.inl a1), some (.inl a2), some (.inl a3), some (.inr (some (5, k14))), some (.inr (some (9, k20))), some (.inr none)]) rfl ?_
              refine xw.s (pc' := 41) (st' := [.inr none]) rfl ?_
              refine xw.s (pc' := 44) (st' := []) rfl ?_
              refine xw.s (pc' := 45) (st' := [.inl (-1 : Int32)]) rfl ?_
              exact xw.ret (r := (some (.inl (-1 : Int32)))) rfl h
            · skip
              refine xw.s (pc' := 8) (st' := [.inr (some (9, k20))]) rfl ?_
              refine xw.fi (c := 9) (j := 0) (ty := 0) (nx := 11) (v := (xm_i S 9 k20 0)) rfl rfl rfl ?_
              refine xw.s (pc' := 12) (st' := [.inr (some (5, k14)), .inl (xm_i S 9 k20 0)]) rfl ?_
              obtain ⟨t23, q24⟩ : ∃ t, (xm_r S 5 k14 14) = t := ⟨_, rfl⟩
              replace h := h t23 q24
              refine xw.fr (c := 5) (j := 14) (e := 15) (nx := 15) (t := t23) rfl rfl q24 ?_
              show xw _ _ _ [some (.inr (some (5, k14))), some (.inr (some (9, k20)))] [.inr (xo 15 t23), .inl (xm_i S 9 k20 0)] _ _
              obtain ⟨k25, rfl, h⟩ := h
              refine xw.aln (c := 15) (n := (xm_n S 25 k25)) (nx := 16) rfl (by decide) rfl ?_
              refine xw.b (c := (nI (xm_n S 25 k25)) ≤ (xm_i S 9 k20 0)) (cd := .ge) (x := (xm_i S 9 k20 0)) (y := (nI (xm_n S 25 k25))) 31 19 (st' := []) rfl (y_cge _ _) h (fun c26 h => ?_) (fun c26 h => ?_)
              · skip
                refine xw.s (pc' := 32) (st' := [.inr none]) rfl ?_
                refine xw.ret (r := some (.inr none)) rfl ?_
                show xw _ _ 37 [some (.inr (some (0, 0))), some (.inl a1), some (.inl a2), some (.inl a3), some (.inr (some (5, k14))), some (.inr (some (9, k20))), none] [.inr none] S _
                refine xw.s (pc' := 39) (st' := []) (L' := [some (.inr (some (0, 0))), some (.inl a1), some (.inl a2), some (.inl a3), some (.inr (some (5, k14))), some (.inr (some (9, k20))), some (.inr none)]) rfl ?_
                refine xw.s (pc' := 41) (st' := [.inr none]) rfl ?_
                refine xw.s (pc' := 44) (st' := []) rfl ?_
                refine xw.s (pc' := 45) (st' := [.inl (-1 : Int32)]) rfl ?_
                exact xw.ret (r := (some (.inl (-1 : Int32)))) rfl h
              · skip
                refine xw.s (pc' := 20) (st' := [.inr (some (5, k14))]) rfl ?_
                refine xw.fr (c := 5) (j := 14) (e := 15) (nx := 23) (t := (some k25)) rfl rfl q24 ?_
                show xw _ _ _ [some (.inr (some (5, k14))), some (.inr (some (9, k20)))] [.inr (some (15, k25))] _ _
                refine xw.s (pc' := 24) (st' := [.inr (some (9, k20)), .inr (some (15, k25))]) rfl ?_
                refine xw.fi (c := 9) (j := 0) (ty := 0) (nx := 27) (v := (xm_i S 9 k20 0)) rfl rfl rfl ?_
                obtain ⟨z27, h⟩ := h
                obtain ⟨t28, q29⟩ : ∃ t, (xm_r S 15 k25 (y_ix (xm_i S 9 k20 0))) = t := ⟨_, rfl⟩
                replace h := h t28 q29
                refine xw.ald (nx := 28) (t := t28) rfl z27 q29 ?_
                refine xw.s (pc' := 32) (st' := [.inr (xo 2 t28)]) rfl ?_
                refine xw.ret (r := some (.inr (xo 2 t28))) rfl ?_
                show xw _ _ 37 [some (.inr (some (0, 0))), some (.inl a1), some (.inl a2), some (.inl a3), some (.inr (some (5, k14))), some (.inr (some (9, k20))), none] [.inr (xo 2 t28)] S _
                refine xw.s (pc' := 39) (st' := []) (L' := [some (.inr (some (0, 0))), some (.inl a1), some (.inl a2), some (.inl a3), some (.inr (some (5, k14))), some (.inr (some (9, k20))), some (.inr (xo 2 t28))]) rfl ?_
                refine xw.s (pc' := 41) (st' := [.inr (xo 2 t28)]) rfl ?_
                refine xw.nnul (o := t28) (t := 46) (nx := 44) rfl rfl ?_
                rcases t28 with _ | k30
                · replace h := h.1 rfl
                  show xw _ _ 44 [some (.inr (some (0, 0))), some (.inl a1), some (.inl a2), some (.inl a3), some (.inr (some (5, k14))), some (.inr (some (9, k20))), some (.inr none)] [] _ _
                  refine xw.s (pc' := 45) (st' := [.inl (-1 : Int32)]) rfl ?_
                  exact xw.ret (r := (some (.inl (-1 : Int32)))) rfl h
                · replace h := h.2 k30 rfl
                  show xw _ _ 46 [some (.inr (some (0, 0))), some (.inl a1), some (.inl a2), some (.inl a3), some (.inr (some (5, k14))), some (.inr (some (9, k20))), some (.inr (some (2, k30)))] [] _ _
                  refine xw.s (pc' := 47) (st' := [.inl a3]) rfl ?_
                  refine xw.lk rfl ?_
                  refine xw.bw (0 : Int32) rfl h (fun c31 h => ?_) (fun c31 h => ?_)
                  · skip
                    refine xw.s (pc' := 74) (st' := [.inr (some (2, k30))]) rfl ?_
                    refine xw.fi (c := 2) (j := 9) (ty := 0) (nx := 77) (v := (xm_i S 2 k30 9)) rfl rfl rfl ?_
                    exact xw.ret (r := (some (.inl (xm_i S 2 k30 9)))) rfl h
                  · skip
                    refine xw.bw (1 : Int32) rfl h (fun c32 h => ?_) (fun c32 h => ?_)
                    · skip
                      refine xw.s (pc' := 80) (st' := [.inr (some (2, k30))]) rfl ?_
                      refine xw.fi (c := 2) (j := 7) (ty := 0) (nx := 83) (v := (xm_i S 2 k30 7)) rfl rfl rfl ?_
                      exact xw.ret (r := (some (.inl (xm_i S 2 k30 7)))) rfl h
                    · skip
                      refine xw.s (pc' := 85) (st' := [.inl (-1 : Int32)]) rfl ?_
                      exact xw.ret (r := (some (.inl (-1 : Int32)))) rfl h
      · skip
        refine xw.s (pc' := 23) (st' := [.inr none]) rfl ?_
        refine xw.ret (r := some (.inr none)) rfl ?_
        show xw _ _ 7 [some (.inr (some (0, 0))), some (.inl a1), some (.inl a2), some (.inl a3), none, none, none] [.inr none] S _
        refine xw.s (pc' := 9) (st' := []) (L' := [some (.inr (some (0, 0))), some (.inl a1), some (.inl a2), some (.inl a3), some (.inr none), none, none]) rfl ?_
        refine xw.s (pc' := 10) (st' := [.inr (some (0, 0))]) rfl ?_
        refine xw.s (pc' := 11) (st' := [.inl a2, .inr (some (0, 0))]) rfl ?_
        refine xw.call (m := 4) (as := [.inr (some (0, 0)), .inl a2]) (nx := 14) (L' := [some (.inr (some (0, 0))), some (.inl a1), some (.inl a2), some (.inl a3), some (.inr none), none, none]) (st' := []) rfl ?_
        show xw _ _ _ [some (.inr (some (0, 0))), some (.inl a2)] [] _ _
        refine xw.s (pc' := 1) (st' := [.inl a2]) rfl ?_
        refine xw.b (c := a2 < (0 : Int32)) (cd := .lt) (x := a2) (y := (0 : Int32)) 29 4 (st' := []) rfl (y_clt _ _) h (fun c33 h => ?_) (fun c33 h => ?_)
        · skip
          refine xw.s (pc' := 30) (st' := [.inr none]) rfl ?_
          refine xw.ret (r := some (.inr none)) rfl ?_
          show xw _ _ 14 [some (.inr (some (0, 0))), some (.inl a1), some (.inl a2), some (.inl a3), some (.inr none), none, none] [.inr none] S _
          refine xw.s (pc' := 16) (st' := []) (L' := [some (.inr (some (0, 0))), some (.inl a1), some (.inl a2), some (.inl a3), some (.inr none), some (.inr none), none]) rfl ?_
          refine xw.s (pc' := 18) (st' := [.inr none]) rfl ?_
          refine xw.s (pc' := 26) (st' := []) rfl ?_
          refine xw.s (pc' := 27) (st' := [.inr none]) rfl ?_
          refine xw.s (pc' := 37) (st' := [.inr none]) rfl ?_
          refine xw.s (pc' := 39) (st' := []) (L' := [some (.inr (some (0, 0))), some (.inl a1), some (.inl a2), some (.inl a3), some (.inr none), some (.inr none), some (.inr none)]) rfl ?_
          refine xw.s (pc' := 41) (st' := [.inr none]) rfl ?_
          refine xw.s (pc' := 44) (st' := []) rfl ?_
          refine xw.s (pc' := 45) (st' := [.inl (-1 : Int32)]) rfl ?_
          exact xw.ret (r := (some (.inl (-1 : Int32)))) rfl h
        · skip
          refine xw.s (pc' := 5) (st' := [.inl a2]) rfl ?_
          refine xw.s (pc' := 6) (st' := [.inr (some (0, 0)), .inl a2]) rfl ?_
          refine xw.fr (c := 0) (j := 0) (e := 12) (nx := 9) (t := (some 0)) rfl rfl (hC 0 (by decide)) ?_
          show xw _ _ _ [some (.inr (some (0, 0))), some (.inl a2)] [.inr (some (12, 0)), .inl a2] _ _
          refine xw.lsz (nx := 12) (n := (xm_n S 1 0)) rfl (Nat.le_of_ble_eq_true rfl) rfl ?_
          refine xw.b (c := (nI (xm_n S 1 0)) ≤ a2) (cd := .ge) (x := a2) (y := (nI (xm_n S 1 0))) 29 15 (st' := []) rfl (y_cge _ _) h (fun c34 h => ?_) (fun c34 h => ?_)
          · skip
            refine xw.s (pc' := 30) (st' := [.inr none]) rfl ?_
            refine xw.ret (r := some (.inr none)) rfl ?_
            show xw _ _ 14 [some (.inr (some (0, 0))), some (.inl a1), some (.inl a2), some (.inl a3), some (.inr none), none, none] [.inr none] S _
            refine xw.s (pc' := 16) (st' := []) (L' := [some (.inr (some (0, 0))), some (.inl a1), some (.inl a2), some (.inl a3), some (.inr none), some (.inr none), none]) rfl ?_
            refine xw.s (pc' := 18) (st' := [.inr none]) rfl ?_
            refine xw.s (pc' := 26) (st' := []) rfl ?_
            refine xw.s (pc' := 27) (st' := [.inr none]) rfl ?_
            refine xw.s (pc' := 37) (st' := [.inr none]) rfl ?_
            refine xw.s (pc' := 39) (st' := []) (L' := [some (.inr (some (0, 0))), some (.inl a1), some (.inl a2), some (.inl a3), some (.inr none), some (.inr none), some (.inr none)]) rfl ?_
            refine xw.s (pc' := 41) (st' := [.inr none]) rfl ?_
            refine xw.s (pc' := 44) (st' := []) rfl ?_
            refine xw.s (pc' := 45) (st' := [.inl (-1 : Int32)]) rfl ?_
            exact xw.ret (r := (some (.inl (-1 : Int32)))) rfl h
          · skip
            refine xw.s (pc' := 16) (st' := [.inr (some (0, 0))]) rfl ?_
            refine xw.fr (c := 0) (j := 0) (e := 12) (nx := 19) (t := (some 0)) rfl rfl (hC 0 (by decide)) ?_
            show xw _ _ _ [some (.inr (some (0, 0))), some (.inl a2)] [.inr (some (12, 0))] _ _
            refine xw.s (pc' := 20) (st' := [.inl a2, .inr (some (12, 0))]) rfl ?_
            obtain ⟨z35, h⟩ := h
            obtain ⟨k36, q37, h⟩ := h
            refine xw.get (nx := 23) (p := (9, k36)) rfl (Nat.le_of_ble_eq_true rfl) z35 q37 ?_
            refine xw.s (pc' := 26) (st' := [.inr (some (9, k36))]) rfl ?_
            refine xw.s (pc' := 30) (st' := [.inr (some (9, k36))]) rfl ?_
            refine xw.ret (r := some (.inr (some (9, k36)))) rfl ?_
            show xw _ _ 14 [some (.inr (some (0, 0))), some (.inl a1), some (.inl a2), some (.inl a3), some (.inr none), none, none] [.inr (some (9, k36))] S _
            refine xw.s (pc' := 16) (st' := []) (L' := [some (.inr (some (0, 0))), some (.inl a1), some (.inl a2), some (.inl a3), some (.inr none), some (.inr (some (9, k36))), none]) rfl ?_
            refine xw.s (pc' := 18) (st' := [.inr none]) rfl ?_
            refine xw.s (pc' := 26) (st' := []) rfl ?_
            refine xw.s (pc' := 27) (st' := [.inr none]) rfl ?_
            refine xw.s (pc' := 37) (st' := [.inr none]) rfl ?_
            refine xw.s (pc' := 39) (st' := []) (L' := [some (.inr (some (0, 0))), some (.inl a1), some (.inl a2), some (.inl a3), some (.inr none), some (.inr (some (9, k36))), some (.inr none)]) rfl ?_
            refine xw.s (pc' := 41) (st' := [.inr none]) rfl ?_
            refine xw.s (pc' := 44) (st' := []) rfl ?_
            refine xw.s (pc' := 45) (st' := [.inl (-1 : Int32)]) rfl ?_
            exact xw.ret (r := (some (.inl (-1 : Int32)))) rfl h
/-- joined -/
theorem cw_joined {d : Nat} {a1 : Int32} {a2 : Int32} {S : xm_S} {Q : Option xm_V → xm_S → Prop} (hC : xk_C S) (h : (a1 < (0 : Int32) → Q (some (.inl (-1 : Int32))) S) ∧ (¬ a1 < (0 : Int32) → ((nI (xm_n S 1 6)) ≤ a1 → Q (some (.inl (-1 : Int32))) S) ∧ (¬ (nI (xm_n S 1 6)) ≤ a1 → ((0 : Int32) ≤ a2 → y_in a1 (xm_n S 1 6) ∧ (∃ k5, (xm_l S 6 (y_ix a1)) = (2, k5) ∧ (xw (d + 1) 83 39 [some (.inr (some (0, 0))), some (.inl a1), some (.inl a2), some (.inr (some (2, k5))), some (.inl (0 : Int32)), some (.inl (0 : Int32)), none] [] S Q))) ∧ (¬ (0 : Int32) ≤ a2 → Q (some (.inl (-1 : Int32))) S)))) : xc (d + 1) 83 [.inr (some (0, 0)), .inl a1, .inl a2] S Q := by
  show xw _ _ _ [some (.inr (some (0, 0))), some (.inl a1), some (.inl a2), none, none, none, none] _ _ _
  refine xw.s (pc' := 1) (st' := [.inl a1]) rfl ?_
  refine xw.b (c := a1 < (0 : Int32)) (cd := .lt) (x := a1) (y := (0 : Int32)) 19 4 (st' := []) rfl (y_clt _ _) h (fun c1 h => ?_) (fun c1 h => ?_)
  · skip
    refine xw.s (pc' := 20) (st' := [.inl (-1 : Int32)]) rfl ?_
    exact xw.ret (r := (some (.inl (-1 : Int32)))) rfl h
  · skip
    refine xw.s (pc' := 5) (st' := [.inl a1]) rfl ?_
    refine xw.s (pc' := 6) (st' := [.inr (some (0, 0)), .inl a1]) rfl ?_
    refine xw.fr (c := 0) (j := 6) (e := 12) (nx := 9) (t := (some 6)) rfl rfl (hC 6 (by decide)) ?_
    show xw _ _ _ [some (.inr (some (0, 0))), some (.inl a1), some (.inl a2), none, none, none, none] [.inr (some (12, 6)), .inl a1] _ _
    refine xw.lsz (nx := 12) (n := (xm_n S 1 6)) rfl (Nat.le_of_ble_eq_true rfl) rfl ?_
    refine xw.b (c := (nI (xm_n S 1 6)) ≤ a1) (cd := .ge) (x := a1) (y := (nI (xm_n S 1 6))) 19 15 (st' := []) rfl (y_cge _ _) h (fun c2 h => ?_) (fun c2 h => ?_)
    · skip
      refine xw.s (pc' := 20) (st' := [.inl (-1 : Int32)]) rfl ?_
      exact xw.ret (r := (some (.inl (-1 : Int32)))) rfl h
    · skip
      refine xw.s (pc' := 16) (st' := [.inl a2]) rfl ?_
      refine xw.b (c := (0 : Int32) ≤ a2) (cd := .ge) (x := a2) (y := (0 : Int32)) 21 19 (st' := []) rfl (y_cge _ _) h (fun c3 h => ?_) (fun c3 h => ?_)
      · skip
        refine xw.s (pc' := 22) (st' := [.inr (some (0, 0))]) rfl ?_
        refine xw.fr (c := 0) (j := 6) (e := 12) (nx := 25) (t := (some 6)) rfl rfl (hC 6 (by decide)) ?_
        show xw _ _ _ [some (.inr (some (0, 0))), some (.inl a1), some (.inl a2), none, none, none, none] [.inr (some (12, 6))] _ _
        refine xw.s (pc' := 26) (st' := [.inl a1, .inr (some (12, 6))]) rfl ?_
        obtain ⟨z4, h⟩ := h
        obtain ⟨k5, q6, h⟩ := h
        refine xw.get (nx := 29) (p := (2, k5)) rfl (Nat.le_of_ble_eq_true rfl) z4 q6 ?_
        refine xw.s (pc' := 32) (st' := [.inr (some (2, k5))]) rfl ?_
        refine xw.s (pc' := 33) (st' := []) (L' := [some (.inr (some (0, 0))), some (.inl a1), some (.inl a2), some (.inr (some (2, k5))), none, none, none]) rfl ?_
        refine xw.s (pc' := 34) (st' := [.inl (0 : Int32)]) rfl ?_
        refine xw.s (pc' := 36) (st' := []) (L' := [some (.inr (some (0, 0))), some (.inl a1), some (.inl a2), some (.inr (some (2, k5))), some (.inl (0 : Int32)), none, none]) rfl ?_
        refine xw.s (pc' := 37) (st' := [.inl (0 : Int32)]) rfl ?_
        refine xw.s (pc' := 39) (st' := []) (L' := [some (.inr (some (0, 0))), some (.inl a1), some (.inl a2), some (.inr (some (2, k5))), some (.inl (0 : Int32)), some (.inl (0 : Int32)), none]) rfl ?_
        exact h
      · skip
        refine xw.s (pc' := 20) (st' := [.inl (-1 : Int32)]) rfl ?_
        exact xw.ret (r := (some (.inl (-1 : Int32)))) rfl h
theorem cw_joined_39 {d : Nat} {l1 : Int32} {l2 : Int32} {l3 : Nat} {l4 : Int32} {l5 : Int32} {u6 : Option xm_V} {S : xm_S} {Q : Option xm_V → xm_S → Prop} (hC : xk_C S) (h : ((nI (xm_n S 1 7)) ≤ l5 → Q (some (.inl (-1 : Int32))) S) ∧ (¬ (nI (xm_n S 1 7)) ≤ l5 → y_in l5 (xm_n S 1 7) ∧ (∃ k3, (xm_l S 7 (y_ix l5)) = (2, k3) ∧ (∀ t5, (xm_r S 2 k3 15) = t5 → ((t5 = some l3 → ((xm_i S 2 k3 8) = (0 : Int32) → (l4 = l2 → Q (some (.inl (xm_i S 2 k3 0))) S) ∧ (¬ l4 = l2 → xw (d + 1) 83 39 [some (.inr (some (0, 0))), some (.inl l1), some (.inl l2), some (.inr (some (2, l3))), some (.inl (l4 + (1 : Int32))), some (.inl (l5 + (1 : Int32))), some (.inr (some (2, k3)))] [] S Q)) ∧ (¬ (xm_i S 2 k3 8) = (0 : Int32) → xw (d + 1) 83 39 [some (.inr (some (0, 0))), some (.inl l1), some (.inl l2), some (.inr (some (2, l3))), some (.inl l4), some (.inl (l5 + (1 : Int32))), some (.inr (some (2, k3)))] [] S Q)) ∧ (¬ t5 = some l3 → xw (d + 1) 83 39 [some (.inr (some (0, 0))), some (.inl l1), some (.inl l2), some (.inr (some (2, l3))), some (.inl l4), some (.inl (l5 + (1 : Int32))), some (.inr (some (2, k3)))] [] S Q)))))) : xw (d + 1) 83 39 [some (.inr (some (0, 0))), some (.inl l1), some (.inl l2), some (.inr (some (2, l3))), some (.inl l4), some (.inl l5), u6] [] S Q := by
  refine xw.s (pc' := 41) (st' := [.inl l5]) rfl ?_
  refine xw.s (pc' := 42) (st' := [.inr (some (0, 0)), .inl l5]) rfl ?_
  refine xw.fr (c := 0) (j := 7) (e := 12) (nx := 45) (t := (some 7)) rfl rfl (hC 7 (by decide)) ?_
  show xw _ _ _ [some (.inr (some (0, 0))), some (.inl l1), some (.inl l2), some (.inr (some (2, l3))), some (.inl l4), some (.inl l5), u6] [.inr (some (12, 7)), .inl l5] _ _
  refine xw.lsz (nx := 48) (n := (xm_n S 1 7)) rfl (Nat.le_of_ble_eq_true rfl) rfl ?_
  refine xw.b (c := (nI (xm_n S 1 7)) ≤ l5) (cd := .ge) (x := l5) (y := (nI (xm_n S 1 7))) 95 51 (st' := []) rfl (y_cge _ _) h (fun c1 h => ?_) (fun c1 h => ?_)
  · skip
    refine xw.s (pc' := 96) (st' := [.inl (-1 : Int32)]) rfl ?_
    exact xw.ret (r := (some (.inl (-1 : Int32)))) rfl h
  · skip
    refine xw.s (pc' := 52) (st' := [.inr (some (0, 0))]) rfl ?_
    refine xw.fr (c := 0) (j := 7) (e := 12) (nx := 55) (t := (some 7)) rfl rfl (hC 7 (by decide)) ?_
    show xw _ _ _ [some (.inr (some (0, 0))), some (.inl l1), some (.inl l2), some (.inr (some (2, l3))), some (.inl l4), some (.inl l5), u6] [.inr (some (12, 7))] _ _
    refine xw.s (pc' := 57) (st' := [.inl l5, .inr (some (12, 7))]) rfl ?_
    obtain ⟨z2, h⟩ := h
    obtain ⟨k3, q4, h⟩ := h
    refine xw.get (nx := 60) (p := (2, k3)) rfl (Nat.le_of_ble_eq_true rfl) z2 q4 ?_
    refine xw.s (pc' := 63) (st' := [.inr (some (2, k3))]) rfl ?_
    refine xw.s (pc' := 65) (st' := []) (L' := [some (.inr (some (0, 0))), some (.inl l1), some (.inl l2), some (.inr (some (2, l3))), some (.inl l4), some (.inl l5), some (.inr (some (2, k3)))]) rfl ?_
    refine xw.s (pc' := 67) (st' := [.inr (some (2, k3))]) rfl ?_
    refine xw.s (pc' := 68) (st' := [.inr (some (2, l3)), .inr (some (2, k3))]) rfl ?_
    refine xw.call (m := 94) (as := [.inr (some (2, k3)), .inr (some (2, l3))]) (nx := 71) (L' := [some (.inr (some (0, 0))), some (.inl l1), some (.inl l2), some (.inr (some (2, l3))), some (.inl l4), some (.inl l5), some (.inr (some (2, k3)))]) (st' := []) rfl ?_
    show xw _ _ _ [some (.inr (some (2, k3))), some (.inr (some (2, l3)))] [] _ _
    refine xw.s (pc' := 1) (st' := [.inr (some (2, k3))]) rfl ?_
    obtain ⟨t5, q6⟩ : ∃ t, (xm_r S 2 k3 15) = t := ⟨_, rfl⟩
    replace h := h t5 q6
    refine xw.fr (c := 2) (j := 15) (e := 2) (nx := 4) (t := t5) rfl rfl q6 ?_
    show xw _ _ _ [some (.inr (some (2, k3))), some (.inr (some (2, l3)))] [.inr (xo 2 t5)] _ _
    refine xw.s (pc' := 5) (st' := [.inr (some (2, l3)), .inr (xo 2 t5)]) rfl ?_
    refine xw.an (c := 2) (a := t5) (b := (some l3)) (cn := t5 = some l3) (t := 19) (nx := 8) rfl rfl (by decide) Iff.rfl h (fun c7 h => ?_) (fun c7 h => ?_)
    · skip
      refine xw.s (pc' := 9) (st' := [.inr (some (2, k3))]) rfl ?_
      refine xw.fi (c := 2) (j := 8) (ty := 0) (nx := 12) (v := (xm_i S 2 k3 8)) rfl rfl rfl ?_
      refine xw.bn (c := (xm_i S 2 k3 8) = (0 : Int32)) (cd := .ne) (x := (xm_i S 2 k3 8)) (y := (0 : Int32)) 19 15 (st' := []) rfl (y_cne _ _) h (fun c8 h => ?_) (fun c8 h => ?_)
      · skip
        refine xw.s (pc' := 16) (st' := [.inl (1 : Int32)]) rfl ?_
        refine xw.s (pc' := 20) (st' := [.inl (1 : Int32)]) rfl ?_
        refine xw.retz (nx := 21) rfl (Or.inr rfl) ?_
        show xw _ _ 71 [some (.inr (some (0, 0))), some (.inl l1), some (.inl l2), some (.inr (some (2, l3))), some (.inl l4), some (.inl l5), some (.inr (some (2, k3)))] [.inl (1 : Int32)] S _
        refine xw.bf (cd := .eq) (x := (1 : Int32)) (y := (0 : Int32)) 89 74 (st' := []) rfl (y_ceq _ _) (by decide) ?_
        refine xw.s (pc' := 76) (st' := [.inl l4]) rfl ?_
        refine xw.s (pc' := 77) (st' := [.inl l2, .inl l4]) rfl ?_
        refine xw.bn (c := l4 = l2) (cd := .ne) (x := l4) (y := l2) 86 80 (st' := []) rfl (y_cne _ _) h (fun c9 h => ?_) (fun c9 h => ?_)
        · skip
          refine xw.s (pc' := 82) (st' := [.inr (some (2, k3))]) rfl ?_
          refine xw.fi (c := 2) (j := 0) (ty := 0) (nx := 85) (v := (xm_i S 2 k3 0)) rfl rfl rfl ?_
          exact xw.ret (r := (some (.inl (xm_i S 2 k3 0)))) rfl h
        · skip
          refine xw.s (pc' := 89) (st' := []) (L' := [some (.inr (some (0, 0))), some (.inl l1), some (.inl l2), some (.inr (some (2, l3))), some (.inl (l4 + (1 : Int32))), some (.inl l5), some (.inr (some (2, k3)))]) rfl ?_
          refine xw.s (pc' := 92) (st' := []) (L' := [some (.inr (some (0, 0))), some (.inl l1), some (.inl l2), some (.inr (some (2, l3))), some (.inl (l4 + (1 : Int32))), some (.inl (l5 + (1 : Int32))), some (.inr (some (2, k3)))]) rfl ?_
          refine xw.s (pc' := 39) (st' := []) rfl ?_
          exact h
      · skip
        refine xw.s (pc' := 20) (st' := [.inl (0 : Int32)]) rfl ?_
        refine xw.retz (nx := 21) rfl (Or.inl rfl) ?_
        show xw _ _ 71 [some (.inr (some (0, 0))), some (.inl l1), some (.inl l2), some (.inr (some (2, l3))), some (.inl l4), some (.inl l5), some (.inr (some (2, k3)))] [.inl (0 : Int32)] S _
        refine xw.bt (cd := .eq) (x := (0 : Int32)) (y := (0 : Int32)) 89 74 (st' := []) rfl (y_ceq _ _) (by decide) ?_
        refine xw.s (pc' := 92) (st' := []) (L' := [some (.inr (some (0, 0))), some (.inl l1), some (.inl l2), some (.inr (some (2, l3))), some (.inl l4), some (.inl (l5 + (1 : Int32))), some (.inr (some (2, k3)))]) rfl ?_
        refine xw.s (pc' := 39) (st' := []) rfl ?_
        exact h
    · skip
      refine xw.s (pc' := 20) (st' := [.inl (0 : Int32)]) rfl ?_
      refine xw.retz (nx := 21) rfl (Or.inl rfl) ?_
      show xw _ _ 71 [some (.inr (some (0, 0))), some (.inl l1), some (.inl l2), some (.inr (some (2, l3))), some (.inl l4), some (.inl l5), some (.inr (some (2, k3)))] [.inl (0 : Int32)] S _
      refine xw.bt (cd := .eq) (x := (0 : Int32)) (y := (0 : Int32)) 89 74 (st' := []) rfl (y_ceq _ _) (by decide) ?_
      refine xw.s (pc' := 92) (st' := []) (L' := [some (.inr (some (0, 0))), some (.inl l1), some (.inl l2), some (.inr (some (2, l3))), some (.inl l4), some (.inl (l5 + (1 : Int32))), some (.inr (some (2, k3)))]) rfl ?_
      refine xw.s (pc' := 39) (st' := []) rfl ?_
      exact h
/-- level -/
theorem cw_level {d : Nat} {a1 : Int32} {S : xm_S} {Q : Option xm_V → xm_S → Prop} (hC : xk_C S) (h : (a1 < (0 : Int32) → Q (some (.inl (-1 : Int32))) S) ∧ (¬ a1 < (0 : Int32) → ((nI (xm_n S 1 0)) ≤ a1 → Q (some (.inl (-1 : Int32))) S) ∧ (¬ (nI (xm_n S 1 0)) ≤ a1 → y_in a1 (xm_n S 1 0) ∧ (∃ k4, (xm_l S 0 (y_ix a1)) = (9, k4) ∧ (Q (some (.inl (xm_i S 9 k4 3))) S))))) : xc (d + 1) 84 [.inr (some (0, 0)), .inl a1] S Q := by
  show xw _ _ _ [some (.inr (some (0, 0))), some (.inl a1), none] _ _ _
  refine xw.s (pc' := 1) (st' := [.inr (some (0, 0))]) rfl ?_
  refine xw.s (pc' := 2) (st' := [.inl a1, .inr (some (0, 0))]) rfl ?_
  refine xw.call (m := 4) (as := [.inr (some (0, 0)), .inl a1]) (nx := 5) (L' := [some (.inr (some (0, 0))), some (.inl a1), none]) (st' := []) rfl ?_
  show xw _ _ _ [some (.inr (some (0, 0))), some (.inl a1)] [] _ _
  refine xw.s (pc' := 1) (st' := [.inl a1]) rfl ?_
  refine xw.b (c := a1 < (0 : Int32)) (cd := .lt) (x := a1) (y := (0 : Int32)) 29 4 (st' := []) rfl (y_clt _ _) h (fun c1 h => ?_) (fun c1 h => ?_)
  · skip
    refine xw.s (pc' := 30) (st' := [.inr none]) rfl ?_
    refine xw.ret (r := some (.inr none)) rfl ?_
    show xw _ _ 5 [some (.inr (some (0, 0))), some (.inl a1), none] [.inr none] S _
    refine xw.s (pc' := 6) (st' := []) (L' := [some (.inr (some (0, 0))), some (.inl a1), some (.inr none)]) rfl ?_
    refine xw.s (pc' := 7) (st' := [.inr none]) rfl ?_
    refine xw.s (pc' := 10) (st' := []) rfl ?_
    refine xw.s (pc' := 11) (st' := [.inl (-1 : Int32)]) rfl ?_
    refine xw.s (pc' := 18) (st' := [.inl (-1 : Int32)]) rfl ?_
    exact xw.ret (r := (some (.inl (-1 : Int32)))) rfl h
  · skip
    refine xw.s (pc' := 5) (st' := [.inl a1]) rfl ?_
    refine xw.s (pc' := 6) (st' := [.inr (some (0, 0)), .inl a1]) rfl ?_
    refine xw.fr (c := 0) (j := 0) (e := 12) (nx := 9) (t := (some 0)) rfl rfl (hC 0 (by decide)) ?_
    show xw _ _ _ [some (.inr (some (0, 0))), some (.inl a1)] [.inr (some (12, 0)), .inl a1] _ _
    refine xw.lsz (nx := 12) (n := (xm_n S 1 0)) rfl (Nat.le_of_ble_eq_true rfl) rfl ?_
    refine xw.b (c := (nI (xm_n S 1 0)) ≤ a1) (cd := .ge) (x := a1) (y := (nI (xm_n S 1 0))) 29 15 (st' := []) rfl (y_cge _ _) h (fun c2 h => ?_) (fun c2 h => ?_)
    · skip
      refine xw.s (pc' := 30) (st' := [.inr none]) rfl ?_
      refine xw.ret (r := some (.inr none)) rfl ?_
      show xw _ _ 5 [some (.inr (some (0, 0))), some (.inl a1), none] [.inr none] S _
      refine xw.s (pc' := 6) (st' := []) (L' := [some (.inr (some (0, 0))), some (.inl a1), some (.inr none)]) rfl ?_
      refine xw.s (pc' := 7) (st' := [.inr none]) rfl ?_
      refine xw.s (pc' := 10) (st' := []) rfl ?_
      refine xw.s (pc' := 11) (st' := [.inl (-1 : Int32)]) rfl ?_
      refine xw.s (pc' := 18) (st' := [.inl (-1 : Int32)]) rfl ?_
      exact xw.ret (r := (some (.inl (-1 : Int32)))) rfl h
    · skip
      refine xw.s (pc' := 16) (st' := [.inr (some (0, 0))]) rfl ?_
      refine xw.fr (c := 0) (j := 0) (e := 12) (nx := 19) (t := (some 0)) rfl rfl (hC 0 (by decide)) ?_
      show xw _ _ _ [some (.inr (some (0, 0))), some (.inl a1)] [.inr (some (12, 0))] _ _
      refine xw.s (pc' := 20) (st' := [.inl a1, .inr (some (12, 0))]) rfl ?_
      obtain ⟨z3, h⟩ := h
      obtain ⟨k4, q5, h⟩ := h
      refine xw.get (nx := 23) (p := (9, k4)) rfl (Nat.le_of_ble_eq_true rfl) z3 q5 ?_
      refine xw.s (pc' := 26) (st' := [.inr (some (9, k4))]) rfl ?_
      refine xw.s (pc' := 30) (st' := [.inr (some (9, k4))]) rfl ?_
      refine xw.ret (r := some (.inr (some (9, k4)))) rfl ?_
      show xw _ _ 5 [some (.inr (some (0, 0))), some (.inl a1), none] [.inr (some (9, k4))] S _
      refine xw.s (pc' := 6) (st' := []) (L' := [some (.inr (some (0, 0))), some (.inl a1), some (.inr (some (9, k4)))]) rfl ?_
      refine xw.s (pc' := 7) (st' := [.inr (some (9, k4))]) rfl ?_
      refine xw.s (pc' := 14) (st' := []) rfl ?_
      refine xw.s (pc' := 15) (st' := [.inr (some (9, k4))]) rfl ?_
      refine xw.fi (c := 9) (j := 3) (ty := 0) (nx := 18) (v := (xm_i S 9 k4 3)) rfl rfl rfl ?_
      exact xw.ret (r := (some (.inl (xm_i S 9 k4 3)))) rfl h
/-- effect -/
theorem cw_effect {d : Nat} {a1 : Int32} {a2 : Int32} {S : xm_S} {Q : Option xm_V → xm_S → Prop} (hC : xk_C S) (h : (a1 < (0 : Int32) → Q (some (.inl (-1 : Int32))) S) ∧ (¬ a1 < (0 : Int32) → (a1 < (nI (xm_n S 1 9)) → y_in a1 (xm_n S 1 9) ∧ (∃ k4, (xm_l S 9 (y_ix a1)) = (3, k4) ∧ ((a2 = (0 : Int32) → ∀ t7, (xm_r S 3 k4 0) = t7 → (∃ k9, t7 = some k9 ∧ (Q (some (.inl (xm_i S 9 k9 0))) S))) ∧ (¬ a2 = (0 : Int32) → (a2 = (1 : Int32) → ∀ t11, (xm_r S 3 k4 1) = t11 → (∃ k13, t11 = some k13 ∧ (Q (some (.inl (xm_i S 6 k13 0))) S))) ∧ (¬ a2 = (1 : Int32) → (a2 = (2 : Int32) → ∀ t15, (xm_r S 3 k4 1) = t15 → (∃ k17, t15 = some k17 ∧ (Q (some (.inl (xm_i S 6 k17 5))) S))) ∧ (¬ a2 = (2 : Int32) → (a2 = (3 : Int32) → Q (some (.inl (xm_i S 3 k4 2))) S) ∧ (¬ a2 = (3 : Int32) → (a2 = (4 : Int32) → Q (some (.inl (xm_i S 3 k4 3))) S) ∧ (¬ a2 = (4 : Int32) → Q (some (.inl (-1 : Int32))) S)))))))) ∧ (¬ a1 < (nI (xm_n S 1 9)) → Q (some (.inl (-1 : Int32))) S))) : xc (d) 85 [.inr (some (0, 0)), .inl a1, .inl a2] S Q := by
  show xw _ _ _ [some (.inr (some (0, 0))), some (.inl a1), some (.inl a2), none] _ _ _
  refine xw.s (pc' := 1) (st' := [.inl a1]) rfl ?_
  refine xw.b (c := a1 < (0 : Int32)) (cd := .lt) (x := a1) (y := (0 : Int32)) 15 4 (st' := []) rfl (y_clt _ _) h (fun c1 h => ?_) (fun c1 h => ?_)
  · skip
    refine xw.s (pc' := 16) (st' := [.inl (-1 : Int32)]) rfl ?_
    exact xw.ret (r := (some (.inl (-1 : Int32)))) rfl h
  · skip
    refine xw.s (pc' := 5) (st' := [.inl a1]) rfl ?_
    refine xw.s (pc' := 6) (st' := [.inr (some (0, 0)), .inl a1]) rfl ?_
    refine xw.fr (c := 0) (j := 9) (e := 12) (nx := 9) (t := (some 9)) rfl rfl (hC 9 (by decide)) ?_
    show xw _ _ _ [some (.inr (some (0, 0))), some (.inl a1), some (.inl a2), none] [.inr (some (12, 9)), .inl a1] _ _
    refine xw.lsz (nx := 12) (n := (xm_n S 1 9)) rfl (Nat.le_of_ble_eq_true rfl) rfl ?_
    refine xw.b (c := a1 < (nI (xm_n S 1 9))) (cd := .lt) (x := a1) (y := (nI (xm_n S 1 9))) 17 15 (st' := []) rfl (y_clt _ _) h (fun c2 h => ?_) (fun c2 h => ?_)
    · skip
      refine xw.s (pc' := 18) (st' := [.inr (some (0, 0))]) rfl ?_
      refine xw.fr (c := 0) (j := 9) (e := 12) (nx := 21) (t := (some 9)) rfl rfl (hC 9 (by decide)) ?_
      show xw _ _ _ [some (.inr (some (0, 0))), some (.inl a1), some (.inl a2), none] [.inr (some (12, 9))] _ _
      refine xw.s (pc' := 22) (st' := [.inl a1, .inr (some (12, 9))]) rfl ?_
      obtain ⟨z3, h⟩ := h
      obtain ⟨k4, q5, h⟩ := h
      refine xw.get (nx := 25) (p := (3, k4)) rfl (Nat.le_of_ble_eq_true rfl) z3 q5 ?_
      refine xw.s (pc' := 28) (st' := [.inr (some (3, k4))]) rfl ?_
      refine xw.s (pc' := 29) (st' := []) (L' := [some (.inr (some (0, 0))), some (.inl a1), some (.inl a2), some (.inr (some (3, k4)))]) rfl ?_
      refine xw.s (pc' := 30) (st' := [.inl a2]) rfl ?_
      refine xw.ts1 rfl rfl ?_
      refine xw.bw (0 : Int32) rfl h (fun c6 h => ?_) (fun c6 h => ?_)
      · skip
        refine xw.s (pc' := 65) (st' := [.inr (some (3, k4))]) rfl ?_
        obtain ⟨t7, q8⟩ : ∃ t, (xm_r S 3 k4 0) = t := ⟨_, rfl⟩
        replace h := h t7 q8
        refine xw.fr (c := 3) (j := 0) (e := 9) (nx := 68) (t := t7) rfl rfl q8 ?_
        show xw _ _ _ [some (.inr (some (0, 0))), some (.inl a1), some (.inl a2), some (.inr (some (3, k4)))] [.inr (xo 9 t7)] _ _
        obtain ⟨k9, rfl, h⟩ := h
        refine xw.fi (c := 9) (j := 0) (ty := 0) (nx := 71) (v := (xm_i S 9 k9 0)) rfl rfl rfl ?_
        exact xw.ret (r := (some (.inl (xm_i S 9 k9 0)))) rfl h
      · skip
        refine xw.bw (1 : Int32) rfl h (fun c10 h => ?_) (fun c10 h => ?_)
        · skip
          refine xw.s (pc' := 73) (st' := [.inr (some (3, k4))]) rfl ?_
          obtain ⟨t11, q12⟩ : ∃ t, (xm_r S 3 k4 1) = t := ⟨_, rfl⟩
          replace h := h t11 q12
          refine xw.fr (c := 3) (j := 1) (e := 6) (nx := 76) (t := t11) rfl rfl q12 ?_
          show xw _ _ _ [some (.inr (some (0, 0))), some (.inl a1), some (.inl a2), some (.inr (some (3, k4)))] [.inr (xo 6 t11)] _ _
          obtain ⟨k13, rfl, h⟩ := h
          refine xw.fi (c := 6) (j := 0) (ty := 0) (nx := 79) (v := (xm_i S 6 k13 0)) rfl rfl rfl ?_
          exact xw.ret (r := (some (.inl (xm_i S 6 k13 0)))) rfl h
        · skip
          refine xw.bw (2 : Int32) rfl h (fun c14 h => ?_) (fun c14 h => ?_)
          · skip
            refine xw.s (pc' := 81) (st' := [.inr (some (3, k4))]) rfl ?_
            obtain ⟨t15, q16⟩ : ∃ t, (xm_r S 3 k4 1) = t := ⟨_, rfl⟩
            replace h := h t15 q16
            refine xw.fr (c := 3) (j := 1) (e := 6) (nx := 84) (t := t15) rfl rfl q16 ?_
            show xw _ _ _ [some (.inr (some (0, 0))), some (.inl a1), some (.inl a2), some (.inr (some (3, k4)))] [.inr (xo 6 t15)] _ _
            obtain ⟨k17, rfl, h⟩ := h
            refine xw.fi (c := 6) (j := 5) (ty := 0) (nx := 87) (v := (xm_i S 6 k17 5)) rfl rfl rfl ?_
            exact xw.ret (r := (some (.inl (xm_i S 6 k17 5)))) rfl h
          · skip
            refine xw.bw (3 : Int32) rfl h (fun c18 h => ?_) (fun c18 h => ?_)
            · skip
              refine xw.s (pc' := 89) (st' := [.inr (some (3, k4))]) rfl ?_
              refine xw.fi (c := 3) (j := 2) (ty := 0) (nx := 92) (v := (xm_i S 3 k4 2)) rfl rfl rfl ?_
              exact xw.ret (r := (some (.inl (xm_i S 3 k4 2)))) rfl h
            · skip
              refine xw.bw (4 : Int32) rfl h (fun c19 h => ?_) (fun c19 h => ?_)
              · skip
                refine xw.s (pc' := 94) (st' := [.inr (some (3, k4))]) rfl ?_
                refine xw.fi (c := 3) (j := 3) (ty := 0) (nx := 97) (v := (xm_i S 3 k4 3)) rfl rfl rfl ?_
                exact xw.ret (r := (some (.inl (xm_i S 3 k4 3)))) rfl h
              · skip
                refine xw.s (pc' := 99) (st' := [.inl (-1 : Int32)]) rfl ?_
                exact xw.ret (r := (some (.inl (-1 : Int32)))) rfl h
    · skip
      refine xw.s (pc' := 16) (st' := [.inl (-1 : Int32)]) rfl ?_
      exact xw.ret (r := (some (.inl (-1 : Int32)))) rfl h
/-- isOf -/
theorem cw_isOf {d : Nat} {a1 : Int32} {a2 : Int32} {S : xm_S} {Q : Option xm_V → xm_S → Prop} (hC : xk_C S) (h : (a1 < (0 : Int32) → Q (some (.inl (-1 : Int32))) S) ∧ (¬ a1 < (0 : Int32) → ((15 : Int32) < a1 → Q (some (.inl (-1 : Int32))) S) ∧ (¬ (15 : Int32) < a1 → (a2 < (0 : Int32) → Q (some (.inl (-1 : Int32))) S) ∧ (¬ a2 < (0 : Int32) → ((15 : Int32) < a2 → Q (some (.inl (-1 : Int32))) S) ∧ (¬ (15 : Int32) < a2 → xc d 27 [.inl a1, .inl a2] S (fun r S5 => ∃ x7 : Int32, r = some (.inl x7) ∧ xk_C S5 ∧ ((x7 = (0 : Int32) → Q (some (.inl (0 : Int32))) S5) ∧ (¬ x7 = (0 : Int32) → Q (some (.inl (1 : Int32))) S5)))))))) : xc (d + 1) 86 [.inr (some (0, 0)), .inl a1, .inl a2] S Q := by
  show xw _ _ _ [some (.inr (some (0, 0))), some (.inl a1), some (.inl a2)] _ _ _
  refine xw.s (pc' := 1) (st' := [.inl a1]) rfl ?_
  refine xw.s (pc' := 2) (st' := [.inl (0 : Int32), .inl a1]) rfl ?_
  refine xw.s (pc' := 4) (st' := [.inl (15 : Int32), .inl (0 : Int32), .inl a1]) rfl ?_
  refine xw.call (m := 2) (as := [.inl a1, .inl (0 : Int32), .inl (15 : Int32)]) (nx := 7) (L' := [some (.inr (some (0, 0))), some (.inl a1), some (.inl a2)]) (st' := []) rfl ?_
  show xw _ _ _ [some (.inl a1), some (.inl (0 : Int32)), some (.inl (15 : Int32))] [] _ _
  refine xw.s (pc' := 1) (st' := [.inl a1]) rfl ?_
  refine xw.s (pc' := 2) (st' := [.inl (0 : Int32), .inl a1]) rfl ?_
  refine xw.b (c := a1 < (0 : Int32)) (cd := .lt) (x := a1) (y := (0 : Int32)) 14 5 (st' := []) rfl (y_clt _ _) h (fun c1 h => ?_) (fun c1 h => ?_)
  · skip
    refine xw.s (pc' := 15) (st' := [.inl (0 : Int32)]) rfl ?_
    refine xw.retz (nx := 16) rfl (Or.inl rfl) ?_
    show xw _ _ 7 [some (.inr (some (0, 0))), some (.inl a1), some (.inl a2)] [.inl (0 : Int32)] S _
    refine xw.bt (cd := .eq) (x := (0 : Int32)) (y := (0 : Int32)) 20 10 (st' := []) rfl (y_ceq _ _) (by decide) ?_
    refine xw.s (pc' := 21) (st' := [.inl (-1 : Int32)]) rfl ?_
    exact xw.ret (r := (some (.inl (-1 : Int32)))) rfl h
  · skip
    refine xw.s (pc' := 6) (st' := [.inl a1]) rfl ?_
    refine xw.s (pc' := 7) (st' := [.inl (15 : Int32), .inl a1]) rfl ?_
    refine xw.b (c := (15 : Int32) < a1) (cd := .gt) (x := a1) (y := (15 : Int32)) 14 10 (st' := []) rfl (y_cgt _ _) h (fun c2 h => ?_) (fun c2 h => ?_)
    · skip
      refine xw.s (pc' := 15) (st' := [.inl (0 : Int32)]) rfl ?_
      refine xw.retz (nx := 16) rfl (Or.inl rfl) ?_
      show xw _ _ 7 [some (.inr (some (0, 0))), some (.inl a1), some (.inl a2)] [.inl (0 : Int32)] S _
      refine xw.bt (cd := .eq) (x := (0 : Int32)) (y := (0 : Int32)) 20 10 (st' := []) rfl (y_ceq _ _) (by decide) ?_
      refine xw.s (pc' := 21) (st' := [.inl (-1 : Int32)]) rfl ?_
      exact xw.ret (r := (some (.inl (-1 : Int32)))) rfl h
    · skip
      refine xw.s (pc' := 11) (st' := [.inl (1 : Int32)]) rfl ?_
      refine xw.s (pc' := 15) (st' := [.inl (1 : Int32)]) rfl ?_
      refine xw.retz (nx := 16) rfl (Or.inr rfl) ?_
      show xw _ _ 7 [some (.inr (some (0, 0))), some (.inl a1), some (.inl a2)] [.inl (1 : Int32)] S _
      refine xw.bf (cd := .eq) (x := (1 : Int32)) (y := (0 : Int32)) 20 10 (st' := []) rfl (y_ceq _ _) (by decide) ?_
      refine xw.s (pc' := 11) (st' := [.inl a2]) rfl ?_
      refine xw.s (pc' := 12) (st' := [.inl (0 : Int32), .inl a2]) rfl ?_
      refine xw.s (pc' := 14) (st' := [.inl (15 : Int32), .inl (0 : Int32), .inl a2]) rfl ?_
      refine xw.call (m := 2) (as := [.inl a2, .inl (0 : Int32), .inl (15 : Int32)]) (nx := 17) (L' := [some (.inr (some (0, 0))), some (.inl a1), some (.inl a2)]) (st' := []) rfl ?_
      show xw _ _ _ [some (.inl a2), some (.inl (0 : Int32)), some (.inl (15 : Int32))] [] _ _
      refine xw.s (pc' := 1) (st' := [.inl a2]) rfl ?_
      refine xw.s (pc' := 2) (st' := [.inl (0 : Int32), .inl a2]) rfl ?_
      refine xw.b (c := a2 < (0 : Int32)) (cd := .lt) (x := a2) (y := (0 : Int32)) 14 5 (st' := []) rfl (y_clt _ _) h (fun c3 h => ?_) (fun c3 h => ?_)
      · skip
        refine xw.s (pc' := 15) (st' := [.inl (0 : Int32)]) rfl ?_
        refine xw.retz (nx := 16) rfl (Or.inl rfl) ?_
        show xw _ _ 17 [some (.inr (some (0, 0))), some (.inl a1), some (.inl a2)] [.inl (0 : Int32)] S _
        refine xw.bf (cd := .ne) (x := (0 : Int32)) (y := (0 : Int32)) 22 20 (st' := []) rfl (y_cne _ _) (by decide) ?_
        refine xw.s (pc' := 21) (st' := [.inl (-1 : Int32)]) rfl ?_
        exact xw.ret (r := (some (.inl (-1 : Int32)))) rfl h
      · skip
        refine xw.s (pc' := 6) (st' := [.inl a2]) rfl ?_
        refine xw.s (pc' := 7) (st' := [.inl (15 : Int32), .inl a2]) rfl ?_
        refine xw.b (c := (15 : Int32) < a2) (cd := .gt) (x := a2) (y := (15 : Int32)) 14 10 (st' := []) rfl (y_cgt _ _) h (fun c4 h => ?_) (fun c4 h => ?_)
        · skip
          refine xw.s (pc' := 15) (st' := [.inl (0 : Int32)]) rfl ?_
          refine xw.retz (nx := 16) rfl (Or.inl rfl) ?_
          show xw _ _ 17 [some (.inr (some (0, 0))), some (.inl a1), some (.inl a2)] [.inl (0 : Int32)] S _
          refine xw.bf (cd := .ne) (x := (0 : Int32)) (y := (0 : Int32)) 22 20 (st' := []) rfl (y_cne _ _) (by decide) ?_
          refine xw.s (pc' := 21) (st' := [.inl (-1 : Int32)]) rfl ?_
          exact xw.ret (r := (some (.inl (-1 : Int32)))) rfl h
        · skip
          refine xw.s (pc' := 11) (st' := [.inl (1 : Int32)]) rfl ?_
          refine xw.s (pc' := 15) (st' := [.inl (1 : Int32)]) rfl ?_
          refine xw.retz (nx := 16) rfl (Or.inr rfl) ?_
          show xw _ _ 17 [some (.inr (some (0, 0))), some (.inl a1), some (.inl a2)] [.inl (1 : Int32)] S _
          refine xw.bt (cd := .ne) (x := (1 : Int32)) (y := (0 : Int32)) 22 20 (st' := []) rfl (y_cne _ _) (by decide) ?_
          refine xw.s (pc' := 23) (st' := [.inl a1]) rfl ?_
          refine xw.s (pc' := 24) (st' := [.inl a2, .inl a1]) rfl ?_
          refine xw.call (m := 27) (as := [.inl a1, .inl a2]) (nx := 27) (L' := [some (.inr (some (0, 0))), some (.inl a1), some (.inl a2)]) (st' := []) rfl (xc.mono h ?_)
          rintro r S5 ⟨x7, rfl, hC6, h⟩
          show xw _ _ 27 [some (.inr (some (0, 0))), some (.inl a1), some (.inl a2)] [.inl x7] _ _
          refine xw.b (c := x7 = (0 : Int32)) (cd := .eq) (x := x7) (y := (0 : Int32)) 34 30 (st' := []) rfl (y_ceq _ _) h (fun c8 h => ?_) (fun c8 h => ?_)
          · skip
            refine xw.s (pc' := 35) (st' := [.inl (0 : Int32)]) rfl ?_
            exact xw.ret (r := (some (.inl (0 : Int32)))) rfl h
          · skip
            refine xw.s (pc' := 31) (st' := [.inl (1 : Int32)]) rfl ?_
            refine xw.s (pc' := 35) (st' := [.inl (1 : Int32)]) rfl ?_
            exact xw.ret (r := (some (.inl (1 : Int32)))) rfl h
/-- count -/
theorem cw_count {d : Nat} {a1 : Int32} {S : xm_S} {Q : Option xm_V → xm_S → Prop} (hC : xk_C S) (h : (a1 = (0 : Int32) → Q (some (.inl (nI (xm_n S 1 0)))) S) ∧ (¬ a1 = (0 : Int32) → (a1 = (1 : Int32) → Q (some (.inl (nI (xm_n S 1 1)))) S) ∧ (¬ a1 = (1 : Int32) → (a1 = (2 : Int32) → Q (some (.inl (nI (xm_n S 1 2)))) S) ∧ (¬ a1 = (2 : Int32) → (a1 = (3 : Int32) → Q (some (.inl (nI (xm_n S 1 3)))) S) ∧ (¬ a1 = (3 : Int32) → (a1 = (4 : Int32) → Q (some (.inl (nI (xm_n S 1 4)))) S) ∧ (¬ a1 = (4 : Int32) → (a1 = (5 : Int32) → Q (some (.inl (nI (xm_n S 1 5)))) S) ∧ (¬ a1 = (5 : Int32) → (a1 = (6 : Int32) → Q (some (.inl (nI (xm_n S 1 6)))) S) ∧ (¬ a1 = (6 : Int32) → (a1 = (7 : Int32) → Q (some (.inl (nI (xm_n S 1 8)))) S) ∧ (¬ a1 = (7 : Int32) → (a1 = (8 : Int32) → Q (some (.inl (nI (xm_n S 1 9)))) S) ∧ (¬ a1 = (8 : Int32) → (a1 = (9 : Int32) → xc d 88 [.inr (some (0, 0))] S (fun r S11 => ∃ x13 : Int32, r = some (.inl x13) ∧ xk_C S11 ∧ (Q (some (.inl x13)) S11))) ∧ (¬ a1 = (9 : Int32) → (a1 = (10 : Int32) → xc d 89 [.inr (some (0, 0))] S (fun r S15 => ∃ x17 : Int32, r = some (.inl x17) ∧ xk_C S15 ∧ (Q (some (.inl x17)) S15))) ∧ (¬ a1 = (10 : Int32) → (a1 = (11 : Int32) → xc d 90 [.inr (some (0, 0))] S (fun r S19 => ∃ x21 : Int32, r = some (.inl x21) ∧ xk_C S19 ∧ (Q (some (.inl x21)) S19))) ∧ (¬ a1 = (11 : Int32) → (a1 = (12 : Int32) → ∀ t23, (xm_r S 0 0 12) = t23 → (∃ k25, t23 = some k25 ∧ (∀ t26, (xm_r S 10 k25 0) = t26 → (∃ k28, t26 = some k28 ∧ (Q (some (.inl (nI (xm_n S 1 k28)))) S))))) ∧ (¬ a1 = (12 : Int32) → (a1 = (13 : Int32) → Q (some (.inl (nI (xm_n S 1 10)))) S) ∧ (¬ a1 = (13 : Int32) → (a1 = (14 : Int32) → xc d 91 [.inr (some (0, 0))] S (fun r S31 => ∃ x33 : Int32, r = some (.inl x33) ∧ xk_C S31 ∧ (Q (some (.inl x33)) S31))) ∧ (¬ a1 = (14 : Int32) → Q (some (.inl (-1 : Int32))) S)))))))))))))))) : xc (d + 1) 87 [.inr (some (0, 0)), .inl a1] S Q := by
  show xw _ _ _ [some (.inr (some (0, 0))), some (.inl a1)] _ _ _
  refine xw.s (pc' := 1) (st' := [.inl a1]) rfl ?_
  refine xw.ts1 rfl rfl ?_
  refine xw.bw (0 : Int32) rfl h (fun c1 h => ?_) (fun c1 h => ?_)
  · skip
    refine xw.s (pc' := 77) (st' := [.inr (some (0, 0))]) rfl ?_
    refine xw.fr (c := 0) (j := 0) (e := 12) (nx := 80) (t := (some 0)) rfl rfl (hC 0 (by decide)) ?_
    show xw _ _ _ [some (.inr (some (0, 0))), some (.inl a1)] [.inr (some (12, 0))] _ _
    refine xw.lsz (nx := 83) (n := (xm_n S 1 0)) rfl (Nat.le_of_ble_eq_true rfl) rfl ?_
    exact xw.ret (r := (some (.inl (nI (xm_n S 1 0))))) rfl h
  · skip
    refine xw.bw (1 : Int32) rfl h (fun c2 h => ?_) (fun c2 h => ?_)
    · skip
      refine xw.s (pc' := 85) (st' := [.inr (some (0, 0))]) rfl ?_
      refine xw.fr (c := 0) (j := 1) (e := 12) (nx := 88) (t := (some 1)) rfl rfl (hC 1 (by decide)) ?_
      show xw _ _ _ [some (.inr (some (0, 0))), some (.inl a1)] [.inr (some (12, 1))] _ _
      refine xw.lsz (nx := 91) (n := (xm_n S 1 1)) rfl (Nat.le_of_ble_eq_true rfl) rfl ?_
      exact xw.ret (r := (some (.inl (nI (xm_n S 1 1))))) rfl h
    · skip
      refine xw.bw (2 : Int32) rfl h (fun c3 h => ?_) (fun c3 h => ?_)
      · skip
        refine xw.s (pc' := 93) (st' := [.inr (some (0, 0))]) rfl ?_
        refine xw.fr (c := 0) (j := 2) (e := 12) (nx := 96) (t := (some 2)) rfl rfl (hC 2 (by decide)) ?_
        show xw _ _ _ [some (.inr (some (0, 0))), some (.inl a1)] [.inr (some (12, 2))] _ _
        refine xw.lsz (nx := 99) (n := (xm_n S 1 2)) rfl (Nat.le_of_ble_eq_true rfl) rfl ?_
        exact xw.ret (r := (some (.inl (nI (xm_n S 1 2))))) rfl h
      · skip
        refine xw.bw (3 : Int32) rfl h (fun c4 h => ?_) (fun c4 h => ?_)
        · skip
          refine xw.s (pc' := 101) (st' := [.inr (some (0, 0))]) rfl ?_
          refine xw.fr (c := 0) (j := 3) (e := 12) (nx := 104) (t := (some 3)) rfl rfl (hC 3 (by decide)) ?_
          show xw _ _ _ [some (.inr (some (0, 0))), some (.inl a1)] [.inr (some (12, 3))] _ _
          refine xw.lsz (nx := 107) (n := (xm_n S 1 3)) rfl (Nat.le_of_ble_eq_true rfl) rfl ?_
          exact xw.ret (r := (some (.inl (nI (xm_n S 1 3))))) rfl h
        · skip
          refine xw.bw (4 : Int32) rfl h (fun c5 h => ?_) (fun c5 h => ?_)
          · skip
            refine xw.s (pc' := 109) (st' := [.inr (some (0, 0))]) rfl ?_
            refine xw.fr (c := 0) (j := 4) (e := 12) (nx := 112) (t := (some 4)) rfl rfl (hC 4 (by decide)) ?_
            show xw _ _ _ [some (.inr (some (0, 0))), some (.inl a1)] [.inr (some (12, 4))] _ _
            refine xw.lsz (nx := 115) (n := (xm_n S 1 4)) rfl (Nat.le_of_ble_eq_true rfl) rfl ?_
            exact xw.ret (r := (some (.inl (nI (xm_n S 1 4))))) rfl h
          · skip
            refine xw.bw (5 : Int32) rfl h (fun c6 h => ?_) (fun c6 h => ?_)
            · skip
              refine xw.s (pc' := 117) (st' := [.inr (some (0, 0))]) rfl ?_
              refine xw.fr (c := 0) (j := 5) (e := 12) (nx := 120) (t := (some 5)) rfl rfl (hC 5 (by decide)) ?_
              show xw _ _ _ [some (.inr (some (0, 0))), some (.inl a1)] [.inr (some (12, 5))] _ _
              refine xw.lsz (nx := 123) (n := (xm_n S 1 5)) rfl (Nat.le_of_ble_eq_true rfl) rfl ?_
              exact xw.ret (r := (some (.inl (nI (xm_n S 1 5))))) rfl h
            · skip
              refine xw.bw (6 : Int32) rfl h (fun c7 h => ?_) (fun c7 h => ?_)
              · skip
                refine xw.s (pc' := 125) (st' := [.inr (some (0, 0))]) rfl ?_
                refine xw.fr (c := 0) (j := 6) (e := 12) (nx := 128) (t := (some 6)) rfl rfl (hC 6 (by decide)) ?_
                show xw _ _ _ [some (.inr (some (0, 0))), some (.inl a1)] [.inr (some (12, 6))] _ _
                refine xw.lsz (nx := 131) (n := (xm_n S 1 6)) rfl (Nat.le_of_ble_eq_true rfl) rfl ?_
                exact xw.ret (r := (some (.inl (nI (xm_n S 1 6))))) rfl h
              · skip
                refine xw.bw (7 : Int32) rfl h (fun c8 h => ?_) (fun c8 h => ?_)
                · skip
                  refine xw.s (pc' := 133) (st' := [.inr (some (0, 0))]) rfl ?_
                  refine xw.fr (c := 0) (j := 8) (e := 12) (nx := 136) (t := (some 8)) rfl rfl (hC 8 (by decide)) ?_
                  show xw _ _ _ [some (.inr (some (0, 0))), some (.inl a1)] [.inr (some (12, 8))] _ _
                  refine xw.lsz (nx := 139) (n := (xm_n S 1 8)) rfl (Nat.le_of_ble_eq_true rfl) rfl ?_
                  exact xw.ret (r := (some (.inl (nI (xm_n S 1 8))))) rfl h
                · skip
                  refine xw.bw (8 : Int32) rfl h (fun c9 h => ?_) (fun c9 h => ?_)
                  · skip
                    refine xw.s (pc' := 141) (st' := [.inr (some (0, 0))]) rfl ?_
                    refine xw.fr (c := 0) (j := 9) (e := 12) (nx := 144) (t := (some 9)) rfl rfl (hC 9 (by decide)) ?_
                    show xw _ _ _ [some (.inr (some (0, 0))), some (.inl a1)] [.inr (some (12, 9))] _ _
                    refine xw.lsz (nx := 147) (n := (xm_n S 1 9)) rfl (Nat.le_of_ble_eq_true rfl) rfl ?_
                    exact xw.ret (r := (some (.inl (nI (xm_n S 1 9))))) rfl h
                  · skip
                    refine xw.bw (9 : Int32) rfl h (fun c10 h => ?_) (fun c10 h => ?_)
                    · skip
                      refine xw.s (pc' := 149) (st' := [.inr (some (0, 0))]) rfl ?_
                      refine xw.call (m := 88) (as := [.inr (some (0, 0))]) (nx := 152) (L' := [some (.inr (some (0, 0))), some (.inl a1)]) (st' := []) rfl (xc.mono h ?_)
                      rintro r S11 ⟨x13, rfl, hC12, h⟩
                      show xw _ _ 152 [some (.inr (some (0, 0))), some (.inl a1)] [.inl x13] _ _
                      exact xw.ret (r := (some (.inl x13))) rfl h
                    · skip
                      refine xw.bw (10 : Int32) rfl h (fun c14 h => ?_) (fun c14 h => ?_)
                      · skip
                        refine xw.s (pc' := 154) (st' := [.inr (some (0, 0))]) rfl ?_
                        refine xw.call (m := 89) (as := [.inr (some (0, 0))]) (nx := 157) (L' := [some (.inr (some (0, 0))), some (.inl a1)]) (st' := []) rfl (xc.mono h ?_)
                        rintro r S15 ⟨x17, rfl, hC16, h⟩
                        show xw _ _ 157 [some (.inr (some (0, 0))), some (.inl a1)] [.inl x17] _ _
                        exact xw.ret (r := (some (.inl x17))) rfl h
                      · skip
                        refine xw.bw (11 : Int32) rfl h (fun c18 h => ?_) (fun c18 h => ?_)
                        · skip
                          refine xw.s (pc' := 159) (st' := [.inr (some (0, 0))]) rfl ?_
                          refine xw.call (m := 90) (as := [.inr (some (0, 0))]) (nx := 162) (L' := [some (.inr (some (0, 0))), some (.inl a1)]) (st' := []) rfl (xc.mono h ?_)
                          rintro r S19 ⟨x21, rfl, hC20, h⟩
                          show xw _ _ 162 [some (.inr (some (0, 0))), some (.inl a1)] [.inl x21] _ _
                          exact xw.ret (r := (some (.inl x21))) rfl h
                        · skip
                          refine xw.bw (12 : Int32) rfl h (fun c22 h => ?_) (fun c22 h => ?_)
                          · skip
                            refine xw.s (pc' := 164) (st' := [.inr (some (0, 0))]) rfl ?_
                            obtain ⟨t23, q24⟩ : ∃ t, (xm_r S 0 0 12) = t := ⟨_, rfl⟩
                            replace h := h t23 q24
                            refine xw.fr (c := 0) (j := 12) (e := 10) (nx := 167) (t := t23) rfl rfl q24 ?_
                            show xw _ _ _ [some (.inr (some (0, 0))), some (.inl a1)] [.inr (xo 10 t23)] _ _
                            obtain ⟨k25, rfl, h⟩ := h
                            obtain ⟨t26, q27⟩ : ∃ t, (xm_r S 10 k25 0) = t := ⟨_, rfl⟩
                            replace h := h t26 q27
                            refine xw.fr (c := 10) (j := 0) (e := 12) (nx := 170) (t := t26) rfl rfl q27 ?_
                            show xw _ _ _ [some (.inr (some (0, 0))), some (.inl a1)] [.inr (xo 12 t26)] _ _
                            obtain ⟨k28, rfl, h⟩ := h
                            refine xw.lsz (nx := 173) (n := (xm_n S 1 k28)) rfl (Nat.le_of_ble_eq_true rfl) rfl ?_
                            exact xw.ret (r := (some (.inl (nI (xm_n S 1 k28))))) rfl h
                          · skip
                            refine xw.bw (13 : Int32) rfl h (fun c29 h => ?_) (fun c29 h => ?_)
                            · skip
                              refine xw.s (pc' := 175) (st' := [.inr (some (0, 0))]) rfl ?_
                              refine xw.fr (c := 0) (j := 10) (e := 12) (nx := 178) (t := (some 10)) rfl rfl (hC 10 (by decide)) ?_
                              show xw _ _ _ [some (.inr (some (0, 0))), some (.inl a1)] [.inr (some (12, 10))] _ _
                              refine xw.lsz (nx := 181) (n := (xm_n S 1 10)) rfl (Nat.le_of_ble_eq_true rfl) rfl ?_
                              exact xw.ret (r := (some (.inl (nI (xm_n S 1 10))))) rfl h
                            · skip
                              refine xw.bw (14 : Int32) rfl h (fun c30 h => ?_) (fun c30 h => ?_)
                              · skip
                                refine xw.s (pc' := 183) (st' := [.inr (some (0, 0))]) rfl ?_
                                refine xw.call (m := 91) (as := [.inr (some (0, 0))]) (nx := 186) (L' := [some (.inr (some (0, 0))), some (.inl a1)]) (st' := []) rfl (xc.mono h ?_)
                                rintro r S31 ⟨x33, rfl, hC32, h⟩
                                show xw _ _ 186 [some (.inr (some (0, 0))), some (.inl a1)] [.inl x33] _ _
                                exact xw.ret (r := (some (.inl x33))) rfl h
                              · skip
                                refine xw.s (pc' := 188) (st' := [.inl (-1 : Int32)]) rfl ?_
                                exact xw.ret (r := (some (.inl (-1 : Int32)))) rfl h
/-- callsUnderWay -/
theorem cw_callsUnderWay {d : Nat}  {S : xm_S} {Q : Option xm_V → xm_S → Prop} (hC : xk_C S) (h : xw d 88 4 [some (.inr (some (0, 0))), some (.inl (0 : Int32)), some (.inl (0 : Int32))] [] S Q) : xc (d) 88 [.inr (some (0, 0))] S Q := by
  show xw _ _ _ [some (.inr (some (0, 0))), none, none] _ _ _
  refine xw.s (pc' := 1) (st' := [.inl (0 : Int32)]) rfl ?_
  refine xw.s (pc' := 2) (st' := []) (L' := [some (.inr (some (0, 0))), some (.inl (0 : Int32)), none]) rfl ?_
  refine xw.s (pc' := 3) (st' := [.inl (0 : Int32)]) rfl ?_
  refine xw.s (pc' := 4) (st' := []) (L' := [some (.inr (some (0, 0))), some (.inl (0 : Int32)), some (.inl (0 : Int32))]) rfl ?_
  exact h
theorem cw_callsUnderWay_4 {d : Nat} {l1 : Int32} {l2 : Int32} {S : xm_S} {Q : Option xm_V → xm_S → Prop} (hC : xk_C S) (h : ((nI (xm_n S 1 7)) ≤ l2 → Q (some (.inl l1)) S) ∧ (¬ (nI (xm_n S 1 7)) ≤ l2 → y_in l2 (xm_n S 1 7) ∧ (∃ k3, (xm_l S 7 (y_ix l2)) = (2, k3) ∧ (((xm_i S 2 k3 8) = (0 : Int32) → xw d 88 4 [some (.inr (some (0, 0))), some (.inl (l1 + (1 : Int32))), some (.inl (l2 + (1 : Int32)))] [] S Q) ∧ (¬ (xm_i S 2 k3 8) = (0 : Int32) → xw d 88 4 [some (.inr (some (0, 0))), some (.inl (l1 + (0 : Int32))), some (.inl (l2 + (1 : Int32)))] [] S Q))))) : xw (d) 88 4 [some (.inr (some (0, 0))), some (.inl l1), some (.inl l2)] [] S Q := by
  refine xw.s (pc' := 5) (st' := [.inl l2]) rfl ?_
  refine xw.s (pc' := 6) (st' := [.inr (some (0, 0)), .inl l2]) rfl ?_
  refine xw.fr (c := 0) (j := 7) (e := 12) (nx := 9) (t := (some 7)) rfl rfl (hC 7 (by decide)) ?_
  show xw _ _ _ [some (.inr (some (0, 0))), some (.inl l1), some (.inl l2)] [.inr (some (12, 7)), .inl l2] _ _
  refine xw.lsz (nx := 12) (n := (xm_n S 1 7)) rfl (Nat.le_of_ble_eq_true rfl) rfl ?_
  refine xw.b (c := (nI (xm_n S 1 7)) ≤ l2) (cd := .ge) (x := l2) (y := (nI (xm_n S 1 7))) 46 15 (st' := []) rfl (y_cge _ _) h (fun c1 h => ?_) (fun c1 h => ?_)
  · skip
    refine xw.s (pc' := 47) (st' := [.inl l1]) rfl ?_
    exact xw.ret (r := (some (.inl l1))) rfl h
  · skip
    refine xw.s (pc' := 16) (st' := [.inl l1]) rfl ?_
    refine xw.s (pc' := 17) (st' := [.inr (some (0, 0)), .inl l1]) rfl ?_
    refine xw.fr (c := 0) (j := 7) (e := 12) (nx := 20) (t := (some 7)) rfl rfl (hC 7 (by decide)) ?_
    show xw _ _ _ [some (.inr (some (0, 0))), some (.inl l1), some (.inl l2)] [.inr (some (12, 7)), .inl l1] _ _
    refine xw.s (pc' := 21) (st' := [.inl l2, .inr (some (12, 7)), .inl l1]) rfl ?_
    obtain ⟨z2, h⟩ := h
    obtain ⟨k3, q4, h⟩ := h
    refine xw.get (nx := 24) (p := (2, k3)) rfl (Nat.le_of_ble_eq_true rfl) z2 q4 ?_
    refine xw.s (pc' := 27) (st' := [.inr (some (2, k3)), .inl l1]) rfl ?_
    refine xw.fi (c := 2) (j := 8) (ty := 0) (nx := 30) (v := (xm_i S 2 k3 8)) rfl rfl rfl ?_
    refine xw.bn (c := (xm_i S 2 k3 8) = (0 : Int32)) (cd := .ne) (x := (xm_i S 2 k3 8)) (y := (0 : Int32)) 37 33 (st' := [.inl l1]) rfl (y_cne _ _) h (fun c5 h => ?_) (fun c5 h => ?_)
    · skip
      refine xw.s (pc' := 34) (st' := [.inl (1 : Int32), .inl l1]) rfl ?_
      refine xw.s (pc' := 38) (st' := [.inl (1 : Int32), .inl l1]) rfl ?_
      refine xw.s (pc' := 39) (st' := [.inl (l1 + (1 : Int32))]) rfl ?_
      refine xw.s (pc' := 40) (st' := []) (L' := [some (.inr (some (0, 0))), some (.inl (l1 + (1 : Int32))), some (.inl l2)]) rfl ?_
      refine xw.s (pc' := 43) (st' := []) (L' := [some (.inr (some (0, 0))), some (.inl (l1 + (1 : Int32))), some (.inl (l2 + (1 : Int32)))]) rfl ?_
      refine xw.s (pc' := 4) (st' := []) rfl ?_
      exact h
    · skip
      refine xw.s (pc' := 38) (st' := [.inl (0 : Int32), .inl l1]) rfl ?_
      refine xw.s (pc' := 39) (st' := [.inl (l1 + (0 : Int32))]) rfl ?_
      refine xw.s (pc' := 40) (st' := []) (L' := [some (.inr (some (0, 0))), some (.inl (l1 + (0 : Int32))), some (.inl l2)]) rfl ?_
      refine xw.s (pc' := 43) (st' := []) (L' := [some (.inr (some (0, 0))), some (.inl (l1 + (0 : Int32))), some (.inl (l2 + (1 : Int32)))]) rfl ?_
      refine xw.s (pc' := 4) (st' := []) rfl ?_
      exact h
/-- triesUnderWay -/
theorem cw_triesUnderWay {d : Nat}  {S : xm_S} {Q : Option xm_V → xm_S → Prop} (hC : xk_C S) (h : xw (d + 1) 89 4 [some (.inr (some (0, 0))), some (.inl (0 : Int32)), some (.inl (0 : Int32))] [] S Q) : xc (d + 1) 89 [.inr (some (0, 0))] S Q := by
  show xw _ _ _ [some (.inr (some (0, 0))), none, none] _ _ _
  refine xw.s (pc' := 1) (st' := [.inl (0 : Int32)]) rfl ?_
  refine xw.s (pc' := 2) (st' := []) (L' := [some (.inr (some (0, 0))), some (.inl (0 : Int32)), none]) rfl ?_
  refine xw.s (pc' := 3) (st' := [.inl (0 : Int32)]) rfl ?_
  refine xw.s (pc' := 4) (st' := []) (L' := [some (.inr (some (0, 0))), some (.inl (0 : Int32)), some (.inl (0 : Int32))]) rfl ?_
  exact h
theorem cw_triesUnderWay_4 {d : Nat} {l1 : Int32} {l2 : Int32} {S : xm_S} {Q : Option xm_V → xm_S → Prop} (hC : xk_C S) (h : ((nI (xm_n S 1 7)) ≤ l2 → Q (some (.inl l1)) S) ∧ (¬ (nI (xm_n S 1 7)) ≤ l2 → y_in l2 (xm_n S 1 7) ∧ (∃ k3, (xm_l S 7 (y_ix l2)) = (2, k3) ∧ (((xm_i S 2 k3 8) = (0 : Int32) → y_in l2 (xm_n S 1 7) ∧ (∀ t7, (xm_r S 2 k3 4) = t7 → ((t7 = none → xw (d + 1) 89 4 [some (.inr (some (0, 0))), some (.inl (l1 + (1 : Int32))), some (.inl (l2 + (1 : Int32)))] [] S Q) ∧ (∀ k9, t7 = some k9 → ((xm_i S 5 k9 1) = (10 : Int32) → xw (d + 1) 89 4 [some (.inr (some (0, 0))), some (.inl (l1 + (1 : Int32))), some (.inl (l2 + (1 : Int32)))] [] S Q) ∧ (¬ (xm_i S 5 k9 1) = (10 : Int32) → xw (d + 1) 89 4 [some (.inr (some (0, 0))), some (.inl (l1 + (0 : Int32))), some (.inl (l2 + (1 : Int32)))] [] S Q))))) ∧ (¬ (xm_i S 2 k3 8) = (0 : Int32) → xw (d + 1) 89 4 [some (.inr (some (0, 0))), some (.inl (l1 + (0 : Int32))), some (.inl (l2 + (1 : Int32)))] [] S Q))))) : xw (d + 1) 89 4 [some (.inr (some (0, 0))), some (.inl l1), some (.inl l2)] [] S Q := by
  refine xw.s (pc' := 5) (st' := [.inl l2]) rfl ?_
  refine xw.s (pc' := 6) (st' := [.inr (some (0, 0)), .inl l2]) rfl ?_
  refine xw.fr (c := 0) (j := 7) (e := 12) (nx := 9) (t := (some 7)) rfl rfl (hC 7 (by decide)) ?_
  show xw _ _ _ [some (.inr (some (0, 0))), some (.inl l1), some (.inl l2)] [.inr (some (12, 7)), .inl l2] _ _
  refine xw.lsz (nx := 12) (n := (xm_n S 1 7)) rfl (Nat.le_of_ble_eq_true rfl) rfl ?_
  refine xw.b (c := (nI (xm_n S 1 7)) ≤ l2) (cd := .ge) (x := l2) (y := (nI (xm_n S 1 7))) 65 15 (st' := []) rfl (y_cge _ _) h (fun c1 h => ?_) (fun c1 h => ?_)
  · skip
    refine xw.s (pc' := 66) (st' := [.inl l1]) rfl ?_
    exact xw.ret (r := (some (.inl l1))) rfl h
  · skip
    refine xw.s (pc' := 16) (st' := [.inl l1]) rfl ?_
    refine xw.s (pc' := 17) (st' := [.inr (some (0, 0)), .inl l1]) rfl ?_
    refine xw.fr (c := 0) (j := 7) (e := 12) (nx := 20) (t := (some 7)) rfl rfl (hC 7 (by decide)) ?_
    show xw _ _ _ [some (.inr (some (0, 0))), some (.inl l1), some (.inl l2)] [.inr (some (12, 7)), .inl l1] _ _
    refine xw.s (pc' := 21) (st' := [.inl l2, .inr (some (12, 7)), .inl l1]) rfl ?_
    obtain ⟨z2, h⟩ := h
    obtain ⟨k3, q4, h⟩ := h
    refine xw.get (nx := 24) (p := (2, k3)) rfl (Nat.le_of_ble_eq_true rfl) z2 q4 ?_
    refine xw.s (pc' := 27) (st' := [.inr (some (2, k3)), .inl l1]) rfl ?_
    refine xw.fi (c := 2) (j := 8) (ty := 0) (nx := 30) (v := (xm_i S 2 k3 8)) rfl rfl rfl ?_
    refine xw.bn (c := (xm_i S 2 k3 8) = (0 : Int32)) (cd := .ne) (x := (xm_i S 2 k3 8)) (y := (0 : Int32)) 56 33 (st' := [.inl l1]) rfl (y_cne _ _) h (fun c5 h => ?_) (fun c5 h => ?_)
    · skip
      refine xw.s (pc' := 34) (st' := [.inr (some (0, 0)), .inl l1]) rfl ?_
      refine xw.fr (c := 0) (j := 7) (e := 12) (nx := 37) (t := (some 7)) rfl rfl (hC 7 (by decide)) ?_
      show xw _ _ _ [some (.inr (some (0, 0))), some (.inl l1), some (.inl l2)] [.inr (some (12, 7)), .inl l1] _ _
      refine xw.s (pc' := 38) (st' := [.inl l2, .inr (some (12, 7)), .inl l1]) rfl ?_
      obtain ⟨z6, h⟩ := h
      refine xw.get (nx := 41) (p := (2, k3)) rfl (Nat.le_of_ble_eq_true rfl) z6 q4 ?_
      refine xw.s (pc' := 44) (st' := [.inr (some (2, k3)), .inl l1]) rfl ?_
      refine xw.call (m := 95) (as := [.inr (some (2, k3))]) (nx := 47) (L' := [some (.inr (some (0, 0))), some (.inl l1), some (.inl l2)]) (st' := [.inl l1]) rfl ?_
      show xw _ _ _ [some (.inr (some (2, k3)))] [] _ _
      refine xw.s (pc' := 1) (st' := [.inr (some (2, k3))]) rfl ?_
      obtain ⟨t7, q8⟩ : ∃ t, (xm_r S 2 k3 4) = t := ⟨_, rfl⟩
      replace h := h t7 q8
      refine xw.fr (c := 2) (j := 4) (e := 5) (nx := 4) (t := t7) rfl rfl q8 ?_
      show xw _ _ _ [some (.inr (some (2, k3)))] [.inr (xo 5 t7)] _ _
      refine xw.nnul (o := t7) (t := 12) (nx := 7) rfl rfl ?_
      rcases t7 with _ | k9
      · replace h := h.1 rfl
        show xw _ _ 7 [some (.inr (some (2, k3)))] [] _ _
        refine xw.s (pc' := 9) (st' := [.inl (10 : Int32)]) rfl ?_
        refine xw.s (pc' := 19) (st' := [.inl (10 : Int32)]) rfl ?_
        refine xw.ret (r := some (.inl (10 : Int32))) rfl ?_
        show xw _ _ 47 [some (.inr (some (0, 0))), some (.inl l1), some (.inl l2)] [.inl (10 : Int32), .inl l1] S _
        refine xw.s (pc' := 49) (st' := [.inl (10 : Int32), .inl (10 : Int32), .inl l1]) rfl ?_
        refine xw.bf (cd := .ne) (x := (10 : Int32)) (y := (10 : Int32)) 56 52 (st' := [.inl l1]) rfl (y_cne _ _) (by decide) ?_
        refine xw.s (pc' := 53) (st' := [.inl (1 : Int32), .inl l1]) rfl ?_
        refine xw.s (pc' := 57) (st' := [.inl (1 : Int32), .inl l1]) rfl ?_
        refine xw.s (pc' := 58) (st' := [.inl (l1 + (1 : Int32))]) rfl ?_
        refine xw.s (pc' := 59) (st' := []) (L' := [some (.inr (some (0, 0))), some (.inl (l1 + (1 : Int32))), some (.inl l2)]) rfl ?_
        refine xw.s (pc' := 62) (st' := []) (L' := [some (.inr (some (0, 0))), some (.inl (l1 + (1 : Int32))), some (.inl (l2 + (1 : Int32)))]) rfl ?_
        refine xw.s (pc' := 4) (st' := []) rfl ?_
        exact h
      · replace h := h.2 k9 rfl
        show xw _ _ 12 [some (.inr (some (2, k3)))] [] _ _
        refine xw.s (pc' := 13) (st' := [.inr (some (2, k3))]) rfl ?_
        refine xw.fr (c := 2) (j := 4) (e := 5) (nx := 16) (t := (some k9)) rfl rfl q8 ?_
        show xw _ _ _ [some (.inr (some (2, k3)))] [.inr (some (5, k9))] _ _
        refine xw.fi (c := 5) (j := 1) (ty := 0) (nx := 19) (v := (xm_i S 5 k9 1)) rfl rfl rfl ?_
        refine xw.ret (r := some (.inl (xm_i S 5 k9 1))) rfl ?_
        show xw _ _ 47 [some (.inr (some (0, 0))), some (.inl l1), some (.inl l2)] [.inl (xm_i S 5 k9 1), .inl l1] S _
        refine xw.s (pc' := 49) (st' := [.inl (10 : Int32), .inl (xm_i S 5 k9 1), .inl l1]) rfl ?_
        refine xw.bn (c := (xm_i S 5 k9 1) = (10 : Int32)) (cd := .ne) (x := (xm_i S 5 k9 1)) (y := (10 : Int32)) 56 52 (st' := [.inl l1]) rfl (y_cne _ _) h (fun c10 h => ?_) (fun c10 h => ?_)
        · skip
          refine xw.s (pc' := 53) (st' := [.inl (1 : Int32), .inl l1]) rfl ?_
          refine xw.s (pc' := 57) (st' := [.inl (1 : Int32), .inl l1]) rfl ?_
          refine xw.s (pc' := 58) (st' := [.inl (l1 + (1 : Int32))]) rfl ?_
          refine xw.s (pc' := 59) (st' := []) (L' := [some (.inr (some (0, 0))), some (.inl (l1 + (1 : Int32))), some (.inl l2)]) rfl ?_
          refine xw.s (pc' := 62) (st' := []) (L' := [some (.inr (some (0, 0))), some (.inl (l1 + (1 : Int32))), some (.inl (l2 + (1 : Int32)))]) rfl ?_
          refine xw.s (pc' := 4) (st' := []) rfl ?_
          exact h
        · skip
          refine xw.s (pc' := 57) (st' := [.inl (0 : Int32), .inl l1]) rfl ?_
          refine xw.s (pc' := 58) (st' := [.inl (l1 + (0 : Int32))]) rfl ?_
          refine xw.s (pc' := 59) (st' := []) (L' := [some (.inr (some (0, 0))), some (.inl (l1 + (0 : Int32))), some (.inl l2)]) rfl ?_
          refine xw.s (pc' := 62) (st' := []) (L' := [some (.inr (some (0, 0))), some (.inl (l1 + (0 : Int32))), some (.inl (l2 + (1 : Int32)))]) rfl ?_
          refine xw.s (pc' := 4) (st' := []) rfl ?_
          exact h
    · skip
      refine xw.s (pc' := 57) (st' := [.inl (0 : Int32), .inl l1]) rfl ?_
      refine xw.s (pc' := 58) (st' := [.inl (l1 + (0 : Int32))]) rfl ?_
      refine xw.s (pc' := 59) (st' := []) (L' := [some (.inr (some (0, 0))), some (.inl (l1 + (0 : Int32))), some (.inl l2)]) rfl ?_
      refine xw.s (pc' := 62) (st' := []) (L' := [some (.inr (some (0, 0))), some (.inl (l1 + (0 : Int32))), some (.inl (l2 + (1 : Int32)))]) rfl ?_
      refine xw.s (pc' := 4) (st' := []) rfl ?_
      exact h
/-- ordersUnderWay -/
theorem cw_ordersUnderWay {d : Nat}  {S : xm_S} {Q : Option xm_V → xm_S → Prop} (hC : xk_C S) (h : xw (d + 1) 90 4 [some (.inr (some (0, 0))), some (.inl (0 : Int32)), some (.inl (0 : Int32))] [] S Q) : xc (d + 1) 90 [.inr (some (0, 0))] S Q := by
  show xw _ _ _ [some (.inr (some (0, 0))), none, none] _ _ _
  refine xw.s (pc' := 1) (st' := [.inl (0 : Int32)]) rfl ?_
  refine xw.s (pc' := 2) (st' := []) (L' := [some (.inr (some (0, 0))), some (.inl (0 : Int32)), none]) rfl ?_
  refine xw.s (pc' := 3) (st' := [.inl (0 : Int32)]) rfl ?_
  refine xw.s (pc' := 4) (st' := []) (L' := [some (.inr (some (0, 0))), some (.inl (0 : Int32)), some (.inl (0 : Int32))]) rfl ?_
  exact h
theorem cw_ordersUnderWay_4 {d : Nat} {l1 : Int32} {l2 : Int32} {S : xm_S} {Q : Option xm_V → xm_S → Prop} (hC : xk_C S) (h : ((nI (xm_n S 1 5)) ≤ l2 → Q (some (.inl l1)) S) ∧ (¬ (nI (xm_n S 1 5)) ≤ l2 → y_in l2 (xm_n S 1 5) ∧ (∃ k3, (xm_l S 5 (y_ix l2)) = (6, k3) ∧ (∀ t5, (xm_r S 6 k3 6) = t5 → ((t5 = none → xw (d + 1) 90 4 [some (.inr (some (0, 0))), some (.inl (l1 + (0 : Int32))), some (.inl (l2 + (1 : Int32)))] [] S Q) ∧ (∀ k7, t5 = some k7 → ((xm_i S 2 k7 8) = (0 : Int32) → xw (d + 1) 90 4 [some (.inr (some (0, 0))), some (.inl (l1 + (1 : Int32))), some (.inl (l2 + (1 : Int32)))] [] S Q) ∧ (¬ (xm_i S 2 k7 8) = (0 : Int32) → xw (d + 1) 90 4 [some (.inr (some (0, 0))), some (.inl (l1 + (0 : Int32))), some (.inl (l2 + (1 : Int32)))] [] S Q))))))) : xw (d + 1) 90 4 [some (.inr (some (0, 0))), some (.inl l1), some (.inl l2)] [] S Q := by
  refine xw.s (pc' := 5) (st' := [.inl l2]) rfl ?_
  refine xw.s (pc' := 6) (st' := [.inr (some (0, 0)), .inl l2]) rfl ?_
  refine xw.fr (c := 0) (j := 5) (e := 12) (nx := 9) (t := (some 5)) rfl rfl (hC 5 (by decide)) ?_
  show xw _ _ _ [some (.inr (some (0, 0))), some (.inl l1), some (.inl l2)] [.inr (some (12, 5)), .inl l2] _ _
  refine xw.lsz (nx := 12) (n := (xm_n S 1 5)) rfl (Nat.le_of_ble_eq_true rfl) rfl ?_
  refine xw.b (c := (nI (xm_n S 1 5)) ≤ l2) (cd := .ge) (x := l2) (y := (nI (xm_n S 1 5))) 46 15 (st' := []) rfl (y_cge _ _) h (fun c1 h => ?_) (fun c1 h => ?_)
  · skip
    refine xw.s (pc' := 47) (st' := [.inl l1]) rfl ?_
    exact xw.ret (r := (some (.inl l1))) rfl h
  · skip
    refine xw.s (pc' := 16) (st' := [.inl l1]) rfl ?_
    refine xw.s (pc' := 17) (st' := [.inr (some (0, 0)), .inl l1]) rfl ?_
    refine xw.fr (c := 0) (j := 5) (e := 12) (nx := 20) (t := (some 5)) rfl rfl (hC 5 (by decide)) ?_
    show xw _ _ _ [some (.inr (some (0, 0))), some (.inl l1), some (.inl l2)] [.inr (some (12, 5)), .inl l1] _ _
    refine xw.s (pc' := 21) (st' := [.inl l2, .inr (some (12, 5)), .inl l1]) rfl ?_
    obtain ⟨z2, h⟩ := h
    obtain ⟨k3, q4, h⟩ := h
    refine xw.get (nx := 24) (p := (6, k3)) rfl (Nat.le_of_ble_eq_true rfl) z2 q4 ?_
    refine xw.s (pc' := 27) (st' := [.inr (some (6, k3)), .inl l1]) rfl ?_
    refine xw.call (m := 104) (as := [.inr (some (6, k3))]) (nx := 30) (L' := [some (.inr (some (0, 0))), some (.inl l1), some (.inl l2)]) (st' := [.inl l1]) rfl ?_
    show xw _ _ _ [some (.inr (some (6, k3)))] [] _ _
    refine xw.s (pc' := 1) (st' := [.inr (some (6, k3))]) rfl ?_
    obtain ⟨t5, q6⟩ : ∃ t, (xm_r S 6 k3 6) = t := ⟨_, rfl⟩
    replace h := h t5 q6
    refine xw.fr (c := 6) (j := 6) (e := 2) (nx := 4) (t := t5) rfl rfl q6 ?_
    show xw _ _ _ [some (.inr (some (6, k3)))] [.inr (xo 2 t5)] _ _
    refine xw.nul (o := t5) (t := 21) (nx := 7) rfl rfl ?_
    rcases t5 with _ | k7
    · replace h := h.1 rfl
      show xw _ _ 21 [some (.inr (some (6, k3)))] [] _ _
      refine xw.s (pc' := 22) (st' := [.inl (0 : Int32)]) rfl ?_
      refine xw.retz (nx := 23) rfl (Or.inl rfl) ?_
      show xw _ _ 30 [some (.inr (some (0, 0))), some (.inl l1), some (.inl l2)] [.inl (0 : Int32), .inl l1] S _
      refine xw.bt (cd := .eq) (x := (0 : Int32)) (y := (0 : Int32)) 37 33 (st' := [.inl l1]) rfl (y_ceq _ _) (by decide) ?_
      refine xw.s (pc' := 38) (st' := [.inl (0 : Int32), .inl l1]) rfl ?_
      refine xw.s (pc' := 39) (st' := [.inl (l1 + (0 : Int32))]) rfl ?_
      refine xw.s (pc' := 40) (st' := []) (L' := [some (.inr (some (0, 0))), some (.inl (l1 + (0 : Int32))), some (.inl l2)]) rfl ?_
      refine xw.s (pc' := 43) (st' := []) (L' := [some (.inr (some (0, 0))), some (.inl (l1 + (0 : Int32))), some (.inl (l2 + (1 : Int32)))]) rfl ?_
      refine xw.s (pc' := 4) (st' := []) rfl ?_
      exact h
    · replace h := h.2 k7 rfl
      show xw _ _ 7 [some (.inr (some (6, k3)))] [] _ _
      refine xw.s (pc' := 8) (st' := [.inr (some (6, k3))]) rfl ?_
      refine xw.fr (c := 6) (j := 6) (e := 2) (nx := 11) (t := (some k7)) rfl rfl q6 ?_
      show xw _ _ _ [some (.inr (some (6, k3)))] [.inr (some (2, k7))] _ _
      refine xw.fi (c := 2) (j := 8) (ty := 0) (nx := 14) (v := (xm_i S 2 k7 8)) rfl rfl rfl ?_
      refine xw.bn (c := (xm_i S 2 k7 8) = (0 : Int32)) (cd := .ne) (x := (xm_i S 2 k7 8)) (y := (0 : Int32)) 21 17 (st' := []) rfl (y_cne _ _) h (fun c8 h => ?_) (fun c8 h => ?_)
      · skip
        refine xw.s (pc' := 18) (st' := [.inl (1 : Int32)]) rfl ?_
        refine xw.s (pc' := 22) (st' := [.inl (1 : Int32)]) rfl ?_
        refine xw.retz (nx := 23) rfl (Or.inr rfl) ?_
        show xw _ _ 30 [some (.inr (some (0, 0))), some (.inl l1), some (.inl l2)] [.inl (1 : Int32), .inl l1] S _
        refine xw.bf (cd := .eq) (x := (1 : Int32)) (y := (0 : Int32)) 37 33 (st' := [.inl l1]) rfl (y_ceq _ _) (by decide) ?_
        refine xw.s (pc' := 34) (st' := [.inl (1 : Int32), .inl l1]) rfl ?_
        refine xw.s (pc' := 38) (st' := [.inl (1 : Int32), .inl l1]) rfl ?_
        refine xw.s (pc' := 39) (st' := [.inl (l1 + (1 : Int32))]) rfl ?_
        refine xw.s (pc' := 40) (st' := []) (L' := [some (.inr (some (0, 0))), some (.inl (l1 + (1 : Int32))), some (.inl l2)]) rfl ?_
        refine xw.s (pc' := 43) (st' := []) (L' := [some (.inr (some (0, 0))), some (.inl (l1 + (1 : Int32))), some (.inl (l2 + (1 : Int32)))]) rfl ?_
        refine xw.s (pc' := 4) (st' := []) rfl ?_
        exact h
      · skip
        refine xw.s (pc' := 22) (st' := [.inl (0 : Int32)]) rfl ?_
        refine xw.retz (nx := 23) rfl (Or.inl rfl) ?_
        show xw _ _ 30 [some (.inr (some (0, 0))), some (.inl l1), some (.inl l2)] [.inl (0 : Int32), .inl l1] S _
        refine xw.bt (cd := .eq) (x := (0 : Int32)) (y := (0 : Int32)) 37 33 (st' := [.inl l1]) rfl (y_ceq _ _) (by decide) ?_
        refine xw.s (pc' := 38) (st' := [.inl (0 : Int32), .inl l1]) rfl ?_
        refine xw.s (pc' := 39) (st' := [.inl (l1 + (0 : Int32))]) rfl ?_
        refine xw.s (pc' := 40) (st' := []) (L' := [some (.inr (some (0, 0))), some (.inl (l1 + (0 : Int32))), some (.inl l2)]) rfl ?_
        refine xw.s (pc' := 43) (st' := []) (L' := [some (.inr (some (0, 0))), some (.inl (l1 + (0 : Int32))), some (.inl (l2 + (1 : Int32)))]) rfl ?_
        refine xw.s (pc' := 4) (st' := []) rfl ?_
        exact h
/-- alarmsOn -/
theorem cw_alarmsOn {d : Nat}  {S : xm_S} {Q : Option xm_V → xm_S → Prop} (hC : xk_C S) (h : xw d 91 4 [some (.inr (some (0, 0))), some (.inl (0 : Int32)), some (.inl (0 : Int32))] [] S Q) : xc (d) 91 [.inr (some (0, 0))] S Q := by
  show xw _ _ _ [some (.inr (some (0, 0))), none, none] _ _ _
  refine xw.s (pc' := 1) (st' := [.inl (0 : Int32)]) rfl ?_
  refine xw.s (pc' := 2) (st' := []) (L' := [some (.inr (some (0, 0))), some (.inl (0 : Int32)), none]) rfl ?_
  refine xw.s (pc' := 3) (st' := [.inl (0 : Int32)]) rfl ?_
  refine xw.s (pc' := 4) (st' := []) (L' := [some (.inr (some (0, 0))), some (.inl (0 : Int32)), some (.inl (0 : Int32))]) rfl ?_
  exact h
theorem cw_alarmsOn_4 {d : Nat} {l1 : Int32} {l2 : Int32} {S : xm_S} {Q : Option xm_V → xm_S → Prop} (hC : xk_C S) (h : ((nI (xm_n S 1 11)) ≤ l2 → Q (some (.inl l1)) S) ∧ (¬ (nI (xm_n S 1 11)) ≤ l2 → y_in l2 (xm_n S 1 11) ∧ (∃ k3, (xm_l S 11 (y_ix l2)) = (1, k3) ∧ (((xm_i S 1 k3 3) = (0 : Int32) → xw d 91 4 [some (.inr (some (0, 0))), some (.inl (l1 + (0 : Int32))), some (.inl (l2 + (1 : Int32)))] [] S Q) ∧ (¬ (xm_i S 1 k3 3) = (0 : Int32) → xw d 91 4 [some (.inr (some (0, 0))), some (.inl (l1 + (1 : Int32))), some (.inl (l2 + (1 : Int32)))] [] S Q))))) : xw (d) 91 4 [some (.inr (some (0, 0))), some (.inl l1), some (.inl l2)] [] S Q := by
  refine xw.s (pc' := 5) (st' := [.inl l2]) rfl ?_
  refine xw.s (pc' := 6) (st' := [.inr (some (0, 0)), .inl l2]) rfl ?_
  refine xw.fr (c := 0) (j := 11) (e := 12) (nx := 9) (t := (some 11)) rfl rfl (hC 11 (by decide)) ?_
  show xw _ _ _ [some (.inr (some (0, 0))), some (.inl l1), some (.inl l2)] [.inr (some (12, 11)), .inl l2] _ _
  refine xw.lsz (nx := 12) (n := (xm_n S 1 11)) rfl (Nat.le_of_ble_eq_true rfl) rfl ?_
  refine xw.b (c := (nI (xm_n S 1 11)) ≤ l2) (cd := .ge) (x := l2) (y := (nI (xm_n S 1 11))) 46 15 (st' := []) rfl (y_cge _ _) h (fun c1 h => ?_) (fun c1 h => ?_)
  · skip
    refine xw.s (pc' := 47) (st' := [.inl l1]) rfl ?_
    exact xw.ret (r := (some (.inl l1))) rfl h
  · skip
    refine xw.s (pc' := 16) (st' := [.inl l1]) rfl ?_
    refine xw.s (pc' := 17) (st' := [.inr (some (0, 0)), .inl l1]) rfl ?_
    refine xw.fr (c := 0) (j := 11) (e := 12) (nx := 20) (t := (some 11)) rfl rfl (hC 11 (by decide)) ?_
    show xw _ _ _ [some (.inr (some (0, 0))), some (.inl l1), some (.inl l2)] [.inr (some (12, 11)), .inl l1] _ _
    refine xw.s (pc' := 21) (st' := [.inl l2, .inr (some (12, 11)), .inl l1]) rfl ?_
    obtain ⟨z2, h⟩ := h
    obtain ⟨k3, q4, h⟩ := h
    refine xw.get (nx := 24) (p := (1, k3)) rfl (Nat.le_of_ble_eq_true rfl) z2 q4 ?_
    refine xw.s (pc' := 27) (st' := [.inr (some (1, k3)), .inl l1]) rfl ?_
    refine xw.fi (c := 1) (j := 3) (ty := 1) (nx := 30) (v := (xm_i S 1 k3 3)) rfl rfl rfl ?_
    refine xw.b (c := (xm_i S 1 k3 3) = (0 : Int32)) (cd := .eq) (x := (xm_i S 1 k3 3)) (y := (0 : Int32)) 37 33 (st' := [.inl l1]) rfl (y_ceq _ _) h (fun c5 h => ?_) (fun c5 h => ?_)
    · skip
      refine xw.s (pc' := 38) (st' := [.inl (0 : Int32), .inl l1]) rfl ?_
      refine xw.s (pc' := 39) (st' := [.inl (l1 + (0 : Int32))]) rfl ?_
      refine xw.s (pc' := 40) (st' := []) (L' := [some (.inr (some (0, 0))), some (.inl (l1 + (0 : Int32))), some (.inl l2)]) rfl ?_
      refine xw.s (pc' := 43) (st' := []) (L' := [some (.inr (some (0, 0))), some (.inl (l1 + (0 : Int32))), some (.inl (l2 + (1 : Int32)))]) rfl ?_
      refine xw.s (pc' := 4) (st' := []) rfl ?_
      exact h
    · skip
      refine xw.s (pc' := 34) (st' := [.inl (1 : Int32), .inl l1]) rfl ?_
      refine xw.s (pc' := 38) (st' := [.inl (1 : Int32), .inl l1]) rfl ?_
      refine xw.s (pc' := 39) (st' := [.inl (l1 + (1 : Int32))]) rfl ?_
      refine xw.s (pc' := 40) (st' := []) (L' := [some (.inr (some (0, 0))), some (.inl (l1 + (1 : Int32))), some (.inl l2)]) rfl ?_
      refine xw.s (pc' := 43) (st' := []) (L' := [some (.inr (some (0, 0))), some (.inl (l1 + (1 : Int32))), some (.inl (l2 + (1 : Int32)))]) rfl ?_
      refine xw.s (pc' := 4) (st' := []) rfl ?_
      exact h
/-- newAlarm -/
theorem cw_newAlarm {d : Nat} {this : Nat} {a1 : Int32} {a2 : Int32} {a3 : Int32} {S : xm_S} {Q : Option xm_V → xm_S → Prop} (hC : xk_C S) (h : ∀ S1, S1 = xm_si S 1 this 3 (0 : Int32) → (∀ S3, S3 = xm_si S1 1 this 4 (0 : Int32) → (∀ S5, S5 = xm_si S3 1 this 5 (-1 : Int32) → (∀ S7, S7 = xm_si S5 1 this 0 a1 → (∀ S9, S9 = xm_si S7 1 this 1 a2 → (∀ S11, S11 = xm_si S9 1 this 2 a3 → (Q none S11))))))) : xc (d) 92 [.inr (some (1, this)), .inl a1, .inl a2, .inl a3] S Q := by
  show xw _ _ _ [some (.inr (some (1, this))), some (.inl a1), some (.inl a2), some (.inl a3)] _ _ _
  refine xw.s (pc' := 1) (st' := [.inr (some (1, this))]) rfl ?_
  refine xw.s (pc' := 4) (st' := []) rfl ?_
  refine xw.s (pc' := 5) (st' := [.inr (some (1, this))]) rfl ?_
  refine xw.s (pc' := 6) (st' := [.inl (0 : Int32), .inr (some (1, this))]) rfl ?_
  refine xw.fp (c := 1) (j := 3) (ty := 1) (nx := 9) rfl rfl (Or.inr ⟨rfl, Or.inl rfl⟩) ?_
  obtain ⟨S1, e2⟩ : ∃ s, s = xm_si S 1 this 3 (0 : Int32) := ⟨_, rfl⟩
  rw [← e2]
  replace h := h S1 e2
  refine xw.s (pc' := 10) (st' := [.inr (some (1, this))]) rfl ?_
  refine xw.s (pc' := 11) (st' := [.inl (0 : Int32), .inr (some (1, this))]) rfl ?_
  refine xw.fp (c := 1) (j := 4) (ty := 0) (nx := 14) rfl rfl (Or.inl rfl) ?_
  obtain ⟨S3, e4⟩ : ∃ s, s = xm_si S1 1 this 4 (0 : Int32) := ⟨_, rfl⟩
  rw [← e4]
  replace h := h S3 e4
  refine xw.s (pc' := 15) (st' := [.inr (some (1, this))]) rfl ?_
  refine xw.s (pc' := 16) (st' := [.inl (-1 : Int32), .inr (some (1, this))]) rfl ?_
  refine xw.fp (c := 1) (j := 5) (ty := 0) (nx := 19) rfl rfl (Or.inl rfl) ?_
  obtain ⟨S5, e6⟩ : ∃ s, s = xm_si S3 1 this 5 (-1 : Int32) := ⟨_, rfl⟩
  rw [← e6]
  replace h := h S5 e6
  refine xw.s (pc' := 20) (st' := [.inr (some (1, this))]) rfl ?_
  refine xw.s (pc' := 21) (st' := [.inl a1, .inr (some (1, this))]) rfl ?_
  refine xw.fp (c := 1) (j := 0) (ty := 0) (nx := 24) rfl rfl (Or.inl rfl) ?_
  obtain ⟨S7, e8⟩ : ∃ s, s = xm_si S5 1 this 0 a1 := ⟨_, rfl⟩
  rw [← e8]
  replace h := h S7 e8
  refine xw.s (pc' := 25) (st' := [.inr (some (1, this))]) rfl ?_
  refine xw.s (pc' := 26) (st' := [.inl a2, .inr (some (1, this))]) rfl ?_
  refine xw.fp (c := 1) (j := 1) (ty := 0) (nx := 29) rfl rfl (Or.inl rfl) ?_
  obtain ⟨S9, e10⟩ : ∃ s, s = xm_si S7 1 this 1 a2 := ⟨_, rfl⟩
  rw [← e10]
  replace h := h S9 e10
  refine xw.s (pc' := 30) (st' := [.inr (some (1, this))]) rfl ?_
  refine xw.s (pc' := 31) (st' := [.inl a3, .inr (some (1, this))]) rfl ?_
  refine xw.fp (c := 1) (j := 2) (ty := 0) (nx := 34) rfl rfl (Or.inl rfl) ?_
  obtain ⟨S11, e12⟩ : ∃ s, s = xm_si S9 1 this 2 a3 := ⟨_, rfl⟩
  rw [← e12]
  replace h := h S11 e12
  exact xw.ret (r := none) rfl h
/-- newCall -/
theorem cw_newCall {d : Nat} {this : Nat} {a1 : Int32} {a2 : Nat} {a3 : Option Nat} {a4 : Option Nat} {a5 : Int32} {S : xm_S} {Q : Option xm_V → xm_S → Prop} (hC : xk_C S) (h : ∀ S1, S1 = xm_sr S 2 this 6 none → (∀ S3, S3 = xm_si S1 2 this 7 (-1 : Int32) → (∀ S5, S5 = xm_si S3 2 this 8 (0 : Int32) → (∀ S7, S7 = xm_si S5 2 this 9 (-1 : Int32) → (∀ S9, S9 = xm_si S7 2 this 10 (0 : Int32) → (∀ S11, S11 = xm_sr S9 2 this 11 none → (∀ S13, S13 = xm_si S11 2 this 12 (-1 : Int32) → (∀ S15, S15 = xm_si S13 2 this 13 (0 : Int32) → (∀ S17, S17 = xm_si S15 2 this 14 (0 : Int32) → (∀ S19, S19 = xm_sr S17 2 this 15 none → (∀ S21, S21 = xm_si S19 2 this 16 (0 : Int32) → (∀ S23, S23 = xm_sr S21 2 this 17 none → (∀ S25, S25 = xm_sr S23 2 this 18 none → (∀ S27, S27 = xm_si S25 2 this 19 (0 : Int32) → (∀ S29, S29 = xm_si S27 2 this 0 a1 → (∀ S31, S31 = xm_sr S29 2 this 1 (some a2) → (∀ S33, S33 = xm_sr S31 2 this 2 a3 → ((a3 = none → ∀ S36, S36 = xm_si S33 2 this 3 (0 : Int32) → (∀ S38, S38 = xm_sr S36 2 this 4 a4 → (∀ S40, S40 = xm_si S38 2 this 5 a5 → (Q none S40)))) ∧ (∀ k35, a3 = some k35 → ∀ S42, S42 = xm_si S33 2 this 3 ((xm_i S 2 k35 3) + (1 : Int32)) → (∀ S44, S44 = xm_sr S42 2 this 4 a4 → (∀ S46, S46 = xm_si S44 2 this 5 a5 → (Q none S46)))))))))))))))))))))) : xc (d) 93 [.inr (some (2, this)), .inl a1, .inr (some (6, a2)), .inr (xo 2 a3), .inr (xo 5 a4), .inl a5] S Q := by
  show xw _ _ _ [some (.inr (some (2, this))), some (.inl a1), some (.inr (some (6, a2))), some (.inr (xo 2 a3)), some (.inr (xo 5 a4)), some (.inl a5)] _ _ _
  refine xw.s (pc' := 1) (st' := [.inr (some (2, this))]) rfl ?_
  refine xw.s (pc' := 4) (st' := []) rfl ?_
  refine xw.s (pc' := 5) (st' := [.inr (some (2, this))]) rfl ?_
  refine xw.s (pc' := 6) (st' := [.inr none, .inr (some (2, this))]) rfl ?_
  refine xw.fq (c := 2) (j := 6) (e := 9) (nx := 9) (t := none) rfl rfl ?_
  obtain ⟨S1, e2⟩ : ∃ s, s = xm_sr S 2 this 6 none := ⟨_, rfl⟩
  rw [← e2]
  replace h := h S1 e2
  refine xw.s (pc' := 10) (st' := [.inr (some (2, this))]) rfl ?_
  refine xw.s (pc' := 11) (st' := [.inl (-1 : Int32), .inr (some (2, this))]) rfl ?_
  refine xw.fp (c := 2) (j := 7) (ty := 0) (nx := 14) rfl rfl (Or.inl rfl) ?_
  obtain ⟨S3, e4⟩ : ∃ s, s = xm_si S1 2 this 7 (-1 : Int32) := ⟨_, rfl⟩
  rw [← e4]
  replace h := h S3 e4
  refine xw.s (pc' := 15) (st' := [.inr (some (2, this))]) rfl ?_
  refine xw.s (pc' := 16) (st' := [.inl (0 : Int32), .inr (some (2, this))]) rfl ?_
  refine xw.fp (c := 2) (j := 8) (ty := 0) (nx := 19) rfl rfl (Or.inl rfl) ?_
  obtain ⟨S5, e6⟩ : ∃ s, s = xm_si S3 2 this 8 (0 : Int32) := ⟨_, rfl⟩
  rw [← e6]
  replace h := h S5 e6
  refine xw.s (pc' := 20) (st' := [.inr (some (2, this))]) rfl ?_
  refine xw.s (pc' := 21) (st' := [.inl (-1 : Int32), .inr (some (2, this))]) rfl ?_
  refine xw.fp (c := 2) (j := 9) (ty := 0) (nx := 24) rfl rfl (Or.inl rfl) ?_
  obtain ⟨S7, e8⟩ : ∃ s, s = xm_si S5 2 this 9 (-1 : Int32) := ⟨_, rfl⟩
  rw [← e8]
  replace h := h S7 e8
  refine xw.s (pc' := 25) (st' := [.inr (some (2, this))]) rfl ?_
  refine xw.s (pc' := 26) (st' := [.inl (0 : Int32), .inr (some (2, this))]) rfl ?_
  refine xw.fp (c := 2) (j := 10) (ty := 1) (nx := 29) rfl rfl (Or.inr ⟨rfl, Or.inl rfl⟩) ?_
  obtain ⟨S9, e10⟩ : ∃ s, s = xm_si S7 2 this 10 (0 : Int32) := ⟨_, rfl⟩
  rw [← e10]
  replace h := h S9 e10
  refine xw.s (pc' := 30) (st' := [.inr (some (2, this))]) rfl ?_
  refine xw.s (pc' := 31) (st' := [.inr none, .inr (some (2, this))]) rfl ?_
  refine xw.fq (c := 2) (j := 11) (e := 4) (nx := 34) (t := none) rfl rfl ?_
  obtain ⟨S11, e12⟩ : ∃ s, s = xm_sr S9 2 this 11 none := ⟨_, rfl⟩
  rw [← e12]
  replace h := h S11 e12
  refine xw.s (pc' := 35) (st' := [.inr (some (2, this))]) rfl ?_
  refine xw.s (pc' := 36) (st' := [.inl (-1 : Int32), .inr (some (2, this))]) rfl ?_
  refine xw.fp (c := 2) (j := 12) (ty := 0) (nx := 39) rfl rfl (Or.inl rfl) ?_
  obtain ⟨S13, e14⟩ : ∃ s, s = xm_si S11 2 this 12 (-1 : Int32) := ⟨_, rfl⟩
  rw [← e14]
  replace h := h S13 e14
  refine xw.s (pc' := 40) (st' := [.inr (some (2, this))]) rfl ?_
  refine xw.s (pc' := 41) (st' := [.inl (0 : Int32), .inr (some (2, this))]) rfl ?_
  refine xw.fp (c := 2) (j := 13) (ty := 0) (nx := 44) rfl rfl (Or.inl rfl) ?_
  obtain ⟨S15, e16⟩ : ∃ s, s = xm_si S13 2 this 13 (0 : Int32) := ⟨_, rfl⟩
  rw [← e16]
  replace h := h S15 e16
  refine xw.s (pc' := 45) (st' := [.inr (some (2, this))]) rfl ?_
  refine xw.s (pc' := 46) (st' := [.inl (0 : Int32), .inr (some (2, this))]) rfl ?_
  refine xw.fp (c := 2) (j := 14) (ty := 1) (nx := 49) rfl rfl (Or.inr ⟨rfl, Or.inl rfl⟩) ?_
  obtain ⟨S17, e18⟩ : ∃ s, s = xm_si S15 2 this 14 (0 : Int32) := ⟨_, rfl⟩
  rw [← e18]
  replace h := h S17 e18
  refine xw.s (pc' := 50) (st' := [.inr (some (2, this))]) rfl ?_
  refine xw.s (pc' := 51) (st' := [.inr none, .inr (some (2, this))]) rfl ?_
  refine xw.fq (c := 2) (j := 15) (e := 2) (nx := 54) (t := none) rfl rfl ?_
  obtain ⟨S19, e20⟩ : ∃ s, s = xm_sr S17 2 this 15 none := ⟨_, rfl⟩
  rw [← e20]
  replace h := h S19 e20
  refine xw.s (pc' := 55) (st' := [.inr (some (2, this))]) rfl ?_
  refine xw.s (pc' := 56) (st' := [.inl (0 : Int32), .inr (some (2, this))]) rfl ?_
  refine xw.fp (c := 2) (j := 16) (ty := 0) (nx := 59) rfl rfl (Or.inl rfl) ?_
  obtain ⟨S21, e22⟩ : ∃ s, s = xm_si S19 2 this 16 (0 : Int32) := ⟨_, rfl⟩
  rw [← e22]
  replace h := h S21 e22
  refine xw.s (pc' := 60) (st' := [.inr (some (2, this))]) rfl ?_
  refine xw.s (pc' := 61) (st' := [.inr none, .inr (some (2, this))]) rfl ?_
  refine xw.fq (c := 2) (j := 17) (e := 2) (nx := 64) (t := none) rfl rfl ?_
  obtain ⟨S23, e24⟩ : ∃ s, s = xm_sr S21 2 this 17 none := ⟨_, rfl⟩
  rw [← e24]
  replace h := h S23 e24
  refine xw.s (pc' := 65) (st' := [.inr (some (2, this))]) rfl ?_
  refine xw.s (pc' := 66) (st' := [.inr none, .inr (some (2, this))]) rfl ?_
  refine xw.fq (c := 2) (j := 18) (e := 2) (nx := 69) (t := none) rfl rfl ?_
  obtain ⟨S25, e26⟩ : ∃ s, s = xm_sr S23 2 this 18 none := ⟨_, rfl⟩
  rw [← e26]
  replace h := h S25 e26
  refine xw.s (pc' := 70) (st' := [.inr (some (2, this))]) rfl ?_
  refine xw.s (pc' := 71) (st' := [.inl (0 : Int32), .inr (some (2, this))]) rfl ?_
  refine xw.fp (c := 2) (j := 19) (ty := 0) (nx := 74) rfl rfl (Or.inl rfl) ?_
  obtain ⟨S27, e28⟩ : ∃ s, s = xm_si S25 2 this 19 (0 : Int32) := ⟨_, rfl⟩
  rw [← e28]
  replace h := h S27 e28
  refine xw.s (pc' := 75) (st' := [.inr (some (2, this))]) rfl ?_
  refine xw.s (pc' := 76) (st' := [.inl a1, .inr (some (2, this))]) rfl ?_
  refine xw.fp (c := 2) (j := 0) (ty := 0) (nx := 79) rfl rfl (Or.inl rfl) ?_
  obtain ⟨S29, e30⟩ : ∃ s, s = xm_si S27 2 this 0 a1 := ⟨_, rfl⟩
  rw [← e30]
  replace h := h S29 e30
  refine xw.s (pc' := 80) (st' := [.inr (some (2, this))]) rfl ?_
  refine xw.s (pc' := 81) (st' := [.inr (some (6, a2)), .inr (some (2, this))]) rfl ?_
  refine xw.fq (c := 2) (j := 1) (e := 6) (nx := 84) (t := (some a2)) rfl rfl ?_
  obtain ⟨S31, e32⟩ : ∃ s, s = xm_sr S29 2 this 1 (some a2) := ⟨_, rfl⟩
  rw [← e32]
  replace h := h S31 e32
  refine xw.s (pc' := 85) (st' := [.inr (some (2, this))]) rfl ?_
  refine xw.s (pc' := 86) (st' := [.inr (xo 2 a3), .inr (some (2, this))]) rfl ?_
  refine xw.fq (c := 2) (j := 2) (e := 2) (nx := 89) (t := a3) rfl rfl ?_
  obtain ⟨S33, e34⟩ : ∃ s, s = xm_sr S31 2 this 2 a3 := ⟨_, rfl⟩
  rw [← e34]
  replace h := h S33 e34
  refine xw.s (pc' := 90) (st' := [.inr (some (2, this))]) rfl ?_
  refine xw.s (pc' := 91) (st' := [.inr (xo 2 a3), .inr (some (2, this))]) rfl ?_
  refine xw.nnul (o := a3) (t := 98) (nx := 94) rfl rfl ?_
  rcases a3 with _ | k35
  · replace h := h.1 rfl
    show xw _ _ 94 [some (.inr (some (2, this))), some (.inl a1), some (.inr (some (6, a2))), some (.inr none), some (.inr (xo 5 a4)), some (.inl a5)] [.inr (some (2, this))] _ _
    refine xw.s (pc' := 95) (st' := [.inl (0 : Int32), .inr (some (2, this))]) rfl ?_
    refine xw.s (pc' := 104) (st' := [.inl (0 : Int32), .inr (some (2, this))]) rfl ?_
    refine xw.fp (c := 2) (j := 3) (ty := 0) (nx := 107) rfl rfl (Or.inl rfl) ?_
    obtain ⟨S36, e37⟩ : ∃ s, s = xm_si S33 2 this 3 (0 : Int32) := ⟨_, rfl⟩
    rw [← e37]
    replace h := h S36 e37
    refine xw.s (pc' := 108) (st' := [.inr (some (2, this))]) rfl ?_
    refine xw.s (pc' := 110) (st' := [.inr (xo 5 a4), .inr (some (2, this))]) rfl ?_
    refine xw.fq (c := 2) (j := 4) (e := 5) (nx := 113) (t := a4) rfl rfl ?_
    obtain ⟨S38, e39⟩ : ∃ s, s = xm_sr S36 2 this 4 a4 := ⟨_, rfl⟩
    rw [← e39]
    replace h := h S38 e39
    refine xw.s (pc' := 114) (st' := [.inr (some (2, this))]) rfl ?_
    refine xw.s (pc' := 116) (st' := [.inl a5, .inr (some (2, this))]) rfl ?_
    refine xw.fp (c := 2) (j := 5) (ty := 0) (nx := 119) rfl rfl (Or.inl rfl) ?_
    obtain ⟨S40, e41⟩ : ∃ s, s = xm_si S38 2 this 5 a5 := ⟨_, rfl⟩
    rw [← e41]
    replace h := h S40 e41
    exact xw.ret (r := none) rfl h
  · replace h := h.2 k35 rfl
    show xw _ _ 98 [some (.inr (some (2, this))), some (.inl a1), some (.inr (some (6, a2))), some (.inr (some (2, k35))), some (.inr (xo 5 a4)), some (.inl a5)] [.inr (some (2, this))] _ _
    refine xw.s (pc' := 99) (st' := [.inr (some (2, k35)), .inr (some (2, this))]) rfl ?_
    refine xw.fi (c := 2) (j := 3) (ty := 0) (nx := 102) (v := (xm_i S 2 k35 3)) rfl rfl ((congrArg (fun s => xm_i s 2 k35 3) e34).trans ((congrArg (fun s => xm_i s 2 k35 3) e32).trans ((congrArg (fun s => xm_i s 2 k35 3) e30).trans ((xi_si (by decide)).trans ((congrArg (fun s => xm_i s 2 k35 3) e28).trans ((xi_si (by decide)).trans ((congrArg (fun s => xm_i s 2 k35 3) e26).trans ((congrArg (fun s => xm_i s 2 k35 3) e24).trans ((congrArg (fun s => xm_i s 2 k35 3) e22).trans ((xi_si (by decide)).trans ((congrArg (fun s => xm_i s 2 k35 3) e20).trans ((congrArg (fun s => xm_i s 2 k35 3) e18).trans ((xi_si (by decide)).trans ((congrArg (fun s => xm_i s 2 k35 3) e16).trans ((xi_si (by decide)).trans ((congrArg (fun s => xm_i s 2 k35 3) e14).trans ((xi_si (by decide)).trans ((congrArg (fun s => xm_i s 2 k35 3) e12).trans ((congrArg (fun s => xm_i s 2 k35 3) e10).trans ((xi_si (by decide)).trans ((congrArg (fun s => xm_i s 2 k35 3) e8).trans ((xi_si (by decide)).trans ((congrArg (fun s => xm_i s 2 k35 3) e6).trans ((xi_si (by decide)).trans ((congrArg (fun s => xm_i s 2 k35 3) e4).trans ((xi_si (by decide)).trans ((congrArg (fun s => xm_i s 2 k35 3) e2).trans rfl))))))))))))))))))))))))))) ?_
    refine xw.s (pc' := 103) (st' := [.inl (1 : Int32), .inl (xm_i S 2 k35 3), .inr (some (2, this))]) rfl ?_
    refine xw.s (pc' := 104) (st' := [.inl ((xm_i S 2 k35 3) + (1 : Int32)), .inr (some (2, this))]) rfl ?_
    refine xw.fp (c := 2) (j := 3) (ty := 0) (nx := 107) rfl rfl (Or.inl rfl) ?_
    obtain ⟨S42, e43⟩ : ∃ s, s = xm_si S33 2 this 3 ((xm_i S 2 k35 3) + (1 : Int32)) := ⟨_, rfl⟩
    rw [← e43]
    replace h := h S42 e43
    refine xw.s (pc' := 108) (st' := [.inr (some (2, this))]) rfl ?_
    refine xw.s (pc' := 110) (st' := [.inr (xo 5 a4), .inr (some (2, this))]) rfl ?_
    refine xw.fq (c := 2) (j := 4) (e := 5) (nx := 113) (t := a4) rfl rfl ?_
    obtain ⟨S44, e45⟩ : ∃ s, s = xm_sr S42 2 this 4 a4 := ⟨_, rfl⟩
    rw [← e45]
    replace h := h S44 e45
    refine xw.s (pc' := 114) (st' := [.inr (some (2, this))]) rfl ?_
    refine xw.s (pc' := 116) (st' := [.inl a5, .inr (some (2, this))]) rfl ?_
    refine xw.fp (c := 2) (j := 5) (ty := 0) (nx := 119) rfl rfl (Or.inl rfl) ?_
    obtain ⟨S46, e47⟩ : ∃ s, s = xm_si S44 2 this 5 a5 := ⟨_, rfl⟩
    rw [← e47]
    replace h := h S46 e47
    exact xw.ret (r := none) rfl h
/-- newEffect -/
theorem cw_newEffect {d : Nat} {this : Nat} {a1 : Nat} {a2 : Nat} {a3 : Int32} {a4 : Int32} {S : xm_S} {Q : Option xm_V → xm_S → Prop} (hC : xk_C S) (h : ∀ S1, S1 = xm_sr S 3 this 0 (some a1) → (∀ S3, S3 = xm_sr S1 3 this 1 (some a2) → (∀ S5, S5 = xm_si S3 3 this 2 a3 → (∀ S7, S7 = xm_si S5 3 this 3 a4 → (Q none S7))))) : xc (d) 96 [.inr (some (3, this)), .inr (some (9, a1)), .inr (some (6, a2)), .inl a3, .inl a4] S Q := by
  show xw _ _ _ [some (.inr (some (3, this))), some (.inr (some (9, a1))), some (.inr (some (6, a2))), some (.inl a3), some (.inl a4)] _ _ _
  refine xw.s (pc' := 1) (st' := [.inr (some (3, this))]) rfl ?_
  refine xw.s (pc' := 4) (st' := []) rfl ?_
  refine xw.s (pc' := 5) (st' := [.inr (some (3, this))]) rfl ?_
  refine xw.s (pc' := 6) (st' := [.inr (some (9, a1)), .inr (some (3, this))]) rfl ?_
  refine xw.fq (c := 3) (j := 0) (e := 9) (nx := 9) (t := (some a1)) rfl rfl ?_
  obtain ⟨S1, e2⟩ : ∃ s, s = xm_sr S 3 this 0 (some a1) := ⟨_, rfl⟩
  rw [← e2]
  replace h := h S1 e2
  refine xw.s (pc' := 10) (st' := [.inr (some (3, this))]) rfl ?_
  refine xw.s (pc' := 11) (st' := [.inr (some (6, a2)), .inr (some (3, this))]) rfl ?_
  refine xw.fq (c := 3) (j := 1) (e := 6) (nx := 14) (t := (some a2)) rfl rfl ?_
  obtain ⟨S3, e4⟩ : ∃ s, s = xm_sr S1 3 this 1 (some a2) := ⟨_, rfl⟩
  rw [← e4]
  replace h := h S3 e4
  refine xw.s (pc' := 15) (st' := [.inr (some (3, this))]) rfl ?_
  refine xw.s (pc' := 16) (st' := [.inl a3, .inr (some (3, this))]) rfl ?_
  refine xw.fp (c := 3) (j := 2) (ty := 0) (nx := 19) rfl rfl (Or.inl rfl) ?_
  obtain ⟨S5, e6⟩ : ∃ s, s = xm_si S3 3 this 2 a3 := ⟨_, rfl⟩
  rw [← e6]
  replace h := h S5 e6
  refine xw.s (pc' := 20) (st' := [.inr (some (3, this))]) rfl ?_
  refine xw.s (pc' := 22) (st' := [.inl a4, .inr (some (3, this))]) rfl ?_
  refine xw.fp (c := 3) (j := 3) (ty := 0) (nx := 25) rfl rfl (Or.inl rfl) ?_
  obtain ⟨S7, e8⟩ : ∃ s, s = xm_si S5 3 this 3 a4 := ⟨_, rfl⟩
  rw [← e8]
  replace h := h S7 e8
  exact xw.ret (r := none) rfl h
/-- newFailure -/
theorem cw_newFailure {d : Nat} {this : Nat} {a1 : Int32} {a2 : Int32} {a3 : Int32} {a4 : Option Nat} {a5 : Option Nat} {S : xm_S} {Q : Option xm_V → xm_S → Prop} (hC : xk_C S) (h : ∀ S1, S1 = xm_sr S 4 this 5 none → (∀ S3, S3 = xm_sr S1 4 this 6 none → (∀ S5, S5 = xm_si S3 4 this 0 a1 → (∀ S7, S7 = xm_si S5 4 this 1 a2 → (∀ S9, S9 = xm_si S7 4 this 2 a3 → (∀ S11, S11 = xm_sr S9 4 this 3 a4 → (∀ S13, S13 = xm_sr S11 4 this 4 a5 → (Q none S13)))))))) : xc (d) 97 [.inr (some (4, this)), .inl a1, .inl a2, .inl a3, .inr (xo 5 a4), .inr (xo 9 a5)] S Q := by
  show xw _ _ _ [some (.inr (some (4, this))), some (.inl a1), some (.inl a2), some (.inl a3), some (.inr (xo 5 a4)), some (.inr (xo 9 a5))] _ _ _
  refine xw.s (pc' := 1) (st' := [.inr (some (4, this))]) rfl ?_
  refine xw.s (pc' := 4) (st' := []) rfl ?_
  refine xw.s (pc' := 5) (st' := [.inr (some (4, this))]) rfl ?_
  refine xw.s (pc' := 6) (st' := [.inr none, .inr (some (4, this))]) rfl ?_
  refine xw.fq (c := 4) (j := 5) (e := 4) (nx := 9) (t := none) rfl rfl ?_
  obtain ⟨S1, e2⟩ : ∃ s, s = xm_sr S 4 this 5 none := ⟨_, rfl⟩
  rw [← e2]
  replace h := h S1 e2
  refine xw.s (pc' := 10) (st' := [.inr (some (4, this))]) rfl ?_
  refine xw.s (pc' := 11) (st' := [.inr none, .inr (some (4, this))]) rfl ?_
  refine xw.fq (c := 4) (j := 6) (e := 4) (nx := 14) (t := none) rfl rfl ?_
  obtain ⟨S3, e4⟩ : ∃ s, s = xm_sr S1 4 this 6 none := ⟨_, rfl⟩
  rw [← e4]
  replace h := h S3 e4
  refine xw.s (pc' := 15) (st' := [.inr (some (4, this))]) rfl ?_
  refine xw.s (pc' := 16) (st' := [.inl a1, .inr (some (4, this))]) rfl ?_
  refine xw.fp (c := 4) (j := 0) (ty := 0) (nx := 19) rfl rfl (Or.inl rfl) ?_
  obtain ⟨S5, e6⟩ : ∃ s, s = xm_si S3 4 this 0 a1 := ⟨_, rfl⟩
  rw [← e6]
  replace h := h S5 e6
  refine xw.s (pc' := 20) (st' := [.inr (some (4, this))]) rfl ?_
  refine xw.s (pc' := 21) (st' := [.inl a2, .inr (some (4, this))]) rfl ?_
  refine xw.fp (c := 4) (j := 1) (ty := 0) (nx := 24) rfl rfl (Or.inl rfl) ?_
  obtain ⟨S7, e8⟩ : ∃ s, s = xm_si S5 4 this 1 a2 := ⟨_, rfl⟩
  rw [← e8]
  replace h := h S7 e8
  refine xw.s (pc' := 25) (st' := [.inr (some (4, this))]) rfl ?_
  refine xw.s (pc' := 26) (st' := [.inl a3, .inr (some (4, this))]) rfl ?_
  refine xw.fp (c := 4) (j := 2) (ty := 0) (nx := 29) rfl rfl (Or.inl rfl) ?_
  obtain ⟨S9, e10⟩ : ∃ s, s = xm_si S7 4 this 2 a3 := ⟨_, rfl⟩
  rw [← e10]
  replace h := h S9 e10
  refine xw.s (pc' := 30) (st' := [.inr (some (4, this))]) rfl ?_
  refine xw.s (pc' := 32) (st' := [.inr (xo 5 a4), .inr (some (4, this))]) rfl ?_
  refine xw.fq (c := 4) (j := 3) (e := 5) (nx := 35) (t := a4) rfl rfl ?_
  obtain ⟨S11, e12⟩ : ∃ s, s = xm_sr S9 4 this 3 a4 := ⟨_, rfl⟩
  rw [← e12]
  replace h := h S11 e12
  refine xw.s (pc' := 36) (st' := [.inr (some (4, this))]) rfl ?_
  refine xw.s (pc' := 38) (st' := [.inr (xo 9 a5), .inr (some (4, this))]) rfl ?_
  refine xw.fq (c := 4) (j := 4) (e := 9) (nx := 41) (t := a5) rfl rfl ?_
  obtain ⟨S13, e14⟩ : ∃ s, s = xm_sr S11 4 this 4 a5 := ⟨_, rfl⟩
  rw [← e14]
  replace h := h S13 e14
  exact xw.ret (r := none) rfl h
/-- newGuard -/
theorem cw_newGuard {d : Nat} {this : Nat} {a1 : Int32} {a2 : Int32} {a3 : Int32} {a4 : Int32} {a5 : Int32} {a6 : Int32} {S : xm_S} {Q : Option xm_V → xm_S → Prop} (hC : xk_C S) (h : ∀ S1, S1 = xm_si S 5 this 6 (0 : Int32) → (∀ S3, S3 = xm_si S1 5 this 7 (0 : Int32) → (∀ S5, S5 = xm_si S3 5 this 8 (0 : Int32) → (∀ S7, S7 = xm_sr S5 5 this 9 none → (∀ S9, S9 = xm_si S7 5 this 10 (0 : Int32) → (∀ S11, S11 = xm_si S9 5 this 11 (0 : Int32) → (∀ k13, k13 = xm_n S11 0 12 → (∀ S15, S15 = xm_mk 12 3 S11 → (xm_n S15 2 k13 = 0 ∧ (∀ S18, S18 = xm_sn S15 2 k13 1 → (∀ S20, S20 = xm_sr S18 5 this 12 (some k13) → (∀ k22, k22 = xm_n S20 0 15 → (∀ S24, S24 = xm_mk 15 8 S20 → (∀ S26, S26 = xm_sr S24 5 this 14 (some k22) → (∀ S28, S28 = xm_si S26 5 this 0 a1 → (∀ S30, S30 = xm_si S28 5 this 1 a2 → (∀ S32, S32 = xm_si S30 5 this 2 a3 → (∀ S34, S34 = xm_si S32 5 this 3 a4 → (∀ S36, S36 = xm_si S34 5 this 4 a5 → (∀ S38, S38 = xm_si S36 5 this 5 a6 → (∀ S40, S40 = xm_si S38 5 this 13 a3 → (Q none S40)))))))))))))))))))))) : xc (d) 98 [.inr (some (5, this)), .inl a1, .inl a2, .inl a3, .inl a4, .inl a5, .inl a6] S Q := by
  show xw _ _ _ [some (.inr (some (5, this))), some (.inl a1), some (.inl a2), some (.inl a3), some (.inl a4), some (.inl a5), some (.inl a6)] _ _ _
  refine xw.s (pc' := 1) (st' := [.inr (some (5, this))]) rfl ?_
  refine xw.s (pc' := 4) (st' := []) rfl ?_
  refine xw.s (pc' := 5) (st' := [.inr (some (5, this))]) rfl ?_
  refine xw.s (pc' := 6) (st' := [.inl (0 : Int32), .inr (some (5, this))]) rfl ?_
  refine xw.fp (c := 5) (j := 6) (ty := 0) (nx := 9) rfl rfl (Or.inl rfl) ?_
  obtain ⟨S1, e2⟩ : ∃ s, s = xm_si S 5 this 6 (0 : Int32) := ⟨_, rfl⟩
  rw [← e2]
  replace h := h S1 e2
  refine xw.s (pc' := 10) (st' := [.inr (some (5, this))]) rfl ?_
  refine xw.s (pc' := 11) (st' := [.inl (0 : Int32), .inr (some (5, this))]) rfl ?_
  refine xw.fp (c := 5) (j := 7) (ty := 0) (nx := 14) rfl rfl (Or.inl rfl) ?_
  obtain ⟨S3, e4⟩ : ∃ s, s = xm_si S1 5 this 7 (0 : Int32) := ⟨_, rfl⟩
  rw [← e4]
  replace h := h S3 e4
  refine xw.s (pc' := 15) (st' := [.inr (some (5, this))]) rfl ?_
  refine xw.s (pc' := 16) (st' := [.inl (0 : Int32), .inr (some (5, this))]) rfl ?_
  refine xw.fp (c := 5) (j := 8) (ty := 0) (nx := 19) rfl rfl (Or.inl rfl) ?_
  obtain ⟨S5, e6⟩ : ∃ s, s = xm_si S3 5 this 8 (0 : Int32) := ⟨_, rfl⟩
  rw [← e6]
  replace h := h S5 e6
  refine xw.s (pc' := 20) (st' := [.inr (some (5, this))]) rfl ?_
  refine xw.s (pc' := 21) (st' := [.inr none, .inr (some (5, this))]) rfl ?_
  refine xw.fq (c := 5) (j := 9) (e := 2) (nx := 24) (t := none) rfl rfl ?_
  obtain ⟨S7, e8⟩ : ∃ s, s = xm_sr S5 5 this 9 none := ⟨_, rfl⟩
  rw [← e8]
  replace h := h S7 e8
  refine xw.s (pc' := 25) (st' := [.inr (some (5, this))]) rfl ?_
  refine xw.s (pc' := 26) (st' := [.inl (0 : Int32), .inr (some (5, this))]) rfl ?_
  refine xw.fp (c := 5) (j := 10) (ty := 0) (nx := 29) rfl rfl (Or.inl rfl) ?_
  obtain ⟨S9, e10⟩ : ∃ s, s = xm_si S7 5 this 10 (0 : Int32) := ⟨_, rfl⟩
  rw [← e10]
  replace h := h S9 e10
  refine xw.s (pc' := 30) (st' := [.inr (some (5, this))]) rfl ?_
  refine xw.s (pc' := 31) (st' := [.inl (0 : Int32), .inr (some (5, this))]) rfl ?_
  refine xw.fp (c := 5) (j := 11) (ty := 0) (nx := 34) rfl rfl (Or.inl rfl) ?_
  obtain ⟨S11, e12⟩ : ∃ s, s = xm_si S9 5 this 11 (0 : Int32) := ⟨_, rfl⟩
  rw [← e12]
  replace h := h S11 e12
  refine xw.s (pc' := 35) (st' := [.inr (some (5, this))]) rfl ?_
  refine xw.s (pc' := 38) (st' := [.inr (some (12, (xm_n S11 0 12))), .inr (some (5, this))]) (S1 := xm_mk 12 3 S11) rfl ?_
  obtain ⟨k13, q14⟩ : ∃ k, k = xm_n S11 0 12 := ⟨_, rfl⟩
  rw [← q14]
  replace h := h k13 q14
  obtain ⟨S15, e16⟩ : ∃ s, s = xm_mk 12 3 S11 := ⟨_, rfl⟩
  rw [← e16]
  replace h := h S15 e16
  refine xw.s (pc' := 39) (st' := [.inr (some (12, k13)), .inr (some (12, k13)), .inr (some (5, this))]) rfl ?_
  obtain ⟨z17, h⟩ := h
  refine xw.lini (nx := 42) rfl (Nat.le_of_ble_eq_true rfl) z17 ?_
  obtain ⟨S18, e19⟩ : ∃ s, s = xm_sn S15 2 k13 1 := ⟨_, rfl⟩
  rw [← e19]
  replace h := h S18 e19
  refine xw.fq (c := 5) (j := 12) (e := 12) (nx := 45) (t := (some k13)) rfl rfl ?_
  obtain ⟨S20, e21⟩ : ∃ s, s = xm_sr S18 5 this 12 (some k13) := ⟨_, rfl⟩
  rw [← e21]
  replace h := h S20 e21
  refine xw.s (pc' := 46) (st' := [.inr (some (5, this))]) rfl ?_
  refine xw.s (pc' := 48) (st' := [.inl (8 : Int32), .inr (some (5, this))]) rfl ?_
  refine xw.s (pc' := 51) (st' := [.inr (some (15, (xm_n S20 0 15))), .inr (some (5, this))]) (S1 := xm_mk 15 8 S20) rfl ?_
  obtain ⟨k22, q23⟩ : ∃ k, k = xm_n S20 0 15 := ⟨_, rfl⟩
  rw [← q23]
  replace h := h k22 q23
  obtain ⟨S24, e25⟩ : ∃ s, s = xm_mk 15 8 S20 := ⟨_, rfl⟩
  rw [← e25]
  replace h := h S24 e25
  refine xw.fq (c := 5) (j := 14) (e := 15) (nx := 54) (t := (some k22)) rfl rfl ?_
  obtain ⟨S26, e27⟩ : ∃ s, s = xm_sr S24 5 this 14 (some k22) := ⟨_, rfl⟩
  rw [← e27]
  replace h := h S26 e27
  refine xw.s (pc' := 55) (st' := [.inr (some (5, this))]) rfl ?_
  refine xw.s (pc' := 56) (st' := [.inl a1, .inr (some (5, this))]) rfl ?_
  refine xw.fp (c := 5) (j := 0) (ty := 0) (nx := 59) rfl rfl (Or.inl rfl) ?_
  obtain ⟨S28, e29⟩ : ∃ s, s = xm_si S26 5 this 0 a1 := ⟨_, rfl⟩
  rw [← e29]
  replace h := h S28 e29
  refine xw.s (pc' := 60) (st' := [.inr (some (5, this))]) rfl ?_
  refine xw.s (pc' := 61) (st' := [.inl a2, .inr (some (5, this))]) rfl ?_
  refine xw.fp (c := 5) (j := 1) (ty := 0) (nx := 64) rfl rfl (Or.inl rfl) ?_
  obtain ⟨S30, e31⟩ : ∃ s, s = xm_si S28 5 this 1 a2 := ⟨_, rfl⟩
  rw [← e31]
  replace h := h S30 e31
  refine xw.s (pc' := 65) (st' := [.inr (some (5, this))]) rfl ?_
  refine xw.s (pc' := 66) (st' := [.inl a3, .inr (some (5, this))]) rfl ?_
  refine xw.fp (c := 5) (j := 2) (ty := 0) (nx := 69) rfl rfl (Or.inl rfl) ?_
  obtain ⟨S32, e33⟩ : ∃ s, s = xm_si S30 5 this 2 a3 := ⟨_, rfl⟩
  rw [← e33]
  replace h := h S32 e33
  refine xw.s (pc' := 70) (st' := [.inr (some (5, this))]) rfl ?_
  refine xw.s (pc' := 72) (st' := [.inl a4, .inr (some (5, this))]) rfl ?_
  refine xw.fp (c := 5) (j := 3) (ty := 0) (nx := 75) rfl rfl (Or.inl rfl) ?_
  obtain ⟨S34, e35⟩ : ∃ s, s = xm_si S32 5 this 3 a4 := ⟨_, rfl⟩
  rw [← e35]
  replace h := h S34 e35
  refine xw.s (pc' := 76) (st' := [.inr (some (5, this))]) rfl ?_
  refine xw.s (pc' := 78) (st' := [.inl a5, .inr (some (5, this))]) rfl ?_
  refine xw.fp (c := 5) (j := 4) (ty := 0) (nx := 81) rfl rfl (Or.inl rfl) ?_
  obtain ⟨S36, e37⟩ : ∃ s, s = xm_si S34 5 this 4 a5 := ⟨_, rfl⟩
  rw [← e37]
  replace h := h S36 e37
  refine xw.s (pc' := 82) (st' := [.inr (some (5, this))]) rfl ?_
  refine xw.s (pc' := 84) (st' := [.inl a6, .inr (some (5, this))]) rfl ?_
  refine xw.fp (c := 5) (j := 5) (ty := 0) (nx := 87) rfl rfl (Or.inl rfl) ?_
  obtain ⟨S38, e39⟩ : ∃ s, s = xm_si S36 5 this 5 a6 := ⟨_, rfl⟩
  rw [← e39]
  replace h := h S38 e39
  refine xw.s (pc' := 88) (st' := [.inr (some (5, this))]) rfl ?_
  refine xw.s (pc' := 89) (st' := [.inl a3, .inr (some (5, this))]) rfl ?_
  refine xw.fp (c := 5) (j := 13) (ty := 0) (nx := 92) rfl rfl (Or.inl rfl) ?_
  obtain ⟨S40, e41⟩ : ∃ s, s = xm_si S38 5 this 13 a3 := ⟨_, rfl⟩
  rw [← e41]
  replace h := h S40 e41
  exact xw.ret (r := none) rfl h
/-- guardLeaveQueue -/
theorem cw_guardLeaveQueue {d : Nat} {this : Nat} {a1 : Nat} {S : xm_S} {Q : Option xm_V → xm_S → Prop} (hC : xk_C S) (h : xw d 99 2 [some (.inr (some (5, this))), some (.inr (some (2, a1))), some (.inl (0 : Int32))] [] S Q) : xc (d) 99 [.inr (some (5, this)), .inr (some (2, a1))] S Q := by
  show xw _ _ _ [some (.inr (some (5, this))), some (.inr (some (2, a1))), none] _ _ _
  refine xw.s (pc' := 1) (st' := [.inl (0 : Int32)]) rfl ?_
  refine xw.s (pc' := 2) (st' := []) (L' := [some (.inr (some (5, this))), some (.inr (some (2, a1))), some (.inl (0 : Int32))]) rfl ?_
  exact h
theorem cw_guardLeaveQueue_2 {d : Nat} {l0 : Nat} {l1 : Nat} {l2 : Int32} {S : xm_S} {Q : Option xm_V → xm_S → Prop} (hC : xk_C S) (h : ∀ t1, (xm_r S 5 l0 12) = t1 → (∃ k3, t1 = some k3 ∧ (((nI (xm_n S 1 k3)) ≤ l2 → Q none S) ∧ (¬ (nI (xm_n S 1 k3)) ≤ l2 → y_in l2 (xm_n S 1 k3) ∧ (∃ k6, (xm_l S k3 (y_ix l2)) = (2, k6) ∧ ((k6 = l1 → y_in l2 (xm_n S 1 k3) ∧ (∀ S10, S10 = xm_drop k3 (y_ix l2) S → (Q none S10))) ∧ (¬ k6 = l1 → xw d 99 2 [some (.inr (some (5, l0))), some (.inr (some (2, l1))), some (.inl (l2 + (1 : Int32)))] [] S Q))))))) : xw (d) 99 2 [some (.inr (some (5, l0))), some (.inr (some (2, l1))), some (.inl l2)] [] S Q := by
  refine xw.s (pc' := 3) (st' := [.inl l2]) rfl ?_
  refine xw.s (pc' := 4) (st' := [.inr (some (5, l0)), .inl l2]) rfl ?_
  obtain ⟨t1, q2⟩ : ∃ t, (xm_r S 5 l0 12) = t := ⟨_, rfl⟩
  replace h := h t1 q2
  refine xw.fr (c := 5) (j := 12) (e := 12) (nx := 7) (t := t1) rfl rfl q2 ?_
  show xw _ _ _ [some (.inr (some (5, l0))), some (.inr (some (2, l1))), some (.inl l2)] [.inr (xo 12 t1), .inl l2] _ _
  obtain ⟨k3, rfl, h⟩ := h
  refine xw.lsz (nx := 10) (n := (xm_n S 1 k3)) rfl (Nat.le_of_ble_eq_true rfl) rfl ?_
  refine xw.b (c := (nI (xm_n S 1 k3)) ≤ l2) (cd := .ge) (x := l2) (y := (nI (xm_n S 1 k3))) 41 13 (st' := []) rfl (y_cge _ _) h (fun c4 h => ?_) (fun c4 h => ?_)
  · skip
    exact xw.ret (r := none) rfl h
  · skip
    refine xw.s (pc' := 14) (st' := [.inr (some (5, l0))]) rfl ?_
    refine xw.fr (c := 5) (j := 12) (e := 12) (nx := 17) (t := (some k3)) rfl rfl q2 ?_
    show xw _ _ _ [some (.inr (some (5, l0))), some (.inr (some (2, l1))), some (.inl l2)] [.inr (some (12, k3))] _ _
    refine xw.s (pc' := 18) (st' := [.inl l2, .inr (some (12, k3))]) rfl ?_
    obtain ⟨z5, h⟩ := h
    obtain ⟨k6, q7, h⟩ := h
    refine xw.get (nx := 21) (p := (2, k6)) rfl (Nat.le_of_ble_eq_true rfl) z5 q7 ?_
    refine xw.s (pc' := 22) (st' := [.inr (some (2, l1)), .inr (some (2, k6))]) rfl ?_
    refine xw.an (c := 2) (a := (some k6)) (b := (some l1)) (cn := k6 = l1) (t := 35) (nx := 25) rfl rfl (by decide) ⟨fun z => Option.some.inj z, fun z => congrArg some z⟩ h (fun c8 h => ?_) (fun c8 h => ?_)
    · skip
      refine xw.s (pc' := 26) (st' := [.inr (some (5, l0))]) rfl ?_
      refine xw.fr (c := 5) (j := 12) (e := 12) (nx := 29) (t := (some k3)) rfl rfl q2 ?_
      show xw _ _ _ [some (.inr (some (5, l0))), some (.inr (some (2, l1))), some (.inl l2)] [.inr (some (12, k3))] _ _
      refine xw.s (pc' := 30) (st' := [.inl l2, .inr (some (12, k3))]) rfl ?_
      obtain ⟨z9, h⟩ := h
      refine xw.rem (nx := 33) (p := (xm_l S k3 (y_ix l2))) rfl (Nat.le_of_ble_eq_true rfl) z9 rfl ?_
      obtain ⟨S10, e11⟩ : ∃ s, s = xm_drop k3 (y_ix l2) S := ⟨_, rfl⟩
      rw [← e11]
      replace h := h S10 e11
      refine xw.s (pc' := 34) (st' := []) rfl ?_
      exact xw.ret (r := none) rfl h
    · skip
      refine xw.s (pc' := 38) (st' := []) (L' := [some (.inr (some (5, l0))), some (.inr (some (2, l1))), some (.inl (l2 + (1 : Int32)))]) rfl ?_
      refine xw.s (pc' := 2) (st' := []) rfl ?_
      exact h
/-- newOrder -/
theorem cw_newOrder {d : Nat} {this : Nat} {a1 : Int32} {a2 : Nat} {a3 : Nat} {a4 : Int32} {a5 : Int32} {a6 : Int32} {S : xm_S} {Q : Option xm_V → xm_S → Prop} (hC : xk_C S) (h : ∀ S1, S1 = xm_sr S 6 this 6 none → (∀ S3, S3 = xm_si S1 6 this 0 a1 → (∀ S5, S5 = xm_sr S3 6 this 1 (some a2) → (∀ S7, S7 = xm_sr S5 6 this 2 (some a3) → (∀ S9, S9 = xm_si S7 6 this 3 a4 → (∀ S11, S11 = xm_si S9 6 this 4 a5 → (∀ S13, S13 = xm_si S11 6 this 5 a6 → (Q none S13)))))))) : xc (d) 102 [.inr (some (6, this)), .inl a1, .inr (some (10, a2)), .inr (some (9, a3)), .inl a4, .inl a5, .inl a6] S Q := by
  show xw _ _ _ [some (.inr (some (6, this))), some (.inl a1), some (.inr (some (10, a2))), some (.inr (some (9, a3))), some (.inl a4), some (.inl a5), some (.inl a6)] _ _ _
  refine xw.s (pc' := 1) (st' := [.inr (some (6, this))]) rfl ?_
  refine xw.s (pc' := 4) (st' := []) rfl ?_
  refine xw.s (pc' := 5) (st' := [.inr (some (6, this))]) rfl ?_
  refine xw.s (pc' := 6) (st' := [.inr none, .inr (some (6, this))]) rfl ?_
  refine xw.fq (c := 6) (j := 6) (e := 2) (nx := 9) (t := none) rfl rfl ?_
  obtain ⟨S1, e2⟩ : ∃ s, s = xm_sr S 6 this 6 none := ⟨_, rfl⟩
  rw [← e2]
  replace h := h S1 e2
  refine xw.s (pc' := 10) (st' := [.inr (some (6, this))]) rfl ?_
  refine xw.s (pc' := 11) (st' := [.inl a1, .inr (some (6, this))]) rfl ?_
  refine xw.fp (c := 6) (j := 0) (ty := 0) (nx := 14) rfl rfl (Or.inl rfl) ?_
  obtain ⟨S3, e4⟩ : ∃ s, s = xm_si S1 6 this 0 a1 := ⟨_, rfl⟩
  rw [← e4]
  replace h := h S3 e4
  refine xw.s (pc' := 15) (st' := [.inr (some (6, this))]) rfl ?_
  refine xw.s (pc' := 16) (st' := [.inr (some (10, a2)), .inr (some (6, this))]) rfl ?_
  refine xw.fq (c := 6) (j := 1) (e := 10) (nx := 19) (t := (some a2)) rfl rfl ?_
  obtain ⟨S5, e6⟩ : ∃ s, s = xm_sr S3 6 this 1 (some a2) := ⟨_, rfl⟩
  rw [← e6]
  replace h := h S5 e6
  refine xw.s (pc' := 20) (st' := [.inr (some (6, this))]) rfl ?_
  refine xw.s (pc' := 21) (st' := [.inr (some (9, a3)), .inr (some (6, this))]) rfl ?_
  refine xw.fq (c := 6) (j := 2) (e := 9) (nx := 24) (t := (some a3)) rfl rfl ?_
  obtain ⟨S7, e8⟩ : ∃ s, s = xm_sr S5 6 this 2 (some a3) := ⟨_, rfl⟩
  rw [← e8]
  replace h := h S7 e8
  refine xw.s (pc' := 25) (st' := [.inr (some (6, this))]) rfl ?_
  refine xw.s (pc' := 27) (st' := [.inl a4, .inr (some (6, this))]) rfl ?_
  refine xw.fp (c := 6) (j := 3) (ty := 0) (nx := 30) rfl rfl (Or.inl rfl) ?_
  obtain ⟨S9, e10⟩ : ∃ s, s = xm_si S7 6 this 3 a4 := ⟨_, rfl⟩
  rw [← e10]
  replace h := h S9 e10
  refine xw.s (pc' := 31) (st' := [.inr (some (6, this))]) rfl ?_
  refine xw.s (pc' := 33) (st' := [.inl a5, .inr (some (6, this))]) rfl ?_
  refine xw.fp (c := 6) (j := 4) (ty := 0) (nx := 36) rfl rfl (Or.inl rfl) ?_
  obtain ⟨S11, e12⟩ : ∃ s, s = xm_si S9 6 this 4 a5 := ⟨_, rfl⟩
  rw [← e12]
  replace h := h S11 e12
  refine xw.s (pc' := 37) (st' := [.inr (some (6, this))]) rfl ?_
  refine xw.s (pc' := 39) (st' := [.inl a6, .inr (some (6, this))]) rfl ?_
  refine xw.fp (c := 6) (j := 5) (ty := 0) (nx := 42) rfl rfl (Or.inl rfl) ?_
  obtain ⟨S13, e14⟩ : ∃ s, s = xm_si S11 6 this 5 a6 := ⟨_, rfl⟩
  rw [← e14]
  replace h := h S13 e14
  exact xw.ret (r := none) rfl h
/-- newPlan -/
theorem cw_newPlan {d : Nat} {this : Nat} {a1 : Nat} {a2 : Nat} {a3 : Int32} {a4 : Int32} {a5 : Int32} {a6 : Int32} {a7 : Int32} {S : xm_S} {Q : Option xm_V → xm_S → Prop} (hC : xk_C S) (h : ∀ S1, S1 = xm_si S 7 this 7 (0 : Int32) → (∀ S3, S3 = xm_si S1 7 this 8 (0 : Int32) → (∀ S5, S5 = xm_si S3 7 this 9 (-1 : Int32) → (∀ S7, S7 = xm_si S5 7 this 10 (0 : Int32) → (∀ S9, S9 = xm_si S7 7 this 11 (0 : Int32) → (∀ S11, S11 = xm_si S9 7 this 12 (1 : Int32) → (∀ S13, S13 = xm_sr S11 7 this 0 (some a1) → (∀ S15, S15 = xm_sr S13 7 this 1 (some a2) → (∀ S17, S17 = xm_si S15 7 this 2 a3 → (∀ S19, S19 = xm_si S17 7 this 3 a4 → (∀ S21, S21 = xm_si S19 7 this 4 a5 → (∀ S23, S23 = xm_si S21 7 this 5 a6 → (∀ S25, S25 = xm_si S23 7 this 6 a7 → (Q none S25)))))))))))))) : xc (d) 105 [.inr (some (7, this)), .inr (some (10, a1)), .inr (some (9, a2)), .inl a3, .inl a4, .inl a5, .inl a6, .inl a7] S Q := by
  show xw _ _ _ [some (.inr (some (7, this))), some (.inr (some (10, a1))), some (.inr (some (9, a2))), some (.inl a3), some (.inl a4), some (.inl a5), some (.inl a6), some (.inl a7)] _ _ _
  refine xw.s (pc' := 1) (st' := [.inr (some (7, this))]) rfl ?_
  refine xw.s (pc' := 4) (st' := []) rfl ?_
  refine xw.s (pc' := 5) (st' := [.inr (some (7, this))]) rfl ?_
  refine xw.s (pc' := 6) (st' := [.inl (0 : Int32), .inr (some (7, this))]) rfl ?_
  refine xw.fp (c := 7) (j := 7) (ty := 0) (nx := 9) rfl rfl (Or.inl rfl) ?_
  obtain ⟨S1, e2⟩ : ∃ s, s = xm_si S 7 this 7 (0 : Int32) := ⟨_, rfl⟩
  rw [← e2]
  replace h := h S1 e2
  refine xw.s (pc' := 10) (st' := [.inr (some (7, this))]) rfl ?_
  refine xw.s (pc' := 11) (st' := [.inl (0 : Int32), .inr (some (7, this))]) rfl ?_
  refine xw.fp (c := 7) (j := 8) (ty := 0) (nx := 14) rfl rfl (Or.inl rfl) ?_
  obtain ⟨S3, e4⟩ : ∃ s, s = xm_si S1 7 this 8 (0 : Int32) := ⟨_, rfl⟩
  rw [← e4]
  replace h := h S3 e4
  refine xw.s (pc' := 15) (st' := [.inr (some (7, this))]) rfl ?_
  refine xw.s (pc' := 16) (st' := [.inl (-1 : Int32), .inr (some (7, this))]) rfl ?_
  refine xw.fp (c := 7) (j := 9) (ty := 0) (nx := 19) rfl rfl (Or.inl rfl) ?_
  obtain ⟨S5, e6⟩ : ∃ s, s = xm_si S3 7 this 9 (-1 : Int32) := ⟨_, rfl⟩
  rw [← e6]
  replace h := h S5 e6
  refine xw.s (pc' := 20) (st' := [.inr (some (7, this))]) rfl ?_
  refine xw.s (pc' := 21) (st' := [.inl (0 : Int32), .inr (some (7, this))]) rfl ?_
  refine xw.fp (c := 7) (j := 10) (ty := 0) (nx := 24) rfl rfl (Or.inl rfl) ?_
  obtain ⟨S7, e8⟩ : ∃ s, s = xm_si S5 7 this 10 (0 : Int32) := ⟨_, rfl⟩
  rw [← e8]
  replace h := h S7 e8
  refine xw.s (pc' := 25) (st' := [.inr (some (7, this))]) rfl ?_
  refine xw.s (pc' := 26) (st' := [.inl (0 : Int32), .inr (some (7, this))]) rfl ?_
  refine xw.fp (c := 7) (j := 11) (ty := 0) (nx := 29) rfl rfl (Or.inl rfl) ?_
  obtain ⟨S9, e10⟩ : ∃ s, s = xm_si S7 7 this 11 (0 : Int32) := ⟨_, rfl⟩
  rw [← e10]
  replace h := h S9 e10
  refine xw.s (pc' := 30) (st' := [.inr (some (7, this))]) rfl ?_
  refine xw.s (pc' := 31) (st' := [.inl (1 : Int32), .inr (some (7, this))]) rfl ?_
  refine xw.fp (c := 7) (j := 12) (ty := 1) (nx := 34) rfl rfl (Or.inr ⟨rfl, Or.inr rfl⟩) ?_
  obtain ⟨S11, e12⟩ : ∃ s, s = xm_si S9 7 this 12 (1 : Int32) := ⟨_, rfl⟩
  rw [← e12]
  replace h := h S11 e12
  refine xw.s (pc' := 35) (st' := [.inr (some (7, this))]) rfl ?_
  refine xw.s (pc' := 36) (st' := [.inr (some (10, a1)), .inr (some (7, this))]) rfl ?_
  refine xw.fq (c := 7) (j := 0) (e := 10) (nx := 39) (t := (some a1)) rfl rfl ?_
  obtain ⟨S13, e14⟩ : ∃ s, s = xm_sr S11 7 this 0 (some a1) := ⟨_, rfl⟩
  rw [← e14]
  replace h := h S13 e14
  refine xw.s (pc' := 40) (st' := [.inr (some (7, this))]) rfl ?_
  refine xw.s (pc' := 41) (st' := [.inr (some (9, a2)), .inr (some (7, this))]) rfl ?_
  refine xw.fq (c := 7) (j := 1) (e := 9) (nx := 44) (t := (some a2)) rfl rfl ?_
  obtain ⟨S15, e16⟩ : ∃ s, s = xm_sr S13 7 this 1 (some a2) := ⟨_, rfl⟩
  rw [← e16]
  replace h := h S15 e16
  refine xw.s (pc' := 45) (st' := [.inr (some (7, this))]) rfl ?_
  refine xw.s (pc' := 46) (st' := [.inl a3, .inr (some (7, this))]) rfl ?_
  refine xw.fp (c := 7) (j := 2) (ty := 0) (nx := 49) rfl rfl (Or.inl rfl) ?_
  obtain ⟨S17, e18⟩ : ∃ s, s = xm_si S15 7 this 2 a3 := ⟨_, rfl⟩
  rw [← e18]
  replace h := h S17 e18
  refine xw.s (pc' := 50) (st' := [.inr (some (7, this))]) rfl ?_
  refine xw.s (pc' := 52) (st' := [.inl a4, .inr (some (7, this))]) rfl ?_
  refine xw.fp (c := 7) (j := 3) (ty := 0) (nx := 55) rfl rfl (Or.inl rfl) ?_
  obtain ⟨S19, e20⟩ : ∃ s, s = xm_si S17 7 this 3 a4 := ⟨_, rfl⟩
  rw [← e20]
  replace h := h S19 e20
  refine xw.s (pc' := 56) (st' := [.inr (some (7, this))]) rfl ?_
  refine xw.s (pc' := 58) (st' := [.inl a5, .inr (some (7, this))]) rfl ?_
  refine xw.fp (c := 7) (j := 4) (ty := 0) (nx := 61) rfl rfl (Or.inl rfl) ?_
  obtain ⟨S21, e22⟩ : ∃ s, s = xm_si S19 7 this 4 a5 := ⟨_, rfl⟩
  rw [← e22]
  replace h := h S21 e22
  refine xw.s (pc' := 62) (st' := [.inr (some (7, this))]) rfl ?_
  refine xw.s (pc' := 64) (st' := [.inl a6, .inr (some (7, this))]) rfl ?_
  refine xw.fp (c := 7) (j := 5) (ty := 0) (nx := 67) rfl rfl (Or.inl rfl) ?_
  obtain ⟨S23, e24⟩ : ∃ s, s = xm_si S21 7 this 5 a6 := ⟨_, rfl⟩
  rw [← e24]
  replace h := h S23 e24
  refine xw.s (pc' := 68) (st' := [.inr (some (7, this))]) rfl ?_
  refine xw.s (pc' := 70) (st' := [.inl a7, .inr (some (7, this))]) rfl ?_
  refine xw.fp (c := 7) (j := 6) (ty := 0) (nx := 73) rfl rfl (Or.inl rfl) ?_
  obtain ⟨S25, e26⟩ : ∃ s, s = xm_si S23 7 this 6 a7 := ⟨_, rfl⟩
  rw [← e26]
  replace h := h S25 e26
  exact xw.ret (r := none) rfl h
/-- newSpan -/
theorem cw_newSpan {d : Nat} {this : Nat} {a1 : Nat} {a2 : Int32} {a3 : Int32} {a4 : Int32} {a5 : Int32} {S : xm_S} {Q : Option xm_V → xm_S → Prop} (hC : xk_C S) (h : ∀ S1, S1 = xm_sr S 8 this 0 (some a1) → (∀ S3, S3 = xm_si S1 8 this 1 a2 → (∀ S5, S5 = xm_si S3 8 this 2 a3 → (∀ S7, S7 = xm_si S5 8 this 3 a4 → (∀ S9, S9 = xm_si S7 8 this 4 a5 → (Q none S9)))))) : xc (d) 106 [.inr (some (8, this)), .inr (some (9, a1)), .inl a2, .inl a3, .inl a4, .inl a5] S Q := by
  show xw _ _ _ [some (.inr (some (8, this))), some (.inr (some (9, a1))), some (.inl a2), some (.inl a3), some (.inl a4), some (.inl a5)] _ _ _
  refine xw.s (pc' := 1) (st' := [.inr (some (8, this))]) rfl ?_
  refine xw.s (pc' := 4) (st' := []) rfl ?_
  refine xw.s (pc' := 5) (st' := [.inr (some (8, this))]) rfl ?_
  refine xw.s (pc' := 6) (st' := [.inr (some (9, a1)), .inr (some (8, this))]) rfl ?_
  refine xw.fq (c := 8) (j := 0) (e := 9) (nx := 9) (t := (some a1)) rfl rfl ?_
  obtain ⟨S1, e2⟩ : ∃ s, s = xm_sr S 8 this 0 (some a1) := ⟨_, rfl⟩
  rw [← e2]
  replace h := h S1 e2
  refine xw.s (pc' := 10) (st' := [.inr (some (8, this))]) rfl ?_
  refine xw.s (pc' := 11) (st' := [.inl a2, .inr (some (8, this))]) rfl ?_
  refine xw.fp (c := 8) (j := 1) (ty := 0) (nx := 14) rfl rfl (Or.inl rfl) ?_
  obtain ⟨S3, e4⟩ : ∃ s, s = xm_si S1 8 this 1 a2 := ⟨_, rfl⟩
  rw [← e4]
  replace h := h S3 e4
  refine xw.s (pc' := 15) (st' := [.inr (some (8, this))]) rfl ?_
  refine xw.s (pc' := 16) (st' := [.inl a3, .inr (some (8, this))]) rfl ?_
  refine xw.fp (c := 8) (j := 2) (ty := 0) (nx := 19) rfl rfl (Or.inl rfl) ?_
  obtain ⟨S5, e6⟩ : ∃ s, s = xm_si S3 8 this 2 a3 := ⟨_, rfl⟩
  rw [← e6]
  replace h := h S5 e6
  refine xw.s (pc' := 20) (st' := [.inr (some (8, this))]) rfl ?_
  refine xw.s (pc' := 22) (st' := [.inl a4, .inr (some (8, this))]) rfl ?_
  refine xw.fp (c := 8) (j := 3) (ty := 0) (nx := 25) rfl rfl (Or.inl rfl) ?_
  obtain ⟨S7, e8⟩ : ∃ s, s = xm_si S5 8 this 3 a4 := ⟨_, rfl⟩
  rw [← e8]
  replace h := h S7 e8
  refine xw.s (pc' := 26) (st' := [.inr (some (8, this))]) rfl ?_
  refine xw.s (pc' := 28) (st' := [.inl a5, .inr (some (8, this))]) rfl ?_
  refine xw.fp (c := 8) (j := 4) (ty := 0) (nx := 31) rfl rfl (Or.inl rfl) ?_
  obtain ⟨S9, e10⟩ : ∃ s, s = xm_si S7 8 this 4 a5 := ⟨_, rfl⟩
  rw [← e10]
  replace h := h S9 e10
  exact xw.ret (r := none) rfl h
/-- newStation -/
theorem cw_newStation {d : Nat} {this : Nat} {a1 : Int32} {a2 : Int32} {a3 : Int32} {a4 : Int32} {S : xm_S} {Q : Option xm_V → xm_S → Prop} (hC : xk_C S) (h : ∀ S1, S1 = xm_si S 9 this 0 a1 → (∀ S3, S3 = xm_si S1 9 this 3 a2 → (∀ S5, S5 = xm_si S3 9 this 1 a3 → (∀ S7, S7 = xm_si S5 9 this 2 a4 → (Q none S7))))) : xc (d) 108 [.inr (some (9, this)), .inl a1, .inl a2, .inl a3, .inl a4] S Q := by
  show xw _ _ _ [some (.inr (some (9, this))), some (.inl a1), some (.inl a2), some (.inl a3), some (.inl a4)] _ _ _
  refine xw.s (pc' := 1) (st' := [.inr (some (9, this))]) rfl ?_
  refine xw.s (pc' := 4) (st' := []) rfl ?_
  refine xw.s (pc' := 5) (st' := [.inr (some (9, this))]) rfl ?_
  refine xw.s (pc' := 6) (st' := [.inl a1, .inr (some (9, this))]) rfl ?_
  refine xw.fp (c := 9) (j := 0) (ty := 0) (nx := 9) rfl rfl (Or.inl rfl) ?_
  obtain ⟨S1, e2⟩ : ∃ s, s = xm_si S 9 this 0 a1 := ⟨_, rfl⟩
  rw [← e2]
  replace h := h S1 e2
  refine xw.s (pc' := 10) (st' := [.inr (some (9, this))]) rfl ?_
  refine xw.s (pc' := 11) (st' := [.inl a2, .inr (some (9, this))]) rfl ?_
  refine xw.fp (c := 9) (j := 3) (ty := 0) (nx := 14) rfl rfl (Or.inl rfl) ?_
  obtain ⟨S3, e4⟩ : ∃ s, s = xm_si S1 9 this 3 a2 := ⟨_, rfl⟩
  rw [← e4]
  replace h := h S3 e4
  refine xw.s (pc' := 15) (st' := [.inr (some (9, this))]) rfl ?_
  refine xw.s (pc' := 16) (st' := [.inl a3, .inr (some (9, this))]) rfl ?_
  refine xw.fp (c := 9) (j := 1) (ty := 0) (nx := 19) rfl rfl (Or.inl rfl) ?_
  obtain ⟨S5, e6⟩ : ∃ s, s = xm_si S3 9 this 1 a3 := ⟨_, rfl⟩
  rw [← e6]
  replace h := h S5 e6
  refine xw.s (pc' := 20) (st' := [.inr (some (9, this))]) rfl ?_
  refine xw.s (pc' := 22) (st' := [.inl a4, .inr (some (9, this))]) rfl ?_
  refine xw.fp (c := 9) (j := 2) (ty := 0) (nx := 25) rfl rfl (Or.inl rfl) ?_
  obtain ⟨S7, e8⟩ : ∃ s, s = xm_si S5 9 this 2 a4 := ⟨_, rfl⟩
  rw [← e8]
  replace h := h S7 e8
  exact xw.ret (r := none) rfl h
/-- newTower -/
theorem cw_newTower {d : Nat} {this : Nat} {S : xm_S} {Q : Option xm_V → xm_S → Prop} (hC : xk_C S) (h : ∀ k1, k1 = xm_n S 0 12 → (∀ S3, S3 = xm_mk 12 3 S → (xm_n S3 2 k1 = 0 ∧ (∀ S6, S6 = xm_sn S3 2 k1 1 → (∀ S8, S8 = xm_sr S6 10 this 0 (some k1) → (Q none S8)))))) : xc (d) 109 [.inr (some (10, this))] S Q := by
  show xw _ _ _ [some (.inr (some (10, this)))] _ _ _
  refine xw.s (pc' := 1) (st' := [.inr (some (10, this))]) rfl ?_
  refine xw.s (pc' := 4) (st' := []) rfl ?_
  refine xw.s (pc' := 5) (st' := [.inr (some (10, this))]) rfl ?_
  refine xw.s (pc' := 8) (st' := [.inr (some (12, (xm_n S 0 12))), .inr (some (10, this))]) (S1 := xm_mk 12 3 S) rfl ?_
  obtain ⟨k1, q2⟩ : ∃ k, k = xm_n S 0 12 := ⟨_, rfl⟩
  rw [← q2]
  replace h := h k1 q2
  obtain ⟨S3, e4⟩ : ∃ s, s = xm_mk 12 3 S := ⟨_, rfl⟩
  rw [← e4]
  replace h := h S3 e4
  refine xw.s (pc' := 9) (st' := [.inr (some (12, k1)), .inr (some (12, k1)), .inr (some (10, this))]) rfl ?_
  obtain ⟨z5, h⟩ := h
  refine xw.lini (nx := 12) rfl (Nat.le_of_ble_eq_true rfl) z5 ?_
  obtain ⟨S6, e7⟩ : ∃ s, s = xm_sn S3 2 k1 1 := ⟨_, rfl⟩
  rw [← e7]
  replace h := h S6 e7
  refine xw.fq (c := 10) (j := 0) (e := 12) (nx := 15) (t := (some k1)) rfl rfl ?_
  obtain ⟨S8, e9⟩ : ∃ s, s = xm_sr S6 10 this 0 (some k1) := ⟨_, rfl⟩
  rw [← e9]
  replace h := h S8 e9
  exact xw.ret (r := none) rfl h
/-- towerHasSort -/
theorem cw_towerHasSort {d : Nat} {this : Nat} {a1 : Int32} {S : xm_S} {Q : Option xm_V → xm_S → Prop} (hC : xk_C S) (h : xw d 110 2 [some (.inr (some (10, this))), some (.inl a1), some (.inl (0 : Int32))] [] S Q) : xc (d) 110 [.inr (some (10, this)), .inl a1] S Q := by
  show xw _ _ _ [some (.inr (some (10, this))), some (.inl a1), none] _ _ _
  refine xw.s (pc' := 1) (st' := [.inl (0 : Int32)]) rfl ?_
  refine xw.s (pc' := 2) (st' := []) (L' := [some (.inr (some (10, this))), some (.inl a1), some (.inl (0 : Int32))]) rfl ?_
  exact h
theorem cw_towerHasSort_2 {d : Nat} {l0 : Nat} {l1 : Int32} {l2 : Int32} {S : xm_S} {Q : Option xm_V → xm_S → Prop} (hC : xk_C S) (h : ∀ t1, (xm_r S 10 l0 0) = t1 → (∃ k3, t1 = some k3 ∧ (((nI (xm_n S 1 k3)) ≤ l2 → Q (some (.inl (0 : Int32))) S) ∧ (¬ (nI (xm_n S 1 k3)) ≤ l2 → y_in l2 (xm_n S 1 k3) ∧ (∃ k6, (xm_l S k3 (y_ix l2)) = (5, k6) ∧ (((xm_i S 5 k6 1) = l1 → Q (some (.inl (1 : Int32))) S) ∧ (¬ (xm_i S 5 k6 1) = l1 → xw d 110 2 [some (.inr (some (10, l0))), some (.inl l1), some (.inl (l2 + (1 : Int32)))] [] S Q))))))) : xw (d) 110 2 [some (.inr (some (10, l0))), some (.inl l1), some (.inl l2)] [] S Q := by
  refine xw.s (pc' := 3) (st' := [.inl l2]) rfl ?_
  refine xw.s (pc' := 4) (st' := [.inr (some (10, l0)), .inl l2]) rfl ?_
  obtain ⟨t1, q2⟩ : ∃ t, (xm_r S 10 l0 0) = t := ⟨_, rfl⟩
  replace h := h t1 q2
  refine xw.fr (c := 10) (j := 0) (e := 12) (nx := 7) (t := t1) rfl rfl q2 ?_
  show xw _ _ _ [some (.inr (some (10, l0))), some (.inl l1), some (.inl l2)] [.inr (xo 12 t1), .inl l2] _ _
  obtain ⟨k3, rfl, h⟩ := h
  refine xw.lsz (nx := 10) (n := (xm_n S 1 k3)) rfl (Nat.le_of_ble_eq_true rfl) rfl ?_
  refine xw.b (c := (nI (xm_n S 1 k3)) ≤ l2) (cd := .ge) (x := l2) (y := (nI (xm_n S 1 k3))) 39 13 (st' := []) rfl (y_cge _ _) h (fun c4 h => ?_) (fun c4 h => ?_)
  · skip
    refine xw.s (pc' := 40) (st' := [.inl (0 : Int32)]) rfl ?_
    exact xw.retz (nx := 41) rfl (Or.inl rfl) h
  · skip
    refine xw.s (pc' := 14) (st' := [.inr (some (10, l0))]) rfl ?_
    refine xw.fr (c := 10) (j := 0) (e := 12) (nx := 17) (t := (some k3)) rfl rfl q2 ?_
    show xw _ _ _ [some (.inr (some (10, l0))), some (.inl l1), some (.inl l2)] [.inr (some (12, k3))] _ _
    refine xw.s (pc' := 18) (st' := [.inl l2, .inr (some (12, k3))]) rfl ?_
    obtain ⟨z5, h⟩ := h
    obtain ⟨k6, q7, h⟩ := h
    refine xw.get (nx := 21) (p := (5, k6)) rfl (Nat.le_of_ble_eq_true rfl) z5 q7 ?_
    refine xw.s (pc' := 24) (st' := [.inr (some (5, k6))]) rfl ?_
    refine xw.fi (c := 5) (j := 1) (ty := 0) (nx := 27) (v := (xm_i S 5 k6 1)) rfl rfl rfl ?_
    refine xw.s (pc' := 28) (st' := [.inl l1, .inl (xm_i S 5 k6 1)]) rfl ?_
    refine xw.bn (c := (xm_i S 5 k6 1) = l1) (cd := .ne) (x := (xm_i S 5 k6 1)) (y := l1) 33 31 (st' := []) rfl (y_cne _ _) h (fun c8 h => ?_) (fun c8 h => ?_)
    · skip
      refine xw.s (pc' := 32) (st' := [.inl (1 : Int32)]) rfl ?_
      exact xw.retz (nx := 33) rfl (Or.inr rfl) h
    · skip
      refine xw.s (pc' := 36) (st' := []) (L' := [some (.inr (some (10, l0))), some (.inl l1), some (.inl (l2 + (1 : Int32)))]) rfl ?_
      refine xw.s (pc' := 2) (st' := []) rfl ?_
      exact h
end
