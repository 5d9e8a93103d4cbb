/-! ===== THE CLASS: its methods (printed by wip/whole/gen49.py out of the bytecode) ===== -/
section
/-- tellMemory -/
theorem cw_tellMemory {d : Nat} {a1 : Nat} {a2 : Nat} {a3 : Nat} {S : xm_S} {Q : Option xm_V → xm_S → Prop} (hC : xk_C S) (h : ∀ t1, (xm_r S 2 a2 1) = t1 → (∃ k3, t1 = some k3 ∧ (((xm_i S 6 k3 3) = (0 : Int32) → ((xm_i S 2 a3 8) = (1 : Int32) → ∀ t6, (xm_r S 6 k3 2) = t6 → (∃ k8, t6 = some k8 ∧ (((xm_i S 9 k8 0) < (0 : Int32) → xc d 30 [.inr (some (0, 0)), .inr (some (2, a2)), .inl (xm_i S 2 a3 9), .inl (xm_i S 2 a3 10)] S (fun r S10 => r = none ∧ xk_C S10 ∧ (Q none S10))) ∧ (¬ (xm_i S 9 k8 0) < (0 : Int32) → ∀ t12, (xm_r S 5 a1 14) = t12 → (∃ k14, t12 = some k14 ∧ (((nI (xm_n S 25 k14)) ≤ (xm_i S 9 k8 0) → xc d 30 [.inr (some (0, 0)), .inr (some (2, a2)), .inl (xm_i S 2 a3 9), .inl (xm_i S 2 a3 10)] S (fun r S16 => r = none ∧ xk_C S16 ∧ (Q none S16))) ∧ (¬ (nI (xm_n S 25 k14)) ≤ (xm_i S 9 k8 0) → y_in (xm_i S 9 k8 0) (xm_n S 25 k14) ∧ (∀ S19, S19 = xm_sr S 15 k14 (y_ix (xm_i S 9 k8 0)) (some a3) → (xc d 30 [.inr (some (0, 0)), .inr (some (2, a2)), .inl (xm_i S 2 a3 9), .inl (xm_i S 2 a3 10)] S19 (fun r S21 => r = none ∧ xk_C S21 ∧ (Q none S21))))))))))) ∧ (¬ (xm_i S 2 a3 8) = (1 : Int32) → ∀ t23, (xm_r S 2 a3 11) = t23 → (xc d 22 [.inr (some (0, 0)), .inr (some (2, a2)), .inr (xo 4 t23)] S (fun r S25 => r = none ∧ xk_C S25 ∧ (Q none S25))))) ∧ (¬ (xm_i S 6 k3 3) = (0 : Int32) → ((xm_i S 2 a3 8) = (1 : Int32) → xc d 30 [.inr (some (0, 0)), .inr (some (2, a2)), .inl (xm_i S 2 a3 9), .inl (xm_i S 2 a3 10)] S (fun r S28 => r = none ∧ xk_C S28 ∧ (Q none S28))) ∧ (¬ (xm_i S 2 a3 8) = (1 : Int32) → ∀ t30, (xm_r S 2 a3 11) = t30 → (xc d 22 [.inr (some (0, 0)), .inr (some (2, a2)), .inr (xo 4 t30)] S (fun r S32 => r = none ∧ xk_C S32 ∧ (Q none S32)))))))) : xc (d + 2) 39 [.inr (some (0, 0)), .inr (some (5, a1)), .inr (some (2, a2)), .inr (some (2, a3))] S Q := by
  show xw _ _ _ [some (.inr (some (0, 0))), some (.inr (some (5, a1))), some (.inr (some (2, a2))), some (.inr (some (2, a3)))] _ _ _
  refine xw.s (pc' := 1) (st' := [.inr (some (2, a2))]) rfl ?_
  obtain ⟨t1, q2⟩ : ∃ t, (xm_r S 2 a2 1) = t := ⟨_, rfl⟩
  replace h := h t1 q2
  refine xw.fr (c := 2) (j := 1) (e := 6) (nx := 4) (t := t1) rfl rfl q2 ?_
  show xw _ _ _ [some (.inr (some (0, 0))), some (.inr (some (5, a1))), some (.inr (some (2, a2))), some (.inr (some (2, a3)))] [.inr (xo 6 t1)] _ _
  obtain ⟨k3, rfl, h⟩ := h
  refine xw.fi (c := 6) (j := 3) (ty := 0) (nx := 7) (v := (xm_i S 6 k3 3)) rfl rfl rfl ?_
  refine xw.bn (c := (xm_i S 6 k3 3) = (0 : Int32)) (cd := .ne) (x := (xm_i S 6 k3 3)) (y := (0 : Int32)) 30 10 (st' := []) rfl (y_cne _ _) h (fun c4 h => ?_) (fun c4 h => ?_)
  · skip
    refine xw.s (pc' := 11) (st' := [.inr (some (2, a3))]) rfl ?_
    refine xw.fi (c := 2) (j := 8) (ty := 0) (nx := 14) (v := (xm_i S 2 a3 8)) rfl rfl rfl ?_
    refine xw.s (pc' := 15) (st' := [.inl (1 : Int32), .inl (xm_i S 2 a3 8)]) rfl ?_
    refine xw.bn (c := (xm_i S 2 a3 8) = (1 : Int32)) (cd := .ne) (x := (xm_i S 2 a3 8)) (y := (1 : Int32)) 30 18 (st' := []) rfl (y_cne _ _) h (fun c5 h => ?_) (fun c5 h => ?_)
    · skip
      refine xw.s (pc' := 19) (st' := [.inr (some (5, a1))]) rfl ?_
      refine xw.s (pc' := 20) (st' := [.inr (some (2, a2)), .inr (some (5, a1))]) rfl ?_
      refine xw.fr (c := 2) (j := 1) (e := 6) (nx := 23) (t := (some k3)) rfl rfl q2 ?_
      show xw _ _ _ [some (.inr (some (0, 0))), some (.inr (some (5, a1))), some (.inr (some (2, a2))), some (.inr (some (2, a3)))] [.inr (some (6, k3)), .inr (some (5, a1))] _ _
      obtain ⟨t6, q7⟩ : ∃ t, (xm_r S 6 k3 2) = t := ⟨_, rfl⟩
      replace h := h t6 q7
      refine xw.fr (c := 6) (j := 2) (e := 9) (nx := 26) (t := t6) rfl rfl q7 ?_
      show xw _ _ _ [some (.inr (some (0, 0))), some (.inr (some (5, a1))), some (.inr (some (2, a2))), some (.inr (some (2, a3)))] [.inr (xo 9 t6), .inr (some (5, a1))] _ _
      refine xw.s (pc' := 27) (st' := [.inr (some (2, a3)), .inr (xo 9 t6), .inr (some (5, a1))]) rfl ?_
      refine xw.call (m := 100) (as := [.inr (some (5, a1)), .inr (xo 9 t6), .inr (some (2, a3))]) (nx := 30) (L' := [some (.inr (some (0, 0))), some (.inr (some (5, a1))), some (.inr (some (2, a2))), some (.inr (some (2, a3)))]) (st' := []) rfl ?_
      show xw _ _ _ [some (.inr (some (5, a1))), some (.inr (xo 9 t6)), some (.inr (some (2, a3)))] [] _ _
      refine xw.s (pc' := 1) (st' := [.inr (xo 9 t6)]) rfl ?_
      obtain ⟨k8, rfl, h⟩ := h
      refine xw.fi (c := 9) (j := 0) (ty := 0) (nx := 4) (v := (xm_i S 9 k8 0)) rfl rfl rfl ?_
      refine xw.b (c := (xm_i S 9 k8 0) < (0 : Int32)) (cd := .lt) (x := (xm_i S 9 k8 0)) (y := (0 : Int32)) 29 7 (st' := []) rfl (y_clt _ _) h (fun c9 h => ?_) (fun c9 h => ?_)
      · skip
        refine xw.ret (r := none) rfl ?_
        show xw _ _ 30 [some (.inr (some (0, 0))), some (.inr (some (5, a1))), some (.inr (some (2, a2))), some (.inr (some (2, a3)))] [] S _
        refine xw.s (pc' := 31) (st' := [.inr (some (0, 0))]) rfl ?_
        refine xw.s (pc' := 32) (st' := [.inr (some (2, a2)), .inr (some (0, 0))]) rfl ?_
        refine xw.s (pc' := 33) (st' := [.inr (some (2, a3)), .inr (some (2, a2)), .inr (some (0, 0))]) rfl ?_
        refine xw.call (m := 29) (as := [.inr (some (0, 0)), .inr (some (2, a2)), .inr (some (2, a3))]) (nx := 36) (L' := [some (.inr (some (0, 0))), some (.inr (some (5, a1))), some (.inr (some (2, a2))), some (.inr (some (2, a3)))]) (st' := []) rfl ?_
        show xw _ _ _ [some (.inr (some (0, 0))), some (.inr (some (2, a2))), some (.inr (some (2, a3)))] [] _ _
        refine xw.s (pc' := 1) (st' := [.inr (some (2, a3))]) rfl ?_
        refine xw.fi (c := 2) (j := 8) (ty := 0) (nx := 4) (v := (xm_i S 2 a3 8)) rfl rfl rfl ?_
        refine xw.s (pc' := 5) (st' := [.inl (1 : Int32), .inl (xm_i S 2 a3 8)]) rfl ?_
        refine xw.bf (cd := .ne) (x := (xm_i S 2 a3 8)) (y := (1 : Int32)) 24 8 (st' := []) rfl (y_cne _ _) (fun z => z c5) ?_
        refine xw.s (pc' := 9) (st' := [.inr (some (0, 0))]) rfl ?_
        refine xw.s (pc' := 10) (st' := [.inr (some (2, a2)), .inr (some (0, 0))]) rfl ?_
        refine xw.s (pc' := 11) (st' := [.inr (some (2, a3)), .inr (some (2, a2)), .inr (some (0, 0))]) rfl ?_
        refine xw.fi (c := 2) (j := 9) (ty := 0) (nx := 14) (v := (xm_i S 2 a3 9)) rfl rfl rfl ?_
        refine xw.s (pc' := 15) (st' := [.inr (some (2, a3)), .inl (xm_i S 2 a3 9), .inr (some (2, a2)), .inr (some (0, 0))]) rfl ?_
        refine xw.fi (c := 2) (j := 10) (ty := 1) (nx := 18) (v := (xm_i S 2 a3 10)) rfl rfl rfl ?_
        refine xw.call (m := 30) (as := [.inr (some (0, 0)), .inr (some (2, a2)), .inl (xm_i S 2 a3 9), .inl (xm_i S 2 a3 10)]) (nx := 21) (L' := [some (.inr (some (0, 0))), some (.inr (some (2, a2))), some (.inr (some (2, a3)))]) (st' := []) rfl (xc.mono h ?_)
        rintro r S10 ⟨rfl, hC11, h⟩
        show xw _ _ 21 [some (.inr (some (0, 0))), some (.inr (some (2, a2))), some (.inr (some (2, a3)))] [] _ _
        refine xw.s (pc' := 33) (st' := []) rfl ?_
        refine xw.ret (r := none) rfl ?_
        show xw _ _ 36 [some (.inr (some (0, 0))), some (.inr (some (5, a1))), some (.inr (some (2, a2))), some (.inr (some (2, a3)))] [] S10 _
        exact xw.ret (r := none) rfl h
      · skip
        refine xw.s (pc' := 8) (st' := [.inr (some (9, k8))]) rfl ?_
        refine xw.fi (c := 9) (j := 0) (ty := 0) (nx := 11) (v := (xm_i S 9 k8 0)) rfl rfl rfl ?_
        refine xw.s (pc' := 12) (st' := [.inr (some (5, a1)), .inl (xm_i S 9 k8 0)]) rfl ?_
        obtain ⟨t12, q13⟩ : ∃ t, (xm_r S 5 a1 14) = t := ⟨_, rfl⟩
        replace h := h t12 q13
        refine xw.fr (c := 5) (j := 14) (e := 15) (nx := 15) (t := t12) rfl rfl q13 ?_
        show xw _ _ _ [some (.inr (some (5, a1))), some (.inr (some (9, k8))), some (.inr (some (2, a3)))] [.inr (xo 15 t12), .inl (xm_i S 9 k8 0)] _ _
        obtain ⟨k14, rfl, h⟩ := h
        refine xw.aln (c := 15) (n := (xm_n S 25 k14)) (nx := 16) rfl (by decide) rfl ?_
        refine xw.b (c := (nI (xm_n S 25 k14)) ≤ (xm_i S 9 k8 0)) (cd := .ge) (x := (xm_i S 9 k8 0)) (y := (nI (xm_n S 25 k14))) 29 19 (st' := []) rfl (y_cge _ _) h (fun c15 h => ?_) (fun c15 h => ?_)
        · skip
          refine xw.ret (r := none) rfl ?_
          show xw _ _ 30 [some (.inr (some (0, 0))), some (.inr (some (5, a1))), some (.inr (some (2, a2))), some (.inr (some (2, a3)))] [] S _
          refine xw.s (pc' := 31) (st' := [.inr (some (0, 0))]) rfl ?_
          refine xw.s (pc' := 32) (st' := [.inr (some (2, a2)), .inr (some (0, 0))]) rfl ?_
          refine xw.s (pc' := 33) (st' := [.inr (some (2, a3)), .inr (some (2, a2)), .inr (some (0, 0))]) rfl ?_
          refine xw.call (m := 29) (as := [.inr (some (0, 0)), .inr (some (2, a2)), .inr (some (2, a3))]) (nx := 36) (L' := [some (.inr (some (0, 0))), some (.inr (some (5, a1))), some (.inr (some (2, a2))), some (.inr (some (2, a3)))]) (st' := []) rfl ?_
          show xw _ _ _ [some (.inr (some (0, 0))), some (.inr (some (2, a2))), some (.inr (some (2, a3)))] [] _ _
          refine xw.s (pc' := 1) (st' := [.inr (some (2, a3))]) rfl ?_
          refine xw.fi (c := 2) (j := 8) (ty := 0) (nx := 4) (v := (xm_i S 2 a3 8)) rfl rfl rfl ?_
          refine xw.s (pc' := 5) (st' := [.inl (1 : Int32), .inl (xm_i S 2 a3 8)]) rfl ?_
          refine xw.bf (cd := .ne) (x := (xm_i S 2 a3 8)) (y := (1 : Int32)) 24 8 (st' := []) rfl (y_cne _ _) (fun z => z c5) ?_
          refine xw.s (pc' := 9) (st' := [.inr (some (0, 0))]) rfl ?_
          refine xw.s (pc' := 10) (st' := [.inr (some (2, a2)), .inr (some (0, 0))]) rfl ?_
          refine xw.s (pc' := 11) (st' := [.inr (some (2, a3)), .inr (some (2, a2)), .inr (some (0, 0))]) rfl ?_
          refine xw.fi (c := 2) (j := 9) (ty := 0) (nx := 14) (v := (xm_i S 2 a3 9)) rfl rfl rfl ?_
          refine xw.s (pc' := 15) (st' := [.inr (some (2, a3)), .inl (xm_i S 2 a3 9), .inr (some (2, a2)), .inr (some (0, 0))]) rfl ?_
          refine xw.fi (c := 2) (j := 10) (ty := 1) (nx := 18) (v := (xm_i S 2 a3 10)) rfl rfl rfl ?_
          refine xw.call (m := 30) (as := [.inr (some (0, 0)), .inr (some (2, a2)), .inl (xm_i S 2 a3 9), .inl (xm_i S 2 a3 10)]) (nx := 21) (L' := [some (.inr (some (0, 0))), some (.inr (some (2, a2))), some (.inr (some (2, a3)))]) (st' := []) rfl (xc.mono h ?_)
          rintro r S16 ⟨rfl, hC17, h⟩
          show xw _ _ 21 [some (.inr (some (0, 0))), some (.inr (some (2, a2))), some (.inr (some (2, a3)))] [] _ _
          refine xw.s (pc' := 33) (st' := []) rfl ?_
          refine xw.ret (r := none) rfl ?_
          show xw _ _ 36 [some (.inr (some (0, 0))), some (.inr (some (5, a1))), some (.inr (some (2, a2))), some (.inr (some (2, a3)))] [] S16 _
          exact xw.ret (r := none) rfl h
        · skip
          refine xw.s (pc' := 20) (st' := [.inr (some (5, a1))]) rfl ?_
          refine xw.fr (c := 5) (j := 14) (e := 15) (nx := 23) (t := (some k14)) rfl rfl q13 ?_
          show xw _ _ _ [some (.inr (some (5, a1))), some (.inr (some (9, k8))), some (.inr (some (2, a3)))] [.inr (some (15, k14))] _ _
          refine xw.s (pc' := 24) (st' := [.inr (some (9, k8)), .inr (some (15, k14))]) rfl ?_
          refine xw.fi (c := 9) (j := 0) (ty := 0) (nx := 27) (v := (xm_i S 9 k8 0)) rfl rfl rfl ?_
          refine xw.s (pc' := 28) (st' := [.inr (some (2, a3)), .inl (xm_i S 9 k8 0), .inr (some (15, k14))]) rfl ?_
          obtain ⟨z18, h⟩ := h
          refine xw.ast (nx := 29) rfl z18 ?_
          obtain ⟨S19, e20⟩ : ∃ s, s = xm_sr S 15 k14 (y_ix (xm_i S 9 k8 0)) (some a3) := ⟨_, rfl⟩
          rw [← e20]
          replace h := h S19 e20
          refine xw.ret (r := none) rfl ?_
          show xw _ _ 30 [some (.inr (some (0, 0))), some (.inr (some (5, a1))), some (.inr (some (2, a2))), some (.inr (some (2, a3)))] [] S19 _
          refine xw.s (pc' := 31) (st' := [.inr (some (0, 0))]) rfl ?_
          refine xw.s (pc' := 32) (st' := [.inr (some (2, a2)), .inr (some (0, 0))]) rfl ?_
          refine xw.s (pc' := 33) (st' := [.inr (some (2, a3)), .inr (some (2, a2)), .inr (some (0, 0))]) rfl ?_
          refine xw.call (m := 29) (as := [.inr (some (0, 0)), .inr (some (2, a2)), .inr (some (2, a3))]) (nx := 36) (L' := [some (.inr (some (0, 0))), some (.inr (some (5, a1))), some (.inr (some (2, a2))), some (.inr (some (2, a3)))]) (st' := []) rfl ?_
          show xw _ _ _ [some (.inr (some (0, 0))), some (.inr (some (2, a2))), some (.inr (some (2, a3)))] [] _ _
          refine xw.s (pc' := 1) (st' := [.inr (some (2, a3))]) rfl ?_
          refine xw.fi (c := 2) (j := 8) (ty := 0) (nx := 4) (v := (xm_i S 2 a3 8)) rfl rfl ((congrArg (fun s => xm_i s 2 a3 8) e20).trans rfl) ?_
          refine xw.s (pc' := 5) (st' := [.inl (1 : Int32), .inl (xm_i S 2 a3 8)]) rfl ?_
          refine xw.bf (cd := .ne) (x := (xm_i S 2 a3 8)) (y := (1 : Int32)) 24 8 (st' := []) rfl (y_cne _ _) (fun z => z c5) ?_
          refine xw.s (pc' := 9) (st' := [.inr (some (0, 0))]) rfl ?_
          refine xw.s (pc' := 10) (st' := [.inr (some (2, a2)), .inr (some (0, 0))]) rfl ?_
          refine xw.s (pc' := 11) (st' := [.inr (some (2, a3)), .inr (some (2, a2)), .inr (some (0, 0))]) rfl ?_
          refine xw.fi (c := 2) (j := 9) (ty := 0) (nx := 14) (v := (xm_i S 2 a3 9)) rfl rfl ((congrArg (fun s => xm_i s 2 a3 9) e20).trans rfl) ?_
          refine xw.s (pc' := 15) (st' := [.inr (some (2, a3)), .inl (xm_i S 2 a3 9), .inr (some (2, a2)), .inr (some (0, 0))]) rfl ?_
          refine xw.fi (c := 2) (j := 10) (ty := 1) (nx := 18) (v := (xm_i S 2 a3 10)) rfl rfl ((congrArg (fun s => xm_i s 2 a3 10) e20).trans rfl) ?_
          refine xw.call (m := 30) (as := [.inr (some (0, 0)), .inr (some (2, a2)), .inl (xm_i S 2 a3 9), .inl (xm_i S 2 a3 10)]) (nx := 21) (L' := [some (.inr (some (0, 0))), some (.inr (some (2, a2))), some (.inr (some (2, a3)))]) (st' := []) rfl (xc.mono h ?_)
          rintro r S21 ⟨rfl, hC22, h⟩
          show xw _ _ 21 [some (.inr (some (0, 0))), some (.inr (some (2, a2))), some (.inr (some (2, a3)))] [] _ _
          refine xw.s (pc' := 33) (st' := []) rfl ?_
          refine xw.ret (r := none) rfl ?_
          show xw _ _ 36 [some (.inr (some (0, 0))), some (.inr (some (5, a1))), some (.inr (some (2, a2))), some (.inr (some (2, a3)))] [] S21 _
          exact xw.ret (r := none) rfl h
    · skip
      refine xw.s (pc' := 31) (st' := [.inr (some (0, 0))]) rfl ?_
      refine xw.s (pc' := 32) (st' := [.inr (some (2, a2)), .inr (some (0, 0))]) rfl ?_
      refine xw.s (pc' := 33) (st' := [.inr (some (2, a3)), .inr (some (2, a2)), .inr (some (0, 0))]) rfl ?_
      refine xw.call (m := 29) (as := [.inr (some (0, 0)), .inr (some (2, a2)), .inr (some (2, a3))]) (nx := 36) (L' := [some (.inr (some (0, 0))), some (.inr (some (5, a1))), some (.inr (some (2, a2))), some (.inr (some (2, a3)))]) (st' := []) rfl ?_
      show xw _ _ _ [some (.inr (some (0, 0))), some (.inr (some (2, a2))), some (.inr (some (2, a3)))] [] _ _
      refine xw.s (pc' := 1) (st' := [.inr (some (2, a3))]) rfl ?_
      refine xw.fi (c := 2) (j := 8) (ty := 0) (nx := 4) (v := (xm_i S 2 a3 8)) rfl rfl rfl ?_
      refine xw.s (pc' := 5) (st' := [.inl (1 : Int32), .inl (xm_i S 2 a3 8)]) rfl ?_
      refine xw.bt (cd := .ne) (x := (xm_i S 2 a3 8)) (y := (1 : Int32)) 24 8 (st' := []) rfl (y_cne _ _) c5 ?_
      refine xw.s (pc' := 25) (st' := [.inr (some (0, 0))]) rfl ?_
      refine xw.s (pc' := 26) (st' := [.inr (some (2, a2)), .inr (some (0, 0))]) rfl ?_
      refine xw.s (pc' := 27) (st' := [.inr (some (2, a3)), .inr (some (2, a2)), .inr (some (0, 0))]) rfl ?_
      obtain ⟨t23, q24⟩ : ∃ t, (xm_r S 2 a3 11) = t := ⟨_, rfl⟩
      replace h := h t23 q24
      refine xw.fr (c := 2) (j := 11) (e := 4) (nx := 30) (t := t23) rfl rfl q24 ?_
      show xw _ _ _ [some (.inr (some (0, 0))), some (.inr (some (2, a2))), some (.inr (some (2, a3)))] [.inr (xo 4 t23), .inr (some (2, a2)), .inr (some (0, 0))] _ _
      refine xw.call (m := 22) (as := [.inr (some (0, 0)), .inr (some (2, a2)), .inr (xo 4 t23)]) (nx := 33) (L' := [some (.inr (some (0, 0))), some (.inr (some (2, a2))), some (.inr (some (2, a3)))]) (st' := []) rfl (xc.mono h ?_)
      rintro r S25 ⟨rfl, hC26, h⟩
      show xw _ _ 33 [some (.inr (some (0, 0))), some (.inr (some (2, a2))), some (.inr (some (2, a3)))] [] _ _
      refine xw.ret (r := none) rfl ?_
      show xw _ _ 36 [some (.inr (some (0, 0))), some (.inr (some (5, a1))), some (.inr (some (2, a2))), some (.inr (some (2, a3)))] [] S25 _
      exact xw.ret (r := none) rfl h
  · skip
    refine xw.s (pc' := 31) (st' := [.inr (some (0, 0))]) rfl ?_
    refine xw.s (pc' := 32) (st' := [.inr (some (2, a2)), .inr (some (0, 0))]) rfl ?_
    refine xw.s (pc' := 33) (st' := [.inr (some (2, a3)), .inr (some (2, a2)), .inr (some (0, 0))]) rfl ?_
    refine xw.call (m := 29) (as := [.inr (some (0, 0)), .inr (some (2, a2)), .inr (some (2, a3))]) (nx := 36) (L' := [some (.inr (some (0, 0))), some (.inr (some (5, a1))), some (.inr (some (2, a2))), some (.inr (some (2, a3)))]) (st' := []) rfl ?_
    show xw _ _ _ [some (.inr (some (0, 0))), some (.inr (some (2, a2))), some (.inr (some (2, a3)))] [] _ _
    refine xw.s (pc' := 1) (st' := [.inr (some (2, a3))]) rfl ?_
    refine xw.fi (c := 2) (j := 8) (ty := 0) (nx := 4) (v := (xm_i S 2 a3 8)) rfl rfl rfl ?_
    refine xw.s (pc' := 5) (st' := [.inl (1 : Int32), .inl (xm_i S 2 a3 8)]) rfl ?_
    refine xw.bn (c := (xm_i S 2 a3 8) = (1 : Int32)) (cd := .ne) (x := (xm_i S 2 a3 8)) (y := (1 : Int32)) 24 8 (st' := []) rfl (y_cne _ _) h (fun c27 h => ?_) (fun c27 h => ?_)
    · skip
      refine xw.s (pc' := 9) (st' := [.inr (some (0, 0))]) rfl ?_
      refine xw.s (pc' := 10) (st' := [.inr (some (2, a2)), .inr (some (0, 0))]) rfl ?_
      refine xw.s (pc' := 11) (st' := [.inr (some (2, a3)), .inr (some (2, a2)), .inr (some (0, 0))]) rfl ?_
      refine xw.fi (c := 2) (j := 9) (ty := 0) (nx := 14) (v := (xm_i S 2 a3 9)) rfl rfl rfl ?_
      refine xw.s (pc' := 15) (st' := [.inr (some (2, a3)), .inl (xm_i S 2 a3 9), .inr (some (2, a2)), .inr (some (0, 0))]) rfl ?_
      refine xw.fi (c := 2) (j := 10) (ty := 1) (nx := 18) (v := (xm_i S 2 a3 10)) rfl rfl rfl ?_
      refine xw.call (m := 30) (as := [.inr (some (0, 0)), .inr (some (2, a2)), .inl (xm_i S 2 a3 9), .inl (xm_i S 2 a3 10)]) (nx := 21) (L' := [some (.inr (some (0, 0))), some (.inr (some (2, a2))), some (.inr (some (2, a3)))]) (st' := []) rfl (xc.mono h ?_)
      rintro r S28 ⟨rfl, hC29, h⟩
      show xw _ _ 21 [some (.inr (some (0, 0))), some (.inr (some (2, a2))), some (.inr (some (2, a3)))] [] _ _
      refine xw.s (pc' := 33) (st' := []) rfl ?_
      refine xw.ret (r := none) rfl ?_
      show xw _ _ 36 [some (.inr (some (0, 0))), some (.inr (some (5, a1))), some (.inr (some (2, a2))), some (.inr (some (2, a3)))] [] S28 _
      exact xw.ret (r := none) rfl h
    · skip
      refine xw.s (pc' := 25) (st' := [.inr (some (0, 0))]) rfl ?_
      refine xw.s (pc' := 26) (st' := [.inr (some (2, a2)), .inr (some (0, 0))]) rfl ?_
      refine xw.s (pc' := 27) (st' := [.inr (some (2, a3)), .inr (some (2, a2)), .inr (some (0, 0))]) rfl ?_
      obtain ⟨t30, q31⟩ : ∃ t, (xm_r S 2 a3 11) = t := ⟨_, rfl⟩
      replace h := h t30 q31
      refine xw.fr (c := 2) (j := 11) (e := 4) (nx := 30) (t := t30) rfl rfl q31 ?_
      show xw _ _ _ [some (.inr (some (0, 0))), some (.inr (some (2, a2))), some (.inr (some (2, a3)))] [.inr (xo 4 t30), .inr (some (2, a2)), .inr (some (0, 0))] _ _
      refine xw.call (m := 22) (as := [.inr (some (0, 0)), .inr (some (2, a2)), .inr (xo 4 t30)]) (nx := 33) (L' := [some (.inr (some (0, 0))), some (.inr (some (2, a2))), some (.inr (some (2, a3)))]) (st' := []) rfl (xc.mono h ?_)
      rintro r S32 ⟨rfl, hC33, h⟩
      show xw _ _ 33 [some (.inr (some (0, 0))), some (.inr (some (2, a2))), some (.inr (some (2, a3)))] [] _ _
      refine xw.ret (r := none) rfl ?_
      show xw _ _ 36 [some (.inr (some (0, 0))), some (.inr (some (5, a1))), some (.inr (some (2, a2))), some (.inr (some (2, a3)))] [] S32 _
      exact xw.ret (r := none) rfl h
/-- tellTranslator -/
theorem cw_tellTranslator {d : Nat} {a1 : Nat} {a2 : Nat} {a3 : Nat} {S : xm_S} {Q : Option xm_V → xm_S → Prop} (hC : xk_C S) (h : ∀ t1, (xm_r S 2 a3 11) = t1 → ((t1 = none → ((xm_i S 2 a3 8) = (1 : Int32) → xc d 30 [.inr (some (0, 0)), .inr (some (2, a2)), .inl (xm_i S 2 a3 9), .inl (xm_i S 2 a3 10)] S (fun r S5 => r = none ∧ xk_C S5 ∧ (Q none S5))) ∧ (¬ (xm_i S 2 a3 8) = (1 : Int32) → xc d 22 [.inr (some (0, 0)), .inr (some (2, a2)), .inr none] S (fun r S7 => r = none ∧ xk_C S7 ∧ (Q none S7)))) ∧ (∀ k3, t1 = some k3 → xc d 27 [.inl (xm_i S 4 k3 1), .inl (xm_i S 5 a1 5)] S (fun r S9 => ∃ x11 : Int32, r = some (.inl x11) ∧ xk_C S9 ∧ ((x11 = (0 : Int32) → ((xm_i S9 2 a3 8) = (1 : Int32) → xc d 30 [.inr (some (0, 0)), .inr (some (2, a2)), .inl (xm_i S9 2 a3 9), .inl (xm_i S9 2 a3 10)] S9 (fun r S14 => r = none ∧ xk_C S14 ∧ (Q none S14))) ∧ (¬ (xm_i S9 2 a3 8) = (1 : Int32) → ∀ t16, (xm_r S9 2 a3 11) = t16 → (xc d 22 [.inr (some (0, 0)), .inr (some (2, a2)), .inr (xo 4 t16)] S9 (fun r S18 => r = none ∧ xk_C S18 ∧ (Q none S18))))) ∧ (¬ x11 = (0 : Int32) → xc (d + 1) 21 [.inr (some (0, 0)), .inl (xm_i S9 5 a1 3), .inr (some (5, a1)), .inr none] S9 (fun r S20 => ∃ t22 : Option Nat, r = some (.inr (xo 4 t22)) ∧ xk_C S20 ∧ (∀ t23, (xm_r S20 2 a3 11) = t23 → (∃ k25, t22 = some k25 ∧ (∀ S26, S26 = xm_sr S20 4 k25 5 t23 → (xc (d + 1) 22 [.inr (some (0, 0)), .inr (some (2, a2)), .inr (some (4, k25))] S26 (fun r S28 => r = none ∧ xk_C S28 ∧ (Q none S28))))))))))))) : xc (d + 2) 40 [.inr (some (0, 0)), .inr (some (5, a1)), .inr (some (2, a2)), .inr (some (2, a3))] S Q := by
  show xw _ _ _ [some (.inr (some (0, 0))), some (.inr (some (5, a1))), some (.inr (some (2, a2))), some (.inr (some (2, a3))), none] _ _ _
  refine xw.s (pc' := 1) (st' := [.inr (some (5, a1))]) rfl ?_
  refine xw.s (pc' := 2) (st' := [.inr (some (2, a3)), .inr (some (5, a1))]) rfl ?_
  obtain ⟨t1, q2⟩ : ∃ t, (xm_r S 2 a3 11) = t := ⟨_, rfl⟩
  replace h := h t1 q2
  refine xw.fr (c := 2) (j := 11) (e := 4) (nx := 5) (t := t1) rfl rfl q2 ?_
  show xw _ _ _ [some (.inr (some (0, 0))), some (.inr (some (5, a1))), some (.inr (some (2, a2))), some (.inr (some (2, a3))), none] [.inr (xo 4 t1), .inr (some (5, a1))] _ _
  refine xw.call (m := 26) (as := [.inr (some (5, a1)), .inr (xo 4 t1)]) (nx := 8) (L' := [some (.inr (some (0, 0))), some (.inr (some (5, a1))), some (.inr (some (2, a2))), some (.inr (some (2, a3))), none]) (st' := []) rfl ?_
  show xw _ _ _ [some (.inr (some (5, a1))), some (.inr (xo 4 t1))] [] _ _
  refine xw.s (pc' := 1) (st' := [.inr (xo 4 t1)]) rfl ?_
  refine xw.nul (o := t1) (t := 22) (nx := 4) rfl rfl ?_
  rcases t1 with _ | k3
  · replace h := h.1 rfl
    show xw _ _ 22 [some (.inr (some (5, a1))), some (.inr none)] [] _ _
    refine xw.s (pc' := 23) (st' := [.inl (0 : Int32)]) rfl ?_
    refine xw.retz (nx := 24) rfl (Or.inl rfl) ?_
    show xw _ _ 8 [some (.inr (some (0, 0))), some (.inr (some (5, a1))), some (.inr (some (2, a2))), some (.inr (some (2, a3))), none] [.inl (0 : Int32)] S _
    refine xw.bt (cd := .eq) (x := (0 : Int32)) (y := (0 : Int32)) 42 11 (st' := []) rfl (y_ceq _ _) (by decide) ?_
    refine xw.s (pc' := 43) (st' := [.inr (some (0, 0))]) rfl ?_
    refine xw.s (pc' := 44) (st' := [.inr (some (2, a2)), .inr (some (0, 0))]) rfl ?_
    refine xw.s (pc' := 45) (st' := [.inr (some (2, a3)), .inr (some (2, a2)), .inr (some (0, 0))]) rfl ?_
    refine xw.call (m := 29) (as := [.inr (some (0, 0)), .inr (some (2, a2)), .inr (some (2, a3))]) (nx := 48) (L' := [some (.inr (some (0, 0))), some (.inr (some (5, a1))), some (.inr (some (2, a2))), some (.inr (some (2, a3))), none]) (st' := []) rfl ?_
    show xw _ _ _ [some (.inr (some (0, 0))), some (.inr (some (2, a2))), some (.inr (some (2, a3)))] [] _ _
    refine xw.s (pc' := 1) (st' := [.inr (some (2, a3))]) rfl ?_
    refine xw.fi (c := 2) (j := 8) (ty := 0) (nx := 4) (v := (xm_i S 2 a3 8)) rfl rfl rfl ?_
    refine xw.s (pc' := 5) (st' := [.inl (1 : Int32), .inl (xm_i S 2 a3 8)]) rfl ?_
    refine xw.bn (c := (xm_i S 2 a3 8) = (1 : Int32)) (cd := .ne) (x := (xm_i S 2 a3 8)) (y := (1 : Int32)) 24 8 (st' := []) rfl (y_cne _ _) h (fun c4 h => ?_) (fun c4 h => ?_)
    · skip
      refine xw.s (pc' := 9) (st' := [.inr (some (0, 0))]) rfl ?_
      refine xw.s (pc' := 10) (st' := [.inr (some (2, a2)), .inr (some (0, 0))]) rfl ?_
      refine xw.s (pc' := 11) (st' := [.inr (some (2, a3)), .inr (some (2, a2)), .inr (some (0, 0))]) rfl ?_
      refine xw.fi (c := 2) (j := 9) (ty := 0) (nx := 14) (v := (xm_i S 2 a3 9)) rfl rfl rfl ?_
      refine xw.s (pc' := 15) (st' := [.inr (some (2, a3)), .inl (xm_i S 2 a3 9), .inr (some (2, a2)), .inr (some (0, 0))]) rfl ?_
      refine xw.fi (c := 2) (j := 10) (ty := 1) (nx := 18) (v := (xm_i S 2 a3 10)) rfl rfl rfl ?_
      refine xw.call (m := 30) (as := [.inr (some (0, 0)), .inr (some (2, a2)), .inl (xm_i S 2 a3 9), .inl (xm_i S 2 a3 10)]) (nx := 21) (L' := [some (.inr (some (0, 0))), some (.inr (some (2, a2))), some (.inr (some (2, a3)))]) (st' := []) rfl (xc.mono h ?_)
      rintro r S5 ⟨rfl, hC6, h⟩
      show xw _ _ 21 [some (.inr (some (0, 0))), some (.inr (some (2, a2))), some (.inr (some (2, a3)))] [] _ _
      refine xw.s (pc' := 33) (st' := []) rfl ?_
      refine xw.ret (r := none) rfl ?_
      show xw _ _ 48 [some (.inr (some (0, 0))), some (.inr (some (5, a1))), some (.inr (some (2, a2))), some (.inr (some (2, a3))), none] [] S5 _
      exact xw.ret (r := none) rfl h
    · skip
      refine xw.s (pc' := 25) (st' := [.inr (some (0, 0))]) rfl ?_
      refine xw.s (pc' := 26) (st' := [.inr (some (2, a2)), .inr (some (0, 0))]) rfl ?_
      refine xw.s (pc' := 27) (st' := [.inr (some (2, a3)), .inr (some (2, a2)), .inr (some (0, 0))]) rfl ?_
      refine xw.fr (c := 2) (j := 11) (e := 4) (nx := 30) (t := none) rfl rfl q2 ?_
      show xw _ _ _ [some (.inr (some (0, 0))), some (.inr (some (2, a2))), some (.inr (some (2, a3)))] [.inr none, .inr (some (2, a2)), .inr (some (0, 0))] _ _
      refine xw.call (m := 22) (as := [.inr (some (0, 0)), .inr (some (2, a2)), .inr none]) (nx := 33) (L' := [some (.inr (some (0, 0))), some (.inr (some (2, a2))), some (.inr (some (2, a3)))]) (st' := []) rfl (xc.mono h ?_)
      rintro r S7 ⟨rfl, hC8, h⟩
      show xw _ _ 33 [some (.inr (some (0, 0))), some (.inr (some (2, a2))), some (.inr (some (2, a3)))] [] _ _
      refine xw.ret (r := none) rfl ?_
      show xw _ _ 48 [some (.inr (some (0, 0))), some (.inr (some (5, a1))), some (.inr (some (2, a2))), some (.inr (some (2, a3))), none] [] S7 _
      exact xw.ret (r := none) rfl h
  · replace h := h.2 k3 rfl
    show xw _ _ 4 [some (.inr (some (5, a1))), some (.inr (some (4, k3)))] [] _ _
    refine xw.s (pc' := 5) (st' := [.inr (some (4, k3))]) rfl ?_
    refine xw.fi (c := 4) (j := 1) (ty := 0) (nx := 8) (v := (xm_i S 4 k3 1)) rfl rfl rfl ?_
    refine xw.s (pc' := 9) (st' := [.inr (some (5, a1)), .inl (xm_i S 4 k3 1)]) rfl ?_
    refine xw.fi (c := 5) (j := 5) (ty := 0) (nx := 12) (v := (xm_i S 5 a1 5)) rfl rfl rfl ?_
    refine xw.call (m := 27) (as := [.inl (xm_i S 4 k3 1), .inl (xm_i S 5 a1 5)]) (nx := 15) (L' := [some (.inr (some (5, a1))), some (.inr (some (4, k3)))]) (st' := []) rfl (xc.mono h ?_)
    rintro r S9 ⟨x11, rfl, hC10, h⟩
    show xw _ _ 15 [some (.inr (some (5, a1))), some (.inr (some (4, k3)))] [.inl x11] _ _
    refine xw.b (c := x11 = (0 : Int32)) (cd := .eq) (x := x11) (y := (0 : Int32)) 22 18 (st' := []) rfl (y_ceq _ _) h (fun c12 h => ?_) (fun c12 h => ?_)
    · skip
      refine xw.s (pc' := 23) (st' := [.inl (0 : Int32)]) rfl ?_
      refine xw.retz (nx := 24) rfl (Or.inl rfl) ?_
      show xw _ _ 8 [some (.inr (some (0, 0))), some (.inr (some (5, a1))), some (.inr (some (2, a2))), some (.inr (some (2, a3))), none] [.inl (0 : Int32)] S9 _
      refine xw.bt (cd := .eq) (x := (0 : Int32)) (y := (0 : Int32)) 42 11 (st' := []) rfl (y_ceq _ _) (by decide) ?_
      refine xw.s (pc' := 43) (st' := [.inr (some (0, 0))]) rfl ?_
      refine xw.s (pc' := 44) (st' := [.inr (some (2, a2)), .inr (some (0, 0))]) rfl ?_
      refine xw.s (pc' := 45) (st' := [.inr (some (2, a3)), .inr (some (2, a2)), .inr (some (0, 0))]) rfl ?_
      refine xw.call (m := 29) (as := [.inr (some (0, 0)), .inr (some (2, a2)), .inr (some (2, a3))]) (nx := 48) (L' := [some (.inr (some (0, 0))), some (.inr (some (5, a1))), some (.inr (some (2, a2))), some (.inr (some (2, a3))), none]) (st' := []) rfl ?_
      show xw _ _ _ [some (.inr (some (0, 0))), some (.inr (some (2, a2))), some (.inr (some (2, a3)))] [] _ _
      refine xw.s (pc' := 1) (st' := [.inr (some (2, a3))]) rfl ?_
      refine xw.fi (c := 2) (j := 8) (ty := 0) (nx := 4) (v := (xm_i S9 2 a3 8)) rfl rfl rfl ?_
      refine xw.s (pc' := 5) (st' := [.inl (1 : Int32), .inl (xm_i S9 2 a3 8)]) rfl ?_
      refine xw.bn (c := (xm_i S9 2 a3 8) = (1 : Int32)) (cd := .ne) (x := (xm_i S9 2 a3 8)) (y := (1 : Int32)) 24 8 (st' := []) rfl (y_cne _ _) h (fun c13 h => ?_) (fun c13 h => ?_)
      · skip
        refine xw.s (pc' := 9) (st' := [.inr (some (0, 0))]) rfl ?_
        refine xw.s (pc' := 10) (st' := [.inr (some (2, a2)), .inr (some (0, 0))]) rfl ?_
        refine xw.s (pc' := 11) (st' := [.inr (some (2, a3)), .inr (some (2, a2)), .inr (some (0, 0))]) rfl ?_
        refine xw.fi (c := 2) (j := 9) (ty := 0) (nx := 14) (v := (xm_i S9 2 a3 9)) rfl rfl rfl ?_
        refine xw.s (pc' := 15) (st' := [.inr (some (2, a3)), .inl (xm_i S9 2 a3 9), .inr (some (2, a2)), .inr (some (0, 0))]) rfl ?_
        refine xw.fi (c := 2) (j := 10) (ty := 1) (nx := 18) (v := (xm_i S9 2 a3 10)) rfl rfl rfl ?_
        refine xw.call (m := 30) (as := [.inr (some (0, 0)), .inr (some (2, a2)), .inl (xm_i S9 2 a3 9), .inl (xm_i S9 2 a3 10)]) (nx := 21) (L' := [some (.inr (some (0, 0))), some (.inr (some (2, a2))), some (.inr (some (2, a3)))]) (st' := []) rfl (xc.mono h ?_)
        rintro r S14 ⟨rfl, hC15, h⟩
        show xw _ _ 21 [some (.inr (some (0, 0))), some (.inr (some (2, a2))), some (.inr (some (2, a3)))] [] _ _
        refine xw.s (pc' := 33) (st' := []) rfl ?_
        refine xw.ret (r := none) rfl ?_
        show xw _ _ 48 [some (.inr (some (0, 0))), some (.inr (some (5, a1))), some (.inr (some (2, a2))), some (.inr (some (2, a3))), none] [] S14 _
        exact xw.ret (r := none) rfl h
      · skip
        refine xw.s (pc' := 25) (st' := [.inr (some (0, 0))]) rfl ?_
        refine xw.s (pc' := 26) (st' := [.inr (some (2, a2)), .inr (some (0, 0))]) rfl ?_
        refine xw.s (pc' := 27) (st' := [.inr (some (2, a3)), .inr (some (2, a2)), .inr (some (0, 0))]) rfl ?_
        obtain ⟨t16, q17⟩ : ∃ t, (xm_r S9 2 a3 11) = t := ⟨_, rfl⟩
        replace h := h t16 q17
        refine xw.fr (c := 2) (j := 11) (e := 4) (nx := 30) (t := t16) rfl rfl q17 ?_
        show xw _ _ _ [some (.inr (some (0, 0))), some (.inr (some (2, a2))), some (.inr (some (2, a3)))] [.inr (xo 4 t16), .inr (some (2, a2)), .inr (some (0, 0))] _ _
        refine xw.call (m := 22) (as := [.inr (some (0, 0)), .inr (some (2, a2)), .inr (xo 4 t16)]) (nx := 33) (L' := [some (.inr (some (0, 0))), some (.inr (some (2, a2))), some (.inr (some (2, a3)))]) (st' := []) rfl (xc.mono h ?_)
        rintro r S18 ⟨rfl, hC19, h⟩
        show xw _ _ 33 [some (.inr (some (0, 0))), some (.inr (some (2, a2))), some (.inr (some (2, a3)))] [] _ _
        refine xw.ret (r := none) rfl ?_
        show xw _ _ 48 [some (.inr (some (0, 0))), some (.inr (some (5, a1))), some (.inr (some (2, a2))), some (.inr (some (2, a3))), none] [] S18 _
        exact xw.ret (r := none) rfl h
    · skip
      refine xw.s (pc' := 19) (st' := [.inl (1 : Int32)]) rfl ?_
      refine xw.s (pc' := 23) (st' := [.inl (1 : Int32)]) rfl ?_
      refine xw.retz (nx := 24) rfl (Or.inr rfl) ?_
      show xw _ _ 8 [some (.inr (some (0, 0))), some (.inr (some (5, a1))), some (.inr (some (2, a2))), some (.inr (some (2, a3))), none] [.inl (1 : Int32)] S9 _
      refine xw.bf (cd := .eq) (x := (1 : Int32)) (y := (0 : Int32)) 42 11 (st' := []) rfl (y_ceq _ _) (by decide) ?_
      refine xw.s (pc' := 12) (st' := [.inr (some (0, 0))]) rfl ?_
      refine xw.s (pc' := 13) (st' := [.inr (some (5, a1)), .inr (some (0, 0))]) rfl ?_
      refine xw.fi (c := 5) (j := 3) (ty := 0) (nx := 16) (v := (xm_i S9 5 a1 3)) rfl rfl rfl ?_
      refine xw.s (pc' := 17) (st' := [.inr (some (5, a1)), .inl (xm_i S9 5 a1 3), .inr (some (0, 0))]) rfl ?_
      refine xw.s (pc' := 18) (st' := [.inr none, .inr (some (5, a1)), .inl (xm_i S9 5 a1 3), .inr (some (0, 0))]) rfl ?_
      refine xw.call (m := 21) (as := [.inr (some (0, 0)), .inl (xm_i S9 5 a1 3), .inr (some (5, a1)), .inr none]) (nx := 21) (L' := [some (.inr (some (0, 0))), some (.inr (some (5, a1))), some (.inr (some (2, a2))), some (.inr (some (2, a3))), none]) (st' := []) rfl (xc.mono h ?_)
      rintro r S20 ⟨t22, rfl, hC21, h⟩
      show xw _ _ 21 [some (.inr (some (0, 0))), some (.inr (some (5, a1))), some (.inr (some (2, a2))), some (.inr (some (2, a3))), none] [.inr (xo 4 t22)] _ _
      refine xw.s (pc' := 23) (st' := []) (L' := [some (.inr (some (0, 0))), some (.inr (some (5, a1))), some (.inr (some (2, a2))), some (.inr (some (2, a3))), some (.inr (xo 4 t22))]) rfl ?_
      refine xw.s (pc' := 25) (st' := [.inr (xo 4 t22)]) rfl ?_
      refine xw.s (pc' := 26) (st' := [.inr (some (2, a3)), .inr (xo 4 t22)]) rfl ?_
      obtain ⟨t23, q24⟩ : ∃ t, (xm_r S20 2 a3 11) = t := ⟨_, rfl⟩
      replace h := h t23 q24
      refine xw.fr (c := 2) (j := 11) (e := 4) (nx := 29) (t := t23) rfl rfl q24 ?_
      show xw _ _ _ [some (.inr (some (0, 0))), some (.inr (some (5, a1))), some (.inr (some (2, a2))), some (.inr (some (2, a3))), some (.inr (xo 4 t22))] [.inr (xo 4 t23), .inr (xo 4 t22)] _ _
      obtain ⟨k25, rfl, h⟩ := h
      refine xw.fq (c := 4) (j := 5) (e := 4) (nx := 32) (t := t23) rfl rfl ?_
      obtain ⟨S26, e27⟩ : ∃ s, s = xm_sr S20 4 k25 5 t23 := ⟨_, rfl⟩
      rw [← e27]
      replace h := h S26 e27
      refine xw.s (pc' := 33) (st' := [.inr (some (0, 0))]) rfl ?_
      refine xw.s (pc' := 34) (st' := [.inr (some (2, a2)), .inr (some (0, 0))]) rfl ?_
      refine xw.s (pc' := 36) (st' := [.inr (some (4, k25)), .inr (some (2, a2)), .inr (some (0, 0))]) rfl ?_
      refine xw.call (m := 22) (as := [.inr (some (0, 0)), .inr (some (2, a2)), .inr (some (4, k25))]) (nx := 39) (L' := [some (.inr (some (0, 0))), some (.inr (some (5, a1))), some (.inr (some (2, a2))), some (.inr (some (2, a3))), some (.inr (some (4, k25)))]) (st' := []) rfl (xc.mono h ?_)
      rintro r S28 ⟨rfl, hC29, h⟩
      show xw _ _ 39 [some (.inr (some (0, 0))), some (.inr (some (5, a1))), some (.inr (some (2, a2))), some (.inr (some (2, a3))), some (.inr (some (4, k25)))] [] _ _
      refine xw.s (pc' := 48) (st' := []) rfl ?_
      exact xw.ret (r := none) rfl h
/-- enterBulkhead -/
theorem cw_enterBulkhead {d : Nat} {a1 : Nat} {a2 : Nat} {S : xm_S} {Q : Option xm_V → xm_S → Prop} (hC : xk_C S) (h : ((xm_i S 5 a2 2) ≤ (xm_i S 5 a2 10) → ∀ t2, (xm_r S 5 a2 12) = t2 → (∃ k4, t2 = some k4 ∧ (((xm_i S 5 a2 3) ≤ (nI (xm_n S 1 k4)) → ∀ S6, S6 = xm_si S 5 a2 11 ((xm_i S 5 a2 11) + (1 : Int32)) → (xc (d + 1) 21 [.inr (some (0, 0)), .inl (10 : Int32), .inr (some (5, a2)), .inr none] S6 (fun r S8 => ∃ t10 : Option Nat, r = some (.inr (xo 4 t10)) ∧ xk_C S8 ∧ (xc (d + 1) 22 [.inr (some (0, 0)), .inr (some (2, a1)), .inr (xo 4 t10)] S8 (fun r S11 => r = none ∧ xk_C S11 ∧ (Q none S11)))))) ∧ (¬ (xm_i S 5 a2 3) ≤ (nI (xm_n S 1 k4)) → ∀ S13, S13 = xm_si S 2 a1 13 (1 : Int32) → (xm_n S13 2 k4 ≠ 0 ∧ xm_n S13 1 k4 < 100000 ∧ (∀ S17, S17 = xm_push k4 (2, a1) S13 → (Q none S17))))))) ∧ (¬ (xm_i S 5 a2 2) ≤ (xm_i S 5 a2 10) → ∀ t19, (xm_r S 5 a2 12) = t19 → (∃ k21, t19 = some k21 ∧ (((xm_n S 1 k21) = 0 → ∀ S23, S23 = xm_si S 5 a2 10 ((xm_i S 5 a2 10) + (1 : Int32)) → (∀ t25, (xm_r S 2 a1 1) = t25 → (xc d 16 [.inr (some (0, 0)), .inr (xo 6 t25), .inr (some (2, a1))] S23 (fun r S27 => r = none ∧ xk_C S27 ∧ (Q none S27))))) ∧ (¬ (xm_n S 1 k21) = 0 → ((xm_i S 5 a2 3) ≤ (nI (xm_n S 1 k21)) → ∀ S30, S30 = xm_si S 5 a2 11 ((xm_i S 5 a2 11) + (1 : Int32)) → (xc (d + 1) 21 [.inr (some (0, 0)), .inl (10 : Int32), .inr (some (5, a2)), .inr none] S30 (fun r S32 => ∃ t34 : Option Nat, r = some (.inr (xo 4 t34)) ∧ xk_C S32 ∧ (xc (d + 1) 22 [.inr (some (0, 0)), .inr (some (2, a1)), .inr (xo 4 t34)] S32 (fun r S35 => r = none ∧ xk_C S35 ∧ (Q none S35)))))) ∧ (¬ (xm_i S 5 a2 3) ≤ (nI (xm_n S 1 k21)) → ∀ S37, S37 = xm_si S 2 a1 13 (1 : Int32) → (xm_n S37 2 k21 ≠ 0 ∧ xm_n S37 1 k21 < 100000 ∧ (∀ S41, S41 = xm_push k21 (2, a1) S37 → (Q none S41))))))))) : xc (d + 2) 42 [.inr (some (0, 0)), .inr (some (2, a1)), .inr (some (5, a2))] S Q := by
  show xw _ _ _ [some (.inr (some (0, 0))), some (.inr (some (2, a1))), some (.inr (some (5, a2)))] _ _ _
  refine xw.s (pc' := 1) (st' := [.inr (some (5, a2))]) rfl ?_
  refine xw.fi (c := 5) (j := 10) (ty := 0) (nx := 4) (v := (xm_i S 5 a2 10)) rfl rfl rfl ?_
  refine xw.s (pc' := 5) (st' := [.inr (some (5, a2)), .inl (xm_i S 5 a2 10)]) rfl ?_
  refine xw.fi (c := 5) (j := 2) (ty := 0) (nx := 8) (v := (xm_i S 5 a2 2)) rfl rfl rfl ?_
  refine xw.b (c := (xm_i S 5 a2 2) ≤ (xm_i S 5 a2 10)) (cd := .ge) (x := (xm_i S 5 a2 10)) (y := (xm_i S 5 a2 2)) 39 11 (st' := []) rfl (y_cge _ _) h (fun c1 h => ?_) (fun c1 h => ?_)
  · skip
    refine xw.s (pc' := 40) (st' := [.inr (some (5, a2))]) rfl ?_
    obtain ⟨t2, q3⟩ : ∃ t, (xm_r S 5 a2 12) = t := ⟨_, rfl⟩
    replace h := h t2 q3
    refine xw.fr (c := 5) (j := 12) (e := 12) (nx := 43) (t := t2) rfl rfl q3 ?_
    show xw _ _ _ [some (.inr (some (0, 0))), some (.inr (some (2, a1))), some (.inr (some (5, a2)))] [.inr (xo 12 t2)] _ _
    obtain ⟨k4, rfl, h⟩ := h
    refine xw.lsz (nx := 46) (n := (xm_n S 1 k4)) rfl (Nat.le_of_ble_eq_true rfl) rfl ?_
    refine xw.s (pc' := 47) (st' := [.inr (some (5, a2)), .inl (nI (xm_n S 1 k4))]) rfl ?_
    refine xw.fi (c := 5) (j := 3) (ty := 0) (nx := 50) (v := (xm_i S 5 a2 3)) rfl rfl rfl ?_
    refine xw.b (c := (xm_i S 5 a2 3) ≤ (nI (xm_n S 1 k4))) (cd := .ge) (x := (nI (xm_n S 1 k4))) (y := (xm_i S 5 a2 3)) 70 53 (st' := []) rfl (y_cge _ _) h (fun c5 h => ?_) (fun c5 h => ?_)
    · skip
      refine xw.s (pc' := 71) (st' := [.inr (some (5, a2))]) rfl ?_
      refine xw.s (pc' := 72) (st' := [.inr (some (5, a2)), .inr (some (5, a2))]) rfl ?_
      refine xw.fi (c := 5) (j := 11) (ty := 0) (nx := 75) (v := (xm_i S 5 a2 11)) rfl rfl rfl ?_
      refine xw.s (pc' := 76) (st' := [.inl (1 : Int32), .inl (xm_i S 5 a2 11), .inr (some (5, a2))]) rfl ?_
      refine xw.s (pc' := 77) (st' := [.inl ((xm_i S 5 a2 11) + (1 : Int32)), .inr (some (5, a2))]) rfl ?_
      refine xw.fp (c := 5) (j := 11) (ty := 0) (nx := 80) rfl rfl (Or.inl rfl) ?_
      obtain ⟨S6, e7⟩ : ∃ s, s = xm_si S 5 a2 11 ((xm_i S 5 a2 11) + (1 : Int32)) := ⟨_, rfl⟩
      rw [← e7]
      replace h := h S6 e7
      refine xw.s (pc' := 81) (st' := [.inr (some (0, 0))]) rfl ?_
      refine xw.s (pc' := 82) (st' := [.inr (some (2, a1)), .inr (some (0, 0))]) rfl ?_
      refine xw.s (pc' := 83) (st' := [.inr (some (0, 0)), .inr (some (2, a1)), .inr (some (0, 0))]) rfl ?_
      refine xw.s (pc' := 85) (st' := [.inl (10 : Int32), .inr (some (0, 0)), .inr (some (2, a1)), .inr (some (0, 0))]) rfl ?_
      refine xw.s (pc' := 86) (st' := [.inr (some (5, a2)), .inl (10 : Int32), .inr (some (0, 0)), .inr (some (2, a1)), .inr (some (0, 0))]) rfl ?_
      refine xw.s (pc' := 87) (st' := [.inr none, .inr (some (5, a2)), .inl (10 : Int32), .inr (some (0, 0)), .inr (some (2, a1)), .inr (some (0, 0))]) rfl ?_
      refine xw.call (m := 21) (as := [.inr (some (0, 0)), .inl (10 : Int32), .inr (some (5, a2)), .inr none]) (nx := 90) (L' := [some (.inr (some (0, 0))), some (.inr (some (2, a1))), some (.inr (some (5, a2)))]) (st' := [.inr (some (2, a1)), .inr (some (0, 0))]) rfl (xc.mono h ?_)
      rintro r S8 ⟨t10, rfl, hC9, h⟩
      show xw _ _ 90 [some (.inr (some (0, 0))), some (.inr (some (2, a1))), some (.inr (some (5, a2)))] [.inr (xo 4 t10), .inr (some (2, a1)), .inr (some (0, 0))] _ _
      refine xw.call (m := 22) (as := [.inr (some (0, 0)), .inr (some (2, a1)), .inr (xo 4 t10)]) (nx := 93) (L' := [some (.inr (some (0, 0))), some (.inr (some (2, a1))), some (.inr (some (5, a2)))]) (st' := []) rfl (xc.mono h ?_)
      rintro r S11 ⟨rfl, hC12, h⟩
      show xw _ _ 93 [some (.inr (some (0, 0))), some (.inr (some (2, a1))), some (.inr (some (5, a2)))] [] _ _
      exact xw.ret (r := none) rfl h
    · skip
      refine xw.s (pc' := 54) (st' := [.inr (some (2, a1))]) rfl ?_
      refine xw.s (pc' := 55) (st' := [.inl (1 : Int32), .inr (some (2, a1))]) rfl ?_
      refine xw.fp (c := 2) (j := 13) (ty := 0) (nx := 58) rfl rfl (Or.inl rfl) ?_
      obtain ⟨S13, e14⟩ : ∃ s, s = xm_si S 2 a1 13 (1 : Int32) := ⟨_, rfl⟩
      rw [← e14]
      replace h := h S13 e14
      refine xw.s (pc' := 59) (st' := [.inr (some (5, a2))]) rfl ?_
      refine xw.fr (c := 5) (j := 12) (e := 12) (nx := 62) (t := (some k4)) rfl rfl (((congrArg (fun s => xm_r s 5 a2 12) e14).trans rfl).trans q3) ?_
      show xw _ _ _ [some (.inr (some (0, 0))), some (.inr (some (2, a1))), some (.inr (some (5, a2)))] [.inr (some (12, k4))] _ _
      refine xw.s (pc' := 63) (st' := [.inr (some (2, a1)), .inr (some (12, k4))]) rfl ?_
      obtain ⟨z15, z16, h⟩ := h
      refine xw.ladd (nx := 66) rfl (Nat.le_of_ble_eq_true rfl) (by decide) z15 z16 ?_
      obtain ⟨S17, e18⟩ : ∃ s, s = xm_push k4 (2, a1) S13 := ⟨_, rfl⟩
      rw [← e18]
      replace h := h S17 e18
      refine xw.s (pc' := 67) (st' := []) rfl ?_
      refine xw.s (pc' := 93) (st' := []) rfl ?_
      exact xw.ret (r := none) rfl h
  · skip
    refine xw.s (pc' := 12) (st' := [.inr (some (5, a2))]) rfl ?_
    obtain ⟨t19, q20⟩ : ∃ t, (xm_r S 5 a2 12) = t := ⟨_, rfl⟩
    replace h := h t19 q20
    refine xw.fr (c := 5) (j := 12) (e := 12) (nx := 15) (t := t19) rfl rfl q20 ?_
    show xw _ _ _ [some (.inr (some (0, 0))), some (.inr (some (2, a1))), some (.inr (some (5, a2)))] [.inr (xo 12 t19)] _ _
    obtain ⟨k21, rfl, h⟩ := h
    refine xw.lem (nx := 18) (n := (xm_n S 1 k21)) rfl (Nat.le_of_ble_eq_true rfl) rfl h (fun c22 h => ?_) (fun c22 h => ?_)
    · skip
      refine xw.bf (cd := .eq) (x := (1 : Int32)) (y := (0 : Int32)) 39 21 (st' := []) rfl (y_ceq _ _) (by decide) ?_
      refine xw.s (pc' := 22) (st' := [.inr (some (5, a2))]) rfl ?_
      refine xw.s (pc' := 23) (st' := [.inr (some (5, a2)), .inr (some (5, a2))]) rfl ?_
      refine xw.fi (c := 5) (j := 10) (ty := 0) (nx := 26) (v := (xm_i S 5 a2 10)) rfl rfl rfl ?_
      refine xw.s (pc' := 27) (st' := [.inl (1 : Int32), .inl (xm_i S 5 a2 10), .inr (some (5, a2))]) rfl ?_
      refine xw.s (pc' := 28) (st' := [.inl ((xm_i S 5 a2 10) + (1 : Int32)), .inr (some (5, a2))]) rfl ?_
      refine xw.fp (c := 5) (j := 10) (ty := 0) (nx := 31) rfl rfl (Or.inl rfl) ?_
      obtain ⟨S23, e24⟩ : ∃ s, s = xm_si S 5 a2 10 ((xm_i S 5 a2 10) + (1 : Int32)) := ⟨_, rfl⟩
      rw [← e24]
      replace h := h S23 e24
      refine xw.s (pc' := 32) (st' := [.inr (some (0, 0))]) rfl ?_
      refine xw.s (pc' := 33) (st' := [.inr (some (2, a1)), .inr (some (0, 0))]) rfl ?_
      refine xw.call (m := 41) (as := [.inr (some (0, 0)), .inr (some (2, a1))]) (nx := 36) (L' := [some (.inr (some (0, 0))), some (.inr (some (2, a1))), some (.inr (some (5, a2)))]) (st' := []) rfl ?_
      show xw _ _ _ [some (.inr (some (0, 0))), some (.inr (some (2, a1)))] [] _ _
      refine xw.s (pc' := 1) (st' := [.inr (some (0, 0))]) rfl ?_
      refine xw.s (pc' := 2) (st' := [.inr (some (2, a1)), .inr (some (0, 0))]) rfl ?_
      obtain ⟨t25, q26⟩ : ∃ t, (xm_r S 2 a1 1) = t := ⟨_, rfl⟩
      replace h := h t25 q26
      refine xw.fr (c := 2) (j := 1) (e := 6) (nx := 5) (t := t25) rfl rfl (((congrArg (fun s => xm_r s 2 a1 1) e24).trans rfl).trans q26) ?_
      show xw _ _ _ [some (.inr (some (0, 0))), some (.inr (some (2, a1)))] [.inr (xo 6 t25), .inr (some (0, 0))] _ _
      refine xw.s (pc' := 6) (st' := [.inr (some (2, a1)), .inr (xo 6 t25), .inr (some (0, 0))]) rfl ?_
      refine xw.call (m := 16) (as := [.inr (some (0, 0)), .inr (xo 6 t25), .inr (some (2, a1))]) (nx := 9) (L' := [some (.inr (some (0, 0))), some (.inr (some (2, a1)))]) (st' := []) rfl (xc.mono h ?_)
      rintro r S27 ⟨rfl, hC28, h⟩
      show xw _ _ 9 [some (.inr (some (0, 0))), some (.inr (some (2, a1)))] [] _ _
      refine xw.ret (r := none) rfl ?_
      show xw _ _ 36 [some (.inr (some (0, 0))), some (.inr (some (2, a1))), some (.inr (some (5, a2)))] [] S27 _
      refine xw.s (pc' := 93) (st' := []) rfl ?_
      exact xw.ret (r := none) rfl h
    · skip
      refine xw.bt (cd := .eq) (x := (0 : Int32)) (y := (0 : Int32)) 39 21 (st' := []) rfl (y_ceq _ _) (by decide) ?_
      refine xw.s (pc' := 40) (st' := [.inr (some (5, a2))]) rfl ?_
      refine xw.fr (c := 5) (j := 12) (e := 12) (nx := 43) (t := (some k21)) rfl rfl q20 ?_
      show xw _ _ _ [some (.inr (some (0, 0))), some (.inr (some (2, a1))), some (.inr (some (5, a2)))] [.inr (some (12, k21))] _ _
      refine xw.lsz (nx := 46) (n := (xm_n S 1 k21)) rfl (Nat.le_of_ble_eq_true rfl) rfl ?_
      refine xw.s (pc' := 47) (st' := [.inr (some (5, a2)), .inl (nI (xm_n S 1 k21))]) rfl ?_
      refine xw.fi (c := 5) (j := 3) (ty := 0) (nx := 50) (v := (xm_i S 5 a2 3)) rfl rfl rfl ?_
      refine xw.b (c := (xm_i S 5 a2 3) ≤ (nI (xm_n S 1 k21))) (cd := .ge) (x := (nI (xm_n S 1 k21))) (y := (xm_i S 5 a2 3)) 70 53 (st' := []) rfl (y_cge _ _) h (fun c29 h => ?_) (fun c29 h => ?_)
      · skip
        refine xw.s (pc' := 71) (st' := [.inr (some (5, a2))]) rfl ?_
        refine xw.s (pc' := 72) (st' := [.inr (some (5, a2)), .inr (some (5, a2))]) rfl ?_
        refine xw.fi (c := 5) (j := 11) (ty := 0) (nx := 75) (v := (xm_i S 5 a2 11)) rfl rfl rfl ?_
        refine xw.s (pc' := 76) (st' := [.inl (1 : Int32), .inl (xm_i S 5 a2 11), .inr (some (5, a2))]) rfl ?_
        refine xw.s (pc' := 77) (st' := [.inl ((xm_i S 5 a2 11) + (1 : Int32)), .inr (some (5, a2))]) rfl ?_
        refine xw.fp (c := 5) (j := 11) (ty := 0) (nx := 80) rfl rfl (Or.inl rfl) ?_
        obtain ⟨S30, e31⟩ : ∃ s, s = xm_si S 5 a2 11 ((xm_i S 5 a2 11) + (1 : Int32)) := ⟨_, rfl⟩
        rw [← e31]
        replace h := h S30 e31
        refine xw.s (pc' := 81) (st' := [.inr (some (0, 0))]) rfl ?_
        refine xw.s (pc' := 82) (st' := [.inr (some (2, a1)), .inr (some (0, 0))]) rfl ?_
        refine xw.s (pc' := 83) (st' := [.inr (some (0, 0)), .inr (some (2, a1)), .inr (some (0, 0))]) rfl ?_
        refine xw.s (pc' := 85) (st' := [.inl (10 : Int32), .inr (some (0, 0)), .inr (some (2, a1)), .inr (some (0, 0))]) rfl ?_
        refine xw.s (pc' := 86) (st' := [.inr (some (5, a2)), .inl (10 : Int32), .inr (some (0, 0)), .inr (some (2, a1)), .inr (some (0, 0))]) rfl ?_
        refine xw.s (pc' := 87) (st' := [.inr none, .inr (some (5, a2)), .inl (10 : Int32), .inr (some (0, 0)), .inr (some (2, a1)), .inr (some (0, 0))]) rfl ?_
        refine xw.call (m := 21) (as := [.inr (some (0, 0)), .inl (10 : Int32), .inr (some (5, a2)), .inr none]) (nx := 90) (L' := [some (.inr (some (0, 0))), some (.inr (some (2, a1))), some (.inr (some (5, a2)))]) (st' := [.inr (some (2, a1)), .inr (some (0, 0))]) rfl (xc.mono h ?_)
        rintro r S32 ⟨t34, rfl, hC33, h⟩
        show xw _ _ 90 [some (.inr (some (0, 0))), some (.inr (some (2, a1))), some (.inr (some (5, a2)))] [.inr (xo 4 t34), .inr (some (2, a1)), .inr (some (0, 0))] _ _
        refine xw.call (m := 22) (as := [.inr (some (0, 0)), .inr (some (2, a1)), .inr (xo 4 t34)]) (nx := 93) (L' := [some (.inr (some (0, 0))), some (.inr (some (2, a1))), some (.inr (some (5, a2)))]) (st' := []) rfl (xc.mono h ?_)
        rintro r S35 ⟨rfl, hC36, h⟩
        show xw _ _ 93 [some (.inr (some (0, 0))), some (.inr (some (2, a1))), some (.inr (some (5, a2)))] [] _ _
        exact xw.ret (r := none) rfl h
      · skip
        refine xw.s (pc' := 54) (st' := [.inr (some (2, a1))]) rfl ?_
        refine xw.s (pc' := 55) (st' := [.inl (1 : Int32), .inr (some (2, a1))]) rfl ?_
        refine xw.fp (c := 2) (j := 13) (ty := 0) (nx := 58) rfl rfl (Or.inl rfl) ?_
        obtain ⟨S37, e38⟩ : ∃ s, s = xm_si S 2 a1 13 (1 : Int32) := ⟨_, rfl⟩
        rw [← e38]
        replace h := h S37 e38
        refine xw.s (pc' := 59) (st' := [.inr (some (5, a2))]) rfl ?_
        refine xw.fr (c := 5) (j := 12) (e := 12) (nx := 62) (t := (some k21)) rfl rfl (((congrArg (fun s => xm_r s 5 a2 12) e38).trans rfl).trans q20) ?_
        show xw _ _ _ [some (.inr (some (0, 0))), some (.inr (some (2, a1))), some (.inr (some (5, a2)))] [.inr (some (12, k21))] _ _
        refine xw.s (pc' := 63) (st' := [.inr (some (2, a1)), .inr (some (12, k21))]) rfl ?_
        obtain ⟨z39, z40, h⟩ := h
        refine xw.ladd (nx := 66) rfl (Nat.le_of_ble_eq_true rfl) (by decide) z39 z40 ?_
        obtain ⟨S41, e42⟩ : ∃ s, s = xm_push k21 (2, a1) S37 := ⟨_, rfl⟩
        rw [← e42]
        replace h := h S41 e42
        refine xw.s (pc' := 67) (st' := []) rfl ?_
        refine xw.s (pc' := 93) (st' := []) rfl ?_
        exact xw.ret (r := none) rfl h
/-- enterLimit -/
theorem cw_enterLimit {d : Nat} {a1 : Nat} {a2 : Nat} {S : xm_S} {Q : Option xm_V → xm_S → Prop} (hC : xk_C S) (h : ((xm_i S 5 a2 13) ≤ (0 : Int32) → xc (d + 1) 21 [.inr (some (0, 0)), .inl (11 : Int32), .inr (some (5, a2)), .inr none] S (fun r S2 => ∃ t4 : Option Nat, r = some (.inr (xo 4 t4)) ∧ xk_C S2 ∧ (xc (d + 1) 22 [.inr (some (0, 0)), .inr (some (2, a1)), .inr (xo 4 t4)] S2 (fun r S5 => r = none ∧ xk_C S5 ∧ (Q none S5))))) ∧ (¬ (xm_i S 5 a2 13) ≤ (0 : Int32) → ∀ S7, S7 = xm_si S 5 a2 13 ((xm_i S 5 a2 13) - (1 : Int32)) → (∀ t9, (xm_r S 2 a1 1) = t9 → (xc d 16 [.inr (some (0, 0)), .inr (xo 6 t9), .inr (some (2, a1))] S7 (fun r S11 => r = none ∧ xk_C S11 ∧ (Q none S11)))))) : xc (d + 2) 43 [.inr (some (0, 0)), .inr (some (2, a1)), .inr (some (5, a2))] S Q := by
  show xw _ _ _ [some (.inr (some (0, 0))), some (.inr (some (2, a1))), some (.inr (some (5, a2)))] _ _ _
  refine xw.s (pc' := 1) (st' := [.inr (some (5, a2))]) rfl ?_
  refine xw.fi (c := 5) (j := 13) (ty := 0) (nx := 4) (v := (xm_i S 5 a2 13)) rfl rfl rfl ?_
  refine xw.b (c := (xm_i S 5 a2 13) ≤ (0 : Int32)) (cd := .le) (x := (xm_i S 5 a2 13)) (y := (0 : Int32)) 25 7 (st' := []) rfl (y_cle _ _) h (fun c1 h => ?_) (fun c1 h => ?_)
  · skip
    refine xw.s (pc' := 26) (st' := [.inr (some (0, 0))]) rfl ?_
    refine xw.s (pc' := 27) (st' := [.inr (some (2, a1)), .inr (some (0, 0))]) rfl ?_
    refine xw.s (pc' := 28) (st' := [.inr (some (0, 0)), .inr (some (2, a1)), .inr (some (0, 0))]) rfl ?_
    refine xw.s (pc' := 30) (st' := [.inl (11 : Int32), .inr (some (0, 0)), .inr (some (2, a1)), .inr (some (0, 0))]) rfl ?_
    refine xw.s (pc' := 31) (st' := [.inr (some (5, a2)), .inl (11 : Int32), .inr (some (0, 0)), .inr (some (2, a1)), .inr (some (0, 0))]) rfl ?_
    refine xw.s (pc' := 32) (st' := [.inr none, .inr (some (5, a2)), .inl (11 : Int32), .inr (some (0, 0)), .inr (some (2, a1)), .inr (some (0, 0))]) rfl ?_
    refine xw.call (m := 21) (as := [.inr (some (0, 0)), .inl (11 : Int32), .inr (some (5, a2)), .inr none]) (nx := 35) (L' := [some (.inr (some (0, 0))), some (.inr (some (2, a1))), some (.inr (some (5, a2)))]) (st' := [.inr (some (2, a1)), .inr (some (0, 0))]) rfl (xc.mono h ?_)
    rintro r S2 ⟨t4, rfl, hC3, h⟩
    show xw _ _ 35 [some (.inr (some (0, 0))), some (.inr (some (2, a1))), some (.inr (some (5, a2)))] [.inr (xo 4 t4), .inr (some (2, a1)), .inr (some (0, 0))] _ _
    refine xw.call (m := 22) (as := [.inr (some (0, 0)), .inr (some (2, a1)), .inr (xo 4 t4)]) (nx := 38) (L' := [some (.inr (some (0, 0))), some (.inr (some (2, a1))), some (.inr (some (5, a2)))]) (st' := []) rfl (xc.mono h ?_)
    rintro r S5 ⟨rfl, hC6, h⟩
    show xw _ _ 38 [some (.inr (some (0, 0))), some (.inr (some (2, a1))), some (.inr (some (5, a2)))] [] _ _
    exact xw.ret (r := none) rfl h
  · skip
    refine xw.s (pc' := 8) (st' := [.inr (some (5, a2))]) rfl ?_
    refine xw.s (pc' := 9) (st' := [.inr (some (5, a2)), .inr (some (5, a2))]) rfl ?_
    refine xw.fi (c := 5) (j := 13) (ty := 0) (nx := 12) (v := (xm_i S 5 a2 13)) rfl rfl rfl ?_
    refine xw.s (pc' := 13) (st' := [.inl (1 : Int32), .inl (xm_i S 5 a2 13), .inr (some (5, a2))]) rfl ?_
    refine xw.s (pc' := 14) (st' := [.inl ((xm_i S 5 a2 13) - (1 : Int32)), .inr (some (5, a2))]) rfl ?_
    refine xw.fp (c := 5) (j := 13) (ty := 0) (nx := 17) rfl rfl (Or.inl rfl) ?_
    obtain ⟨S7, e8⟩ : ∃ s, s = xm_si S 5 a2 13 ((xm_i S 5 a2 13) - (1 : Int32)) := ⟨_, rfl⟩
    rw [← e8]
    replace h := h S7 e8
    refine xw.s (pc' := 18) (st' := [.inr (some (0, 0))]) rfl ?_
    refine xw.s (pc' := 19) (st' := [.inr (some (2, a1)), .inr (some (0, 0))]) rfl ?_
    refine xw.call (m := 41) (as := [.inr (some (0, 0)), .inr (some (2, a1))]) (nx := 22) (L' := [some (.inr (some (0, 0))), some (.inr (some (2, a1))), some (.inr (some (5, a2)))]) (st' := []) rfl ?_
    show xw _ _ _ [some (.inr (some (0, 0))), some (.inr (some (2, a1)))] [] _ _
    refine xw.s (pc' := 1) (st' := [.inr (some (0, 0))]) rfl ?_
    refine xw.s (pc' := 2) (st' := [.inr (some (2, a1)), .inr (some (0, 0))]) rfl ?_
    obtain ⟨t9, q10⟩ : ∃ t, (xm_r S 2 a1 1) = t := ⟨_, rfl⟩
    replace h := h t9 q10
    refine xw.fr (c := 2) (j := 1) (e := 6) (nx := 5) (t := t9) rfl rfl (((congrArg (fun s => xm_r s 2 a1 1) e8).trans rfl).trans q10) ?_
    show xw _ _ _ [some (.inr (some (0, 0))), some (.inr (some (2, a1)))] [.inr (xo 6 t9), .inr (some (0, 0))] _ _
    refine xw.s (pc' := 6) (st' := [.inr (some (2, a1)), .inr (xo 6 t9), .inr (some (0, 0))]) rfl ?_
    refine xw.call (m := 16) (as := [.inr (some (0, 0)), .inr (xo 6 t9), .inr (some (2, a1))]) (nx := 9) (L' := [some (.inr (some (0, 0))), some (.inr (some (2, a1)))]) (st' := []) rfl (xc.mono h ?_)
    rintro r S11 ⟨rfl, hC12, h⟩
    show xw _ _ 9 [some (.inr (some (0, 0))), some (.inr (some (2, a1)))] [] _ _
    refine xw.ret (r := none) rfl ?_
    show xw _ _ 22 [some (.inr (some (0, 0))), some (.inr (some (2, a1))), some (.inr (some (5, a2)))] [] S11 _
    refine xw.s (pc' := 38) (st' := []) rfl ?_
    exact xw.ret (r := none) rfl h
/-- enterMemory -/
theorem cw_enterMemory {d : Nat} {a1 : Nat} {a2 : Nat} {S : xm_S} {Q : Option xm_V → xm_S → Prop} (hC : xk_C S) (h : ∀ t1, (xm_r S 2 a1 1) = t1 → (∃ k3, t1 = some k3 ∧ (∀ t4, (xm_r S 6 k3 2) = t4 → (∃ k6, t4 = some k6 ∧ (((xm_i S 9 k6 0) < (0 : Int32) → ((xm_i S 6 k3 3) = (0 : Int32) → xc d 16 [.inr (some (0, 0)), .inr (some (6, k3)), .inr (some (2, a1))] S (fun r S9 => r = none ∧ xk_C S9 ∧ (Q none S9))) ∧ (¬ (xm_i S 6 k3 3) = (0 : Int32) → xc d 16 [.inr (some (0, 0)), .inr (some (6, k3)), .inr (some (2, a1))] S (fun r S11 => r = none ∧ xk_C S11 ∧ (Q none S11)))) ∧ (¬ (xm_i S 9 k6 0) < (0 : Int32) → ∀ t13, (xm_r S 5 a2 14) = t13 → (∃ k15, t13 = some k15 ∧ (((nI (xm_n S 25 k15)) ≤ (xm_i S 9 k6 0) → ((xm_i S 6 k3 3) = (0 : Int32) → xc d 16 [.inr (some (0, 0)), .inr (some (6, k3)), .inr (some (2, a1))] S (fun r S18 => r = none ∧ xk_C S18 ∧ (Q none S18))) ∧ (¬ (xm_i S 6 k3 3) = (0 : Int32) → xc d 16 [.inr (some (0, 0)), .inr (some (6, k3)), .inr (some (2, a1))] S (fun r S20 => r = none ∧ xk_C S20 ∧ (Q none S20)))) ∧ (¬ (nI (xm_n S 25 k15)) ≤ (xm_i S 9 k6 0) → y_in (xm_i S 9 k6 0) (xm_n S 25 k15) ∧ (∀ t23, (xm_r S 15 k15 (y_ix (xm_i S 9 k6 0))) = t23 → (((xm_i S 6 k3 3) = (0 : Int32) → (t23 = none → xc d 16 [.inr (some (0, 0)), .inr (some (6, k3)), .inr (some (2, a1))] S (fun r S27 => r = none ∧ xk_C S27 ∧ (Q none S27))) ∧ (∀ k26, t23 = some k26 → ((xm_i S 5 a2 2) < ((xm_i S 0 0 13) - (xm_i S 2 k26 7)) → xc d 16 [.inr (some (0, 0)), .inr (some (6, k3)), .inr (some (2, a1))] S (fun r S30 => r = none ∧ xk_C S30 ∧ (Q none S30))) ∧ (¬ (xm_i S 5 a2 2) < ((xm_i S 0 0 13) - (xm_i S 2 k26 7)) → xc (d + 1) 30 [.inr (some (0, 0)), .inr (some (2, a1)), .inl (xm_i S 2 k26 9), .inl (xm_i S 2 k26 10)] S (fun r S32 => r = none ∧ xk_C S32 ∧ (Q none S32))))) ∧ (¬ (xm_i S 6 k3 3) = (0 : Int32) → xc d 16 [.inr (some (0, 0)), .inr (some (6, k3)), .inr (some (2, a1))] S (fun r S34 => r = none ∧ xk_C S34 ∧ (Q none S34)))))))))))))) : xc (d + 2) 44 [.inr (some (0, 0)), .inr (some (2, a1)), .inr (some (5, a2))] S Q := by
  show xw _ _ _ [some (.inr (some (0, 0))), some (.inr (some (2, a1))), some (.inr (some (5, a2))), none] _ _ _
  refine xw.s (pc' := 1) (st' := [.inr (some (5, a2))]) rfl ?_
  refine xw.s (pc' := 2) (st' := [.inr (some (2, a1)), .inr (some (5, a2))]) rfl ?_
  obtain ⟨t1, q2⟩ : ∃ t, (xm_r S 2 a1 1) = t := ⟨_, rfl⟩
  replace h := h t1 q2
  refine xw.fr (c := 2) (j := 1) (e := 6) (nx := 5) (t := t1) rfl rfl q2 ?_
  show xw _ _ _ [some (.inr (some (0, 0))), some (.inr (some (2, a1))), some (.inr (some (5, a2))), none] [.inr (xo 6 t1), .inr (some (5, a2))] _ _
  obtain ⟨k3, rfl, h⟩ := h
  obtain ⟨t4, q5⟩ : ∃ t, (xm_r S 6 k3 2) = t := ⟨_, rfl⟩
  replace h := h t4 q5
  refine xw.fr (c := 6) (j := 2) (e := 9) (nx := 8) (t := t4) rfl rfl q5 ?_
  show xw _ _ _ [some (.inr (some (0, 0))), some (.inr (some (2, a1))), some (.inr (some (5, a2))), none] [.inr (xo 9 t4), .inr (some (5, a2))] _ _
  refine xw.call (m := 101) (as := [.inr (some (5, a2)), .inr (xo 9 t4)]) (nx := 11) (L' := [some (.inr (some (0, 0))), some (.inr (some (2, a1))), some (.inr (some (5, a2))), none]) (st' := []) rfl ?_
  show xw _ _ _ [some (.inr (some (5, a2))), some (.inr (xo 9 t4))] [] _ _
  refine xw.s (pc' := 1) (st' := [.inr (xo 9 t4)]) rfl ?_
  obtain ⟨k6, rfl, h⟩ := h
  refine xw.fi (c := 9) (j := 0) (ty := 0) (nx := 4) (v := (xm_i S 9 k6 0)) rfl rfl rfl ?_
  refine xw.b (c := (xm_i S 9 k6 0) < (0 : Int32)) (cd := .lt) (x := (xm_i S 9 k6 0)) (y := (0 : Int32)) 31 7 (st' := []) rfl (y_clt _ _) h (fun c7 h => ?_) (fun c7 h => ?_)
  · skip
    refine xw.s (pc' := 32) (st' := [.inr none]) rfl ?_
    refine xw.ret (r := some (.inr none)) rfl ?_
    show xw _ _ 11 [some (.inr (some (0, 0))), some (.inr (some (2, a1))), some (.inr (some (5, a2))), none] [.inr none] S _
    refine xw.s (pc' := 12) (st' := []) (L' := [some (.inr (some (0, 0))), some (.inr (some (2, a1))), some (.inr (some (5, a2))), some (.inr none)]) rfl ?_
    refine xw.s (pc' := 13) (st' := [.inr (some (2, a1))]) rfl ?_
    refine xw.fr (c := 2) (j := 1) (e := 6) (nx := 16) (t := (some k3)) rfl rfl q2 ?_
    show xw _ _ _ [some (.inr (some (0, 0))), some (.inr (some (2, a1))), some (.inr (some (5, a2))), some (.inr none)] [.inr (some (6, k3))] _ _
    refine xw.fi (c := 6) (j := 3) (ty := 0) (nx := 19) (v := (xm_i S 6 k3 3)) rfl rfl rfl ?_
    refine xw.bn (c := (xm_i S 6 k3 3) = (0 : Int32)) (cd := .ne) (x := (xm_i S 6 k3 3)) (y := (0 : Int32)) 58 22 (st' := []) rfl (y_cne _ _) h (fun c8 h => ?_) (fun c8 h => ?_)
    · skip
      refine xw.s (pc' := 23) (st' := [.inr none]) rfl ?_
      refine xw.s (pc' := 58) (st' := []) rfl ?_
      refine xw.s (pc' := 59) (st' := [.inr (some (0, 0))]) rfl ?_
      refine xw.s (pc' := 60) (st' := [.inr (some (2, a1)), .inr (some (0, 0))]) rfl ?_
      refine xw.call (m := 41) (as := [.inr (some (0, 0)), .inr (some (2, a1))]) (nx := 63) (L' := [some (.inr (some (0, 0))), some (.inr (some (2, a1))), some (.inr (some (5, a2))), some (.inr none)]) (st' := []) rfl ?_
      show xw _ _ _ [some (.inr (some (0, 0))), some (.inr (some (2, a1)))] [] _ _
      refine xw.s (pc' := 1) (st' := [.inr (some (0, 0))]) rfl ?_
      refine xw.s (pc' := 2) (st' := [.inr (some (2, a1)), .inr (some (0, 0))]) rfl ?_
      refine xw.fr (c := 2) (j := 1) (e := 6) (nx := 5) (t := (some k3)) rfl rfl q2 ?_
      show xw _ _ _ [some (.inr (some (0, 0))), some (.inr (some (2, a1)))] [.inr (some (6, k3)), .inr (some (0, 0))] _ _
      refine xw.s (pc' := 6) (st' := [.inr (some (2, a1)), .inr (some (6, k3)), .inr (some (0, 0))]) rfl ?_
      refine xw.call (m := 16) (as := [.inr (some (0, 0)), .inr (some (6, k3)), .inr (some (2, a1))]) (nx := 9) (L' := [some (.inr (some (0, 0))), some (.inr (some (2, a1)))]) (st' := []) rfl (xc.mono h ?_)
      rintro r S9 ⟨rfl, hC10, h⟩
      show xw _ _ 9 [some (.inr (some (0, 0))), some (.inr (some (2, a1)))] [] _ _
      refine xw.ret (r := none) rfl ?_
      show xw _ _ 63 [some (.inr (some (0, 0))), some (.inr (some (2, a1))), some (.inr (some (5, a2))), some (.inr none)] [] S9 _
      exact xw.ret (r := none) rfl h
    · skip
      refine xw.s (pc' := 59) (st' := [.inr (some (0, 0))]) rfl ?_
      refine xw.s (pc' := 60) (st' := [.inr (some (2, a1)), .inr (some (0, 0))]) rfl ?_
      refine xw.call (m := 41) (as := [.inr (some (0, 0)), .inr (some (2, a1))]) (nx := 63) (L' := [some (.inr (some (0, 0))), some (.inr (some (2, a1))), some (.inr (some (5, a2))), some (.inr none)]) (st' := []) rfl ?_
      show xw _ _ _ [some (.inr (some (0, 0))), some (.inr (some (2, a1)))] [] _ _
      refine xw.s (pc' := 1) (st' := [.inr (some (0, 0))]) rfl ?_
      refine xw.s (pc' := 2) (st' := [.inr (some (2, a1)), .inr (some (0, 0))]) rfl ?_
      refine xw.fr (c := 2) (j := 1) (e := 6) (nx := 5) (t := (some k3)) rfl rfl q2 ?_
      show xw _ _ _ [some (.inr (some (0, 0))), some (.inr (some (2, a1)))] [.inr (some (6, k3)), .inr (some (0, 0))] _ _
      refine xw.s (pc' := 6) (st' := [.inr (some (2, a1)), .inr (some (6, k3)), .inr (some (0, 0))]) rfl ?_
      refine xw.call (m := 16) (as := [.inr (some (0, 0)), .inr (some (6, k3)), .inr (some (2, a1))]) (nx := 9) (L' := [some (.inr (some (0, 0))), some (.inr (some (2, a1)))]) (st' := []) rfl (xc.mono h ?_)
      rintro r S11 ⟨rfl, hC12, h⟩
      show xw _ _ 9 [some (.inr (some (0, 0))), some (.inr (some (2, a1)))] [] _ _
      refine xw.ret (r := none) rfl ?_
      show xw _ _ 63 [some (.inr (some (0, 0))), some (.inr (some (2, a1))), some (.inr (some (5, a2))), some (.inr none)] [] S11 _
      exact xw.ret (r := none) rfl h
  · skip
    refine xw.s (pc' := 8) (st' := [.inr (some (9, k6))]) rfl ?_
    refine xw.fi (c := 9) (j := 0) (ty := 0) (nx := 11) (v := (xm_i S 9 k6 0)) rfl rfl rfl ?_
    refine xw.s (pc' := 12) (st' := [.inr (some (5, a2)), .inl (xm_i S 9 k6 0)]) rfl ?_
    obtain ⟨t13, q14⟩ : ∃ t, (xm_r S 5 a2 14) = t := ⟨_, rfl⟩
    replace h := h t13 q14
    refine xw.fr (c := 5) (j := 14) (e := 15) (nx := 15) (t := t13) rfl rfl q14 ?_
    show xw _ _ _ [some (.inr (some (5, a2))), some (.inr (some (9, k6)))] [.inr (xo 15 t13), .inl (xm_i S 9 k6 0)] _ _
    obtain ⟨k15, rfl, h⟩ := h
    refine xw.aln (c := 15) (n := (xm_n S 25 k15)) (nx := 16) rfl (by decide) rfl ?_
    refine xw.b (c := (nI (xm_n S 25 k15)) ≤ (xm_i S 9 k6 0)) (cd := .ge) (x := (xm_i S 9 k6 0)) (y := (nI (xm_n S 25 k15))) 31 19 (st' := []) rfl (y_cge _ _) h (fun c16 h => ?_) (fun c16 h => ?_)
    · skip
      refine xw.s (pc' := 32) (st' := [.inr none]) rfl ?_
      refine xw.ret (r := some (.inr none)) rfl ?_
      show xw _ _ 11 [some (.inr (some (0, 0))), some (.inr (some (2, a1))), some (.inr (some (5, a2))), none] [.inr none] S _
      refine xw.s (pc' := 12) (st' := []) (L' := [some (.inr (some (0, 0))), some (.inr (some (2, a1))), some (.inr (some (5, a2))), some (.inr none)]) rfl ?_
      refine xw.s (pc' := 13) (st' := [.inr (some (2, a1))]) rfl ?_
      refine xw.fr (c := 2) (j := 1) (e := 6) (nx := 16) (t := (some k3)) rfl rfl q2 ?_
      show xw _ _ _ [some (.inr (some (0, 0))), some (.inr (some (2, a1))), some (.inr (some (5, a2))), some (.inr none)] [.inr (some (6, k3))] _ _
      refine xw.fi (c := 6) (j := 3) (ty := 0) (nx := 19) (v := (xm_i S 6 k3 3)) rfl rfl rfl ?_
      refine xw.bn (c := (xm_i S 6 k3 3) = (0 : Int32)) (cd := .ne) (x := (xm_i S 6 k3 3)) (y := (0 : Int32)) 58 22 (st' := []) rfl (y_cne _ _) h (fun c17 h => ?_) (fun c17 h => ?_)
      · skip
        refine xw.s (pc' := 23) (st' := [.inr none]) rfl ?_
        refine xw.s (pc' := 58) (st' := []) rfl ?_
        refine xw.s (pc' := 59) (st' := [.inr (some (0, 0))]) rfl ?_
        refine xw.s (pc' := 60) (st' := [.inr (some (2, a1)), .inr (some (0, 0))]) rfl ?_
        refine xw.call (m := 41) (as := [.inr (some (0, 0)), .inr (some (2, a1))]) (nx := 63) (L' := [some (.inr (some (0, 0))), some (.inr (some (2, a1))), some (.inr (some (5, a2))), some (.inr none)]) (st' := []) rfl ?_
        show xw _ _ _ [some (.inr (some (0, 0))), some (.inr (some (2, a1)))] [] _ _
        refine xw.s (pc' := 1) (st' := [.inr (some (0, 0))]) rfl ?_
        refine xw.s (pc' := 2) (st' := [.inr (some (2, a1)), .inr (some (0, 0))]) rfl ?_
        refine xw.fr (c := 2) (j := 1) (e := 6) (nx := 5) (t := (some k3)) rfl rfl q2 ?_
        show xw _ _ _ [some (.inr (some (0, 0))), some (.inr (some (2, a1)))] [.inr (some (6, k3)), .inr (some (0, 0))] _ _
        refine xw.s (pc' := 6) (st' := [.inr (some (2, a1)), .inr (some (6, k3)), .inr (some (0, 0))]) rfl ?_
        refine xw.call (m := 16) (as := [.inr (some (0, 0)), .inr (some (6, k3)), .inr (some (2, a1))]) (nx := 9) (L' := [some (.inr (some (0, 0))), some (.inr (some (2, a1)))]) (st' := []) rfl (xc.mono h ?_)
        rintro r S18 ⟨rfl, hC19, h⟩
        show xw _ _ 9 [some (.inr (some (0, 0))), some (.inr (some (2, a1)))] [] _ _
        refine xw.ret (r := none) rfl ?_
        show xw _ _ 63 [some (.inr (some (0, 0))), some (.inr (some (2, a1))), some (.inr (some (5, a2))), some (.inr none)] [] S18 _
        exact xw.ret (r := none) rfl h
      · skip
        refine xw.s (pc' := 59) (st' := [.inr (some (0, 0))]) rfl ?_
        refine xw.s (pc' := 60) (st' := [.inr (some (2, a1)), .inr (some (0, 0))]) rfl ?_
        refine xw.call (m := 41) (as := [.inr (some (0, 0)), .inr (some (2, a1))]) (nx := 63) (L' := [some (.inr (some (0, 0))), some (.inr (some (2, a1))), some (.inr (some (5, a2))), some (.inr none)]) (st' := []) rfl ?_
        show xw _ _ _ [some (.inr (some (0, 0))), some (.inr (some (2, a1)))] [] _ _
        refine xw.s (pc' := 1) (st' := [.inr (some (0, 0))]) rfl ?_
        refine xw.s (pc' := 2) (st' := [.inr (some (2, a1)), .inr (some (0, 0))]) rfl ?_
        refine xw.fr (c := 2) (j := 1) (e := 6) (nx := 5) (t := (some k3)) rfl rfl q2 ?_
        show xw _ _ _ [some (.inr (some (0, 0))), some (.inr (some (2, a1)))] [.inr (some (6, k3)), .inr (some (0, 0))] _ _
        refine xw.s (pc' := 6) (st' := [.inr (some (2, a1)), .inr (some (6, k3)), .inr (some (0, 0))]) rfl ?_
        refine xw.call (m := 16) (as := [.inr (some (0, 0)), .inr (some (6, k3)), .inr (some (2, a1))]) (nx := 9) (L' := [some (.inr (some (0, 0))), some (.inr (some (2, a1)))]) (st' := []) rfl (xc.mono h ?_)
        rintro r S20 ⟨rfl, hC21, h⟩
        show xw _ _ 9 [some (.inr (some (0, 0))), some (.inr (some (2, a1)))] [] _ _
        refine xw.ret (r := none) rfl ?_
        show xw _ _ 63 [some (.inr (some (0, 0))), some (.inr (some (2, a1))), some (.inr (some (5, a2))), some (.inr none)] [] S20 _
        exact xw.ret (r := none) rfl h
    · skip
      refine xw.s (pc' := 20) (st' := [.inr (some (5, a2))]) rfl ?_
      refine xw.fr (c := 5) (j := 14) (e := 15) (nx := 23) (t := (some k15)) rfl rfl q14 ?_
      show xw _ _ _ [some (.inr (some (5, a2))), some (.inr (some (9, k6)))] [.inr (some (15, k15))] _ _
      refine xw.s (pc' := 24) (st' := [.inr (some (9, k6)), .inr (some (15, k15))]) rfl ?_
      refine xw.fi (c := 9) (j := 0) (ty := 0) (nx := 27) (v := (xm_i S 9 k6 0)) rfl rfl rfl ?_
      obtain ⟨z22, h⟩ := h
      obtain ⟨t23, q24⟩ : ∃ t, (xm_r S 15 k15 (y_ix (xm_i S 9 k6 0))) = t := ⟨_, rfl⟩
      replace h := h t23 q24
      refine xw.ald (nx := 28) (t := t23) rfl z22 q24 ?_
      refine xw.s (pc' := 32) (st' := [.inr (xo 2 t23)]) rfl ?_
      refine xw.ret (r := some (.inr (xo 2 t23))) rfl ?_
      show xw _ _ 11 [some (.inr (some (0, 0))), some (.inr (some (2, a1))), some (.inr (some (5, a2))), none] [.inr (xo 2 t23)] S _
      refine xw.s (pc' := 12) (st' := []) (L' := [some (.inr (some (0, 0))), some (.inr (some (2, a1))), some (.inr (some (5, a2))), some (.inr (xo 2 t23))]) rfl ?_
      refine xw.s (pc' := 13) (st' := [.inr (some (2, a1))]) rfl ?_
      refine xw.fr (c := 2) (j := 1) (e := 6) (nx := 16) (t := (some k3)) rfl rfl q2 ?_
      show xw _ _ _ [some (.inr (some (0, 0))), some (.inr (some (2, a1))), some (.inr (some (5, a2))), some (.inr (xo 2 t23))] [.inr (some (6, k3))] _ _
      refine xw.fi (c := 6) (j := 3) (ty := 0) (nx := 19) (v := (xm_i S 6 k3 3)) rfl rfl rfl ?_
      refine xw.bn (c := (xm_i S 6 k3 3) = (0 : Int32)) (cd := .ne) (x := (xm_i S 6 k3 3)) (y := (0 : Int32)) 58 22 (st' := []) rfl (y_cne _ _) h (fun c25 h => ?_) (fun c25 h => ?_)
      · skip
        refine xw.s (pc' := 23) (st' := [.inr (xo 2 t23)]) rfl ?_
        refine xw.nul (o := t23) (t := 58) (nx := 26) rfl rfl ?_
        rcases t23 with _ | k26
        · replace h := h.1 rfl
          show xw _ _ 58 [some (.inr (some (0, 0))), some (.inr (some (2, a1))), some (.inr (some (5, a2))), some (.inr none)] [] _ _
          refine xw.s (pc' := 59) (st' := [.inr (some (0, 0))]) rfl ?_
          refine xw.s (pc' := 60) (st' := [.inr (some (2, a1)), .inr (some (0, 0))]) rfl ?_
          refine xw.call (m := 41) (as := [.inr (some (0, 0)), .inr (some (2, a1))]) (nx := 63) (L' := [some (.inr (some (0, 0))), some (.inr (some (2, a1))), some (.inr (some (5, a2))), some (.inr none)]) (st' := []) rfl ?_
          show xw _ _ _ [some (.inr (some (0, 0))), some (.inr (some (2, a1)))] [] _ _
          refine xw.s (pc' := 1) (st' := [.inr (some (0, 0))]) rfl ?_
          refine xw.s (pc' := 2) (st' := [.inr (some (2, a1)), .inr (some (0, 0))]) rfl ?_
          refine xw.fr (c := 2) (j := 1) (e := 6) (nx := 5) (t := (some k3)) rfl rfl q2 ?_
          show xw _ _ _ [some (.inr (some (0, 0))), some (.inr (some (2, a1)))] [.inr (some (6, k3)), .inr (some (0, 0))] _ _
          refine xw.s (pc' := 6) (st' := [.inr (some (2, a1)), .inr (some (6, k3)), .inr (some (0, 0))]) rfl ?_
          refine xw.call (m := 16) (as := [.inr (some (0, 0)), .inr (some (6, k3)), .inr (some (2, a1))]) (nx := 9) (L' := [some (.inr (some (0, 0))), some (.inr (some (2, a1)))]) (st' := []) rfl (xc.mono h ?_)
          rintro r S27 ⟨rfl, hC28, h⟩
          show xw _ _ 9 [some (.inr (some (0, 0))), some (.inr (some (2, a1)))] [] _ _
          refine xw.ret (r := none) rfl ?_
          show xw _ _ 63 [some (.inr (some (0, 0))), some (.inr (some (2, a1))), some (.inr (some (5, a2))), some (.inr none)] [] S27 _
          exact xw.ret (r := none) rfl h
        · replace h := h.2 k26 rfl
          show xw _ _ 26 [some (.inr (some (0, 0))), some (.inr (some (2, a1))), some (.inr (some (5, a2))), some (.inr (some (2, k26)))] [] _ _
          refine xw.s (pc' := 27) (st' := [.inr (some (0, 0))]) rfl ?_
          refine xw.fi (c := 0) (j := 13) (ty := 0) (nx := 30) (v := (xm_i S 0 0 13)) rfl rfl rfl ?_
          refine xw.s (pc' := 31) (st' := [.inr (some (2, k26)), .inl (xm_i S 0 0 13)]) rfl ?_
          refine xw.fi (c := 2) (j := 7) (ty := 0) (nx := 34) (v := (xm_i S 2 k26 7)) rfl rfl rfl ?_
          refine xw.s (pc' := 35) (st' := [.inl ((xm_i S 0 0 13) - (xm_i S 2 k26 7))]) rfl ?_
          refine xw.s (pc' := 36) (st' := [.inr (some (5, a2)), .inl ((xm_i S 0 0 13) - (xm_i S 2 k26 7))]) rfl ?_
          refine xw.fi (c := 5) (j := 2) (ty := 0) (nx := 39) (v := (xm_i S 5 a2 2)) rfl rfl rfl ?_
          refine xw.b (c := (xm_i S 5 a2 2) < ((xm_i S 0 0 13) - (xm_i S 2 k26 7))) (cd := .gt) (x := ((xm_i S 0 0 13) - (xm_i S 2 k26 7))) (y := (xm_i S 5 a2 2)) 58 42 (st' := []) rfl (y_cgt _ _) h (fun c29 h => ?_) (fun c29 h => ?_)
          · skip
            refine xw.s (pc' := 59) (st' := [.inr (some (0, 0))]) rfl ?_
            refine xw.s (pc' := 60) (st' := [.inr (some (2, a1)), .inr (some (0, 0))]) rfl ?_
            refine xw.call (m := 41) (as := [.inr (some (0, 0)), .inr (some (2, a1))]) (nx := 63) (L' := [some (.inr (some (0, 0))), some (.inr (some (2, a1))), some (.inr (some (5, a2))), some (.inr (some (2, k26)))]) (st' := []) rfl ?_
            show xw _ _ _ [some (.inr (some (0, 0))), some (.inr (some (2, a1)))] [] _ _
            refine xw.s (pc' := 1) (st' := [.inr (some (0, 0))]) rfl ?_
            refine xw.s (pc' := 2) (st' := [.inr (some (2, a1)), .inr (some (0, 0))]) rfl ?_
            refine xw.fr (c := 2) (j := 1) (e := 6) (nx := 5) (t := (some k3)) rfl rfl q2 ?_
            show xw _ _ _ [some (.inr (some (0, 0))), some (.inr (some (2, a1)))] [.inr (some (6, k3)), .inr (some (0, 0))] _ _
            refine xw.s (pc' := 6) (st' := [.inr (some (2, a1)), .inr (some (6, k3)), .inr (some (0, 0))]) rfl ?_
            refine xw.call (m := 16) (as := [.inr (some (0, 0)), .inr (some (6, k3)), .inr (some (2, a1))]) (nx := 9) (L' := [some (.inr (some (0, 0))), some (.inr (some (2, a1)))]) (st' := []) rfl (xc.mono h ?_)
            rintro r S30 ⟨rfl, hC31, h⟩
            show xw _ _ 9 [some (.inr (some (0, 0))), some (.inr (some (2, a1)))] [] _ _
            refine xw.ret (r := none) rfl ?_
            show xw _ _ 63 [some (.inr (some (0, 0))), some (.inr (some (2, a1))), some (.inr (some (5, a2))), some (.inr (some (2, k26)))] [] S30 _
            exact xw.ret (r := none) rfl h
          · skip
            refine xw.s (pc' := 43) (st' := [.inr (some (0, 0))]) rfl ?_
            refine xw.s (pc' := 44) (st' := [.inr (some (2, a1)), .inr (some (0, 0))]) rfl ?_
            refine xw.s (pc' := 45) (st' := [.inr (some (2, k26)), .inr (some (2, a1)), .inr (some (0, 0))]) rfl ?_
            refine xw.fi (c := 2) (j := 9) (ty := 0) (nx := 48) (v := (xm_i S 2 k26 9)) rfl rfl rfl ?_
            refine xw.s (pc' := 49) (st' := [.inr (some (2, k26)), .inl (xm_i S 2 k26 9), .inr (some (2, a1)), .inr (some (0, 0))]) rfl ?_
            refine xw.fi (c := 2) (j := 10) (ty := 1) (nx := 52) (v := (xm_i S 2 k26 10)) rfl rfl rfl ?_
            refine xw.call (m := 30) (as := [.inr (some (0, 0)), .inr (some (2, a1)), .inl (xm_i S 2 k26 9), .inl (xm_i S 2 k26 10)]) (nx := 55) (L' := [some (.inr (some (0, 0))), some (.inr (some (2, a1))), some (.inr (some (5, a2))), some (.inr (some (2, k26)))]) (st' := []) rfl (xc.mono h ?_)
            rintro r S32 ⟨rfl, hC33, h⟩
            show xw _ _ 55 [some (.inr (some (0, 0))), some (.inr (some (2, a1))), some (.inr (some (5, a2))), some (.inr (some (2, k26)))] [] _ _
            refine xw.s (pc' := 63) (st' := []) rfl ?_
            exact xw.ret (r := none) rfl h
      · skip
        refine xw.s (pc' := 59) (st' := [.inr (some (0, 0))]) rfl ?_
        refine xw.s (pc' := 60) (st' := [.inr (some (2, a1)), .inr (some (0, 0))]) rfl ?_
        refine xw.call (m := 41) (as := [.inr (some (0, 0)), .inr (some (2, a1))]) (nx := 63) (L' := [some (.inr (some (0, 0))), some (.inr (some (2, a1))), some (.inr (some (5, a2))), some (.inr (xo 2 t23))]) (st' := []) rfl ?_
        show xw _ _ _ [some (.inr (some (0, 0))), some (.inr (some (2, a1)))] [] _ _
        refine xw.s (pc' := 1) (st' := [.inr (some (0, 0))]) rfl ?_
        refine xw.s (pc' := 2) (st' := [.inr (some (2, a1)), .inr (some (0, 0))]) rfl ?_
        refine xw.fr (c := 2) (j := 1) (e := 6) (nx := 5) (t := (some k3)) rfl rfl q2 ?_
        show xw _ _ _ [some (.inr (some (0, 0))), some (.inr (some (2, a1)))] [.inr (some (6, k3)), .inr (some (0, 0))] _ _
        refine xw.s (pc' := 6) (st' := [.inr (some (2, a1)), .inr (some (6, k3)), .inr (some (0, 0))]) rfl ?_
        refine xw.call (m := 16) (as := [.inr (some (0, 0)), .inr (some (6, k3)), .inr (some (2, a1))]) (nx := 9) (L' := [some (.inr (some (0, 0))), some (.inr (some (2, a1)))]) (st' := []) rfl (xc.mono h ?_)
        rintro r S34 ⟨rfl, hC35, h⟩
        show xw _ _ 9 [some (.inr (some (0, 0))), some (.inr (some (2, a1)))] [] _ _
        refine xw.ret (r := none) rfl ?_
        show xw _ _ 63 [some (.inr (some (0, 0))), some (.inr (some (2, a1))), some (.inr (some (5, a2))), some (.inr (xo 2 t23))] [] S34 _
        exact xw.ret (r := none) rfl h
/-- enterJoin -/
theorem cw_enterJoin {d : Nat} {a1 : Nat} {a2 : Nat} {S : xm_S} {Q : Option xm_V → xm_S → Prop} (hC : xk_C S) (h : xc (d + 1) 46 [.inr (some (0, 0)), .inr (some (2, a1)), .inr (some (5, a2))] S (fun r S1 => ∃ t3 : Option Nat, r = some (.inr (xo 2 t3)) ∧ xk_C S1 ∧ ((t3 = none → ∀ S5, S5 = xm_si S1 2 a1 14 (1 : Int32) → (∀ t7, (xm_r S1 2 a1 1) = t7 → (xc d 16 [.inr (some (0, 0)), .inr (xo 6 t7), .inr (some (2, a1))] S5 (fun r S9 => r = none ∧ xk_C S9 ∧ (Q none S9))))) ∧ (∀ k4, t3 = some k4 → ∀ S11, S11 = xm_si S1 2 a1 13 (3 : Int32) → (∀ S13, S13 = xm_sr S11 2 a1 15 (some k4) → (Q none S13)))))) : xc (d + 2) 45 [.inr (some (0, 0)), .inr (some (2, a1)), .inr (some (5, a2))] S Q := by
  show xw _ _ _ [some (.inr (some (0, 0))), some (.inr (some (2, a1))), some (.inr (some (5, a2))), none] _ _ _
  refine xw.s (pc' := 1) (st' := [.inr (some (0, 0))]) rfl ?_
  refine xw.s (pc' := 2) (st' := [.inr (some (2, a1)), .inr (some (0, 0))]) rfl ?_
  refine xw.s (pc' := 3) (st' := [.inr (some (5, a2)), .inr (some (2, a1)), .inr (some (0, 0))]) rfl ?_
  refine xw.call (m := 46) (as := [.inr (some (0, 0)), .inr (some (2, a1)), .inr (some (5, a2))]) (nx := 6) (L' := [some (.inr (some (0, 0))), some (.inr (some (2, a1))), some (.inr (some (5, a2))), none]) (st' := []) rfl (xc.mono h ?_)
  rintro r S1 ⟨t3, rfl, hC2, h⟩
  show xw _ _ 6 [some (.inr (some (0, 0))), some (.inr (some (2, a1))), some (.inr (some (5, a2))), none] [.inr (xo 2 t3)] _ _
  refine xw.s (pc' := 7) (st' := []) (L' := [some (.inr (some (0, 0))), some (.inr (some (2, a1))), some (.inr (some (5, a2))), some (.inr (xo 2 t3))]) rfl ?_
  refine xw.s (pc' := 8) (st' := [.inr (xo 2 t3)]) rfl ?_
  refine xw.nnul (o := t3) (t := 24) (nx := 11) rfl rfl ?_
  rcases t3 with _ | k4
  · replace h := h.1 rfl
    show xw _ _ 11 [some (.inr (some (0, 0))), some (.inr (some (2, a1))), some (.inr (some (5, a2))), some (.inr none)] [] _ _
    refine xw.s (pc' := 12) (st' := [.inr (some (2, a1))]) rfl ?_
    refine xw.s (pc' := 13) (st' := [.inl (1 : Int32), .inr (some (2, a1))]) rfl ?_
    refine xw.fp (c := 2) (j := 14) (ty := 1) (nx := 16) rfl rfl (Or.inr ⟨rfl, Or.inr rfl⟩) ?_
    obtain ⟨S5, e6⟩ : ∃ s, s = xm_si S1 2 a1 14 (1 : Int32) := ⟨_, rfl⟩
    rw [← e6]
    replace h := h S5 e6
    refine xw.s (pc' := 17) (st' := [.inr (some (0, 0))]) rfl ?_
    refine xw.s (pc' := 18) (st' := [.inr (some (2, a1)), .inr (some (0, 0))]) rfl ?_
    refine xw.call (m := 41) (as := [.inr (some (0, 0)), .inr (some (2, a1))]) (nx := 21) (L' := [some (.inr (some (0, 0))), some (.inr (some (2, a1))), some (.inr (some (5, a2))), some (.inr none)]) (st' := []) rfl ?_
    show xw _ _ _ [some (.inr (some (0, 0))), some (.inr (some (2, a1)))] [] _ _
    refine xw.s (pc' := 1) (st' := [.inr (some (0, 0))]) rfl ?_
    refine xw.s (pc' := 2) (st' := [.inr (some (2, a1)), .inr (some (0, 0))]) rfl ?_
    obtain ⟨t7, q8⟩ : ∃ t, (xm_r S1 2 a1 1) = t := ⟨_, rfl⟩
    replace h := h t7 q8
    refine xw.fr (c := 2) (j := 1) (e := 6) (nx := 5) (t := t7) rfl rfl (((congrArg (fun s => xm_r s 2 a1 1) e6).trans rfl).trans q8) ?_
    show xw _ _ _ [some (.inr (some (0, 0))), some (.inr (some (2, a1)))] [.inr (xo 6 t7), .inr (some (0, 0))] _ _
    refine xw.s (pc' := 6) (st' := [.inr (some (2, a1)), .inr (xo 6 t7), .inr (some (0, 0))]) rfl ?_
    refine xw.call (m := 16) (as := [.inr (some (0, 0)), .inr (xo 6 t7), .inr (some (2, a1))]) (nx := 9) (L' := [some (.inr (some (0, 0))), some (.inr (some (2, a1)))]) (st' := []) rfl (xc.mono h ?_)
    rintro r S9 ⟨rfl, hC10, h⟩
    show xw _ _ 9 [some (.inr (some (0, 0))), some (.inr (some (2, a1)))] [] _ _
    refine xw.ret (r := none) rfl ?_
    show xw _ _ 21 [some (.inr (some (0, 0))), some (.inr (some (2, a1))), some (.inr (some (5, a2))), some (.inr none)] [] S9 _
    refine xw.s (pc' := 34) (st' := []) rfl ?_
    exact xw.ret (r := none) rfl h
  · replace h := h.2 k4 rfl
    show xw _ _ 24 [some (.inr (some (0, 0))), some (.inr (some (2, a1))), some (.inr (some (5, a2))), some (.inr (some (2, k4)))] [] _ _
    refine xw.s (pc' := 25) (st' := [.inr (some (2, a1))]) rfl ?_
    refine xw.s (pc' := 26) (st' := [.inl (3 : Int32), .inr (some (2, a1))]) rfl ?_
    refine xw.fp (c := 2) (j := 13) (ty := 0) (nx := 29) rfl rfl (Or.inl rfl) ?_
    obtain ⟨S11, e12⟩ : ∃ s, s = xm_si S1 2 a1 13 (3 : Int32) := ⟨_, rfl⟩
    rw [← e12]
    replace h := h S11 e12
    refine xw.s (pc' := 30) (st' := [.inr (some (2, a1))]) rfl ?_
    refine xw.s (pc' := 31) (st' := [.inr (some (2, k4)), .inr (some (2, a1))]) rfl ?_
    refine xw.fq (c := 2) (j := 15) (e := 2) (nx := 34) (t := (some k4)) rfl rfl ?_
    obtain ⟨S13, e14⟩ : ∃ s, s = xm_sr S11 2 a1 15 (some k4) := ⟨_, rfl⟩
    rw [← e14]
    replace h := h S13 e14
    exact xw.ret (r := none) rfl h
/-- leaderFor -/
theorem cw_leaderFor {d : Nat} {a1 : Nat} {a2 : Nat} {S : xm_S} {Q : Option xm_V → xm_S → Prop} (hC : xk_C S) (h : xw (d + 1) 46 2 [some (.inr (some (0, 0))), some (.inr (some (2, a1))), some (.inr (some (5, a2))), some (.inl (0 : Int32)), none] [] S Q) : xc (d + 1) 46 [.inr (some (0, 0)), .inr (some (2, a1)), .inr (some (5, a2))] S Q := by
  show xw _ _ _ [some (.inr (some (0, 0))), some (.inr (some (2, a1))), some (.inr (some (5, a2))), none, none] _ _ _
  refine xw.s (pc' := 1) (st' := [.inl (0 : Int32)]) rfl ?_
  refine xw.s (pc' := 2) (st' := []) (L' := [some (.inr (some (0, 0))), some (.inr (some (2, a1))), some (.inr (some (5, a2))), some (.inl (0 : Int32)), none]) rfl ?_
  exact h
theorem cw_leaderFor_2 {d : Nat} {l1 : Nat} {l2 : Nat} {l3 : Int32} {u4 : Option xm_V} {S : xm_S} {Q : Option xm_V → xm_S → Prop} (hC : xk_C S) (h : ((nI (xm_n S 1 7)) ≤ l3 → Q (some (.inr none)) S) ∧ (¬ (nI (xm_n S 1 7)) ≤ l3 → y_in l3 (xm_n S 1 7) ∧ (∃ k3, (xm_l S 7 (y_ix l3)) = (2, k3) ∧ (((xm_i S 2 k3 8) = (0 : Int32) → ∀ t6, (xm_r S 2 k3 4) = t6 → ((t6 = some l2 → ((xm_i S 2 k3 14) = (0 : Int32) → xw (d + 1) 46 2 [some (.inr (some (0, 0))), some (.inr (some (2, l1))), some (.inr (some (5, l2))), some (.inl (l3 + (1 : Int32))), some (.inr (some (2, k3)))] [] S Q) ∧ (¬ (xm_i S 2 k3 14) = (0 : Int32) → ∀ t10, (xm_r S 2 k3 1) = t10 → (∀ t12, (xm_r S 2 l1 1) = t12 → (∃ k14, t10 = some k14 ∧ (∀ t15, (xm_r S 6 k14 2) = t15 → (∃ k17, t12 = some k17 ∧ (∀ t18, (xm_r S 6 k17 2) = t18 → ((t15 = t18 → ((xm_i S 6 k14 3) = (xm_i S 6 k17 3) → ((xm_i S 6 k14 4) = (xm_i S 6 k17 4) → Q (some (.inr (some (2, k3)))) S) ∧ (¬ (xm_i S 6 k14 4) = (xm_i S 6 k17 4) → xw (d + 1) 46 2 [some (.inr (some (0, 0))), some (.inr (some (2, l1))), some (.inr (some (5, l2))), some (.inl (l3 + (1 : Int32))), some (.inr (some (2, k3)))] [] S Q)) ∧ (¬ (xm_i S 6 k14 3) = (xm_i S 6 k17 3) → xw (d + 1) 46 2 [some (.inr (some (0, 0))), some (.inr (some (2, l1))), some (.inr (some (5, l2))), some (.inl (l3 + (1 : Int32))), some (.inr (some (2, k3)))] [] S Q)) ∧ (¬ t15 = t18 → xw (d + 1) 46 2 [some (.inr (some (0, 0))), some (.inr (some (2, l1))), some (.inr (some (5, l2))), some (.inl (l3 + (1 : Int32))), some (.inr (some (2, k3)))] [] S Q))))))))) ∧ (¬ t6 = some l2 → xw (d + 1) 46 2 [some (.inr (some (0, 0))), some (.inr (some (2, l1))), some (.inr (some (5, l2))), some (.inl (l3 + (1 : Int32))), some (.inr (some (2, k3)))] [] S Q))) ∧ (¬ (xm_i S 2 k3 8) = (0 : Int32) → xw (d + 1) 46 2 [some (.inr (some (0, 0))), some (.inr (some (2, l1))), some (.inr (some (5, l2))), some (.inl (l3 + (1 : Int32))), some (.inr (some (2, k3)))] [] S Q))))) : xw (d + 1) 46 2 [some (.inr (some (0, 0))), some (.inr (some (2, l1))), some (.inr (some (5, l2))), some (.inl l3), u4] [] S Q := by
  refine xw.s (pc' := 3) (st' := [.inl l3]) rfl ?_
  refine xw.s (pc' := 4) (st' := [.inr (some (0, 0)), .inl l3]) rfl ?_
  refine xw.fr (c := 0) (j := 7) (e := 12) (nx := 7) (t := (some 7)) rfl rfl (hC 7 (by decide)) ?_
  show xw _ _ _ [some (.inr (some (0, 0))), some (.inr (some (2, l1))), some (.inr (some (5, l2))), some (.inl l3), u4] [.inr (some (12, 7)), .inl l3] _ _
  refine xw.lsz (nx := 10) (n := (xm_n S 1 7)) rfl (Nat.le_of_ble_eq_true rfl) rfl ?_
  refine xw.b (c := (nI (xm_n S 1 7)) ≤ l3) (cd := .ge) (x := l3) (y := (nI (xm_n S 1 7))) 75 13 (st' := []) rfl (y_cge _ _) h (fun c1 h => ?_) (fun c1 h => ?_)
  · skip
    refine xw.s (pc' := 76) (st' := [.inr none]) rfl ?_
    exact xw.ret (r := (some (.inr none))) rfl h
  · skip
    refine xw.s (pc' := 14) (st' := [.inr (some (0, 0))]) rfl ?_
    refine xw.fr (c := 0) (j := 7) (e := 12) (nx := 17) (t := (some 7)) rfl rfl (hC 7 (by decide)) ?_
    show xw _ _ _ [some (.inr (some (0, 0))), some (.inr (some (2, l1))), some (.inr (some (5, l2))), some (.inl l3), u4] [.inr (some (12, 7))] _ _
    refine xw.s (pc' := 18) (st' := [.inl l3, .inr (some (12, 7))]) rfl ?_
    obtain ⟨z2, h⟩ := h
    obtain ⟨k3, q4, h⟩ := h
    refine xw.get (nx := 21) (p := (2, k3)) rfl (Nat.le_of_ble_eq_true rfl) z2 q4 ?_
    refine xw.s (pc' := 24) (st' := [.inr (some (2, k3))]) rfl ?_
    refine xw.s (pc' := 26) (st' := []) (L' := [some (.inr (some (0, 0))), some (.inr (some (2, l1))), some (.inr (some (5, l2))), some (.inl l3), some (.inr (some (2, k3)))]) rfl ?_
    refine xw.s (pc' := 28) (st' := [.inr (some (2, k3))]) rfl ?_
    refine xw.fi (c := 2) (j := 8) (ty := 0) (nx := 31) (v := (xm_i S 2 k3 8)) rfl rfl rfl ?_
    refine xw.bn (c := (xm_i S 2 k3 8) = (0 : Int32)) (cd := .ne) (x := (xm_i S 2 k3 8)) (y := (0 : Int32)) 69 34 (st' := []) rfl (y_cne _ _) h (fun c5 h => ?_) (fun c5 h => ?_)
    · skip
      refine xw.s (pc' := 36) (st' := [.inr (some (2, k3))]) rfl ?_
      obtain ⟨t6, q7⟩ : ∃ t, (xm_r S 2 k3 4) = t := ⟨_, rfl⟩
      replace h := h t6 q7
      refine xw.fr (c := 2) (j := 4) (e := 5) (nx := 39) (t := t6) rfl rfl q7 ?_
      show xw _ _ _ [some (.inr (some (0, 0))), some (.inr (some (2, l1))), some (.inr (some (5, l2))), some (.inl l3), some (.inr (some (2, k3)))] [.inr (xo 5 t6)] _ _
      refine xw.s (pc' := 40) (st' := [.inr (some (5, l2)), .inr (xo 5 t6)]) rfl ?_
      refine xw.an (c := 5) (a := t6) (b := (some l2)) (cn := t6 = some l2) (t := 69) (nx := 43) rfl rfl (by decide) Iff.rfl h (fun c8 h => ?_) (fun c8 h => ?_)
      · skip
        refine xw.s (pc' := 45) (st' := [.inr (some (2, k3))]) rfl ?_
        refine xw.fi (c := 2) (j := 14) (ty := 1) (nx := 48) (v := (xm_i S 2 k3 14)) rfl rfl rfl ?_
        refine xw.b (c := (xm_i S 2 k3 14) = (0 : Int32)) (cd := .eq) (x := (xm_i S 2 k3 14)) (y := (0 : Int32)) 69 51 (st' := []) rfl (y_ceq _ _) h (fun c9 h => ?_) (fun c9 h => ?_)
        · skip
          refine xw.s (pc' := 72) (st' := []) (L' := [some (.inr (some (0, 0))), some (.inr (some (2, l1))), some (.inr (some (5, l2))), some (.inl (l3 + (1 : Int32))), some (.inr (some (2, k3)))]) rfl ?_
          refine xw.s (pc' := 2) (st' := []) rfl ?_
          exact h
        · skip
          refine xw.s (pc' := 53) (st' := [.inr (some (2, k3))]) rfl ?_
          obtain ⟨t10, q11⟩ : ∃ t, (xm_r S 2 k3 1) = t := ⟨_, rfl⟩
          replace h := h t10 q11
          refine xw.fr (c := 2) (j := 1) (e := 6) (nx := 56) (t := t10) rfl rfl q11 ?_
          show xw _ _ _ [some (.inr (some (0, 0))), some (.inr (some (2, l1))), some (.inr (some (5, l2))), some (.inl l3), some (.inr (some (2, k3)))] [.inr (xo 6 t10)] _ _
          refine xw.s (pc' := 57) (st' := [.inr (some (2, l1)), .inr (xo 6 t10)]) rfl ?_
          obtain ⟨t12, q13⟩ : ∃ t, (xm_r S 2 l1 1) = t := ⟨_, rfl⟩
          replace h := h t12 q13
          refine xw.fr (c := 2) (j := 1) (e := 6) (nx := 60) (t := t12) rfl rfl q13 ?_
          show xw _ _ _ [some (.inr (some (0, 0))), some (.inr (some (2, l1))), some (.inr (some (5, l2))), some (.inl l3), some (.inr (some (2, k3)))] [.inr (xo 6 t12), .inr (xo 6 t10)] _ _
          obtain ⟨k14, rfl, h⟩ := h
          refine xw.call (m := 103) (as := [.inr (some (6, k14)), .inr (xo 6 t12)]) (nx := 63) (L' := [some (.inr (some (0, 0))), some (.inr (some (2, l1))), some (.inr (some (5, l2))), some (.inl l3), some (.inr (some (2, k3)))]) (st' := []) rfl ?_
          show xw _ _ _ [some (.inr (some (6, k14))), some (.inr (xo 6 t12))] [] _ _
          refine xw.s (pc' := 1) (st' := [.inr (some (6, k14))]) rfl ?_
          obtain ⟨t15, q16⟩ : ∃ t, (xm_r S 6 k14 2) = t := ⟨_, rfl⟩
          replace h := h t15 q16
          refine xw.fr (c := 6) (j := 2) (e := 9) (nx := 4) (t := t15) rfl rfl q16 ?_
          show xw _ _ _ [some (.inr (some (6, k14))), some (.inr (xo 6 t12))] [.inr (xo 9 t15)] _ _
          refine xw.s (pc' := 5) (st' := [.inr (xo 6 t12), .inr (xo 9 t15)]) rfl ?_
          obtain ⟨k17, rfl, h⟩ := h
          obtain ⟨t18, q19⟩ : ∃ t, (xm_r S 6 k17 2) = t := ⟨_, rfl⟩
          replace h := h t18 q19
          refine xw.fr (c := 6) (j := 2) (e := 9) (nx := 8) (t := t18) rfl rfl q19 ?_
          show xw _ _ _ [some (.inr (some (6, k14))), some (.inr (some (6, k17)))] [.inr (xo 9 t18), .inr (xo 9 t15)] _ _
          refine xw.an (c := 9) (a := t15) (b := t18) (cn := t15 = t18) (t := 37) (nx := 11) rfl rfl (by decide) Iff.rfl h (fun c20 h => ?_) (fun c20 h => ?_)
          · skip
            refine xw.s (pc' := 12) (st' := [.inr (some (6, k14))]) rfl ?_
            refine xw.fi (c := 6) (j := 3) (ty := 0) (nx := 15) (v := (xm_i S 6 k14 3)) rfl rfl rfl ?_
            refine xw.s (pc' := 16) (st' := [.inr (some (6, k17)), .inl (xm_i S 6 k14 3)]) rfl ?_
            refine xw.fi (c := 6) (j := 3) (ty := 0) (nx := 19) (v := (xm_i S 6 k17 3)) rfl rfl rfl ?_
            refine xw.bn (c := (xm_i S 6 k14 3) = (xm_i S 6 k17 3)) (cd := .ne) (x := (xm_i S 6 k14 3)) (y := (xm_i S 6 k17 3)) 37 22 (st' := []) rfl (y_cne _ _) h (fun c21 h => ?_) (fun c21 h => ?_)
            · skip
              refine xw.s (pc' := 23) (st' := [.inr (some (6, k14))]) rfl ?_
              refine xw.fi (c := 6) (j := 4) (ty := 0) (nx := 26) (v := (xm_i S 6 k14 4)) rfl rfl rfl ?_
              refine xw.s (pc' := 27) (st' := [.inr (some (6, k17)), .inl (xm_i S 6 k14 4)]) rfl ?_
              refine xw.fi (c := 6) (j := 4) (ty := 0) (nx := 30) (v := (xm_i S 6 k17 4)) rfl rfl rfl ?_
              refine xw.bn (c := (xm_i S 6 k14 4) = (xm_i S 6 k17 4)) (cd := .ne) (x := (xm_i S 6 k14 4)) (y := (xm_i S 6 k17 4)) 37 33 (st' := []) rfl (y_cne _ _) h (fun c22 h => ?_) (fun c22 h => ?_)
              · skip
                refine xw.s (pc' := 34) (st' := [.inl (1 : Int32)]) rfl ?_
                refine xw.s (pc' := 38) (st' := [.inl (1 : Int32)]) rfl ?_
                refine xw.retz (nx := 39) rfl (Or.inr rfl) ?_
                show xw _ _ 63 [some (.inr (some (0, 0))), some (.inr (some (2, l1))), some (.inr (some (5, l2))), some (.inl l3), some (.inr (some (2, k3)))] [.inl (1 : Int32)] S _
                refine xw.bf (cd := .eq) (x := (1 : Int32)) (y := (0 : Int32)) 69 66 (st' := []) rfl (y_ceq _ _) (by decide) ?_
                refine xw.s (pc' := 68) (st' := [.inr (some (2, k3))]) rfl ?_
                exact xw.ret (r := (some (.inr (some (2, k3))))) rfl h
              · skip
                refine xw.s (pc' := 38) (st' := [.inl (0 : Int32)]) rfl ?_
                refine xw.retz (nx := 39) rfl (Or.inl rfl) ?_
                show xw _ _ 63 [some (.inr (some (0, 0))), some (.inr (some (2, l1))), some (.inr (some (5, l2))), some (.inl l3), some (.inr (some (2, k3)))] [.inl (0 : Int32)] S _
                refine xw.bt (cd := .eq) (x := (0 : Int32)) (y := (0 : Int32)) 69 66 (st' := []) rfl (y_ceq _ _) (by decide) ?_
                refine xw.s (pc' := 72) (st' := []) (L' := [some (.inr (some (0, 0))), some (.inr (some (2, l1))), some (.inr (some (5, l2))), some (.inl (l3 + (1 : Int32))), some (.inr (some (2, k3)))]) rfl ?_
                refine xw.s (pc' := 2) (st' := []) rfl ?_
                exact h
            · skip
              refine xw.s (pc' := 38) (st' := [.inl (0 : Int32)]) rfl ?_
              refine xw.retz (nx := 39) rfl (Or.inl rfl) ?_
              show xw _ _ 63 [some (.inr (some (0, 0))), some (.inr (some (2, l1))), some (.inr (some (5, l2))), some (.inl l3), some (.inr (some (2, k3)))] [.inl (0 : Int32)] S _
              refine xw.bt (cd := .eq) (x := (0 : Int32)) (y := (0 : Int32)) 69 66 (st' := []) rfl (y_ceq _ _) (by decide) ?_
              refine xw.s (pc' := 72) (st' := []) (L' := [some (.inr (some (0, 0))), some (.inr (some (2, l1))), some (.inr (some (5, l2))), some (.inl (l3 + (1 : Int32))), some (.inr (some (2, k3)))]) rfl ?_
              refine xw.s (pc' := 2) (st' := []) rfl ?_
              exact h
          · skip
            refine xw.s (pc' := 38) (st' := [.inl (0 : Int32)]) rfl ?_
            refine xw.retz (nx := 39) rfl (Or.inl rfl) ?_
            show xw _ _ 63 [some (.inr (some (0, 0))), some (.inr (some (2, l1))), some (.inr (some (5, l2))), some (.inl l3), some (.inr (some (2, k3)))] [.inl (0 : Int32)] S _
            refine xw.bt (cd := .eq) (x := (0 : Int32)) (y := (0 : Int32)) 69 66 (st' := []) rfl (y_ceq _ _) (by decide) ?_
            refine xw.s (pc' := 72) (st' := []) (L' := [some (.inr (some (0, 0))), some (.inr (some (2, l1))), some (.inr (some (5, l2))), some (.inl (l3 + (1 : Int32))), some (.inr (some (2, k3)))]) rfl ?_
            refine xw.s (pc' := 2) (st' := []) rfl ?_
            exact h
      · skip
        refine xw.s (pc' := 72) (st' := []) (L' := [some (.inr (some (0, 0))), some (.inr (some (2, l1))), some (.inr (some (5, l2))), some (.inl (l3 + (1 : Int32))), some (.inr (some (2, k3)))]) rfl ?_
        refine xw.s (pc' := 2) (st' := []) rfl ?_
        exact h
    · skip
      refine xw.s (pc' := 72) (st' := []) (L' := [some (.inr (some (0, 0))), some (.inr (some (2, l1))), some (.inr (some (5, l2))), some (.inl (l3 + (1 : Int32))), some (.inr (some (2, k3)))]) rfl ?_
      refine xw.s (pc' := 2) (st' := []) rfl ?_
      exact h
/-- cancel -/
theorem cw_cancel {d : Nat} {a1 : Int32} {S : xm_S} {Q : Option xm_V → xm_S → Prop} (hC : xk_C S) (h : (a1 < (0 : Int32) → Q (some (.inl (-1 : Int32))) S) ∧ (¬ a1 < (0 : Int32) → ((nI (xm_n S 1 5)) ≤ a1 → Q (some (.inl (-1 : Int32))) S) ∧ (¬ (nI (xm_n S 1 5)) ≤ a1 → y_in a1 (xm_n S 1 5) ∧ (∃ k4, (xm_l S 5 (y_ix a1)) = (6, k4) ∧ (∀ t6, (xm_r S 6 k4 6) = t6 → ((t6 = none → Q (some (.inl (-4 : Int32))) S) ∧ (∀ k8, t6 = some k8 → ((xm_i S 2 k8 8) = (0 : Int32) → xc d 34 [.inr (some (0, 0)), .inr (some (2, k8))] S (fun r S10 => ∃ x12 : Int32, r = some (.inl x12) ∧ xk_C S10 ∧ (Q (some (.inl x12)) S10))) ∧ (¬ (xm_i S 2 k8 8) = (0 : Int32) → Q (some (.inl (-4 : Int32))) S)))))))) : xc (d + 1) 47 [.inr (some (0, 0)), .inl a1] S Q := by
  show xw _ _ _ [some (.inr (some (0, 0))), some (.inl a1), none] _ _ _
  refine xw.s (pc' := 1) (st' := [.inr (some (0, 0))]) rfl ?_
  refine xw.s (pc' := 2) (st' := [.inl a1, .inr (some (0, 0))]) rfl ?_
  refine xw.call (m := 48) (as := [.inr (some (0, 0)), .inl a1]) (nx := 5) (L' := [some (.inr (some (0, 0))), some (.inl a1), none]) (st' := []) rfl ?_
  show xw _ _ _ [some (.inr (some (0, 0))), some (.inl a1)] [] _ _
  refine xw.s (pc' := 1) (st' := [.inl a1]) rfl ?_
  refine xw.b (c := a1 < (0 : Int32)) (cd := .lt) (x := a1) (y := (0 : Int32)) 29 4 (st' := []) rfl (y_clt _ _) h (fun c1 h => ?_) (fun c1 h => ?_)
  · skip
    refine xw.s (pc' := 30) (st' := [.inr none]) rfl ?_
    refine xw.ret (r := some (.inr none)) rfl ?_
    show xw _ _ 5 [some (.inr (some (0, 0))), some (.inl a1), none] [.inr none] S _
    refine xw.s (pc' := 6) (st' := []) (L' := [some (.inr (some (0, 0))), some (.inl a1), some (.inr none)]) rfl ?_
    refine xw.s (pc' := 7) (st' := [.inr none]) rfl ?_
    refine xw.s (pc' := 10) (st' := []) rfl ?_
    refine xw.s (pc' := 11) (st' := [.inl (-1 : Int32)]) rfl ?_
    exact xw.ret (r := (some (.inl (-1 : Int32)))) rfl h
  · skip
    refine xw.s (pc' := 5) (st' := [.inl a1]) rfl ?_
    refine xw.s (pc' := 6) (st' := [.inr (some (0, 0)), .inl a1]) rfl ?_
    refine xw.fr (c := 0) (j := 5) (e := 12) (nx := 9) (t := (some 5)) rfl rfl (hC 5 (by decide)) ?_
    show xw _ _ _ [some (.inr (some (0, 0))), some (.inl a1)] [.inr (some (12, 5)), .inl a1] _ _
    refine xw.lsz (nx := 12) (n := (xm_n S 1 5)) rfl (Nat.le_of_ble_eq_true rfl) rfl ?_
    refine xw.b (c := (nI (xm_n S 1 5)) ≤ a1) (cd := .ge) (x := a1) (y := (nI (xm_n S 1 5))) 29 15 (st' := []) rfl (y_cge _ _) h (fun c2 h => ?_) (fun c2 h => ?_)
    · skip
      refine xw.s (pc' := 30) (st' := [.inr none]) rfl ?_
      refine xw.ret (r := some (.inr none)) rfl ?_
      show xw _ _ 5 [some (.inr (some (0, 0))), some (.inl a1), none] [.inr none] S _
      refine xw.s (pc' := 6) (st' := []) (L' := [some (.inr (some (0, 0))), some (.inl a1), some (.inr none)]) rfl ?_
      refine xw.s (pc' := 7) (st' := [.inr none]) rfl ?_
      refine xw.s (pc' := 10) (st' := []) rfl ?_
      refine xw.s (pc' := 11) (st' := [.inl (-1 : Int32)]) rfl ?_
      exact xw.ret (r := (some (.inl (-1 : Int32)))) rfl h
    · skip
      refine xw.s (pc' := 16) (st' := [.inr (some (0, 0))]) rfl ?_
      refine xw.fr (c := 0) (j := 5) (e := 12) (nx := 19) (t := (some 5)) rfl rfl (hC 5 (by decide)) ?_
      show xw _ _ _ [some (.inr (some (0, 0))), some (.inl a1)] [.inr (some (12, 5))] _ _
      refine xw.s (pc' := 20) (st' := [.inl a1, .inr (some (12, 5))]) rfl ?_
      obtain ⟨z3, h⟩ := h
      obtain ⟨k4, q5, h⟩ := h
      refine xw.get (nx := 23) (p := (6, k4)) rfl (Nat.le_of_ble_eq_true rfl) z3 q5 ?_
      refine xw.s (pc' := 26) (st' := [.inr (some (6, k4))]) rfl ?_
      refine xw.s (pc' := 30) (st' := [.inr (some (6, k4))]) rfl ?_
      refine xw.ret (r := some (.inr (some (6, k4)))) rfl ?_
      show xw _ _ 5 [some (.inr (some (0, 0))), some (.inl a1), none] [.inr (some (6, k4))] S _
      refine xw.s (pc' := 6) (st' := []) (L' := [some (.inr (some (0, 0))), some (.inl a1), some (.inr (some (6, k4)))]) rfl ?_
      refine xw.s (pc' := 7) (st' := [.inr (some (6, k4))]) rfl ?_
      refine xw.s (pc' := 12) (st' := []) rfl ?_
      refine xw.s (pc' := 13) (st' := [.inr (some (6, k4))]) rfl ?_
      refine xw.call (m := 104) (as := [.inr (some (6, k4))]) (nx := 16) (L' := [some (.inr (some (0, 0))), some (.inl a1), some (.inr (some (6, k4)))]) (st' := []) rfl ?_
      show xw _ _ _ [some (.inr (some (6, k4)))] [] _ _
      refine xw.s (pc' := 1) (st' := [.inr (some (6, k4))]) rfl ?_
      obtain ⟨t6, q7⟩ : ∃ t, (xm_r S 6 k4 6) = t := ⟨_, rfl⟩
      replace h := h t6 q7
      refine xw.fr (c := 6) (j := 6) (e := 2) (nx := 4) (t := t6) rfl rfl q7 ?_
      show xw _ _ _ [some (.inr (some (6, k4)))] [.inr (xo 2 t6)] _ _
      refine xw.nul (o := t6) (t := 21) (nx := 7) rfl rfl ?_
      rcases t6 with _ | k8
      · replace h := h.1 rfl
        show xw _ _ 21 [some (.inr (some (6, k4)))] [] _ _
        refine xw.s (pc' := 22) (st' := [.inl (0 : Int32)]) rfl ?_
        refine xw.retz (nx := 23) rfl (Or.inl rfl) ?_
        show xw _ _ 16 [some (.inr (some (0, 0))), some (.inl a1), some (.inr (some (6, k4)))] [.inl (0 : Int32)] S _
        refine xw.bf (cd := .ne) (x := (0 : Int32)) (y := (0 : Int32)) 22 19 (st' := []) rfl (y_cne _ _) (by decide) ?_
        refine xw.s (pc' := 21) (st' := [.inl (-4 : Int32)]) rfl ?_
        exact xw.ret (r := (some (.inl (-4 : Int32)))) rfl h
      · replace h := h.2 k8 rfl
        show xw _ _ 7 [some (.inr (some (6, k4)))] [] _ _
        refine xw.s (pc' := 8) (st' := [.inr (some (6, k4))]) rfl ?_
        refine xw.fr (c := 6) (j := 6) (e := 2) (nx := 11) (t := (some k8)) rfl rfl q7 ?_
        show xw _ _ _ [some (.inr (some (6, k4)))] [.inr (some (2, k8))] _ _
        refine xw.fi (c := 2) (j := 8) (ty := 0) (nx := 14) (v := (xm_i S 2 k8 8)) rfl rfl rfl ?_
        refine xw.bn (c := (xm_i S 2 k8 8) = (0 : Int32)) (cd := .ne) (x := (xm_i S 2 k8 8)) (y := (0 : Int32)) 21 17 (st' := []) rfl (y_cne _ _) h (fun c9 h => ?_) (fun c9 h => ?_)
        · skip
          refine xw.s (pc' := 18) (st' := [.inl (1 : Int32)]) rfl ?_
          refine xw.s (pc' := 22) (st' := [.inl (1 : Int32)]) rfl ?_
          refine xw.retz (nx := 23) rfl (Or.inr rfl) ?_
          show xw _ _ 16 [some (.inr (some (0, 0))), some (.inl a1), some (.inr (some (6, k4)))] [.inl (1 : Int32)] S _
          refine xw.bt (cd := .ne) (x := (1 : Int32)) (y := (0 : Int32)) 22 19 (st' := []) rfl (y_cne _ _) (by decide) ?_
          refine xw.s (pc' := 23) (st' := [.inr (some (0, 0))]) rfl ?_
          refine xw.s (pc' := 24) (st' := [.inr (some (6, k4)), .inr (some (0, 0))]) rfl ?_
          refine xw.fr (c := 6) (j := 6) (e := 2) (nx := 27) (t := (some k8)) rfl rfl q7 ?_
          show xw _ _ _ [some (.inr (some (0, 0))), some (.inl a1), some (.inr (some (6, k4)))] [.inr (some (2, k8)), .inr (some (0, 0))] _ _
          refine xw.call (m := 34) (as := [.inr (some (0, 0)), .inr (some (2, k8))]) (nx := 30) (L' := [some (.inr (some (0, 0))), some (.inl a1), some (.inr (some (6, k4)))]) (st' := []) rfl (xc.mono h ?_)
          rintro r S10 ⟨x12, rfl, hC11, h⟩
          show xw _ _ 30 [some (.inr (some (0, 0))), some (.inl a1), some (.inr (some (6, k4)))] [.inl x12] _ _
          exact xw.ret (r := (some (.inl x12))) rfl h
        · skip
          refine xw.s (pc' := 22) (st' := [.inl (0 : Int32)]) rfl ?_
          refine xw.retz (nx := 23) rfl (Or.inl rfl) ?_
          show xw _ _ 16 [some (.inr (some (0, 0))), some (.inl a1), some (.inr (some (6, k4)))] [.inl (0 : Int32)] S _
          refine xw.bf (cd := .ne) (x := (0 : Int32)) (y := (0 : Int32)) 22 19 (st' := []) rfl (y_cne _ _) (by decide) ?_
          refine xw.s (pc' := 21) (st' := [.inl (-4 : Int32)]) rfl ?_
          exact xw.ret (r := (some (.inl (-4 : Int32)))) rfl h
/-- second -/
theorem cw_second {d : Nat} {a1 : Int32} {S : xm_S} {Q : Option xm_V → xm_S → Prop} (hC : xk_C S) (h : (a1 < (1 : Int32) → Q (some (.inl (-2 : Int32))) S) ∧ (¬ a1 < (1 : Int32) → ((100 : Int32) < a1 → Q (some (.inl (-2 : Int32))) S) ∧ (¬ (100 : Int32) < a1 → xw (d + 1) 49 20 [some (.inr (some (0, 0))), some (.inl a1), some (.inl (xm_i S 0 0 14)), some (.inl (0 : Int32))] [] S Q))) : xc (d + 1) 49 [.inr (some (0, 0)), .inl a1] S Q := by
  show xw _ _ _ [some (.inr (some (0, 0))), some (.inl a1), none, none] _ _ _
  refine xw.s (pc' := 1) (st' := [.inl a1]) rfl ?_
  refine xw.s (pc' := 2) (st' := [.inl (1 : Int32), .inl a1]) rfl ?_
  refine xw.s (pc' := 4) (st' := [.inl (100 : Int32), .inl (1 : Int32), .inl a1]) rfl ?_
  refine xw.call (m := 2) (as := [.inl a1, .inl (1 : Int32), .inl (100 : Int32)]) (nx := 7) (L' := [some (.inr (some (0, 0))), some (.inl a1), none, none]) (st' := []) rfl ?_
  show xw _ _ _ [some (.inl a1), some (.inl (1 : Int32)), some (.inl (100 : Int32))] [] _ _
  refine xw.s (pc' := 1) (st' := [.inl a1]) rfl ?_
  refine xw.s (pc' := 2) (st' := [.inl (1 : Int32), .inl a1]) rfl ?_
  refine xw.b (c := a1 < (1 : Int32)) (cd := .lt) (x := a1) (y := (1 : Int32)) 14 5 (st' := []) rfl (y_clt _ _) h (fun c1 h => ?_) (fun c1 h => ?_)
  · skip
    refine xw.s (pc' := 15) (st' := [.inl (0 : Int32)]) rfl ?_
    refine xw.retz (nx := 16) rfl (Or.inl rfl) ?_
    show xw _ _ 7 [some (.inr (some (0, 0))), some (.inl a1), none, none] [.inl (0 : Int32)] S _
    refine xw.bf (cd := .ne) (x := (0 : Int32)) (y := (0 : Int32)) 13 10 (st' := []) rfl (y_cne _ _) (by decide) ?_
    refine xw.s (pc' := 12) (st' := [.inl (-2 : Int32)]) rfl ?_
    exact xw.ret (r := (some (.inl (-2 : Int32)))) rfl h
  · skip
    refine xw.s (pc' := 6) (st' := [.inl a1]) rfl ?_
    refine xw.s (pc' := 7) (st' := [.inl (100 : Int32), .inl a1]) rfl ?_
    refine xw.b (c := (100 : Int32) < a1) (cd := .gt) (x := a1) (y := (100 : Int32)) 14 10 (st' := []) rfl (y_cgt _ _) h (fun c2 h => ?_) (fun c2 h => ?_)
    · skip
      refine xw.s (pc' := 15) (st' := [.inl (0 : Int32)]) rfl ?_
      refine xw.retz (nx := 16) rfl (Or.inl rfl) ?_
      show xw _ _ 7 [some (.inr (some (0, 0))), some (.inl a1), none, none] [.inl (0 : Int32)] S _
      refine xw.bf (cd := .ne) (x := (0 : Int32)) (y := (0 : Int32)) 13 10 (st' := []) rfl (y_cne _ _) (by decide) ?_
      refine xw.s (pc' := 12) (st' := [.inl (-2 : Int32)]) rfl ?_
      exact xw.ret (r := (some (.inl (-2 : Int32)))) rfl h
    · skip
      refine xw.s (pc' := 11) (st' := [.inl (1 : Int32)]) rfl ?_
      refine xw.s (pc' := 15) (st' := [.inl (1 : Int32)]) rfl ?_
      refine xw.retz (nx := 16) rfl (Or.inr rfl) ?_
      show xw _ _ 7 [some (.inr (some (0, 0))), some (.inl a1), none, none] [.inl (1 : Int32)] S _
      refine xw.bt (cd := .ne) (x := (1 : Int32)) (y := (0 : Int32)) 13 10 (st' := []) rfl (y_cne _ _) (by decide) ?_
      refine xw.s (pc' := 14) (st' := [.inr (some (0, 0))]) rfl ?_
      refine xw.fi (c := 0) (j := 14) (ty := 0) (nx := 17) (v := (xm_i S 0 0 14)) rfl rfl rfl ?_
      refine xw.s (pc' := 18) (st' := []) (L' := [some (.inr (some (0, 0))), some (.inl a1), some (.inl (xm_i S 0 0 14)), none]) rfl ?_
      refine xw.s (pc' := 19) (st' := [.inl (0 : Int32)]) rfl ?_
      refine xw.s (pc' := 20) (st' := []) (L' := [some (.inr (some (0, 0))), some (.inl a1), some (.inl (xm_i S 0 0 14)), some (.inl (0 : Int32))]) rfl ?_
      exact h
theorem cw_second_20 {d : Nat} {l1 : Int32} {l2 : Int32} {l3 : Int32} {S : xm_S} {Q : Option xm_V → xm_S → Prop} (hC : xk_C S) (h : (l1 ≤ l3 → Q (some (.inl ((xm_i S 0 0 14) - l2))) S) ∧ (¬ l1 ≤ l3 → xc d 50 [.inr (some (0, 0))] S (fun r S2 => r = none ∧ xk_C S2 ∧ (xw (d + 1) 49 20 [some (.inr (some (0, 0))), some (.inl l1), some (.inl l2), some (.inl (l3 + (1 : Int32)))] [] S2 Q)))) : xw (d + 1) 49 20 [some (.inr (some (0, 0))), some (.inl l1), some (.inl l2), some (.inl l3)] [] S Q := by
  refine xw.s (pc' := 21) (st' := [.inl l3]) rfl ?_
  refine xw.s (pc' := 22) (st' := [.inl l1, .inl l3]) rfl ?_
  refine xw.b (c := l1 ≤ l3) (cd := .ge) (x := l3) (y := l1) 35 25 (st' := []) rfl (y_cge _ _) h (fun c1 h => ?_) (fun c1 h => ?_)
  · skip
    refine xw.s (pc' := 36) (st' := [.inr (some (0, 0))]) rfl ?_
    refine xw.fi (c := 0) (j := 14) (ty := 0) (nx := 39) (v := (xm_i S 0 0 14)) rfl rfl rfl ?_
    refine xw.s (pc' := 40) (st' := [.inl l2, .inl (xm_i S 0 0 14)]) rfl ?_
    refine xw.s (pc' := 41) (st' := [.inl ((xm_i S 0 0 14) - l2)]) rfl ?_
    exact xw.ret (r := (some (.inl ((xm_i S 0 0 14) - l2)))) rfl h
  · skip
    refine xw.s (pc' := 26) (st' := [.inr (some (0, 0))]) rfl ?_
    refine xw.call (m := 50) (as := [.inr (some (0, 0))]) (nx := 29) (L' := [some (.inr (some (0, 0))), some (.inl l1), some (.inl l2), some (.inl l3)]) (st' := []) rfl (xc.mono h ?_)
    rintro r S2 ⟨rfl, hC3, h⟩
    show xw _ _ 29 [some (.inr (some (0, 0))), some (.inl l1), some (.inl l2), some (.inl l3)] [] _ _
    refine xw.s (pc' := 32) (st' := []) (L' := [some (.inr (some (0, 0))), some (.inl l1), some (.inl l2), some (.inl (l3 + (1 : Int32)))]) rfl ?_
    refine xw.s (pc' := 20) (st' := []) rfl ?_
    exact h
/-- passSecond -/
theorem cw_passSecond {d : Nat}  {S : xm_S} {Q : Option xm_V → xm_S → Prop} (hC : xk_C S) (h : ∀ S1, S1 = xm_si S 0 0 13 ((xm_i S 0 0 13) + (1 : Int32)) → (xc d 51 [.inr (some (0, 0))] S1 (fun r S3 => r = none ∧ xk_C S3 ∧ (xc d 52 [.inr (some (0, 0))] S3 (fun r S5 => ∃ x7 : Int32, r = some (.inl x7) ∧ xk_C S5 ∧ ((x7 = (0 : Int32) → xc d 58 [.inr (some (0, 0))] S5 (fun r S9 => r = none ∧ xk_C S9 ∧ (xw (d + 1) 50 48 [some (.inr (some (0, 0))), some (.inl (0 : Int32))] [] S9 Q))) ∧ (¬ x7 = (0 : Int32) → xc d 53 [.inr (some (0, 0)), .inl (10 : Int32)] S5 (fun r S11 => r = none ∧ xk_C S11 ∧ (xc d 53 [.inr (some (0, 0)), .inl (3 : Int32)] S11 (fun r S13 => r = none ∧ xk_C S13 ∧ (xc d 53 [.inr (some (0, 0)), .inl (5 : Int32)] S13 (fun r S15 => r = none ∧ xk_C S15 ∧ (xc d 53 [.inr (some (0, 0)), .inl (4 : Int32)] S15 (fun r S17 => r = none ∧ xk_C S17 ∧ (xc d 58 [.inr (some (0, 0))] S17 (fun r S19 => r = none ∧ xk_C S19 ∧ (xw (d + 1) 50 48 [some (.inr (some (0, 0))), some (.inl (0 : Int32))] [] S19 Q))))))))))))))))) : xc (d + 1) 50 [.inr (some (0, 0))] S Q := by
  show xw _ _ _ [some (.inr (some (0, 0))), none] _ _ _
  refine xw.s (pc' := 1) (st' := [.inr (some (0, 0))]) rfl ?_
  refine xw.s (pc' := 2) (st' := [.inr (some (0, 0)), .inr (some (0, 0))]) rfl ?_
  refine xw.fi (c := 0) (j := 13) (ty := 0) (nx := 5) (v := (xm_i S 0 0 13)) rfl rfl rfl ?_
  refine xw.s (pc' := 6) (st' := [.inl (1 : Int32), .inl (xm_i S 0 0 13), .inr (some (0, 0))]) rfl ?_
  refine xw.s (pc' := 7) (st' := [.inl ((xm_i S 0 0 13) + (1 : Int32)), .inr (some (0, 0))]) rfl ?_
  refine xw.fp (c := 0) (j := 13) (ty := 0) (nx := 10) rfl rfl (Or.inl rfl) ?_
  obtain ⟨S1, e2⟩ : ∃ s, s = xm_si S 0 0 13 ((xm_i S 0 0 13) + (1 : Int32)) := ⟨_, rfl⟩
  rw [← e2]
  replace h := h S1 e2
  refine xw.s (pc' := 11) (st' := [.inr (some (0, 0))]) rfl ?_
  refine xw.call (m := 51) (as := [.inr (some (0, 0))]) (nx := 14) (L' := [some (.inr (some (0, 0))), none]) (st' := []) rfl (xc.mono h ?_)
  rintro r S3 ⟨rfl, hC4, h⟩
  show xw _ _ 14 [some (.inr (some (0, 0))), none] [] _ _
  refine xw.s (pc' := 15) (st' := [.inr (some (0, 0))]) rfl ?_
  refine xw.call (m := 52) (as := [.inr (some (0, 0))]) (nx := 18) (L' := [some (.inr (some (0, 0))), none]) (st' := []) rfl (xc.mono h ?_)
  rintro r S5 ⟨x7, rfl, hC6, h⟩
  show xw _ _ 18 [some (.inr (some (0, 0))), none] [.inl x7] _ _
  refine xw.b (c := x7 = (0 : Int32)) (cd := .eq) (x := x7) (y := (0 : Int32)) 42 21 (st' := []) rfl (y_ceq _ _) h (fun c8 h => ?_) (fun c8 h => ?_)
  · skip
    refine xw.s (pc' := 43) (st' := [.inr (some (0, 0))]) rfl ?_
    refine xw.call (m := 58) (as := [.inr (some (0, 0))]) (nx := 46) (L' := [some (.inr (some (0, 0))), none]) (st' := []) rfl (xc.mono h ?_)
    rintro r S9 ⟨rfl, hC10, h⟩
    show xw _ _ 46 [some (.inr (some (0, 0))), none] [] _ _
    refine xw.s (pc' := 47) (st' := [.inl (0 : Int32)]) rfl ?_
    refine xw.s (pc' := 48) (st' := []) (L' := [some (.inr (some (0, 0))), some (.inl (0 : Int32))]) rfl ?_
    exact h
  · skip
    refine xw.s (pc' := 22) (st' := [.inr (some (0, 0))]) rfl ?_
    refine xw.s (pc' := 24) (st' := [.inl (10 : Int32), .inr (some (0, 0))]) rfl ?_
    refine xw.call (m := 53) (as := [.inr (some (0, 0)), .inl (10 : Int32)]) (nx := 27) (L' := [some (.inr (some (0, 0))), none]) (st' := []) rfl (xc.mono h ?_)
    rintro r S11 ⟨rfl, hC12, h⟩
    show xw _ _ 27 [some (.inr (some (0, 0))), none] [] _ _
    refine xw.s (pc' := 28) (st' := [.inr (some (0, 0))]) rfl ?_
    refine xw.s (pc' := 29) (st' := [.inl (3 : Int32), .inr (some (0, 0))]) rfl ?_
    refine xw.call (m := 53) (as := [.inr (some (0, 0)), .inl (3 : Int32)]) (nx := 32) (L' := [some (.inr (some (0, 0))), none]) (st' := []) rfl (xc.mono h ?_)
    rintro r S13 ⟨rfl, hC14, h⟩
    show xw _ _ 32 [some (.inr (some (0, 0))), none] [] _ _
    refine xw.s (pc' := 33) (st' := [.inr (some (0, 0))]) rfl ?_
    refine xw.s (pc' := 34) (st' := [.inl (5 : Int32), .inr (some (0, 0))]) rfl ?_
    refine xw.call (m := 53) (as := [.inr (some (0, 0)), .inl (5 : Int32)]) (nx := 37) (L' := [some (.inr (some (0, 0))), none]) (st' := []) rfl (xc.mono h ?_)
    rintro r S15 ⟨rfl, hC16, h⟩
    show xw _ _ 37 [some (.inr (some (0, 0))), none] [] _ _
    refine xw.s (pc' := 38) (st' := [.inr (some (0, 0))]) rfl ?_
    refine xw.s (pc' := 39) (st' := [.inl (4 : Int32), .inr (some (0, 0))]) rfl ?_
    refine xw.call (m := 53) (as := [.inr (some (0, 0)), .inl (4 : Int32)]) (nx := 42) (L' := [some (.inr (some (0, 0))), none]) (st' := []) rfl (xc.mono h ?_)
    rintro r S17 ⟨rfl, hC18, h⟩
    show xw _ _ 42 [some (.inr (some (0, 0))), none] [] _ _
    refine xw.s (pc' := 43) (st' := [.inr (some (0, 0))]) rfl ?_
    refine xw.call (m := 58) (as := [.inr (some (0, 0))]) (nx := 46) (L' := [some (.inr (some (0, 0))), none]) (st' := []) rfl (xc.mono h ?_)
    rintro r S19 ⟨rfl, hC20, h⟩
    show xw _ _ 46 [some (.inr (some (0, 0))), none] [] _ _
    refine xw.s (pc' := 47) (st' := [.inl (0 : Int32)]) rfl ?_
    refine xw.s (pc' := 48) (st' := []) (L' := [some (.inr (some (0, 0))), some (.inl (0 : Int32))]) rfl ?_
    exact h
theorem cw_passSecond_48 {d : Nat} {l1 : Int32} {S : xm_S} {Q : Option xm_V → xm_S → Prop} (hC : xk_C S) (h : ((nI (xm_n S 1 10)) ≤ l1 → xw (d + 1) 50 82 [some (.inr (some (0, 0))), some (.inl (0 : Int32))] [] S Q) ∧ (¬ (nI (xm_n S 1 10)) ≤ l1 → y_in l1 (xm_n S 1 10) ∧ (∃ k3, (xm_l S 10 (y_ix l1)) = (7, k3) ∧ (xc d 59 [.inr (some (0, 0)), .inr (some (7, k3))] S (fun r S5 => r = none ∧ xk_C S5 ∧ (xw (d + 1) 50 48 [some (.inr (some (0, 0))), some (.inl (l1 + (1 : Int32)))] [] S5 Q)))))) : xw (d + 1) 50 48 [some (.inr (some (0, 0))), some (.inl l1)] [] S Q := by
  refine xw.s (pc' := 49) (st' := [.inl l1]) rfl ?_
  refine xw.s (pc' := 50) (st' := [.inr (some (0, 0)), .inl l1]) rfl ?_
  refine xw.fr (c := 0) (j := 10) (e := 12) (nx := 53) (t := (some 10)) rfl rfl (hC 10 (by decide)) ?_
  show xw _ _ _ [some (.inr (some (0, 0))), some (.inl l1)] [.inr (some (12, 10)), .inl l1] _ _
  refine xw.lsz (nx := 56) (n := (xm_n S 1 10)) rfl (Nat.le_of_ble_eq_true rfl) rfl ?_
  refine xw.b (c := (nI (xm_n S 1 10)) ≤ l1) (cd := .ge) (x := l1) (y := (nI (xm_n S 1 10))) 80 59 (st' := []) rfl (y_cge _ _) h (fun c1 h => ?_) (fun c1 h => ?_)
  · skip
    refine xw.s (pc' := 81) (st' := [.inl (0 : Int32)]) rfl ?_
    refine xw.s (pc' := 82) (st' := []) (L' := [some (.inr (some (0, 0))), some (.inl (0 : Int32))]) rfl ?_
    exact h
  · skip
    refine xw.s (pc' := 60) (st' := [.inr (some (0, 0))]) rfl ?_
    refine xw.s (pc' := 61) (st' := [.inr (some (0, 0)), .inr (some (0, 0))]) rfl ?_
    refine xw.fr (c := 0) (j := 10) (e := 12) (nx := 64) (t := (some 10)) rfl rfl (hC 10 (by decide)) ?_
    show xw _ _ _ [some (.inr (some (0, 0))), some (.inl l1)] [.inr (some (12, 10)), .inr (some (0, 0))] _ _
    refine xw.s (pc' := 65) (st' := [.inl l1, .inr (some (12, 10)), .inr (some (0, 0))]) rfl ?_
    obtain ⟨z2, h⟩ := h
    obtain ⟨k3, q4, h⟩ := h
    refine xw.get (nx := 68) (p := (7, k3)) rfl (Nat.le_of_ble_eq_true rfl) z2 q4 ?_
    refine xw.s (pc' := 71) (st' := [.inr (some (7, k3)), .inr (some (0, 0))]) rfl ?_
    refine xw.call (m := 59) (as := [.inr (some (0, 0)), .inr (some (7, k3))]) (nx := 74) (L' := [some (.inr (some (0, 0))), some (.inl l1)]) (st' := []) rfl (xc.mono h ?_)
    rintro r S5 ⟨rfl, hC6, h⟩
    show xw _ _ 74 [some (.inr (some (0, 0))), some (.inl l1)] [] _ _
    refine xw.s (pc' := 77) (st' := []) (L' := [some (.inr (some (0, 0))), some (.inl (l1 + (1 : Int32)))]) rfl ?_
    refine xw.s (pc' := 48) (st' := []) rfl ?_
    exact h
theorem cw_passSecond_82 {d : Nat} {l1 : Int32} {S : xm_S} {Q : Option xm_V → xm_S → Prop} (hC : xk_C S) (h : ((nI (xm_n S 1 11)) ≤ l1 → Q none S) ∧ (¬ (nI (xm_n S 1 11)) ≤ l1 → y_in l1 (xm_n S 1 11) ∧ (∃ k3, (xm_l S 11 (y_ix l1)) = (1, k3) ∧ (xc d 60 [.inr (some (0, 0)), .inr (some (1, k3))] S (fun r S5 => r = none ∧ xk_C S5 ∧ (xw (d + 1) 50 82 [some (.inr (some (0, 0))), some (.inl (l1 + (1 : Int32)))] [] S5 Q)))))) : xw (d + 1) 50 82 [some (.inr (some (0, 0))), some (.inl l1)] [] S Q := by
  refine xw.s (pc' := 83) (st' := [.inl l1]) rfl ?_
  refine xw.s (pc' := 84) (st' := [.inr (some (0, 0)), .inl l1]) rfl ?_
  refine xw.fr (c := 0) (j := 11) (e := 12) (nx := 87) (t := (some 11)) rfl rfl (hC 11 (by decide)) ?_
  show xw _ _ _ [some (.inr (some (0, 0))), some (.inl l1)] [.inr (some (12, 11)), .inl l1] _ _
  refine xw.lsz (nx := 90) (n := (xm_n S 1 11)) rfl (Nat.le_of_ble_eq_true rfl) rfl ?_
  refine xw.b (c := (nI (xm_n S 1 11)) ≤ l1) (cd := .ge) (x := l1) (y := (nI (xm_n S 1 11))) 114 93 (st' := []) rfl (y_cge _ _) h (fun c1 h => ?_) (fun c1 h => ?_)
  · skip
    exact xw.ret (r := none) rfl h
  · skip
    refine xw.s (pc' := 94) (st' := [.inr (some (0, 0))]) rfl ?_
    refine xw.s (pc' := 95) (st' := [.inr (some (0, 0)), .inr (some (0, 0))]) rfl ?_
    refine xw.fr (c := 0) (j := 11) (e := 12) (nx := 98) (t := (some 11)) rfl rfl (hC 11 (by decide)) ?_
    show xw _ _ _ [some (.inr (some (0, 0))), some (.inl l1)] [.inr (some (12, 11)), .inr (some (0, 0))] _ _
    refine xw.s (pc' := 99) (st' := [.inl l1, .inr (some (12, 11)), .inr (some (0, 0))]) rfl ?_
    obtain ⟨z2, h⟩ := h
    obtain ⟨k3, q4, h⟩ := h
    refine xw.get (nx := 102) (p := (1, k3)) rfl (Nat.le_of_ble_eq_true rfl) z2 q4 ?_
    refine xw.s (pc' := 105) (st' := [.inr (some (1, k3)), .inr (some (0, 0))]) rfl ?_
    refine xw.call (m := 60) (as := [.inr (some (0, 0)), .inr (some (1, k3))]) (nx := 108) (L' := [some (.inr (some (0, 0))), some (.inl l1)]) (st' := []) rfl (xc.mono h ?_)
    rintro r S5 ⟨rfl, hC6, h⟩
    show xw _ _ 108 [some (.inr (some (0, 0))), some (.inl l1)] [] _ _
    refine xw.s (pc' := 111) (st' := []) (L' := [some (.inr (some (0, 0))), some (.inl (l1 + (1 : Int32)))]) rfl ?_
    refine xw.s (pc' := 82) (st' := []) rfl ?_
    exact h
/-- refillLimits -/
theorem cw_refillLimits {d : Nat}  {S : xm_S} {Q : Option xm_V → xm_S → Prop} (hC : xk_C S) (h : xw d 51 2 [some (.inr (some (0, 0))), some (.inl (0 : Int32)), none] [] S Q) : xc (d) 51 [.inr (some (0, 0))] S Q := by
  show xw _ _ _ [some (.inr (some (0, 0))), none, none] _ _ _
  refine xw.s (pc' := 1) (st' := [.inl (0 : Int32)]) rfl ?_
  refine xw.s (pc' := 2) (st' := []) (L' := [some (.inr (some (0, 0))), some (.inl (0 : Int32)), none]) rfl ?_
  exact h
theorem cw_refillLimits_2 {d : Nat} {l1 : Int32} {u2 : Option xm_V} {S : xm_S} {Q : Option xm_V → xm_S → Prop} (hC : xk_C S) (h : ((nI (xm_n S 1 3)) ≤ l1 → Q none S) ∧ (¬ (nI (xm_n S 1 3)) ≤ l1 → y_in l1 (xm_n S 1 3) ∧ (∃ k3, (xm_l S 3 (y_ix l1)) = (5, k3) ∧ (((xm_i S 5 k3 1) = (2 : Int32) → ∀ S6, S6 = xm_si S 5 k3 13 (if (xm_i S 5 k3 2) ≤ ((xm_i S 5 k3 13) + (xm_i S 5 k3 3)) then (xm_i S 5 k3 2) else ((xm_i S 5 k3 13) + (xm_i S 5 k3 3))) → (xw d 51 2 [some (.inr (some (0, 0))), some (.inl (l1 + (1 : Int32))), some (.inr (some (5, k3)))] [] S6 Q)) ∧ (¬ (xm_i S 5 k3 1) = (2 : Int32) → xw d 51 2 [some (.inr (some (0, 0))), some (.inl (l1 + (1 : Int32))), some (.inr (some (5, k3)))] [] S Q))))) : xw (d) 51 2 [some (.inr (some (0, 0))), some (.inl l1), u2] [] S Q := by
  refine xw.s (pc' := 3) (st' := [.inl l1]) rfl ?_
  refine xw.s (pc' := 4) (st' := [.inr (some (0, 0)), .inl l1]) rfl ?_
  refine xw.fr (c := 0) (j := 3) (e := 12) (nx := 7) (t := (some 3)) rfl rfl (hC 3 (by decide)) ?_
  show xw _ _ _ [some (.inr (some (0, 0))), some (.inl l1), u2] [.inr (some (12, 3)), .inl l1] _ _
  refine xw.lsz (nx := 10) (n := (xm_n S 1 3)) rfl (Nat.le_of_ble_eq_true rfl) rfl ?_
  refine xw.b (c := (nI (xm_n S 1 3)) ≤ l1) (cd := .ge) (x := l1) (y := (nI (xm_n S 1 3))) 59 13 (st' := []) rfl (y_cge _ _) h (fun c1 h => ?_) (fun c1 h => ?_)
  · skip
    exact xw.ret (r := none) rfl h
  · skip
    refine xw.s (pc' := 14) (st' := [.inr (some (0, 0))]) rfl ?_
    refine xw.fr (c := 0) (j := 3) (e := 12) (nx := 17) (t := (some 3)) rfl rfl (hC 3 (by decide)) ?_
    show xw _ _ _ [some (.inr (some (0, 0))), some (.inl l1), u2] [.inr (some (12, 3))] _ _
    refine xw.s (pc' := 18) (st' := [.inl l1, .inr (some (12, 3))]) rfl ?_
    obtain ⟨z2, h⟩ := h
    obtain ⟨k3, q4, h⟩ := h
    refine xw.get (nx := 21) (p := (5, k3)) rfl (Nat.le_of_ble_eq_true rfl) z2 q4 ?_
    refine xw.s (pc' := 24) (st' := [.inr (some (5, k3))]) rfl ?_
    refine xw.s (pc' := 25) (st' := []) (L' := [some (.inr (some (0, 0))), some (.inl l1), some (.inr (some (5, k3)))]) rfl ?_
    refine xw.s (pc' := 26) (st' := [.inr (some (5, k3))]) rfl ?_
    refine xw.fi (c := 5) (j := 1) (ty := 0) (nx := 29) (v := (xm_i S 5 k3 1)) rfl rfl rfl ?_
    refine xw.s (pc' := 30) (st' := [.inl (2 : Int32), .inl (xm_i S 5 k3 1)]) rfl ?_
    refine xw.bn (c := (xm_i S 5 k3 1) = (2 : Int32)) (cd := .ne) (x := (xm_i S 5 k3 1)) (y := (2 : Int32)) 53 33 (st' := []) rfl (y_cne _ _) h (fun c5 h => ?_) (fun c5 h => ?_)
    · skip
      refine xw.s (pc' := 34) (st' := [.inr (some (5, k3))]) rfl ?_
      refine xw.s (pc' := 35) (st' := [.inr (some (5, k3)), .inr (some (5, k3))]) rfl ?_
      refine xw.fi (c := 5) (j := 2) (ty := 0) (nx := 38) (v := (xm_i S 5 k3 2)) rfl rfl rfl ?_
      refine xw.s (pc' := 39) (st' := [.inr (some (5, k3)), .inl (xm_i S 5 k3 2), .inr (some (5, k3))]) rfl ?_
      refine xw.fi (c := 5) (j := 13) (ty := 0) (nx := 42) (v := (xm_i S 5 k3 13)) rfl rfl rfl ?_
      refine xw.s (pc' := 43) (st' := [.inr (some (5, k3)), .inl (xm_i S 5 k3 13), .inl (xm_i S 5 k3 2), .inr (some (5, k3))]) rfl ?_
      refine xw.fi (c := 5) (j := 3) (ty := 0) (nx := 46) (v := (xm_i S 5 k3 3)) rfl rfl rfl ?_
      refine xw.s (pc' := 47) (st' := [.inl ((xm_i S 5 k3 13) + (xm_i S 5 k3 3)), .inl (xm_i S 5 k3 2), .inr (some (5, k3))]) rfl ?_
      refine xw.s (pc' := 50) (st' := [.inl (if (xm_i S 5 k3 2) ≤ ((xm_i S 5 k3 13) + (xm_i S 5 k3 3)) then (xm_i S 5 k3 2) else ((xm_i S 5 k3 13) + (xm_i S 5 k3 3))), .inr (some (5, k3))]) rfl ?_
      refine xw.fp (c := 5) (j := 13) (ty := 0) (nx := 53) rfl rfl (Or.inl rfl) ?_
      obtain ⟨S6, e7⟩ : ∃ s, s = xm_si S 5 k3 13 (if (xm_i S 5 k3 2) ≤ ((xm_i S 5 k3 13) + (xm_i S 5 k3 3)) then (xm_i S 5 k3 2) else ((xm_i S 5 k3 13) + (xm_i S 5 k3 3))) := ⟨_, rfl⟩
      rw [← e7]
      replace h := h S6 e7
      refine xw.s (pc' := 56) (st' := []) (L' := [some (.inr (some (0, 0))), some (.inl (l1 + (1 : Int32))), some (.inr (some (5, k3)))]) rfl ?_
      refine xw.s (pc' := 2) (st' := []) rfl ?_
      exact h
    · skip
      refine xw.s (pc' := 56) (st' := []) (L' := [some (.inr (some (0, 0))), some (.inl (l1 + (1 : Int32))), some (.inr (some (5, k3)))]) rfl ?_
      refine xw.s (pc' := 2) (st' := []) rfl ?_
      exact h
/-- sweepLive -/
theorem cw_sweepLive {d : Nat}  {S : xm_S} {Q : Option xm_V → xm_S → Prop} (hC : xk_C S) (h : xw d 52 15 [some (.inr (some (0, 0))), some (.inl (0 : Int32)), some (.inl (0 : Int32)), some (.inl (nI (xm_n S 1 7))), some (.inl (0 : Int32)), none] [] S Q) : xc (d) 52 [.inr (some (0, 0))] S Q := by
  show xw _ _ _ [some (.inr (some (0, 0))), none, none, none, none, none] _ _ _
  refine xw.s (pc' := 1) (st' := [.inl (0 : Int32)]) rfl ?_
  refine xw.s (pc' := 2) (st' := []) (L' := [some (.inr (some (0, 0))), some (.inl (0 : Int32)), none, none, none, none]) rfl ?_
  refine xw.s (pc' := 3) (st' := [.inl (0 : Int32)]) rfl ?_
  refine xw.s (pc' := 4) (st' := []) (L' := [some (.inr (some (0, 0))), some (.inl (0 : Int32)), some (.inl (0 : Int32)), none, none, none]) rfl ?_
  refine xw.s (pc' := 5) (st' := [.inr (some (0, 0))]) rfl ?_
  refine xw.fr (c := 0) (j := 7) (e := 12) (nx := 8) (t := (some 7)) rfl rfl (hC 7 (by decide)) ?_
  show xw _ _ _ [some (.inr (some (0, 0))), some (.inl (0 : Int32)), some (.inl (0 : Int32)), none, none, none] [.inr (some (12, 7))] _ _
  refine xw.lsz (nx := 11) (n := (xm_n S 1 7)) rfl (Nat.le_of_ble_eq_true rfl) rfl ?_
  refine xw.s (pc' := 12) (st' := []) (L' := [some (.inr (some (0, 0))), some (.inl (0 : Int32)), some (.inl (0 : Int32)), some (.inl (nI (xm_n S 1 7))), none, none]) rfl ?_
  refine xw.s (pc' := 13) (st' := [.inl (0 : Int32)]) rfl ?_
  refine xw.s (pc' := 15) (st' := []) (L' := [some (.inr (some (0, 0))), some (.inl (0 : Int32)), some (.inl (0 : Int32)), some (.inl (nI (xm_n S 1 7))), some (.inl (0 : Int32)), none]) rfl ?_
  exact h
theorem cw_sweepLive_15 {d : Nat} {l1 : Int32} {l2 : Int32} {l3 : Int32} {l4 : Int32} {u5 : Option xm_V} {S : xm_S} {Q : Option xm_V → xm_S → Prop} (hC : xk_C S) (h : (l3 ≤ l4 → xw d 52 88 [some (.inr (some (0, 0))), some (.inl l1), some (.inl l2), some (.inl l3), some (.inl (l3 - (1 : Int32))), u5] [] S Q) ∧ (¬ l3 ≤ l4 → y_in l4 (xm_n S 1 7) ∧ (∃ k3, (xm_l S 7 (y_ix l4)) = (2, k3) ∧ (((xm_i S 2 k3 8) = (0 : Int32) → y_in l2 (xm_n S 1 7) ∧ (∀ S7, S7 = xm_sl S 7 (y_ix l2) (2, k3) → (((xm_i S 2 k3 12) = (xm_i S 0 0 13) → xw d 52 15 [some (.inr (some (0, 0))), some (.inl (l1 ||| (1 : Int32))), some (.inl (l2 + (1 : Int32))), some (.inl l3), some (.inl (l4 + (1 : Int32))), some (.inr (some (2, k3)))] [] S7 Q) ∧ (¬ (xm_i S 2 k3 12) = (xm_i S 0 0 13) → xw d 52 15 [some (.inr (some (0, 0))), some (.inl (l1 ||| (0 : Int32))), some (.inl (l2 + (1 : Int32))), some (.inl l3), some (.inl (l4 + (1 : Int32))), some (.inr (some (2, k3)))] [] S7 Q)))) ∧ (¬ (xm_i S 2 k3 8) = (0 : Int32) → xw d 52 15 [some (.inr (some (0, 0))), some (.inl l1), some (.inl l2), some (.inl l3), some (.inl (l4 + (1 : Int32))), some (.inr (some (2, k3)))] [] S Q))))) : xw (d) 52 15 [some (.inr (some (0, 0))), some (.inl l1), some (.inl l2), some (.inl l3), some (.inl l4), u5] [] S Q := by
  refine xw.s (pc' := 17) (st' := [.inl l4]) rfl ?_
  refine xw.s (pc' := 18) (st' := [.inl l3, .inl l4]) rfl ?_
  refine xw.b (c := l3 ≤ l4) (cd := .ge) (x := l4) (y := l3) 83 21 (st' := []) rfl (y_cge _ _) h (fun c1 h => ?_) (fun c1 h => ?_)
  · skip
    refine xw.s (pc' := 84) (st' := [.inl l3]) rfl ?_
    refine xw.s (pc' := 85) (st' := [.inl (1 : Int32), .inl l3]) rfl ?_
    refine xw.s (pc' := 86) (st' := [.inl (l3 - (1 : Int32))]) rfl ?_
    refine xw.s (pc' := 88) (st' := []) (L' := [some (.inr (some (0, 0))), some (.inl l1), some (.inl l2), some (.inl l3), some (.inl (l3 - (1 : Int32))), u5]) rfl ?_
    exact h
  · skip
    refine xw.s (pc' := 22) (st' := [.inr (some (0, 0))]) rfl ?_
    refine xw.fr (c := 0) (j := 7) (e := 12) (nx := 25) (t := (some 7)) rfl rfl (hC 7 (by decide)) ?_
    show xw _ _ _ [some (.inr (some (0, 0))), some (.inl l1), some (.inl l2), some (.inl l3), some (.inl l4), u5] [.inr (some (12, 7))] _ _
    refine xw.s (pc' := 27) (st' := [.inl l4, .inr (some (12, 7))]) rfl ?_
    obtain ⟨z2, h⟩ := h
    obtain ⟨k3, q4, h⟩ := h
    refine xw.get (nx := 30) (p := (2, k3)) rfl (Nat.le_of_ble_eq_true rfl) z2 q4 ?_
    refine xw.s (pc' := 33) (st' := [.inr (some (2, k3))]) rfl ?_
    refine xw.s (pc' := 35) (st' := []) (L' := [some (.inr (some (0, 0))), some (.inl l1), some (.inl l2), some (.inl l3), some (.inl l4), some (.inr (some (2, k3)))]) rfl ?_
    refine xw.s (pc' := 37) (st' := [.inr (some (2, k3))]) rfl ?_
    refine xw.fi (c := 2) (j := 8) (ty := 0) (nx := 40) (v := (xm_i S 2 k3 8)) rfl rfl rfl ?_
    refine xw.bn (c := (xm_i S 2 k3 8) = (0 : Int32)) (cd := .ne) (x := (xm_i S 2 k3 8)) (y := (0 : Int32)) 77 43 (st' := []) rfl (y_cne _ _) h (fun c5 h => ?_) (fun c5 h => ?_)
    · skip
      refine xw.s (pc' := 44) (st' := [.inr (some (0, 0))]) rfl ?_
      refine xw.fr (c := 0) (j := 7) (e := 12) (nx := 47) (t := (some 7)) rfl rfl (hC 7 (by decide)) ?_
      show xw _ _ _ [some (.inr (some (0, 0))), some (.inl l1), some (.inl l2), some (.inl l3), some (.inl l4), some (.inr (some (2, k3)))] [.inr (some (12, 7))] _ _
      refine xw.s (pc' := 48) (st' := [.inl l2, .inr (some (12, 7))]) rfl ?_
      refine xw.s (pc' := 50) (st' := [.inr (some (2, k3)), .inl l2, .inr (some (12, 7))]) rfl ?_
      obtain ⟨z6, h⟩ := h
      refine xw.lset (nx := 53) (p := (xm_l S 7 (y_ix l2))) rfl (Nat.le_of_ble_eq_true rfl) (by decide) z6 rfl ?_
      obtain ⟨S7, e8⟩ : ∃ s, s = xm_sl S 7 (y_ix l2) (2, k3) := ⟨_, rfl⟩
      rw [← e8]
      replace h := h S7 e8
      refine xw.s (pc' := 54) (st' := []) rfl ?_
      refine xw.s (pc' := 57) (st' := []) (L' := [some (.inr (some (0, 0))), some (.inl l1), some (.inl (l2 + (1 : Int32))), some (.inl l3), some (.inl l4), some (.inr (some (2, k3)))]) rfl ?_
      refine xw.s (pc' := 58) (st' := [.inl l1]) rfl ?_
      refine xw.s (pc' := 60) (st' := [.inr (some (2, k3)), .inl l1]) rfl ?_
      refine xw.fi (c := 2) (j := 12) (ty := 0) (nx := 63) (v := (xm_i S 2 k3 12)) rfl rfl ((congrArg (fun s => xm_i s 2 k3 12) e8).trans rfl) ?_
      refine xw.s (pc' := 64) (st' := [.inr (some (0, 0)), .inl (xm_i S 2 k3 12), .inl l1]) rfl ?_
      refine xw.fi (c := 0) (j := 13) (ty := 0) (nx := 67) (v := (xm_i S 0 0 13)) rfl rfl ((congrArg (fun s => xm_i s 0 0 13) e8).trans rfl) ?_
      refine xw.bn (c := (xm_i S 2 k3 12) = (xm_i S 0 0 13)) (cd := .ne) (x := (xm_i S 2 k3 12)) (y := (xm_i S 0 0 13)) 74 70 (st' := [.inl l1]) rfl (y_cne _ _) h (fun c9 h => ?_) (fun c9 h => ?_)
      · skip
        refine xw.s (pc' := 71) (st' := [.inl (1 : Int32), .inl l1]) rfl ?_
        refine xw.s (pc' := 75) (st' := [.inl (1 : Int32), .inl l1]) rfl ?_
        refine xw.s (pc' := 76) (st' := [.inl (l1 ||| (1 : Int32))]) rfl ?_
        refine xw.s (pc' := 77) (st' := []) (L' := [some (.inr (some (0, 0))), some (.inl (l1 ||| (1 : Int32))), some (.inl (l2 + (1 : Int32))), some (.inl l3), some (.inl l4), some (.inr (some (2, k3)))]) rfl ?_
        refine xw.s (pc' := 80) (st' := []) (L' := [some (.inr (some (0, 0))), some (.inl (l1 ||| (1 : Int32))), some (.inl (l2 + (1 : Int32))), some (.inl l3), some (.inl (l4 + (1 : Int32))), some (.inr (some (2, k3)))]) rfl ?_
        refine xw.s (pc' := 15) (st' := []) rfl ?_
        exact h
      · skip
        refine xw.s (pc' := 75) (st' := [.inl (0 : Int32), .inl l1]) rfl ?_
        refine xw.s (pc' := 76) (st' := [.inl (l1 ||| (0 : Int32))]) rfl ?_
        refine xw.s (pc' := 77) (st' := []) (L' := [some (.inr (some (0, 0))), some (.inl (l1 ||| (0 : Int32))), some (.inl (l2 + (1 : Int32))), some (.inl l3), some (.inl l4), some (.inr (some (2, k3)))]) rfl ?_
        refine xw.s (pc' := 80) (st' := []) (L' := [some (.inr (some (0, 0))), some (.inl (l1 ||| (0 : Int32))), some (.inl (l2 + (1 : Int32))), some (.inl l3), some (.inl (l4 + (1 : Int32))), some (.inr (some (2, k3)))]) rfl ?_
        refine xw.s (pc' := 15) (st' := []) rfl ?_
        exact h
    · skip
      refine xw.s (pc' := 80) (st' := []) (L' := [some (.inr (some (0, 0))), some (.inl l1), some (.inl l2), some (.inl l3), some (.inl (l4 + (1 : Int32))), some (.inr (some (2, k3)))]) rfl ?_
      refine xw.s (pc' := 15) (st' := []) rfl ?_
      exact h
theorem cw_sweepLive_88 {d : Nat} {l1 : Int32} {l2 : Int32} {l3 : Int32} {l4 : Int32} {u5 : Option xm_V} {S : xm_S} {Q : Option xm_V → xm_S → Prop} (hC : xk_C S) (h : (l4 < l2 → (l1 = 0 ∨ l1 = 1) ∧ Q (some (.inl l1)) S) ∧ (¬ l4 < l2 → y_in l4 (xm_n S 1 7) ∧ (∀ S4, S4 = xm_drop 7 (y_ix l4) S → (xw d 52 88 [some (.inr (some (0, 0))), some (.inl l1), some (.inl l2), some (.inl l3), some (.inl (l4 + (-1 : Int32))), u5] [] S4 Q)))) : xw (d) 52 88 [some (.inr (some (0, 0))), some (.inl l1), some (.inl l2), some (.inl l3), some (.inl l4), u5] [] S Q := by
  refine xw.s (pc' := 90) (st' := [.inl l4]) rfl ?_
  refine xw.s (pc' := 91) (st' := [.inl l2, .inl l4]) rfl ?_
  refine xw.b (c := l4 < l2) (cd := .lt) (x := l4) (y := l2) 110 94 (st' := []) rfl (y_clt _ _) h (fun c1 h => ?_) (fun c1 h => ?_)
  · skip
    refine xw.s (pc' := 111) (st' := [.inl l1]) rfl ?_
    exact xw.retz (nx := 112) rfl h.1 h.2
  · skip
    refine xw.s (pc' := 95) (st' := [.inr (some (0, 0))]) rfl ?_
    refine xw.fr (c := 0) (j := 7) (e := 12) (nx := 98) (t := (some 7)) rfl rfl (hC 7 (by decide)) ?_
    show xw _ _ _ [some (.inr (some (0, 0))), some (.inl l1), some (.inl l2), some (.inl l3), some (.inl l4), u5] [.inr (some (12, 7))] _ _
    refine xw.s (pc' := 100) (st' := [.inl l4, .inr (some (12, 7))]) rfl ?_
    obtain ⟨z3, h⟩ := h
    refine xw.rem (nx := 103) (p := (xm_l S 7 (y_ix l4))) rfl (Nat.le_of_ble_eq_true rfl) z3 rfl ?_
    obtain ⟨S4, e5⟩ : ∃ s, s = xm_drop 7 (y_ix l4) S := ⟨_, rfl⟩
    rw [← e5]
    replace h := h S4 e5
    refine xw.s (pc' := 104) (st' := []) rfl ?_
    refine xw.s (pc' := 107) (st' := []) (L' := [some (.inr (some (0, 0))), some (.inl l1), some (.inl l2), some (.inl l3), some (.inl (l4 + (-1 : Int32))), u5]) rfl ?_
    refine xw.s (pc' := 88) (st' := []) rfl ?_
    exact h
/-- doWhatIsDue -/
theorem cw_doWhatIsDue {d : Nat} {a1 : Int32} {S : xm_S} {Q : Option xm_V → xm_S → Prop} (hC : xk_C S) (h : xw (d + 2) 53 10 [some (.inr (some (0, 0))), some (.inl a1), some (.inl (nI (xm_n S 1 7))), some (.inl (0 : Int32)), none] [] S Q) : xc (d + 2) 53 [.inr (some (0, 0)), .inl a1] S Q := by
  show xw _ _ _ [some (.inr (some (0, 0))), some (.inl a1), none, none, none] _ _ _
  refine xw.s (pc' := 1) (st' := [.inr (some (0, 0))]) rfl ?_
  refine xw.fr (c := 0) (j := 7) (e := 12) (nx := 4) (t := (some 7)) rfl rfl (hC 7 (by decide)) ?_
  show xw _ _ _ [some (.inr (some (0, 0))), some (.inl a1), none, none, none] [.inr (some (12, 7))] _ _
  refine xw.lsz (nx := 7) (n := (xm_n S 1 7)) rfl (Nat.le_of_ble_eq_true rfl) rfl ?_
  refine xw.s (pc' := 8) (st' := []) (L' := [some (.inr (some (0, 0))), some (.inl a1), some (.inl (nI (xm_n S 1 7))), none, none]) rfl ?_
  refine xw.s (pc' := 9) (st' := [.inl (0 : Int32)]) rfl ?_
  refine xw.s (pc' := 10) (st' := []) (L' := [some (.inr (some (0, 0))), some (.inl a1), some (.inl (nI (xm_n S 1 7))), some (.inl (0 : Int32)), none]) rfl ?_
  exact h
theorem cw_doWhatIsDue_10 {d : Nat} {l1 : Int32} {l2 : Int32} {l3 : Int32} {u4 : Option xm_V} {S : xm_S} {Q : Option xm_V → xm_S → Prop} (hC : xk_C S) (h : (l2 ≤ l3 → Q none S) ∧ (¬ l2 ≤ l3 → ((nI (xm_n S 1 7)) ≤ l3 → Q none S) ∧ (¬ (nI (xm_n S 1 7)) ≤ l3 → y_in l3 (xm_n S 1 7) ∧ (∃ k4, (xm_l S 7 (y_ix l3)) = (2, k4) ∧ (((xm_i S 2 k4 8) = (0 : Int32) → ((xm_i S 2 k4 12) = (xm_i S 0 0 13) → ∀ t8, (xm_r S 2 k4 4) = t8 → ((t8 = none → ((10 : Int32) = l1 → (l1 = (10 : Int32) → xc (d + 1) 54 [.inr (some (0, 0)), .inr (some (2, k4))] S (fun r S13 => r = none ∧ xk_C S13 ∧ (xw (d + 2) 53 10 [some (.inr (some (0, 0))), some (.inl l1), some (.inl l2), some (.inl (l3 + (1 : Int32))), some (.inr (some (2, k4)))] [] S13 Q))) ∧ (¬ l1 = (10 : Int32) → (l1 = (3 : Int32) → xc (d + 1) 57 [.inr (some (0, 0)), .inr (some (2, k4))] S (fun r S16 => r = none ∧ xk_C S16 ∧ (xw (d + 2) 53 10 [some (.inr (some (0, 0))), some (.inl l1), some (.inl l2), some (.inl (l3 + (1 : Int32))), some (.inr (some (2, k4)))] [] S16 Q))) ∧ (¬ l1 = (3 : Int32) → ∀ S18, S18 = xm_si S 2 k4 13 (0 : Int32) → (∀ t20, (xm_r S 2 k4 1) = t20 → (xc d 16 [.inr (some (0, 0)), .inr (xo 6 t20), .inr (some (2, k4))] S18 (fun r S22 => r = none ∧ xk_C S22 ∧ (xw (d + 2) 53 10 [some (.inr (some (0, 0))), some (.inl l1), some (.inl l2), some (.inl (l3 + (1 : Int32))), some (.inr (some (2, k4)))] [] S22 Q))))))) ∧ (¬ (10 : Int32) = l1 → xw (d + 2) 53 10 [some (.inr (some (0, 0))), some (.inl l1), some (.inl l2), some (.inl (l3 + (1 : Int32))), some (.inr (some (2, k4)))] [] S Q)) ∧ (∀ k10, t8 = some k10 → ((xm_i S 5 k10 1) = l1 → (l1 = (10 : Int32) → xc (d + 1) 54 [.inr (some (0, 0)), .inr (some (2, k4))] S (fun r S26 => r = none ∧ xk_C S26 ∧ (xw (d + 2) 53 10 [some (.inr (some (0, 0))), some (.inl l1), some (.inl l2), some (.inl (l3 + (1 : Int32))), some (.inr (some (2, k4)))] [] S26 Q))) ∧ (¬ l1 = (10 : Int32) → (l1 = (3 : Int32) → xc (d + 1) 57 [.inr (some (0, 0)), .inr (some (2, k4))] S (fun r S29 => r = none ∧ xk_C S29 ∧ (xw (d + 2) 53 10 [some (.inr (some (0, 0))), some (.inl l1), some (.inl l2), some (.inl (l3 + (1 : Int32))), some (.inr (some (2, k4)))] [] S29 Q))) ∧ (¬ l1 = (3 : Int32) → ∀ S31, S31 = xm_si S 2 k4 13 (0 : Int32) → (∀ t33, (xm_r S 2 k4 1) = t33 → (xc d 16 [.inr (some (0, 0)), .inr (xo 6 t33), .inr (some (2, k4))] S31 (fun r S35 => r = none ∧ xk_C S35 ∧ (xw (d + 2) 53 10 [some (.inr (some (0, 0))), some (.inl l1), some (.inl l2), some (.inl (l3 + (1 : Int32))), some (.inr (some (2, k4)))] [] S35 Q))))))) ∧ (¬ (xm_i S 5 k10 1) = l1 → xw (d + 2) 53 10 [some (.inr (some (0, 0))), some (.inl l1), some (.inl l2), some (.inl (l3 + (1 : Int32))), some (.inr (some (2, k4)))] [] S Q)))) ∧ (¬ (xm_i S 2 k4 12) = (xm_i S 0 0 13) → xw (d + 2) 53 10 [some (.inr (some (0, 0))), some (.inl l1), some (.inl l2), some (.inl (l3 + (1 : Int32))), some (.inr (some (2, k4)))] [] S Q)) ∧ (¬ (xm_i S 2 k4 8) = (0 : Int32) → xw (d + 2) 53 10 [some (.inr (some (0, 0))), some (.inl l1), some (.inl l2), some (.inl (l3 + (1 : Int32))), some (.inr (some (2, k4)))] [] S Q)))))) : xw (d + 2) 53 10 [some (.inr (some (0, 0))), some (.inl l1), some (.inl l2), some (.inl l3), u4] [] S Q := by
  refine xw.s (pc' := 11) (st' := [.inl l3]) rfl ?_
  refine xw.s (pc' := 12) (st' := [.inl l2, .inl l3]) rfl ?_
  refine xw.b (c := l2 ≤ l3) (cd := .ge) (x := l3) (y := l2) 118 15 (st' := []) rfl (y_cge _ _) h (fun c1 h => ?_) (fun c1 h => ?_)
  · skip
    exact xw.ret (r := none) rfl h
  · skip
    refine xw.s (pc' := 16) (st' := [.inl l3]) rfl ?_
    refine xw.s (pc' := 17) (st' := [.inr (some (0, 0)), .inl l3]) rfl ?_
    refine xw.fr (c := 0) (j := 7) (e := 12) (nx := 20) (t := (some 7)) rfl rfl (hC 7 (by decide)) ?_
    show xw _ _ _ [some (.inr (some (0, 0))), some (.inl l1), some (.inl l2), some (.inl l3), u4] [.inr (some (12, 7)), .inl l3] _ _
    refine xw.lsz (nx := 23) (n := (xm_n S 1 7)) rfl (Nat.le_of_ble_eq_true rfl) rfl ?_
    refine xw.b (c := (nI (xm_n S 1 7)) ≤ l3) (cd := .ge) (x := l3) (y := (nI (xm_n S 1 7))) 118 26 (st' := []) rfl (y_cge _ _) h (fun c2 h => ?_) (fun c2 h => ?_)
    · skip
      exact xw.ret (r := none) rfl h
    · skip
      refine xw.s (pc' := 27) (st' := [.inr (some (0, 0))]) rfl ?_
      refine xw.fr (c := 0) (j := 7) (e := 12) (nx := 30) (t := (some 7)) rfl rfl (hC 7 (by decide)) ?_
      show xw _ _ _ [some (.inr (some (0, 0))), some (.inl l1), some (.inl l2), some (.inl l3), u4] [.inr (some (12, 7))] _ _
      refine xw.s (pc' := 31) (st' := [.inl l3, .inr (some (12, 7))]) rfl ?_
      obtain ⟨z3, h⟩ := h
      obtain ⟨k4, q5, h⟩ := h
      refine xw.get (nx := 34) (p := (2, k4)) rfl (Nat.le_of_ble_eq_true rfl) z3 q5 ?_
      refine xw.s (pc' := 37) (st' := [.inr (some (2, k4))]) rfl ?_
      refine xw.s (pc' := 39) (st' := []) (L' := [some (.inr (some (0, 0))), some (.inl l1), some (.inl l2), some (.inl l3), some (.inr (some (2, k4)))]) rfl ?_
      refine xw.s (pc' := 41) (st' := [.inr (some (2, k4))]) rfl ?_
      refine xw.fi (c := 2) (j := 8) (ty := 0) (nx := 44) (v := (xm_i S 2 k4 8)) rfl rfl rfl ?_
      refine xw.bn (c := (xm_i S 2 k4 8) = (0 : Int32)) (cd := .ne) (x := (xm_i S 2 k4 8)) (y := (0 : Int32)) 112 47 (st' := []) rfl (y_cne _ _) h (fun c6 h => ?_) (fun c6 h => ?_)
      · skip
        refine xw.s (pc' := 49) (st' := [.inr (some (2, k4))]) rfl ?_
        refine xw.fi (c := 2) (j := 12) (ty := 0) (nx := 52) (v := (xm_i S 2 k4 12)) rfl rfl rfl ?_
        refine xw.s (pc' := 53) (st' := [.inr (some (0, 0)), .inl (xm_i S 2 k4 12)]) rfl ?_
        refine xw.fi (c := 0) (j := 13) (ty := 0) (nx := 56) (v := (xm_i S 0 0 13)) rfl rfl rfl ?_
        refine xw.bn (c := (xm_i S 2 k4 12) = (xm_i S 0 0 13)) (cd := .ne) (x := (xm_i S 2 k4 12)) (y := (xm_i S 0 0 13)) 112 59 (st' := []) rfl (y_cne _ _) h (fun c7 h => ?_) (fun c7 h => ?_)
        · skip
          refine xw.s (pc' := 61) (st' := [.inr (some (2, k4))]) rfl ?_
          refine xw.call (m := 95) (as := [.inr (some (2, k4))]) (nx := 64) (L' := [some (.inr (some (0, 0))), some (.inl l1), some (.inl l2), some (.inl l3), some (.inr (some (2, k4)))]) (st' := []) rfl ?_
          show xw _ _ _ [some (.inr (some (2, k4)))] [] _ _
          refine xw.s (pc' := 1) (st' := [.inr (some (2, k4))]) rfl ?_
          obtain ⟨t8, q9⟩ : ∃ t, (xm_r S 2 k4 4) = t := ⟨_, rfl⟩
          replace h := h t8 q9
          refine xw.fr (c := 2) (j := 4) (e := 5) (nx := 4) (t := t8) rfl rfl q9 ?_
          show xw _ _ _ [some (.inr (some (2, k4)))] [.inr (xo 5 t8)] _ _
          refine xw.nnul (o := t8) (t := 12) (nx := 7) rfl rfl ?_
          rcases t8 with _ | k10
          · replace h := h.1 rfl
            show xw _ _ 7 [some (.inr (some (2, k4)))] [] _ _
            refine xw.s (pc' := 9) (st' := [.inl (10 : Int32)]) rfl ?_
            refine xw.s (pc' := 19) (st' := [.inl (10 : Int32)]) rfl ?_
            refine xw.ret (r := some (.inl (10 : Int32))) rfl ?_
            show xw _ _ 64 [some (.inr (some (0, 0))), some (.inl l1), some (.inl l2), some (.inl l3), some (.inr (some (2, k4)))] [.inl (10 : Int32)] S _
            refine xw.s (pc' := 65) (st' := [.inl l1, .inl (10 : Int32)]) rfl ?_
            refine xw.b (c := (10 : Int32) = l1) (cd := .eq) (x := (10 : Int32)) (y := l1) 71 68 (st' := []) rfl (y_ceq _ _) h (fun c11 h => ?_) (fun c11 h => ?_)
            · skip
              refine xw.s (pc' := 72) (st' := [.inl l1]) rfl ?_
              refine xw.s (pc' := 74) (st' := [.inl (10 : Int32), .inl l1]) rfl ?_
              refine xw.bn (c := l1 = (10 : Int32)) (cd := .ne) (x := l1) (y := (10 : Int32)) 86 77 (st' := []) rfl (y_cne _ _) h (fun c12 h => ?_) (fun c12 h => ?_)
              · skip
                refine xw.s (pc' := 78) (st' := [.inr (some (0, 0))]) rfl ?_
                refine xw.s (pc' := 80) (st' := [.inr (some (2, k4)), .inr (some (0, 0))]) rfl ?_
                refine xw.call (m := 54) (as := [.inr (some (0, 0)), .inr (some (2, k4))]) (nx := 83) (L' := [some (.inr (some (0, 0))), some (.inl l1), some (.inl l2), some (.inl l3), some (.inr (some (2, k4)))]) (st' := []) rfl (xc.mono h ?_)
                rintro r S13 ⟨rfl, hC14, h⟩
                show xw _ _ 83 [some (.inr (some (0, 0))), some (.inl l1), some (.inl l2), some (.inl l3), some (.inr (some (2, k4)))] [] _ _
                refine xw.s (pc' := 112) (st' := []) rfl ?_
                refine xw.s (pc' := 115) (st' := []) (L' := [some (.inr (some (0, 0))), some (.inl l1), some (.inl l2), some (.inl (l3 + (1 : Int32))), some (.inr (some (2, k4)))]) rfl ?_
                refine xw.s (pc' := 10) (st' := []) rfl ?_
                exact h
              · skip
                refine xw.s (pc' := 87) (st' := [.inl l1]) rfl ?_
                refine xw.s (pc' := 88) (st' := [.inl (3 : Int32), .inl l1]) rfl ?_
                refine xw.bn (c := l1 = (3 : Int32)) (cd := .ne) (x := l1) (y := (3 : Int32)) 100 91 (st' := []) rfl (y_cne _ _) h (fun c15 h => ?_) (fun c15 h => ?_)
                · skip
                  refine xw.s (pc' := 92) (st' := [.inr (some (0, 0))]) rfl ?_
                  refine xw.s (pc' := 94) (st' := [.inr (some (2, k4)), .inr (some (0, 0))]) rfl ?_
                  refine xw.call (m := 57) (as := [.inr (some (0, 0)), .inr (some (2, k4))]) (nx := 97) (L' := [some (.inr (some (0, 0))), some (.inl l1), some (.inl l2), some (.inl l3), some (.inr (some (2, k4)))]) (st' := []) rfl (xc.mono h ?_)
                  rintro r S16 ⟨rfl, hC17, h⟩
                  show xw _ _ 97 [some (.inr (some (0, 0))), some (.inl l1), some (.inl l2), some (.inl l3), some (.inr (some (2, k4)))] [] _ _
                  refine xw.s (pc' := 112) (st' := []) rfl ?_
                  refine xw.s (pc' := 115) (st' := []) (L' := [some (.inr (some (0, 0))), some (.inl l1), some (.inl l2), some (.inl (l3 + (1 : Int32))), some (.inr (some (2, k4)))]) rfl ?_
                  refine xw.s (pc' := 10) (st' := []) rfl ?_
                  exact h
                · skip
                  refine xw.s (pc' := 102) (st' := [.inr (some (2, k4))]) rfl ?_
                  refine xw.s (pc' := 103) (st' := [.inl (0 : Int32), .inr (some (2, k4))]) rfl ?_
                  refine xw.fp (c := 2) (j := 13) (ty := 0) (nx := 106) rfl rfl (Or.inl rfl) ?_
                  obtain ⟨S18, e19⟩ : ∃ s, s = xm_si S 2 k4 13 (0 : Int32) := ⟨_, rfl⟩
                  rw [← e19]
                  replace h := h S18 e19
                  refine xw.s (pc' := 107) (st' := [.inr (some (0, 0))]) rfl ?_
                  refine xw.s (pc' := 109) (st' := [.inr (some (2, k4)), .inr (some (0, 0))]) rfl ?_
                  refine xw.call (m := 41) (as := [.inr (some (0, 0)), .inr (some (2, k4))]) (nx := 112) (L' := [some (.inr (some (0, 0))), some (.inl l1), some (.inl l2), some (.inl l3), some (.inr (some (2, k4)))]) (st' := []) rfl ?_
                  show xw _ _ _ [some (.inr (some (0, 0))), some (.inr (some (2, k4)))] [] _ _
                  refine xw.s (pc' := 1) (st' := [.inr (some (0, 0))]) rfl ?_
                  refine xw.s (pc' := 2) (st' := [.inr (some (2, k4)), .inr (some (0, 0))]) rfl ?_
                  obtain ⟨t20, q21⟩ : ∃ t, (xm_r S 2 k4 1) = t := ⟨_, rfl⟩
                  replace h := h t20 q21
                  refine xw.fr (c := 2) (j := 1) (e := 6) (nx := 5) (t := t20) rfl rfl (((congrArg (fun s => xm_r s 2 k4 1) e19).trans rfl).trans q21) ?_
                  show xw _ _ _ [some (.inr (some (0, 0))), some (.inr (some (2, k4)))] [.inr (xo 6 t20), .inr (some (0, 0))] _ _
                  refine xw.s (pc' := 6) (st' := [.inr (some (2, k4)), .inr (xo 6 t20), .inr (some (0, 0))]) rfl ?_
                  refine xw.call (m := 16) (as := [.inr (some (0, 0)), .inr (xo 6 t20), .inr (some (2, k4))]) (nx := 9) (L' := [some (.inr (some (0, 0))), some (.inr (some (2, k4)))]) (st' := []) rfl (xc.mono h ?_)
                  rintro r S22 ⟨rfl, hC23, h⟩
                  show xw _ _ 9 [some (.inr (some (0, 0))), some (.inr (some (2, k4)))] [] _ _
                  refine xw.ret (r := none) rfl ?_
                  show xw _ _ 112 [some (.inr (some (0, 0))), some (.inl l1), some (.inl l2), some (.inl l3), some (.inr (some (2, k4)))] [] S22 _
                  refine xw.s (pc' := 115) (st' := []) (L' := [some (.inr (some (0, 0))), some (.inl l1), some (.inl l2), some (.inl (l3 + (1 : Int32))), some (.inr (some (2, k4)))]) rfl ?_
                  refine xw.s (pc' := 10) (st' := []) rfl ?_
                  exact h
            · skip
              refine xw.s (pc' := 112) (st' := []) rfl ?_
              refine xw.s (pc' := 115) (st' := []) (L' := [some (.inr (some (0, 0))), some (.inl l1), some (.inl l2), some (.inl (l3 + (1 : Int32))), some (.inr (some (2, k4)))]) rfl ?_
              refine xw.s (pc' := 10) (st' := []) rfl ?_
              exact h
          · replace h := h.2 k10 rfl
            show xw _ _ 12 [some (.inr (some (2, k4)))] [] _ _
            refine xw.s (pc' := 13) (st' := [.inr (some (2, k4))]) rfl ?_
            refine xw.fr (c := 2) (j := 4) (e := 5) (nx := 16) (t := (some k10)) rfl rfl q9 ?_
            show xw _ _ _ [some (.inr (some (2, k4)))] [.inr (some (5, k10))] _ _
            refine xw.fi (c := 5) (j := 1) (ty := 0) (nx := 19) (v := (xm_i S 5 k10 1)) rfl rfl rfl ?_
            refine xw.ret (r := some (.inl (xm_i S 5 k10 1))) rfl ?_
            show xw _ _ 64 [some (.inr (some (0, 0))), some (.inl l1), some (.inl l2), some (.inl l3), some (.inr (some (2, k4)))] [.inl (xm_i S 5 k10 1)] S _
            refine xw.s (pc' := 65) (st' := [.inl l1, .inl (xm_i S 5 k10 1)]) rfl ?_
            refine xw.b (c := (xm_i S 5 k10 1) = l1) (cd := .eq) (x := (xm_i S 5 k10 1)) (y := l1) 71 68 (st' := []) rfl (y_ceq _ _) h (fun c24 h => ?_) (fun c24 h => ?_)
            · skip
              refine xw.s (pc' := 72) (st' := [.inl l1]) rfl ?_
              refine xw.s (pc' := 74) (st' := [.inl (10 : Int32), .inl l1]) rfl ?_
              refine xw.bn (c := l1 = (10 : Int32)) (cd := .ne) (x := l1) (y := (10 : Int32)) 86 77 (st' := []) rfl (y_cne _ _) h (fun c25 h => ?_) (fun c25 h => ?_)
              · skip
                refine xw.s (pc' := 78) (st' := [.inr (some (0, 0))]) rfl ?_
                refine xw.s (pc' := 80) (st' := [.inr (some (2, k4)), .inr (some (0, 0))]) rfl ?_
                refine xw.call (m := 54) (as := [.inr (some (0, 0)), .inr (some (2, k4))]) (nx := 83) (L' := [some (.inr (some (0, 0))), some (.inl l1), some (.inl l2), some (.inl l3), some (.inr (some (2, k4)))]) (st' := []) rfl (xc.mono h ?_)
                rintro r S26 ⟨rfl, hC27, h⟩
                show xw _ _ 83 [some (.inr (some (0, 0))), some (.inl l1), some (.inl l2), some (.inl l3), some (.inr (some (2, k4)))] [] _ _
                refine xw.s (pc' := 112) (st' := []) rfl ?_
                refine xw.s (pc' := 115) (st' := []) (L' := [some (.inr (some (0, 0))), some (.inl l1), some (.inl l2), some (.inl (l3 + (1 : Int32))), some (.inr (some (2, k4)))]) rfl ?_
                refine xw.s (pc' := 10) (st' := []) rfl ?_
                exact h
              · skip
                refine xw.s (pc' := 87) (st' := [.inl l1]) rfl ?_
                refine xw.s (pc' := 88) (st' := [.inl (3 : Int32), .inl l1]) rfl ?_
                refine xw.bn (c := l1 = (3 : Int32)) (cd := .ne) (x := l1) (y := (3 : Int32)) 100 91 (st' := []) rfl (y_cne _ _) h (fun c28 h => ?_) (fun c28 h => ?_)
                · skip
                  refine xw.s (pc' := 92) (st' := [.inr (some (0, 0))]) rfl ?_
                  refine xw.s (pc' := 94) (st' := [.inr (some (2, k4)), .inr (some (0, 0))]) rfl ?_
                  refine xw.call (m := 57) (as := [.inr (some (0, 0)), .inr (some (2, k4))]) (nx := 97) (L' := [some (.inr (some (0, 0))), some (.inl l1), some (.inl l2), some (.inl l3), some (.inr (some (2, k4)))]) (st' := []) rfl (xc.mono h ?_)
                  rintro r S29 ⟨rfl, hC30, h⟩
                  show xw _ _ 97 [some (.inr (some (0, 0))), some (.inl l1), some (.inl l2), some (.inl l3), some (.inr (some (2, k4)))] [] _ _
                  refine xw.s (pc' := 112) (st' := []) rfl ?_
                  refine xw.s (pc' := 115) (st' := []) (L' := [some (.inr (some (0, 0))), some (.inl l1), some (.inl l2), some (.inl (l3 + (1 : Int32))), some (.inr (some (2, k4)))]) rfl ?_
                  refine xw.s (pc' := 10) (st' := []) rfl ?_
                  exact h
                · skip
                  refine xw.s (pc' := 102) (st' := [.inr (some (2, k4))]) rfl ?_
                  refine xw.s (pc' := 103) (st' := [.inl (0 : Int32), .inr (some (2, k4))]) rfl ?_
                  refine xw.fp (c := 2) (j := 13) (ty := 0) (nx := 106) rfl rfl (Or.inl rfl) ?_
                  obtain ⟨S31, e32⟩ : ∃ s, s = xm_si S 2 k4 13 (0 : Int32) := ⟨_, rfl⟩
                  rw [← e32]
                  replace h := h S31 e32
                  refine xw.s (pc' := 107) (st' := [.inr (some (0, 0))]) rfl ?_
                  refine xw.s (pc' := 109) (st' := [.inr (some (2, k4)), .inr (some (0, 0))]) rfl ?_
                  refine xw.call (m := 41) (as := [.inr (some (0, 0)), .inr (some (2, k4))]) (nx := 112) (L' := [some (.inr (some (0, 0))), some (.inl l1), some (.inl l2), some (.inl l3), some (.inr (some (2, k4)))]) (st' := []) rfl ?_
                  show xw _ _ _ [some (.inr (some (0, 0))), some (.inr (some (2, k4)))] [] _ _
                  refine xw.s (pc' := 1) (st' := [.inr (some (0, 0))]) rfl ?_
                  refine xw.s (pc' := 2) (st' := [.inr (some (2, k4)), .inr (some (0, 0))]) rfl ?_
                  obtain ⟨t33, q34⟩ : ∃ t, (xm_r S 2 k4 1) = t := ⟨_, rfl⟩
                  replace h := h t33 q34
                  refine xw.fr (c := 2) (j := 1) (e := 6) (nx := 5) (t := t33) rfl rfl (((congrArg (fun s => xm_r s 2 k4 1) e32).trans rfl).trans q34) ?_
                  show xw _ _ _ [some (.inr (some (0, 0))), some (.inr (some (2, k4)))] [.inr (xo 6 t33), .inr (some (0, 0))] _ _
                  refine xw.s (pc' := 6) (st' := [.inr (some (2, k4)), .inr (xo 6 t33), .inr (some (0, 0))]) rfl ?_
                  refine xw.call (m := 16) (as := [.inr (some (0, 0)), .inr (xo 6 t33), .inr (some (2, k4))]) (nx := 9) (L' := [some (.inr (some (0, 0))), some (.inr (some (2, k4)))]) (st' := []) rfl (xc.mono h ?_)
                  rintro r S35 ⟨rfl, hC36, h⟩
                  show xw _ _ 9 [some (.inr (some (0, 0))), some (.inr (some (2, k4)))] [] _ _
                  refine xw.ret (r := none) rfl ?_
                  show xw _ _ 112 [some (.inr (some (0, 0))), some (.inl l1), some (.inl l2), some (.inl l3), some (.inr (some (2, k4)))] [] S35 _
                  refine xw.s (pc' := 115) (st' := []) (L' := [some (.inr (some (0, 0))), some (.inl l1), some (.inl l2), some (.inl (l3 + (1 : Int32))), some (.inr (some (2, k4)))]) rfl ?_
                  refine xw.s (pc' := 10) (st' := []) rfl ?_
                  exact h
            · skip
              refine xw.s (pc' := 112) (st' := []) rfl ?_
              refine xw.s (pc' := 115) (st' := []) (L' := [some (.inr (some (0, 0))), some (.inl l1), some (.inl l2), some (.inl (l3 + (1 : Int32))), some (.inr (some (2, k4)))]) rfl ?_
              refine xw.s (pc' := 10) (st' := []) rfl ?_
              exact h
        · skip
          refine xw.s (pc' := 115) (st' := []) (L' := [some (.inr (some (0, 0))), some (.inl l1), some (.inl l2), some (.inl (l3 + (1 : Int32))), some (.inr (some (2, k4)))]) rfl ?_
          refine xw.s (pc' := 10) (st' := []) rfl ?_
          exact h
      · skip
        refine xw.s (pc' := 115) (st' := []) (L' := [some (.inr (some (0, 0))), some (.inl l1), some (.inl l2), some (.inl (l3 + (1 : Int32))), some (.inr (some (2, k4)))]) rfl ?_
        refine xw.s (pc' := 10) (st' := []) rfl ?_
        exact h
/-- finishTry -/
theorem cw_finishTry {d : Nat} {a1 : Nat} {S : xm_S} {Q : Option xm_V → xm_S → Prop} (hC : xk_C S) (h : ∀ t1, (xm_r S 2 a1 6) = t1 → ((t1 = none → Q none S) ∧ (∀ k3, t1 = some k3 → xw (d + 1) 54 12 [some (.inr (some (0, 0))), some (.inr (some (2, a1))), some (.inr (some (9, k3))), some (.inl (0 : Int32))] [] S Q))) : xc (d + 1) 54 [.inr (some (0, 0)), .inr (some (2, a1))] S Q := by
  show xw _ _ _ [some (.inr (some (0, 0))), some (.inr (some (2, a1))), none, none] _ _ _
  refine xw.s (pc' := 1) (st' := [.inr (some (2, a1))]) rfl ?_
  obtain ⟨t1, q2⟩ : ∃ t, (xm_r S 2 a1 6) = t := ⟨_, rfl⟩
  replace h := h t1 q2
  refine xw.fr (c := 2) (j := 6) (e := 9) (nx := 4) (t := t1) rfl rfl q2 ?_
  show xw _ _ _ [some (.inr (some (0, 0))), some (.inr (some (2, a1))), none, none] [.inr (xo 9 t1)] _ _
  refine xw.s (pc' := 5) (st' := []) (L' := [some (.inr (some (0, 0))), some (.inr (some (2, a1))), some (.inr (xo 9 t1)), none]) rfl ?_
  refine xw.s (pc' := 6) (st' := [.inr (xo 9 t1)]) rfl ?_
  refine xw.nnul (o := t1) (t := 10) (nx := 9) rfl rfl ?_
  rcases t1 with _ | k3
  · replace h := h.1 rfl
    show xw _ _ 9 [some (.inr (some (0, 0))), some (.inr (some (2, a1))), some (.inr none), none] [] _ _
    exact xw.ret (r := none) rfl h
  · replace h := h.2 k3 rfl
    show xw _ _ 10 [some (.inr (some (0, 0))), some (.inr (some (2, a1))), some (.inr (some (9, k3))), none] [] _ _
    refine xw.s (pc' := 11) (st' := [.inl (0 : Int32)]) rfl ?_
    refine xw.s (pc' := 12) (st' := []) (L' := [some (.inr (some (0, 0))), some (.inr (some (2, a1))), some (.inr (some (9, k3))), some (.inl (0 : Int32))]) rfl ?_
    exact h
theorem cw_finishTry_12 {d : Nat} {l1 : Nat} {l2 : Nat} {l3 : Int32} {S : xm_S} {Q : Option xm_V → xm_S → Prop} (hC : xk_C S) (h : ((nI (xm_n S 1 1)) ≤ l3 → ∀ t2, (xm_r S 2 l1 1) = t2 → (∃ k4, t2 = some k4 ∧ (((xm_i S 6 k4 3) = (0 : Int32) → xc d 30 [.inr (some (0, 0)), .inr (some (2, l1)), .inl (xm_i S 9 l2 3), .inl (0 : Int32)] S (fun r S6 => r = none ∧ xk_C S6 ∧ (Q none S6))) ∧ (¬ (xm_i S 6 k4 3) = (0 : Int32) → xc d 55 [.inr (some (0, 0)), .inr (some (2, l1)), .inr (some (9, l2))] S (fun r S8 => r = none ∧ xk_C S8 ∧ (Q none S8)))))) ∧ (¬ (nI (xm_n S 1 1)) ≤ l3 → y_in l3 (xm_n S 1 1) ∧ (∃ k11, (xm_l S 1 (y_ix l3)) = (8, k11) ∧ (∀ t13, (xm_r S 2 l1 1) = t13 → (∃ k15, t13 = some k15 ∧ (∀ t16, (xm_r S 8 k11 0) = t16 → ((t16 = some l2 → ((xm_i S 8 k11 1) = (xm_i S 6 k15 3) → ((xm_i S 0 0 13) < (xm_i S 8 k11 2) → xw (d + 1) 54 12 [some (.inr (some (0, 0))), some (.inr (some (2, l1))), some (.inr (some (9, l2))), some (.inl (l3 + (1 : Int32)))] [] S Q) ∧ (¬ (xm_i S 0 0 13) < (xm_i S 8 k11 2) → ((xm_i S 8 k11 3) < (xm_i S 0 0 13) → xw (d + 1) 54 12 [some (.inr (some (0, 0))), some (.inr (some (2, l1))), some (.inr (some (9, l2))), some (.inl (l3 + (1 : Int32)))] [] S Q) ∧ (¬ (xm_i S 8 k11 3) < (xm_i S 0 0 13) → y_in l3 (xm_n S 1 1) ∧ (xc d 21 [.inr (some (0, 0)), .inl (xm_i S 8 k11 4), .inr none, .inr (some (9, l2))] S (fun r S23 => ∃ t25 : Option Nat, r = some (.inr (xo 4 t25)) ∧ xk_C S23 ∧ (xc d 22 [.inr (some (0, 0)), .inr (some (2, l1)), .inr (xo 4 t25)] S23 (fun r S26 => r = none ∧ xk_C S26 ∧ (Q none S26)))))))) ∧ (¬ (xm_i S 8 k11 1) = (xm_i S 6 k15 3) → xw (d + 1) 54 12 [some (.inr (some (0, 0))), some (.inr (some (2, l1))), some (.inr (some (9, l2))), some (.inl (l3 + (1 : Int32)))] [] S Q)) ∧ (¬ t16 = some l2 → xw (d + 1) 54 12 [some (.inr (some (0, 0))), some (.inr (some (2, l1))), some (.inr (some (9, l2))), some (.inl (l3 + (1 : Int32)))] [] S Q)))))))) : xw (d + 1) 54 12 [some (.inr (some (0, 0))), some (.inr (some (2, l1))), some (.inr (some (9, l2))), some (.inl l3)] [] S Q := by
  refine xw.s (pc' := 13) (st' := [.inl l3]) rfl ?_
  refine xw.s (pc' := 14) (st' := [.inr (some (0, 0)), .inl l3]) rfl ?_
  refine xw.fr (c := 0) (j := 1) (e := 12) (nx := 17) (t := (some 1)) rfl rfl (hC 1 (by decide)) ?_
  show xw _ _ _ [some (.inr (some (0, 0))), some (.inr (some (2, l1))), some (.inr (some (9, l2))), some (.inl l3)] [.inr (some (12, 1)), .inl l3] _ _
  refine xw.lsz (nx := 20) (n := (xm_n S 1 1)) rfl (Nat.le_of_ble_eq_true rfl) rfl ?_
  refine xw.b (c := (nI (xm_n S 1 1)) ≤ l3) (cd := .ge) (x := l3) (y := (nI (xm_n S 1 1))) 84 23 (st' := []) rfl (y_cge _ _) h (fun c1 h => ?_) (fun c1 h => ?_)
  · skip
    refine xw.s (pc' := 85) (st' := [.inr (some (2, l1))]) rfl ?_
    obtain ⟨t2, q3⟩ : ∃ t, (xm_r S 2 l1 1) = t := ⟨_, rfl⟩
    replace h := h t2 q3
    refine xw.fr (c := 2) (j := 1) (e := 6) (nx := 88) (t := t2) rfl rfl q3 ?_
    show xw _ _ _ [some (.inr (some (0, 0))), some (.inr (some (2, l1))), some (.inr (some (9, l2))), some (.inl l3)] [.inr (xo 6 t2)] _ _
    obtain ⟨k4, rfl, h⟩ := h
    refine xw.fi (c := 6) (j := 3) (ty := 0) (nx := 91) (v := (xm_i S 6 k4 3)) rfl rfl rfl ?_
    refine xw.bn (c := (xm_i S 6 k4 3) = (0 : Int32)) (cd := .ne) (x := (xm_i S 6 k4 3)) (y := (0 : Int32)) 107 94 (st' := []) rfl (y_cne _ _) h (fun c5 h => ?_) (fun c5 h => ?_)
    · skip
      refine xw.s (pc' := 95) (st' := [.inr (some (0, 0))]) rfl ?_
      refine xw.s (pc' := 96) (st' := [.inr (some (2, l1)), .inr (some (0, 0))]) rfl ?_
      refine xw.s (pc' := 97) (st' := [.inr (some (9, l2)), .inr (some (2, l1)), .inr (some (0, 0))]) rfl ?_
      refine xw.fi (c := 9) (j := 3) (ty := 0) (nx := 100) (v := (xm_i S 9 l2 3)) rfl rfl rfl ?_
      refine xw.s (pc' := 101) (st' := [.inl (0 : Int32), .inl (xm_i S 9 l2 3), .inr (some (2, l1)), .inr (some (0, 0))]) rfl ?_
      refine xw.call (m := 30) (as := [.inr (some (0, 0)), .inr (some (2, l1)), .inl (xm_i S 9 l2 3), .inl (0 : Int32)]) (nx := 104) (L' := [some (.inr (some (0, 0))), some (.inr (some (2, l1))), some (.inr (some (9, l2))), some (.inl l3)]) (st' := []) rfl (xc.mono h ?_)
      rintro r S6 ⟨rfl, hC7, h⟩
      show xw _ _ 104 [some (.inr (some (0, 0))), some (.inr (some (2, l1))), some (.inr (some (9, l2))), some (.inl l3)] [] _ _
      refine xw.s (pc' := 113) (st' := []) rfl ?_
      exact xw.ret (r := none) rfl h
    · skip
      refine xw.s (pc' := 108) (st' := [.inr (some (0, 0))]) rfl ?_
      refine xw.s (pc' := 109) (st' := [.inr (some (2, l1)), .inr (some (0, 0))]) rfl ?_
      refine xw.s (pc' := 110) (st' := [.inr (some (9, l2)), .inr (some (2, l1)), .inr (some (0, 0))]) rfl ?_
      refine xw.call (m := 55) (as := [.inr (some (0, 0)), .inr (some (2, l1)), .inr (some (9, l2))]) (nx := 113) (L' := [some (.inr (some (0, 0))), some (.inr (some (2, l1))), some (.inr (some (9, l2))), some (.inl l3)]) (st' := []) rfl (xc.mono h ?_)
      rintro r S8 ⟨rfl, hC9, h⟩
      show xw _ _ 113 [some (.inr (some (0, 0))), some (.inr (some (2, l1))), some (.inr (some (9, l2))), some (.inl l3)] [] _ _
      exact xw.ret (r := none) rfl h
  · skip
    refine xw.s (pc' := 24) (st' := [.inr (some (0, 0))]) rfl ?_
    refine xw.fr (c := 0) (j := 1) (e := 12) (nx := 27) (t := (some 1)) rfl rfl (hC 1 (by decide)) ?_
    show xw _ _ _ [some (.inr (some (0, 0))), some (.inr (some (2, l1))), some (.inr (some (9, l2))), some (.inl l3)] [.inr (some (12, 1))] _ _
    refine xw.s (pc' := 28) (st' := [.inl l3, .inr (some (12, 1))]) rfl ?_
    obtain ⟨z10, h⟩ := h
    obtain ⟨k11, q12, h⟩ := h
    refine xw.get (nx := 31) (p := (8, k11)) rfl (Nat.le_of_ble_eq_true rfl) z10 q12 ?_
    refine xw.s (pc' := 34) (st' := [.inr (some (8, k11))]) rfl ?_
    refine xw.s (pc' := 35) (st' := [.inr (some (9, l2)), .inr (some (8, k11))]) rfl ?_
    refine xw.s (pc' := 36) (st' := [.inr (some (2, l1)), .inr (some (9, l2)), .inr (some (8, k11))]) rfl ?_
    obtain ⟨t13, q14⟩ : ∃ t, (xm_r S 2 l1 1) = t := ⟨_, rfl⟩
    replace h := h t13 q14
    refine xw.fr (c := 2) (j := 1) (e := 6) (nx := 39) (t := t13) rfl rfl q14 ?_
    show xw _ _ _ [some (.inr (some (0, 0))), some (.inr (some (2, l1))), some (.inr (some (9, l2))), some (.inl l3)] [.inr (xo 6 t13), .inr (some (9, l2)), .inr (some (8, k11))] _ _
    obtain ⟨k15, rfl, h⟩ := h
    refine xw.fi (c := 6) (j := 3) (ty := 0) (nx := 42) (v := (xm_i S 6 k15 3)) rfl rfl rfl ?_
    refine xw.s (pc' := 43) (st' := [.inr (some (0, 0)), .inl (xm_i S 6 k15 3), .inr (some (9, l2)), .inr (some (8, k11))]) rfl ?_
    refine xw.fi (c := 0) (j := 13) (ty := 0) (nx := 46) (v := (xm_i S 0 0 13)) rfl rfl rfl ?_
    refine xw.call (m := 107) (as := [.inr (some (8, k11)), .inr (some (9, l2)), .inl (xm_i S 6 k15 3), .inl (xm_i S 0 0 13)]) (nx := 49) (L' := [some (.inr (some (0, 0))), some (.inr (some (2, l1))), some (.inr (some (9, l2))), some (.inl l3)]) (st' := []) rfl ?_
    show xw _ _ _ [some (.inr (some (8, k11))), some (.inr (some (9, l2))), some (.inl (xm_i S 6 k15 3)), some (.inl (xm_i S 0 0 13))] [] _ _
    refine xw.s (pc' := 1) (st' := [.inr (some (8, k11))]) rfl ?_
    obtain ⟨t16, q17⟩ : ∃ t, (xm_r S 8 k11 0) = t := ⟨_, rfl⟩
    replace h := h t16 q17
    refine xw.fr (c := 8) (j := 0) (e := 9) (nx := 4) (t := t16) rfl rfl q17 ?_
    show xw _ _ _ [some (.inr (some (8, k11))), some (.inr (some (9, l2))), some (.inl (xm_i S 6 k15 3)), some (.inl (xm_i S 0 0 13))] [.inr (xo 9 t16)] _ _
    refine xw.s (pc' := 5) (st' := [.inr (some (9, l2)), .inr (xo 9 t16)]) rfl ?_
    refine xw.an (c := 9) (a := t16) (b := (some l2)) (cn := t16 = some l2) (t := 36) (nx := 8) rfl rfl (by decide) Iff.rfl h (fun c18 h => ?_) (fun c18 h => ?_)
    · skip
      refine xw.s (pc' := 9) (st' := [.inr (some (8, k11))]) rfl ?_
      refine xw.fi (c := 8) (j := 1) (ty := 0) (nx := 12) (v := (xm_i S 8 k11 1)) rfl rfl rfl ?_
      refine xw.s (pc' := 13) (st' := [.inl (xm_i S 6 k15 3), .inl (xm_i S 8 k11 1)]) rfl ?_
      refine xw.bn (c := (xm_i S 8 k11 1) = (xm_i S 6 k15 3)) (cd := .ne) (x := (xm_i S 8 k11 1)) (y := (xm_i S 6 k15 3)) 36 16 (st' := []) rfl (y_cne _ _) h (fun c19 h => ?_) (fun c19 h => ?_)
      · skip
        refine xw.s (pc' := 17) (st' := [.inl (xm_i S 0 0 13)]) rfl ?_
        refine xw.s (pc' := 18) (st' := [.inr (some (8, k11)), .inl (xm_i S 0 0 13)]) rfl ?_
        refine xw.fi (c := 8) (j := 2) (ty := 0) (nx := 21) (v := (xm_i S 8 k11 2)) rfl rfl rfl ?_
        refine xw.b (c := (xm_i S 0 0 13) < (xm_i S 8 k11 2)) (cd := .lt) (x := (xm_i S 0 0 13)) (y := (xm_i S 8 k11 2)) 36 24 (st' := []) rfl (y_clt _ _) h (fun c20 h => ?_) (fun c20 h => ?_)
        · skip
          refine xw.s (pc' := 37) (st' := [.inl (0 : Int32)]) rfl ?_
          refine xw.retz (nx := 38) rfl (Or.inl rfl) ?_
          show xw _ _ 49 [some (.inr (some (0, 0))), some (.inr (some (2, l1))), some (.inr (some (9, l2))), some (.inl l3)] [.inl (0 : Int32)] S _
          refine xw.bt (cd := .eq) (x := (0 : Int32)) (y := (0 : Int32)) 78 52 (st' := []) rfl (y_ceq _ _) (by decide) ?_
          refine xw.s (pc' := 81) (st' := []) (L' := [some (.inr (some (0, 0))), some (.inr (some (2, l1))), some (.inr (some (9, l2))), some (.inl (l3 + (1 : Int32)))]) rfl ?_
          refine xw.s (pc' := 12) (st' := []) rfl ?_
          exact h
        · skip
          refine xw.s (pc' := 25) (st' := [.inl (xm_i S 0 0 13)]) rfl ?_
          refine xw.s (pc' := 26) (st' := [.inr (some (8, k11)), .inl (xm_i S 0 0 13)]) rfl ?_
          refine xw.fi (c := 8) (j := 3) (ty := 0) (nx := 29) (v := (xm_i S 8 k11 3)) rfl rfl rfl ?_
          refine xw.b (c := (xm_i S 8 k11 3) < (xm_i S 0 0 13)) (cd := .gt) (x := (xm_i S 0 0 13)) (y := (xm_i S 8 k11 3)) 36 32 (st' := []) rfl (y_cgt _ _) h (fun c21 h => ?_) (fun c21 h => ?_)
          · skip
            refine xw.s (pc' := 37) (st' := [.inl (0 : Int32)]) rfl ?_
            refine xw.retz (nx := 38) rfl (Or.inl rfl) ?_
            show xw _ _ 49 [some (.inr (some (0, 0))), some (.inr (some (2, l1))), some (.inr (some (9, l2))), some (.inl l3)] [.inl (0 : Int32)] S _
            refine xw.bt (cd := .eq) (x := (0 : Int32)) (y := (0 : Int32)) 78 52 (st' := []) rfl (y_ceq _ _) (by decide) ?_
            refine xw.s (pc' := 81) (st' := []) (L' := [some (.inr (some (0, 0))), some (.inr (some (2, l1))), some (.inr (some (9, l2))), some (.inl (l3 + (1 : Int32)))]) rfl ?_
            refine xw.s (pc' := 12) (st' := []) rfl ?_
            exact h
          · skip
            refine xw.s (pc' := 33) (st' := [.inl (1 : Int32)]) rfl ?_
            refine xw.s (pc' := 37) (st' := [.inl (1 : Int32)]) rfl ?_
            refine xw.retz (nx := 38) rfl (Or.inr rfl) ?_
            show xw _ _ 49 [some (.inr (some (0, 0))), some (.inr (some (2, l1))), some (.inr (some (9, l2))), some (.inl l3)] [.inl (1 : Int32)] S _
            refine xw.bf (cd := .eq) (x := (1 : Int32)) (y := (0 : Int32)) 78 52 (st' := []) rfl (y_ceq _ _) (by decide) ?_
            refine xw.s (pc' := 53) (st' := [.inr (some (0, 0))]) rfl ?_
            refine xw.s (pc' := 54) (st' := [.inr (some (2, l1)), .inr (some (0, 0))]) rfl ?_
            refine xw.s (pc' := 55) (st' := [.inr (some (0, 0)), .inr (some (2, l1)), .inr (some (0, 0))]) rfl ?_
            refine xw.s (pc' := 56) (st' := [.inr (some (0, 0)), .inr (some (0, 0)), .inr (some (2, l1)), .inr (some (0, 0))]) rfl ?_
            refine xw.fr (c := 0) (j := 1) (e := 12) (nx := 59) (t := (some 1)) rfl rfl (hC 1 (by decide)) ?_
            show xw _ _ _ [some (.inr (some (0, 0))), some (.inr (some (2, l1))), some (.inr (some (9, l2))), some (.inl l3)] [.inr (some (12, 1)), .inr (some (0, 0)), .inr (some (2, l1)), .inr (some (0, 0))] _ _
            refine xw.s (pc' := 60) (st' := [.inl l3, .inr (some (12, 1)), .inr (some (0, 0)), .inr (some (2, l1)), .inr (some (0, 0))]) rfl ?_
            obtain ⟨z22, h⟩ := h
            refine xw.get (nx := 63) (p := (8, k11)) rfl (Nat.le_of_ble_eq_true rfl) z22 q12 ?_
            refine xw.s (pc' := 66) (st' := [.inr (some (8, k11)), .inr (some (0, 0)), .inr (some (2, l1)), .inr (some (0, 0))]) rfl ?_
            refine xw.fi (c := 8) (j := 4) (ty := 0) (nx := 69) (v := (xm_i S 8 k11 4)) rfl rfl rfl ?_
            refine xw.s (pc' := 70) (st' := [.inr none, .inl (xm_i S 8 k11 4), .inr (some (0, 0)), .inr (some (2, l1)), .inr (some (0, 0))]) rfl ?_
            refine xw.s (pc' := 71) (st' := [.inr (some (9, l2)), .inr none, .inl (xm_i S 8 k11 4), .inr (some (0, 0)), .inr (some (2, l1)), .inr (some (0, 0))]) rfl ?_
            refine xw.call (m := 21) (as := [.inr (some (0, 0)), .inl (xm_i S 8 k11 4), .inr none, .inr (some (9, l2))]) (nx := 74) (L' := [some (.inr (some (0, 0))), some (.inr (some (2, l1))), some (.inr (some (9, l2))), some (.inl l3)]) (st' := [.inr (some (2, l1)), .inr (some (0, 0))]) rfl (xc.mono h ?_)
            rintro r S23 ⟨t25, rfl, hC24, h⟩
            show xw _ _ 74 [some (.inr (some (0, 0))), some (.inr (some (2, l1))), some (.inr (some (9, l2))), some (.inl l3)] [.inr (xo 4 t25), .inr (some (2, l1)), .inr (some (0, 0))] _ _
            refine xw.call (m := 22) (as := [.inr (some (0, 0)), .inr (some (2, l1)), .inr (xo 4 t25)]) (nx := 77) (L' := [some (.inr (some (0, 0))), some (.inr (some (2, l1))), some (.inr (some (9, l2))), some (.inl l3)]) (st' := []) rfl (xc.mono h ?_)
            rintro r S26 ⟨rfl, hC27, h⟩
            show xw _ _ 77 [some (.inr (some (0, 0))), some (.inr (some (2, l1))), some (.inr (some (9, l2))), some (.inl l3)] [] _ _
            exact xw.ret (r := none) rfl h
      · skip
        refine xw.s (pc' := 37) (st' := [.inl (0 : Int32)]) rfl ?_
        refine xw.retz (nx := 38) rfl (Or.inl rfl) ?_
        show xw _ _ 49 [some (.inr (some (0, 0))), some (.inr (some (2, l1))), some (.inr (some (9, l2))), some (.inl l3)] [.inl (0 : Int32)] S _
        refine xw.bt (cd := .eq) (x := (0 : Int32)) (y := (0 : Int32)) 78 52 (st' := []) rfl (y_ceq _ _) (by decide) ?_
        refine xw.s (pc' := 81) (st' := []) (L' := [some (.inr (some (0, 0))), some (.inr (some (2, l1))), some (.inr (some (9, l2))), some (.inl (l3 + (1 : Int32)))]) rfl ?_
        refine xw.s (pc' := 12) (st' := []) rfl ?_
        exact h
    · skip
      refine xw.s (pc' := 37) (st' := [.inl (0 : Int32)]) rfl ?_
      refine xw.retz (nx := 38) rfl (Or.inl rfl) ?_
      show xw _ _ 49 [some (.inr (some (0, 0))), some (.inr (some (2, l1))), some (.inr (some (9, l2))), some (.inl l3)] [.inl (0 : Int32)] S _
      refine xw.bt (cd := .eq) (x := (0 : Int32)) (y := (0 : Int32)) 78 52 (st' := []) rfl (y_ceq _ _) (by decide) ?_
      refine xw.s (pc' := 81) (st' := []) (L' := [some (.inr (some (0, 0))), some (.inr (some (2, l1))), some (.inr (some (9, l2))), some (.inl (l3 + (1 : Int32)))]) rfl ?_
      refine xw.s (pc' := 12) (st' := []) rfl ?_
      exact h
/-- moveWater -/
theorem cw_moveWater {d : Nat} {a1 : Nat} {a2 : Nat} {S : xm_S} {Q : Option xm_V → xm_S → Prop} (hC : xk_C S) (h : ∀ t1, (xm_r S 2 a1 1) = t1 → (∃ k3, t1 = some k3 ∧ (xc d 56 [.inr (some (0, 0)), .inl (xm_i S 6 k3 5), .inr (some (9, a2))] S (fun r S4 => ∃ t6 : Option Nat, r = some (.inr (xo 3 t6)) ∧ xk_C S4 ∧ ((t6 = none → ((xm_i S4 6 k3 3) = (1 : Int32) → ((0 : Int32) ≤ ((xm_i S4 9 a2 3) + (-(xm_i S4 6 k3 4))) → (((xm_i S4 9 a2 3) + (-(xm_i S4 6 k3 4))) ≤ (xm_i S4 9 a2 1) → ∀ S11, S11 = xm_si S4 9 a2 3 ((xm_i S4 9 a2 3) + (-(xm_i S4 6 k3 4))) → (∀ k13, k13 = xm_n S11 0 3 → (∀ S15, S15 = xm_mk 3 4 S11 → (xc d 96 [.inr (some (3, k13)), .inr (some (9, a2)), .inr (some (6, k3)), .inl (-(xm_i S4 6 k3 4)), .inl (xm_i S4 0 0 13)] S15 (fun r S17 => r = none ∧ xk_C S17 ∧ (xm_n S17 2 9 ≠ 0 ∧ xm_n S17 1 9 < 100000 ∧ (∀ S21, S21 = xm_push 9 (3, k13) S17 → (xc d 30 [.inr (some (0, 0)), .inr (some (2, a1)), .inl (xm_i S17 6 k3 4), .inl (0 : Int32)] S21 (fun r S23 => r = none ∧ xk_C S23 ∧ (Q none S23)))))))))) ∧ (¬ ((xm_i S4 9 a2 3) + (-(xm_i S4 6 k3 4))) ≤ (xm_i S4 9 a2 1) → xc d 21 [.inr (some (0, 0)), .inl (6 : Int32), .inr none, .inr (some (9, a2))] S4 (fun r S25 => ∃ t27 : Option Nat, r = some (.inr (xo 4 t27)) ∧ xk_C S25 ∧ (xc d 22 [.inr (some (0, 0)), .inr (some (2, a1)), .inr (xo 4 t27)] S25 (fun r S28 => r = none ∧ xk_C S28 ∧ (Q none S28)))))) ∧ (¬ (0 : Int32) ≤ ((xm_i S4 9 a2 3) + (-(xm_i S4 6 k3 4))) → xc d 21 [.inr (some (0, 0)), .inl (5 : Int32), .inr none, .inr (some (9, a2))] S4 (fun r S30 => ∃ t32 : Option Nat, r = some (.inr (xo 4 t32)) ∧ xk_C S30 ∧ (xc d 22 [.inr (some (0, 0)), .inr (some (2, a1)), .inr (xo 4 t32)] S30 (fun r S33 => r = none ∧ xk_C S33 ∧ (Q none S33)))))) ∧ (¬ (xm_i S4 6 k3 3) = (1 : Int32) → ((0 : Int32) ≤ ((xm_i S4 9 a2 3) + (xm_i S4 6 k3 4)) → (((xm_i S4 9 a2 3) + (xm_i S4 6 k3 4)) ≤ (xm_i S4 9 a2 1) → ∀ S37, S37 = xm_si S4 9 a2 3 ((xm_i S4 9 a2 3) + (xm_i S4 6 k3 4)) → (∀ k39, k39 = xm_n S37 0 3 → (∀ S41, S41 = xm_mk 3 4 S37 → (xc d 96 [.inr (some (3, k39)), .inr (some (9, a2)), .inr (some (6, k3)), .inl (xm_i S4 6 k3 4), .inl (xm_i S4 0 0 13)] S41 (fun r S43 => r = none ∧ xk_C S43 ∧ (xm_n S43 2 9 ≠ 0 ∧ xm_n S43 1 9 < 100000 ∧ (∀ S47, S47 = xm_push 9 (3, k39) S43 → (xc d 30 [.inr (some (0, 0)), .inr (some (2, a1)), .inl (xm_i S43 6 k3 4), .inl (0 : Int32)] S47 (fun r S49 => r = none ∧ xk_C S49 ∧ (Q none S49)))))))))) ∧ (¬ ((xm_i S4 9 a2 3) + (xm_i S4 6 k3 4)) ≤ (xm_i S4 9 a2 1) → xc d 21 [.inr (some (0, 0)), .inl (6 : Int32), .inr none, .inr (some (9, a2))] S4 (fun r S51 => ∃ t53 : Option Nat, r = some (.inr (xo 4 t53)) ∧ xk_C S51 ∧ (xc d 22 [.inr (some (0, 0)), .inr (some (2, a1)), .inr (xo 4 t53)] S51 (fun r S54 => r = none ∧ xk_C S54 ∧ (Q none S54)))))) ∧ (¬ (0 : Int32) ≤ ((xm_i S4 9 a2 3) + (xm_i S4 6 k3 4)) → xc d 21 [.inr (some (0, 0)), .inl (5 : Int32), .inr none, .inr (some (9, a2))] S4 (fun r S56 => ∃ t58 : Option Nat, r = some (.inr (xo 4 t58)) ∧ xk_C S56 ∧ (xc d 22 [.inr (some (0, 0)), .inr (some (2, a1)), .inr (xo 4 t58)] S56 (fun r S59 => r = none ∧ xk_C S59 ∧ (Q none S59))))))) ∧ (∀ k7, t6 = some k7 → xc d 30 [.inr (some (0, 0)), .inr (some (2, a1)), .inl (if (0 : Int32) ≤ (xm_i S4 3 k7 2) then (xm_i S4 3 k7 2) else -(xm_i S4 3 k7 2)), .inl (0 : Int32)] S4 (fun r S61 => r = none ∧ xk_C S61 ∧ (Q none S61)))))))) : xc (d + 1) 55 [.inr (some (0, 0)), .inr (some (2, a1)), .inr (some (9, a2))] S Q := by
  show xw _ _ _ [some (.inr (some (0, 0))), some (.inr (some (2, a1))), some (.inr (some (9, a2))), none, none, none, none] _ _ _
  refine xw.s (pc' := 1) (st' := [.inr (some (2, a1))]) rfl ?_
  obtain ⟨t1, q2⟩ : ∃ t, (xm_r S 2 a1 1) = t := ⟨_, rfl⟩
  replace h := h t1 q2
  refine xw.fr (c := 2) (j := 1) (e := 6) (nx := 4) (t := t1) rfl rfl q2 ?_
  show xw _ _ _ [some (.inr (some (0, 0))), some (.inr (some (2, a1))), some (.inr (some (9, a2))), none, none, none, none] [.inr (xo 6 t1)] _ _
  refine xw.s (pc' := 5) (st' := []) (L' := [some (.inr (some (0, 0))), some (.inr (some (2, a1))), some (.inr (some (9, a2))), some (.inr (xo 6 t1)), none, none, none]) rfl ?_
  refine xw.s (pc' := 6) (st' := [.inr (some (0, 0))]) rfl ?_
  refine xw.s (pc' := 7) (st' := [.inr (xo 6 t1), .inr (some (0, 0))]) rfl ?_
  obtain ⟨k3, rfl, h⟩ := h
  refine xw.fi (c := 6) (j := 5) (ty := 0) (nx := 10) (v := (xm_i S 6 k3 5)) rfl rfl rfl ?_
  refine xw.s (pc' := 11) (st' := [.inr (some (9, a2)), .inl (xm_i S 6 k3 5), .inr (some (0, 0))]) rfl ?_
  refine xw.call (m := 56) (as := [.inr (some (0, 0)), .inl (xm_i S 6 k3 5), .inr (some (9, a2))]) (nx := 14) (L' := [some (.inr (some (0, 0))), some (.inr (some (2, a1))), some (.inr (some (9, a2))), some (.inr (some (6, k3))), none, none, none]) (st' := []) rfl (xc.mono h ?_)
  rintro r S4 ⟨t6, rfl, hC5, h⟩
  show xw _ _ 14 [some (.inr (some (0, 0))), some (.inr (some (2, a1))), some (.inr (some (9, a2))), some (.inr (some (6, k3))), none, none, none] [.inr (xo 3 t6)] _ _
  refine xw.s (pc' := 16) (st' := []) (L' := [some (.inr (some (0, 0))), some (.inr (some (2, a1))), some (.inr (some (9, a2))), some (.inr (some (6, k3))), some (.inr (xo 3 t6)), none, none]) rfl ?_
  refine xw.s (pc' := 18) (st' := [.inr (xo 3 t6)]) rfl ?_
  refine xw.nul (o := t6) (t := 36) (nx := 21) rfl rfl ?_
  rcases t6 with _ | k7
  · replace h := h.1 rfl
    show xw _ _ 36 [some (.inr (some (0, 0))), some (.inr (some (2, a1))), some (.inr (some (9, a2))), some (.inr (some (6, k3))), some (.inr none), none, none] [] _ _
    refine xw.s (pc' := 37) (st' := [.inr (some (6, k3))]) rfl ?_
    refine xw.fi (c := 6) (j := 3) (ty := 0) (nx := 40) (v := (xm_i S4 6 k3 3)) rfl rfl rfl ?_
    refine xw.s (pc' := 41) (st' := [.inl (1 : Int32), .inl (xm_i S4 6 k3 3)]) rfl ?_
    refine xw.bn (c := (xm_i S4 6 k3 3) = (1 : Int32)) (cd := .ne) (x := (xm_i S4 6 k3 3)) (y := (1 : Int32)) 52 44 (st' := []) rfl (y_cne _ _) h (fun c8 h => ?_) (fun c8 h => ?_)
    · skip
      refine xw.s (pc' := 45) (st' := [.inr (some (6, k3))]) rfl ?_
      refine xw.fi (c := 6) (j := 4) (ty := 0) (nx := 48) (v := (xm_i S4 6 k3 4)) rfl rfl rfl ?_
      refine xw.s (pc' := 49) (st' := [.inl (-(xm_i S4 6 k3 4))]) rfl ?_
      refine xw.s (pc' := 56) (st' := [.inl (-(xm_i S4 6 k3 4))]) rfl ?_
      refine xw.s (pc' := 58) (st' := []) (L' := [some (.inr (some (0, 0))), some (.inr (some (2, a1))), some (.inr (some (9, a2))), some (.inr (some (6, k3))), some (.inr none), some (.inl (-(xm_i S4 6 k3 4))), none]) rfl ?_
      refine xw.s (pc' := 59) (st' := [.inr (some (9, a2))]) rfl ?_
      refine xw.fi (c := 9) (j := 3) (ty := 0) (nx := 62) (v := (xm_i S4 9 a2 3)) rfl rfl rfl ?_
      refine xw.s (pc' := 64) (st' := [.inl (-(xm_i S4 6 k3 4)), .inl (xm_i S4 9 a2 3)]) rfl ?_
      refine xw.s (pc' := 65) (st' := [.inl ((xm_i S4 9 a2 3) + (-(xm_i S4 6 k3 4)))]) rfl ?_
      refine xw.s (pc' := 67) (st' := []) (L' := [some (.inr (some (0, 0))), some (.inr (some (2, a1))), some (.inr (some (9, a2))), some (.inr (some (6, k3))), some (.inr none), some (.inl (-(xm_i S4 6 k3 4))), some (.inl ((xm_i S4 9 a2 3) + (-(xm_i S4 6 k3 4))))]) rfl ?_
      refine xw.s (pc' := 69) (st' := [.inl ((xm_i S4 9 a2 3) + (-(xm_i S4 6 k3 4)))]) rfl ?_
      refine xw.b (c := (0 : Int32) ≤ ((xm_i S4 9 a2 3) + (-(xm_i S4 6 k3 4)))) (cd := .ge) (x := ((xm_i S4 9 a2 3) + (-(xm_i S4 6 k3 4)))) (y := (0 : Int32)) 87 72 (st' := []) rfl (y_cge _ _) h (fun c9 h => ?_) (fun c9 h => ?_)
      · skip
        refine xw.s (pc' := 89) (st' := [.inl ((xm_i S4 9 a2 3) + (-(xm_i S4 6 k3 4)))]) rfl ?_
        refine xw.s (pc' := 90) (st' := [.inr (some (9, a2)), .inl ((xm_i S4 9 a2 3) + (-(xm_i S4 6 k3 4)))]) rfl ?_
        refine xw.fi (c := 9) (j := 1) (ty := 0) (nx := 93) (v := (xm_i S4 9 a2 1)) rfl rfl rfl ?_
        refine xw.b (c := ((xm_i S4 9 a2 3) + (-(xm_i S4 6 k3 4))) ≤ (xm_i S4 9 a2 1)) (cd := .le) (x := ((xm_i S4 9 a2 3) + (-(xm_i S4 6 k3 4)))) (y := (xm_i S4 9 a2 1)) 112 96 (st' := []) rfl (y_cle _ _) h (fun c10 h => ?_) (fun c10 h => ?_)
        · skip
          refine xw.s (pc' := 113) (st' := [.inr (some (9, a2))]) rfl ?_
          refine xw.s (pc' := 115) (st' := [.inl ((xm_i S4 9 a2 3) + (-(xm_i S4 6 k3 4))), .inr (some (9, a2))]) rfl ?_
          refine xw.fp (c := 9) (j := 3) (ty := 0) (nx := 118) rfl rfl (Or.inl rfl) ?_
          obtain ⟨S11, e12⟩ : ∃ s, s = xm_si S4 9 a2 3 ((xm_i S4 9 a2 3) + (-(xm_i S4 6 k3 4))) := ⟨_, rfl⟩
          rw [← e12]
          replace h := h S11 e12
          refine xw.s (pc' := 119) (st' := [.inr (some (0, 0))]) rfl ?_
          refine xw.fr (c := 0) (j := 9) (e := 12) (nx := 122) (t := (some 9)) rfl rfl ((congrArg (fun s => xm_r s 0 0 9) e12).trans (hC5 9 (by decide))) ?_
          show xw _ _ _ [some (.inr (some (0, 0))), some (.inr (some (2, a1))), some (.inr (some (9, a2))), some (.inr (some (6, k3))), some (.inr none), some (.inl (-(xm_i S4 6 k3 4))), some (.inl ((xm_i S4 9 a2 3) + (-(xm_i S4 6 k3 4))))] [.inr (some (12, 9))] _ _
          refine xw.s (pc' := 125) (st' := [.inr (some (3, (xm_n S11 0 3))), .inr (some (12, 9))]) (S1 := xm_mk 3 4 S11) rfl ?_
          obtain ⟨k13, q14⟩ : ∃ k, k = xm_n S11 0 3 := ⟨_, rfl⟩
          rw [← q14]
          replace h := h k13 q14
          obtain ⟨S15, e16⟩ : ∃ s, s = xm_mk 3 4 S11 := ⟨_, rfl⟩
          rw [← e16]
          replace h := h S15 e16
          refine xw.s (pc' := 126) (st' := [.inr (some (3, k13)), .inr (some (3, k13)), .inr (some (12, 9))]) rfl ?_
          refine xw.s (pc' := 127) (st' := [.inr (some (9, a2)), .inr (some (3, k13)), .inr (some (3, k13)), .inr (some (12, 9))]) rfl ?_
          refine xw.s (pc' := 128) (st' := [.inr (some (6, k3)), .inr (some (9, a2)), .inr (some (3, k13)), .inr (some (3, k13)), .inr (some (12, 9))]) rfl ?_
          refine xw.s (pc' := 130) (st' := [.inl (-(xm_i S4 6 k3 4)), .inr (some (6, k3)), .inr (some (9, a2)), .inr (some (3, k13)), .inr (some (3, k13)), .inr (some (12, 9))]) rfl ?_
          refine xw.s (pc' := 131) (st' := [.inr (some (0, 0)), .inl (-(xm_i S4 6 k3 4)), .inr (some (6, k3)), .inr (some (9, a2)), .inr (some (3, k13)), .inr (some (3, k13)), .inr (some (12, 9))]) rfl ?_
          refine xw.fi (c := 0) (j := 13) (ty := 0) (nx := 134) (v := (xm_i S4 0 0 13)) rfl rfl ((congrArg (fun s => xm_i s 0 0 13) e16).trans ((xi_mk (by decide)).trans ((congrArg (fun s => xm_i s 0 0 13) e12).trans (xi_si (by decide))))) ?_
          refine xw.call (m := 96) (as := [.inr (some (3, k13)), .inr (some (9, a2)), .inr (some (6, k3)), .inl (-(xm_i S4 6 k3 4)), .inl (xm_i S4 0 0 13)]) (nx := 137) (L' := [some (.inr (some (0, 0))), some (.inr (some (2, a1))), some (.inr (some (9, a2))), some (.inr (some (6, k3))), some (.inr none), some (.inl (-(xm_i S4 6 k3 4))), some (.inl ((xm_i S4 9 a2 3) + (-(xm_i S4 6 k3 4))))]) (st' := [.inr (some (3, k13)), .inr (some (12, 9))]) rfl (xc.mono h ?_)
          rintro r S17 ⟨rfl, hC18, h⟩
          show xw _ _ 137 [some (.inr (some (0, 0))), some (.inr (some (2, a1))), some (.inr (some (9, a2))), some (.inr (some (6, k3))), some (.inr none), some (.inl (-(xm_i S4 6 k3 4))), some (.inl ((xm_i S4 9 a2 3) + (-(xm_i S4 6 k3 4))))] [.inr (some (3, k13)), .inr (some (12, 9))] _ _
          obtain ⟨z19, z20, h⟩ := h
          refine xw.ladd (nx := 140) rfl (Nat.le_of_ble_eq_true rfl) (by decide) z19 z20 ?_
          obtain ⟨S21, e22⟩ : ∃ s, s = xm_push 9 (3, k13) S17 := ⟨_, rfl⟩
          rw [← e22]
          replace h := h S21 e22
          refine xw.s (pc' := 141) (st' := []) rfl ?_
          refine xw.s (pc' := 142) (st' := [.inr (some (0, 0))]) rfl ?_
          refine xw.s (pc' := 143) (st' := [.inr (some (2, a1)), .inr (some (0, 0))]) rfl ?_
          refine xw.s (pc' := 144) (st' := [.inr (some (6, k3)), .inr (some (2, a1)), .inr (some (0, 0))]) rfl ?_
          refine xw.fi (c := 6) (j := 4) (ty := 0) (nx := 147) (v := (xm_i S17 6 k3 4)) rfl rfl ((congrArg (fun s => xm_i s 6 k3 4) e22).trans xi_push) ?_
          refine xw.s (pc' := 148) (st' := [.inl (0 : Int32), .inl (xm_i S17 6 k3 4), .inr (some (2, a1)), .inr (some (0, 0))]) rfl ?_
          refine xw.call (m := 30) (as := [.inr (some (0, 0)), .inr (some (2, a1)), .inl (xm_i S17 6 k3 4), .inl (0 : Int32)]) (nx := 151) (L' := [some (.inr (some (0, 0))), some (.inr (some (2, a1))), some (.inr (some (9, a2))), some (.inr (some (6, k3))), some (.inr none), some (.inl (-(xm_i S4 6 k3 4))), some (.inl ((xm_i S4 9 a2 3) + (-(xm_i S4 6 k3 4))))]) (st' := []) rfl (xc.mono h ?_)
          rintro r S23 ⟨rfl, hC24, h⟩
          show xw _ _ 151 [some (.inr (some (0, 0))), some (.inr (some (2, a1))), some (.inr (some (9, a2))), some (.inr (some (6, k3))), some (.inr none), some (.inl (-(xm_i S4 6 k3 4))), some (.inl ((xm_i S4 9 a2 3) + (-(xm_i S4 6 k3 4))))] [] _ _
          exact xw.ret (r := none) rfl h
        · skip
          refine xw.s (pc' := 97) (st' := [.inr (some (0, 0))]) rfl ?_
          refine xw.s (pc' := 98) (st' := [.inr (some (2, a1)), .inr (some (0, 0))]) rfl ?_
          refine xw.s (pc' := 99) (st' := [.inr (some (0, 0)), .inr (some (2, a1)), .inr (some (0, 0))]) rfl ?_
          refine xw.s (pc' := 101) (st' := [.inl (6 : Int32), .inr (some (0, 0)), .inr (some (2, a1)), .inr (some (0, 0))]) rfl ?_
          refine xw.s (pc' := 102) (st' := [.inr none, .inl (6 : Int32), .inr (some (0, 0)), .inr (some (2, a1)), .inr (some (0, 0))]) rfl ?_
          refine xw.s (pc' := 103) (st' := [.inr (some (9, a2)), .inr none, .inl (6 : Int32), .inr (some (0, 0)), .inr (some (2, a1)), .inr (some (0, 0))]) rfl ?_
          refine xw.call (m := 21) (as := [.inr (some (0, 0)), .inl (6 : Int32), .inr none, .inr (some (9, a2))]) (nx := 106) (L' := [some (.inr (some (0, 0))), some (.inr (some (2, a1))), some (.inr (some (9, a2))), some (.inr (some (6, k3))), some (.inr none), some (.inl (-(xm_i S4 6 k3 4))), some (.inl ((xm_i S4 9 a2 3) + (-(xm_i S4 6 k3 4))))]) (st' := [.inr (some (2, a1)), .inr (some (0, 0))]) rfl (xc.mono h ?_)
          rintro r S25 ⟨t27, rfl, hC26, h⟩
          show xw _ _ 106 [some (.inr (some (0, 0))), some (.inr (some (2, a1))), some (.inr (some (9, a2))), some (.inr (some (6, k3))), some (.inr none), some (.inl (-(xm_i S4 6 k3 4))), some (.inl ((xm_i S4 9 a2 3) + (-(xm_i S4 6 k3 4))))] [.inr (xo 4 t27), .inr (some (2, a1)), .inr (some (0, 0))] _ _
          refine xw.call (m := 22) (as := [.inr (some (0, 0)), .inr (some (2, a1)), .inr (xo 4 t27)]) (nx := 109) (L' := [some (.inr (some (0, 0))), some (.inr (some (2, a1))), some (.inr (some (9, a2))), some (.inr (some (6, k3))), some (.inr none), some (.inl (-(xm_i S4 6 k3 4))), some (.inl ((xm_i S4 9 a2 3) + (-(xm_i S4 6 k3 4))))]) (st' := []) rfl (xc.mono h ?_)
          rintro r S28 ⟨rfl, hC29, h⟩
          show xw _ _ 109 [some (.inr (some (0, 0))), some (.inr (some (2, a1))), some (.inr (some (9, a2))), some (.inr (some (6, k3))), some (.inr none), some (.inl (-(xm_i S4 6 k3 4))), some (.inl ((xm_i S4 9 a2 3) + (-(xm_i S4 6 k3 4))))] [] _ _
          refine xw.s (pc' := 151) (st' := []) rfl ?_
          exact xw.ret (r := none) rfl h
      · skip
        refine xw.s (pc' := 73) (st' := [.inr (some (0, 0))]) rfl ?_
        refine xw.s (pc' := 74) (st' := [.inr (some (2, a1)), .inr (some (0, 0))]) rfl ?_
        refine xw.s (pc' := 75) (st' := [.inr (some (0, 0)), .inr (some (2, a1)), .inr (some (0, 0))]) rfl ?_
        refine xw.s (pc' := 76) (st' := [.inl (5 : Int32), .inr (some (0, 0)), .inr (some (2, a1)), .inr (some (0, 0))]) rfl ?_
        refine xw.s (pc' := 77) (st' := [.inr none, .inl (5 : Int32), .inr (some (0, 0)), .inr (some (2, a1)), .inr (some (0, 0))]) rfl ?_
        refine xw.s (pc' := 78) (st' := [.inr (some (9, a2)), .inr none, .inl (5 : Int32), .inr (some (0, 0)), .inr (some (2, a1)), .inr (some (0, 0))]) rfl ?_
        refine xw.call (m := 21) (as := [.inr (some (0, 0)), .inl (5 : Int32), .inr none, .inr (some (9, a2))]) (nx := 81) (L' := [some (.inr (some (0, 0))), some (.inr (some (2, a1))), some (.inr (some (9, a2))), some (.inr (some (6, k3))), some (.inr none), some (.inl (-(xm_i S4 6 k3 4))), some (.inl ((xm_i S4 9 a2 3) + (-(xm_i S4 6 k3 4))))]) (st' := [.inr (some (2, a1)), .inr (some (0, 0))]) rfl (xc.mono h ?_)
        rintro r S30 ⟨t32, rfl, hC31, h⟩
        show xw _ _ 81 [some (.inr (some (0, 0))), some (.inr (some (2, a1))), some (.inr (some (9, a2))), some (.inr (some (6, k3))), some (.inr none), some (.inl (-(xm_i S4 6 k3 4))), some (.inl ((xm_i S4 9 a2 3) + (-(xm_i S4 6 k3 4))))] [.inr (xo 4 t32), .inr (some (2, a1)), .inr (some (0, 0))] _ _
        refine xw.call (m := 22) (as := [.inr (some (0, 0)), .inr (some (2, a1)), .inr (xo 4 t32)]) (nx := 84) (L' := [some (.inr (some (0, 0))), some (.inr (some (2, a1))), some (.inr (some (9, a2))), some (.inr (some (6, k3))), some (.inr none), some (.inl (-(xm_i S4 6 k3 4))), some (.inl ((xm_i S4 9 a2 3) + (-(xm_i S4 6 k3 4))))]) (st' := []) rfl (xc.mono h ?_)
        rintro r S33 ⟨rfl, hC34, h⟩
        show xw _ _ 84 [some (.inr (some (0, 0))), some (.inr (some (2, a1))), some (.inr (some (9, a2))), some (.inr (some (6, k3))), some (.inr none), some (.inl (-(xm_i S4 6 k3 4))), some (.inl ((xm_i S4 9 a2 3) + (-(xm_i S4 6 k3 4))))] [] _ _
        refine xw.s (pc' := 151) (st' := []) rfl ?_
        exact xw.ret (r := none) rfl h
    · skip
      refine xw.s (pc' := 53) (st' := [.inr (some (6, k3))]) rfl ?_
      refine xw.fi (c := 6) (j := 4) (ty := 0) (nx := 56) (v := (xm_i S4 6 k3 4)) rfl rfl rfl ?_
      refine xw.s (pc' := 58) (st' := []) (L' := [some (.inr (some (0, 0))), some (.inr (some (2, a1))), some (.inr (some (9, a2))), some (.inr (some (6, k3))), some (.inr none), some (.inl (xm_i S4 6 k3 4)), none]) rfl ?_
      refine xw.s (pc' := 59) (st' := [.inr (some (9, a2))]) rfl ?_
      refine xw.fi (c := 9) (j := 3) (ty := 0) (nx := 62) (v := (xm_i S4 9 a2 3)) rfl rfl rfl ?_
      refine xw.s (pc' := 64) (st' := [.inl (xm_i S4 6 k3 4), .inl (xm_i S4 9 a2 3)]) rfl ?_
      refine xw.s (pc' := 65) (st' := [.inl ((xm_i S4 9 a2 3) + (xm_i S4 6 k3 4))]) rfl ?_
      refine xw.s (pc' := 67) (st' := []) (L' := [some (.inr (some (0, 0))), some (.inr (some (2, a1))), some (.inr (some (9, a2))), some (.inr (some (6, k3))), some (.inr none), some (.inl (xm_i S4 6 k3 4)), some (.inl ((xm_i S4 9 a2 3) + (xm_i S4 6 k3 4)))]) rfl ?_
      refine xw.s (pc' := 69) (st' := [.inl ((xm_i S4 9 a2 3) + (xm_i S4 6 k3 4))]) rfl ?_
      refine xw.b (c := (0 : Int32) ≤ ((xm_i S4 9 a2 3) + (xm_i S4 6 k3 4))) (cd := .ge) (x := ((xm_i S4 9 a2 3) + (xm_i S4 6 k3 4))) (y := (0 : Int32)) 87 72 (st' := []) rfl (y_cge _ _) h (fun c35 h => ?_) (fun c35 h => ?_)
      · skip
        refine xw.s (pc' := 89) (st' := [.inl ((xm_i S4 9 a2 3) + (xm_i S4 6 k3 4))]) rfl ?_
        refine xw.s (pc' := 90) (st' := [.inr (some (9, a2)), .inl ((xm_i S4 9 a2 3) + (xm_i S4 6 k3 4))]) rfl ?_
        refine xw.fi (c := 9) (j := 1) (ty := 0) (nx := 93) (v := (xm_i S4 9 a2 1)) rfl rfl rfl ?_
        refine xw.b (c := ((xm_i S4 9 a2 3) + (xm_i S4 6 k3 4)) ≤ (xm_i S4 9 a2 1)) (cd := .le) (x := ((xm_i S4 9 a2 3) + (xm_i S4 6 k3 4))) (y := (xm_i S4 9 a2 1)) 112 96 (st' := []) rfl (y_cle _ _) h (fun c36 h => ?_) (fun c36 h => ?_)
        · skip
          refine xw.s (pc' := 113) (st' := [.inr (some (9, a2))]) rfl ?_
          refine xw.s (pc' := 115) (st' := [.inl ((xm_i S4 9 a2 3) + (xm_i S4 6 k3 4)), .inr (some (9, a2))]) rfl ?_
          refine xw.fp (c := 9) (j := 3) (ty := 0) (nx := 118) rfl rfl (Or.inl rfl) ?_
          obtain ⟨S37, e38⟩ : ∃ s, s = xm_si S4 9 a2 3 ((xm_i S4 9 a2 3) + (xm_i S4 6 k3 4)) := ⟨_, rfl⟩
          rw [← e38]
          replace h := h S37 e38
          refine xw.s (pc' := 119) (st' := [.inr (some (0, 0))]) rfl ?_
          refine xw.fr (c := 0) (j := 9) (e := 12) (nx := 122) (t := (some 9)) rfl rfl ((congrArg (fun s => xm_r s 0 0 9) e38).trans (hC5 9 (by decide))) ?_
          show xw _ _ _ [some (.inr (some (0, 0))), some (.inr (some (2, a1))), some (.inr (some (9, a2))), some (.inr (some (6, k3))), some (.inr none), some (.inl (xm_i S4 6 k3 4)), some (.inl ((xm_i S4 9 a2 3) + (xm_i S4 6 k3 4)))] [.inr (some (12, 9))] _ _
          refine xw.s (pc' := 125) (st' := [.inr (some (3, (xm_n S37 0 3))), .inr (some (12, 9))]) (S1 := xm_mk 3 4 S37) rfl ?_
          obtain ⟨k39, q40⟩ : ∃ k, k = xm_n S37 0 3 := ⟨_, rfl⟩
          rw [← q40]
          replace h := h k39 q40
          obtain ⟨S41, e42⟩ : ∃ s, s = xm_mk 3 4 S37 := ⟨_, rfl⟩
          rw [← e42]
          replace h := h S41 e42
          refine xw.s (pc' := 126) (st' := [.inr (some (3, k39)), .inr (some (3, k39)), .inr (some (12, 9))]) rfl ?_
          refine xw.s (pc' := 127) (st' := [.inr (some (9, a2)), .inr (some (3, k39)), .inr (some (3, k39)), .inr (some (12, 9))]) rfl ?_
          refine xw.s (pc' := 128) (st' := [.inr (some (6, k3)), .inr (some (9, a2)), .inr (some (3, k39)), .inr (some (3, k39)), .inr (some (12, 9))]) rfl ?_
          refine xw.s (pc' := 130) (st' := [.inl (xm_i S4 6 k3 4), .inr (some (6, k3)), .inr (some (9, a2)), .inr (some (3, k39)), .inr (some (3, k39)), .inr (some (12, 9))]) rfl ?_
          refine xw.s (pc' := 131) (st' := [.inr (some (0, 0)), .inl (xm_i S4 6 k3 4), .inr (some (6, k3)), .inr (some (9, a2)), .inr (some (3, k39)), .inr (some (3, k39)), .inr (some (12, 9))]) rfl ?_
          refine xw.fi (c := 0) (j := 13) (ty := 0) (nx := 134) (v := (xm_i S4 0 0 13)) rfl rfl ((congrArg (fun s => xm_i s 0 0 13) e42).trans ((xi_mk (by decide)).trans ((congrArg (fun s => xm_i s 0 0 13) e38).trans (xi_si (by decide))))) ?_
          refine xw.call (m := 96) (as := [.inr (some (3, k39)), .inr (some (9, a2)), .inr (some (6, k3)), .inl (xm_i S4 6 k3 4), .inl (xm_i S4 0 0 13)]) (nx := 137) (L' := [some (.inr (some (0, 0))), some (.inr (some (2, a1))), some (.inr (some (9, a2))), some (.inr (some (6, k3))), some (.inr none), some (.inl (xm_i S4 6 k3 4)), some (.inl ((xm_i S4 9 a2 3) + (xm_i S4 6 k3 4)))]) (st' := [.inr (some (3, k39)), .inr (some (12, 9))]) rfl (xc.mono h ?_)
          rintro r S43 ⟨rfl, hC44, h⟩
          show xw _ _ 137 [some (.inr (some (0, 0))), some (.inr (some (2, a1))), some (.inr (some (9, a2))), some (.inr (some (6, k3))), some (.inr none), some (.inl (xm_i S4 6 k3 4)), some (.inl ((xm_i S4 9 a2 3) + (xm_i S4 6 k3 4)))] [.inr (some (3, k39)), .inr (some (12, 9))] _ _
          obtain ⟨z45, z46, h⟩ := h
          refine xw.ladd (nx := 140) rfl (Nat.le_of_ble_eq_true rfl) (by decide) z45 z46 ?_
          obtain ⟨S47, e48⟩ : ∃ s, s = xm_push 9 (3, k39) S43 := ⟨_, rfl⟩
          rw [← e48]
          replace h := h S47 e48
          refine xw.s (pc' := 141) (st' := []) rfl ?_
          refine xw.s (pc' := 142) (st' := [.inr (some (0, 0))]) rfl ?_
          refine xw.s (pc' := 143) (st' := [.inr (some (2, a1)), .inr (some (0, 0))]) rfl ?_
          refine xw.s (pc' := 144) (st' := [.inr (some (6, k3)), .inr (some (2, a1)), .inr (some (0, 0))]) rfl ?_
          refine xw.fi (c := 6) (j := 4) (ty := 0) (nx := 147) (v := (xm_i S43 6 k3 4)) rfl rfl ((congrArg (fun s => xm_i s 6 k3 4) e48).trans xi_push) ?_
          refine xw.s (pc' := 148) (st' := [.inl (0 : Int32), .inl (xm_i S43 6 k3 4), .inr (some (2, a1)), .inr (some (0, 0))]) rfl ?_
          refine xw.call (m := 30) (as := [.inr (some (0, 0)), .inr (some (2, a1)), .inl (xm_i S43 6 k3 4), .inl (0 : Int32)]) (nx := 151) (L' := [some (.inr (some (0, 0))), some (.inr (some (2, a1))), some (.inr (some (9, a2))), some (.inr (some (6, k3))), some (.inr none), some (.inl (xm_i S4 6 k3 4)), some (.inl ((xm_i S4 9 a2 3) + (xm_i S4 6 k3 4)))]) (st' := []) rfl (xc.mono h ?_)
          rintro r S49 ⟨rfl, hC50, h⟩
          show xw _ _ 151 [some (.inr (some (0, 0))), some (.inr (some (2, a1))), some (.inr (some (9, a2))), some (.inr (some (6, k3))), some (.inr none), some (.inl (xm_i S4 6 k3 4)), some (.inl ((xm_i S4 9 a2 3) + (xm_i S4 6 k3 4)))] [] _ _
          exact xw.ret (r := none) rfl h
        · skip
          refine xw.s (pc' := 97) (st' := [.inr (some (0, 0))]) rfl ?_
          refine xw.s (pc' := 98) (st' := [.inr (some (2, a1)), .inr (some (0, 0))]) rfl ?_
          refine xw.s (pc' := 99) (st' := [.inr (some (0, 0)), .inr (some (2, a1)), .inr (some (0, 0))]) rfl ?_
          refine xw.s (pc' := 101) (st' := [.inl (6 : Int32), .inr (some (0, 0)), .inr (some (2, a1)), .inr (some (0, 0))]) rfl ?_
          refine xw.s (pc' := 102) (st' := [.inr none, .inl (6 : Int32), .inr (some (0, 0)), .inr (some (2, a1)), .inr (some (0, 0))]) rfl ?_
          refine xw.s (pc' := 103) (st' := [.inr (some (9, a2)), .inr none, .inl (6 : Int32), .inr (some (0, 0)), .inr (some (2, a1)), .inr (some (0, 0))]) rfl ?_
          refine xw.call (m := 21) (as := [.inr (some (0, 0)), .inl (6 : Int32), .inr none, .inr (some (9, a2))]) (nx := 106) (L' := [some (.inr (some (0, 0))), some (.inr (some (2, a1))), some (.inr (some (9, a2))), some (.inr (some (6, k3))), some (.inr none), some (.inl (xm_i S4 6 k3 4)), some (.inl ((xm_i S4 9 a2 3) + (xm_i S4 6 k3 4)))]) (st' := [.inr (some (2, a1)), .inr (some (0, 0))]) rfl (xc.mono h ?_)
          rintro r S51 ⟨t53, rfl, hC52, h⟩
          show xw _ _ 106 [some (.inr (some (0, 0))), some (.inr (some (2, a1))), some (.inr (some (9, a2))), some (.inr (some (6, k3))), some (.inr none), some (.inl (xm_i S4 6 k3 4)), some (.inl ((xm_i S4 9 a2 3) + (xm_i S4 6 k3 4)))] [.inr (xo 4 t53), .inr (some (2, a1)), .inr (some (0, 0))] _ _
          refine xw.call (m := 22) (as := [.inr (some (0, 0)), .inr (some (2, a1)), .inr (xo 4 t53)]) (nx := 109) (L' := [some (.inr (some (0, 0))), some (.inr (some (2, a1))), some (.inr (some (9, a2))), some (.inr (some (6, k3))), some (.inr none), some (.inl (xm_i S4 6 k3 4)), some (.inl ((xm_i S4 9 a2 3) + (xm_i S4 6 k3 4)))]) (st' := []) rfl (xc.mono h ?_)
          rintro r S54 ⟨rfl, hC55, h⟩
          show xw _ _ 109 [some (.inr (some (0, 0))), some (.inr (some (2, a1))), some (.inr (some (9, a2))), some (.inr (some (6, k3))), some (.inr none), some (.inl (xm_i S4 6 k3 4)), some (.inl ((xm_i S4 9 a2 3) + (xm_i S4 6 k3 4)))] [] _ _
          refine xw.s (pc' := 151) (st' := []) rfl ?_
          exact xw.ret (r := none) rfl h
      · skip
        refine xw.s (pc' := 73) (st' := [.inr (some (0, 0))]) rfl ?_
        refine xw.s (pc' := 74) (st' := [.inr (some (2, a1)), .inr (some (0, 0))]) rfl ?_
        refine xw.s (pc' := 75) (st' := [.inr (some (0, 0)), .inr (some (2, a1)), .inr (some (0, 0))]) rfl ?_
        refine xw.s (pc' := 76) (st' := [.inl (5 : Int32), .inr (some (0, 0)), .inr (some (2, a1)), .inr (some (0, 0))]) rfl ?_
        refine xw.s (pc' := 77) (st' := [.inr none, .inl (5 : Int32), .inr (some (0, 0)), .inr (some (2, a1)), .inr (some (0, 0))]) rfl ?_
        refine xw.s (pc' := 78) (st' := [.inr (some (9, a2)), .inr none, .inl (5 : Int32), .inr (some (0, 0)), .inr (some (2, a1)), .inr (some (0, 0))]) rfl ?_
        refine xw.call (m := 21) (as := [.inr (some (0, 0)), .inl (5 : Int32), .inr none, .inr (some (9, a2))]) (nx := 81) (L' := [some (.inr (some (0, 0))), some (.inr (some (2, a1))), some (.inr (some (9, a2))), some (.inr (some (6, k3))), some (.inr none), some (.inl (xm_i S4 6 k3 4)), some (.inl ((xm_i S4 9 a2 3) + (xm_i S4 6 k3 4)))]) (st' := [.inr (some (2, a1)), .inr (some (0, 0))]) rfl (xc.mono h ?_)
        rintro r S56 ⟨t58, rfl, hC57, h⟩
        show xw _ _ 81 [some (.inr (some (0, 0))), some (.inr (some (2, a1))), some (.inr (some (9, a2))), some (.inr (some (6, k3))), some (.inr none), some (.inl (xm_i S4 6 k3 4)), some (.inl ((xm_i S4 9 a2 3) + (xm_i S4 6 k3 4)))] [.inr (xo 4 t58), .inr (some (2, a1)), .inr (some (0, 0))] _ _
        refine xw.call (m := 22) (as := [.inr (some (0, 0)), .inr (some (2, a1)), .inr (xo 4 t58)]) (nx := 84) (L' := [some (.inr (some (0, 0))), some (.inr (some (2, a1))), some (.inr (some (9, a2))), some (.inr (some (6, k3))), some (.inr none), some (.inl (xm_i S4 6 k3 4)), some (.inl ((xm_i S4 9 a2 3) + (xm_i S4 6 k3 4)))]) (st' := []) rfl (xc.mono h ?_)
        rintro r S59 ⟨rfl, hC60, h⟩
        show xw _ _ 84 [some (.inr (some (0, 0))), some (.inr (some (2, a1))), some (.inr (some (9, a2))), some (.inr (some (6, k3))), some (.inr none), some (.inl (xm_i S4 6 k3 4)), some (.inl ((xm_i S4 9 a2 3) + (xm_i S4 6 k3 4)))] [] _ _
        refine xw.s (pc' := 151) (st' := []) rfl ?_
        exact xw.ret (r := none) rfl h
  · replace h := h.2 k7 rfl
    show xw _ _ 21 [some (.inr (some (0, 0))), some (.inr (some (2, a1))), some (.inr (some (9, a2))), some (.inr (some (6, k3))), some (.inr (some (3, k7))), none, none] [] _ _
    refine xw.s (pc' := 22) (st' := [.inr (some (0, 0))]) rfl ?_
    refine xw.s (pc' := 23) (st' := [.inr (some (2, a1)), .inr (some (0, 0))]) rfl ?_
    refine xw.s (pc' := 25) (st' := [.inr (some (3, k7)), .inr (some (2, a1)), .inr (some (0, 0))]) rfl ?_
    refine xw.fi (c := 3) (j := 2) (ty := 0) (nx := 28) (v := (xm_i S4 3 k7 2)) rfl rfl rfl ?_
    refine xw.s (pc' := 31) (st' := [.inl (if (0 : Int32) ≤ (xm_i S4 3 k7 2) then (xm_i S4 3 k7 2) else -(xm_i S4 3 k7 2)), .inr (some (2, a1)), .inr (some (0, 0))]) rfl ?_
    refine xw.s (pc' := 32) (st' := [.inl (0 : Int32), .inl (if (0 : Int32) ≤ (xm_i S4 3 k7 2) then (xm_i S4 3 k7 2) else -(xm_i S4 3 k7 2)), .inr (some (2, a1)), .inr (some (0, 0))]) rfl ?_
    refine xw.call (m := 30) (as := [.inr (some (0, 0)), .inr (some (2, a1)), .inl (if (0 : Int32) ≤ (xm_i S4 3 k7 2) then (xm_i S4 3 k7 2) else -(xm_i S4 3 k7 2)), .inl (0 : Int32)]) (nx := 35) (L' := [some (.inr (some (0, 0))), some (.inr (some (2, a1))), some (.inr (some (9, a2))), some (.inr (some (6, k3))), some (.inr (some (3, k7))), none, none]) (st' := []) rfl (xc.mono h ?_)
    rintro r S61 ⟨rfl, hC62, h⟩
    show xw _ _ 35 [some (.inr (some (0, 0))), some (.inr (some (2, a1))), some (.inr (some (9, a2))), some (.inr (some (6, k3))), some (.inr (some (3, k7))), none, none] [] _ _
    exact xw.ret (r := none) rfl h
/-- effectOf -/
theorem cw_effectOf {d : Nat} {a1 : Int32} {a2 : Nat} {S : xm_S} {Q : Option xm_V → xm_S → Prop} (hC : xk_C S) (h : xw d 56 2 [some (.inr (some (0, 0))), some (.inl a1), some (.inr (some (9, a2))), some (.inl (0 : Int32))] [] S Q) : xc (d) 56 [.inr (some (0, 0)), .inl a1, .inr (some (9, a2))] S Q := by
  show xw _ _ _ [some (.inr (some (0, 0))), some (.inl a1), some (.inr (some (9, a2))), none] _ _ _
  refine xw.s (pc' := 1) (st' := [.inl (0 : Int32)]) rfl ?_
  refine xw.s (pc' := 2) (st' := []) (L' := [some (.inr (some (0, 0))), some (.inl a1), some (.inr (some (9, a2))), some (.inl (0 : Int32))]) rfl ?_
  exact h
theorem cw_effectOf_2 {d : Nat} {l1 : Int32} {l2 : Nat} {l3 : Int32} {S : xm_S} {Q : Option xm_V → xm_S → Prop} (hC : xk_C S) (h : (l1 = (0 : Int32) → Q (some (.inr none)) S) ∧ (¬ l1 = (0 : Int32) → ((nI (xm_n S 1 9)) ≤ l3 → Q (some (.inr none)) S) ∧ (¬ (nI (xm_n S 1 9)) ≤ l3 → y_in l3 (xm_n S 1 9) ∧ (∃ k4, (xm_l S 9 (y_ix l3)) = (3, k4) ∧ (∀ t6, (xm_r S 3 k4 1) = t6 → (∃ k8, t6 = some k8 ∧ (((xm_i S 6 k8 5) = l1 → y_in l3 (xm_n S 1 9) ∧ (∀ t11, (xm_r S 3 k4 0) = t11 → ((t11 = some l2 → y_in l3 (xm_n S 1 9) ∧ (Q (some (.inr (some (3, k4)))) S)) ∧ (¬ t11 = some l2 → xw d 56 2 [some (.inr (some (0, 0))), some (.inl l1), some (.inr (some (9, l2))), some (.inl (l3 + (1 : Int32)))] [] S Q)))) ∧ (¬ (xm_i S 6 k8 5) = l1 → xw d 56 2 [some (.inr (some (0, 0))), some (.inl l1), some (.inr (some (9, l2))), some (.inl (l3 + (1 : Int32)))] [] S Q)))))))) : xw (d) 56 2 [some (.inr (some (0, 0))), some (.inl l1), some (.inr (some (9, l2))), some (.inl l3)] [] S Q := by
  refine xw.s (pc' := 3) (st' := [.inl l1]) rfl ?_
  refine xw.b (c := l1 = (0 : Int32)) (cd := .eq) (x := l1) (y := (0 : Int32)) 74 6 (st' := []) rfl (y_ceq _ _) h (fun c1 h => ?_) (fun c1 h => ?_)
  · skip
    refine xw.s (pc' := 75) (st' := [.inr none]) rfl ?_
    exact xw.ret (r := (some (.inr none))) rfl h
  · skip
    refine xw.s (pc' := 7) (st' := [.inl l3]) rfl ?_
    refine xw.s (pc' := 8) (st' := [.inr (some (0, 0)), .inl l3]) rfl ?_
    refine xw.fr (c := 0) (j := 9) (e := 12) (nx := 11) (t := (some 9)) rfl rfl (hC 9 (by decide)) ?_
    show xw _ _ _ [some (.inr (some (0, 0))), some (.inl l1), some (.inr (some (9, l2))), some (.inl l3)] [.inr (some (12, 9)), .inl l3] _ _
    refine xw.lsz (nx := 14) (n := (xm_n S 1 9)) rfl (Nat.le_of_ble_eq_true rfl) rfl ?_
    refine xw.b (c := (nI (xm_n S 1 9)) ≤ l3) (cd := .ge) (x := l3) (y := (nI (xm_n S 1 9))) 74 17 (st' := []) rfl (y_cge _ _) h (fun c2 h => ?_) (fun c2 h => ?_)
    · skip
      refine xw.s (pc' := 75) (st' := [.inr none]) rfl ?_
      exact xw.ret (r := (some (.inr none))) rfl h
    · skip
      refine xw.s (pc' := 18) (st' := [.inr (some (0, 0))]) rfl ?_
      refine xw.fr (c := 0) (j := 9) (e := 12) (nx := 21) (t := (some 9)) rfl rfl (hC 9 (by decide)) ?_
      show xw _ _ _ [some (.inr (some (0, 0))), some (.inl l1), some (.inr (some (9, l2))), some (.inl l3)] [.inr (some (12, 9))] _ _
      refine xw.s (pc' := 22) (st' := [.inl l3, .inr (some (12, 9))]) rfl ?_
      obtain ⟨z3, h⟩ := h
      obtain ⟨k4, q5, h⟩ := h
      refine xw.get (nx := 25) (p := (3, k4)) rfl (Nat.le_of_ble_eq_true rfl) z3 q5 ?_
      refine xw.s (pc' := 28) (st' := [.inr (some (3, k4))]) rfl ?_
      obtain ⟨t6, q7⟩ : ∃ t, (xm_r S 3 k4 1) = t := ⟨_, rfl⟩
      replace h := h t6 q7
      refine xw.fr (c := 3) (j := 1) (e := 6) (nx := 31) (t := t6) rfl rfl q7 ?_
      show xw _ _ _ [some (.inr (some (0, 0))), some (.inl l1), some (.inr (some (9, l2))), some (.inl l3)] [.inr (xo 6 t6)] _ _
      obtain ⟨k8, rfl, h⟩ := h
      refine xw.fi (c := 6) (j := 5) (ty := 0) (nx := 34) (v := (xm_i S 6 k8 5)) rfl rfl rfl ?_
      refine xw.s (pc' := 35) (st' := [.inl l1, .inl (xm_i S 6 k8 5)]) rfl ?_
      refine xw.bn (c := (xm_i S 6 k8 5) = l1) (cd := .ne) (x := (xm_i S 6 k8 5)) (y := l1) 68 38 (st' := []) rfl (y_cne _ _) h (fun c9 h => ?_) (fun c9 h => ?_)
      · skip
        refine xw.s (pc' := 39) (st' := [.inr (some (0, 0))]) rfl ?_
        refine xw.fr (c := 0) (j := 9) (e := 12) (nx := 42) (t := (some 9)) rfl rfl (hC 9 (by decide)) ?_
        show xw _ _ _ [some (.inr (some (0, 0))), some (.inl l1), some (.inr (some (9, l2))), some (.inl l3)] [.inr (some (12, 9))] _ _
        refine xw.s (pc' := 43) (st' := [.inl l3, .inr (some (12, 9))]) rfl ?_
        obtain ⟨z10, h⟩ := h
        refine xw.get (nx := 46) (p := (3, k4)) rfl (Nat.le_of_ble_eq_true rfl) z10 q5 ?_
        refine xw.s (pc' := 49) (st' := [.inr (some (3, k4))]) rfl ?_
        obtain ⟨t11, q12⟩ : ∃ t, (xm_r S 3 k4 0) = t := ⟨_, rfl⟩
        replace h := h t11 q12
        refine xw.fr (c := 3) (j := 0) (e := 9) (nx := 52) (t := t11) rfl rfl q12 ?_
        show xw _ _ _ [some (.inr (some (0, 0))), some (.inl l1), some (.inr (some (9, l2))), some (.inl l3)] [.inr (xo 9 t11)] _ _
        refine xw.s (pc' := 53) (st' := [.inr (some (9, l2)), .inr (xo 9 t11)]) rfl ?_
        refine xw.an (c := 9) (a := t11) (b := (some l2)) (cn := t11 = some l2) (t := 68) (nx := 56) rfl rfl (by decide) Iff.rfl h (fun c13 h => ?_) (fun c13 h => ?_)
        · skip
          refine xw.s (pc' := 57) (st' := [.inr (some (0, 0))]) rfl ?_
          refine xw.fr (c := 0) (j := 9) (e := 12) (nx := 60) (t := (some 9)) rfl rfl (hC 9 (by decide)) ?_
          show xw _ _ _ [some (.inr (some (0, 0))), some (.inl l1), some (.inr (some (9, l2))), some (.inl l3)] [.inr (some (12, 9))] _ _
          refine xw.s (pc' := 61) (st' := [.inl l3, .inr (some (12, 9))]) rfl ?_
          obtain ⟨z14, h⟩ := h
          refine xw.get (nx := 64) (p := (3, k4)) rfl (Nat.le_of_ble_eq_true rfl) z14 q5 ?_
          refine xw.s (pc' := 67) (st' := [.inr (some (3, k4))]) rfl ?_
          exact xw.ret (r := (some (.inr (some (3, k4))))) rfl h
        · skip
          refine xw.s (pc' := 71) (st' := []) (L' := [some (.inr (some (0, 0))), some (.inl l1), some (.inr (some (9, l2))), some (.inl (l3 + (1 : Int32)))]) rfl ?_
          refine xw.s (pc' := 2) (st' := []) rfl ?_
          exact h
      · skip
        refine xw.s (pc' := 71) (st' := []) (L' := [some (.inr (some (0, 0))), some (.inl l1), some (.inr (some (9, l2))), some (.inl (l3 + (1 : Int32)))]) rfl ?_
        refine xw.s (pc' := 2) (st' := []) rfl ?_
        exact h
/-- expire -/
theorem cw_expire {d : Nat} {a1 : Nat} {S : xm_S} {Q : Option xm_V → xm_S → Prop} (hC : xk_C S) (h : ∀ t1, (xm_r S 2 a1 17) = t1 → ((t1 = none → ((xm_i S 2 a1 8) = (0 : Int32) → ∀ t5, (xm_r S 2 a1 4) = t5 → (xc d 21 [.inr (some (0, 0)), .inl (12 : Int32), .inr (xo 5 t5), .inr none] S (fun r S7 => ∃ t9 : Option Nat, r = some (.inr (xo 4 t9)) ∧ xk_C S7 ∧ (xc d 22 [.inr (some (0, 0)), .inr (some (2, a1)), .inr (xo 4 t9)] S7 (fun r S10 => r = none ∧ xk_C S10 ∧ (Q none S10)))))) ∧ (¬ (xm_i S 2 a1 8) = (0 : Int32) → Q none S)) ∧ (∀ k3, t1 = some k3 → xc d 34 [.inr (some (0, 0)), .inr (some (2, k3))] S (fun r S12 => ∃ x14 : Int32, r = some (.inl x14) ∧ xk_C S12 ∧ (((xm_i S12 2 a1 8) = (0 : Int32) → ∀ t16, (xm_r S12 2 a1 4) = t16 → (xc d 21 [.inr (some (0, 0)), .inl (12 : Int32), .inr (xo 5 t16), .inr none] S12 (fun r S18 => ∃ t20 : Option Nat, r = some (.inr (xo 4 t20)) ∧ xk_C S18 ∧ (xc d 22 [.inr (some (0, 0)), .inr (some (2, a1)), .inr (xo 4 t20)] S18 (fun r S21 => r = none ∧ xk_C S21 ∧ (Q none S21)))))) ∧ (¬ (xm_i S12 2 a1 8) = (0 : Int32) → Q none S12)))))) : xc (d + 1) 57 [.inr (some (0, 0)), .inr (some (2, a1))] S Q := by
  show xw _ _ _ [some (.inr (some (0, 0))), some (.inr (some (2, a1)))] _ _ _
  refine xw.s (pc' := 1) (st' := [.inr (some (2, a1))]) rfl ?_
  obtain ⟨t1, q2⟩ : ∃ t, (xm_r S 2 a1 17) = t := ⟨_, rfl⟩
  replace h := h t1 q2
  refine xw.fr (c := 2) (j := 17) (e := 2) (nx := 4) (t := t1) rfl rfl q2 ?_
  show xw _ _ _ [some (.inr (some (0, 0))), some (.inr (some (2, a1)))] [.inr (xo 2 t1)] _ _
  refine xw.nul (o := t1) (t := 16) (nx := 7) rfl rfl ?_
  rcases t1 with _ | k3
  · replace h := h.1 rfl
    show xw _ _ 16 [some (.inr (some (0, 0))), some (.inr (some (2, a1)))] [] _ _
    refine xw.s (pc' := 17) (st' := [.inr (some (2, a1))]) rfl ?_
    refine xw.fi (c := 2) (j := 8) (ty := 0) (nx := 20) (v := (xm_i S 2 a1 8)) rfl rfl rfl ?_
    refine xw.bn (c := (xm_i S 2 a1 8) = (0 : Int32)) (cd := .ne) (x := (xm_i S 2 a1 8)) (y := (0 : Int32)) 39 23 (st' := []) rfl (y_cne _ _) h (fun c4 h => ?_) (fun c4 h => ?_)
    · skip
      refine xw.s (pc' := 24) (st' := [.inr (some (0, 0))]) rfl ?_
      refine xw.s (pc' := 25) (st' := [.inr (some (2, a1)), .inr (some (0, 0))]) rfl ?_
      refine xw.s (pc' := 26) (st' := [.inr (some (0, 0)), .inr (some (2, a1)), .inr (some (0, 0))]) rfl ?_
      refine xw.s (pc' := 28) (st' := [.inl (12 : Int32), .inr (some (0, 0)), .inr (some (2, a1)), .inr (some (0, 0))]) rfl ?_
      refine xw.s (pc' := 29) (st' := [.inr (some (2, a1)), .inl (12 : Int32), .inr (some (0, 0)), .inr (some (2, a1)), .inr (some (0, 0))]) rfl ?_
      obtain ⟨t5, q6⟩ : ∃ t, (xm_r S 2 a1 4) = t := ⟨_, rfl⟩
      replace h := h t5 q6
      refine xw.fr (c := 2) (j := 4) (e := 5) (nx := 32) (t := t5) rfl rfl q6 ?_
      show xw _ _ _ [some (.inr (some (0, 0))), some (.inr (some (2, a1)))] [.inr (xo 5 t5), .inl (12 : Int32), .inr (some (0, 0)), .inr (some (2, a1)), .inr (some (0, 0))] _ _
      refine xw.s (pc' := 33) (st' := [.inr none, .inr (xo 5 t5), .inl (12 : Int32), .inr (some (0, 0)), .inr (some (2, a1)), .inr (some (0, 0))]) rfl ?_
      refine xw.call (m := 21) (as := [.inr (some (0, 0)), .inl (12 : Int32), .inr (xo 5 t5), .inr none]) (nx := 36) (L' := [some (.inr (some (0, 0))), some (.inr (some (2, a1)))]) (st' := [.inr (some (2, a1)), .inr (some (0, 0))]) rfl (xc.mono h ?_)
      rintro r S7 ⟨t9, rfl, hC8, h⟩
      show xw _ _ 36 [some (.inr (some (0, 0))), some (.inr (some (2, a1)))] [.inr (xo 4 t9), .inr (some (2, a1)), .inr (some (0, 0))] _ _
      refine xw.call (m := 22) (as := [.inr (some (0, 0)), .inr (some (2, a1)), .inr (xo 4 t9)]) (nx := 39) (L' := [some (.inr (some (0, 0))), some (.inr (some (2, a1)))]) (st' := []) rfl (xc.mono h ?_)
      rintro r S10 ⟨rfl, hC11, h⟩
      show xw _ _ 39 [some (.inr (some (0, 0))), some (.inr (some (2, a1)))] [] _ _
      exact xw.ret (r := none) rfl h
    · skip
      exact xw.ret (r := none) rfl h
  · replace h := h.2 k3 rfl
    show xw _ _ 7 [some (.inr (some (0, 0))), some (.inr (some (2, a1)))] [] _ _
    refine xw.s (pc' := 8) (st' := [.inr (some (0, 0))]) rfl ?_
    refine xw.s (pc' := 9) (st' := [.inr (some (2, a1)), .inr (some (0, 0))]) rfl ?_
    refine xw.fr (c := 2) (j := 17) (e := 2) (nx := 12) (t := (some k3)) rfl rfl q2 ?_
    show xw _ _ _ [some (.inr (some (0, 0))), some (.inr (some (2, a1)))] [.inr (some (2, k3)), .inr (some (0, 0))] _ _
    refine xw.call (m := 34) (as := [.inr (some (0, 0)), .inr (some (2, k3))]) (nx := 15) (L' := [some (.inr (some (0, 0))), some (.inr (some (2, a1)))]) (st' := []) rfl (xc.mono h ?_)
    rintro r S12 ⟨x14, rfl, hC13, h⟩
    show xw _ _ 15 [some (.inr (some (0, 0))), some (.inr (some (2, a1)))] [.inl x14] _ _
    refine xw.s (pc' := 16) (st' := []) rfl ?_
    refine xw.s (pc' := 17) (st' := [.inr (some (2, a1))]) rfl ?_
    refine xw.fi (c := 2) (j := 8) (ty := 0) (nx := 20) (v := (xm_i S12 2 a1 8)) rfl rfl rfl ?_
    refine xw.bn (c := (xm_i S12 2 a1 8) = (0 : Int32)) (cd := .ne) (x := (xm_i S12 2 a1 8)) (y := (0 : Int32)) 39 23 (st' := []) rfl (y_cne _ _) h (fun c15 h => ?_) (fun c15 h => ?_)
    · skip
      refine xw.s (pc' := 24) (st' := [.inr (some (0, 0))]) rfl ?_
      refine xw.s (pc' := 25) (st' := [.inr (some (2, a1)), .inr (some (0, 0))]) rfl ?_
      refine xw.s (pc' := 26) (st' := [.inr (some (0, 0)), .inr (some (2, a1)), .inr (some (0, 0))]) rfl ?_
      refine xw.s (pc' := 28) (st' := [.inl (12 : Int32), .inr (some (0, 0)), .inr (some (2, a1)), .inr (some (0, 0))]) rfl ?_
      refine xw.s (pc' := 29) (st' := [.inr (some (2, a1)), .inl (12 : Int32), .inr (some (0, 0)), .inr (some (2, a1)), .inr (some (0, 0))]) rfl ?_
      obtain ⟨t16, q17⟩ : ∃ t, (xm_r S12 2 a1 4) = t := ⟨_, rfl⟩
      replace h := h t16 q17
      refine xw.fr (c := 2) (j := 4) (e := 5) (nx := 32) (t := t16) rfl rfl q17 ?_
      show xw _ _ _ [some (.inr (some (0, 0))), some (.inr (some (2, a1)))] [.inr (xo 5 t16), .inl (12 : Int32), .inr (some (0, 0)), .inr (some (2, a1)), .inr (some (0, 0))] _ _
      refine xw.s (pc' := 33) (st' := [.inr none, .inr (xo 5 t16), .inl (12 : Int32), .inr (some (0, 0)), .inr (some (2, a1)), .inr (some (0, 0))]) rfl ?_
      refine xw.call (m := 21) (as := [.inr (some (0, 0)), .inl (12 : Int32), .inr (xo 5 t16), .inr none]) (nx := 36) (L' := [some (.inr (some (0, 0))), some (.inr (some (2, a1)))]) (st' := [.inr (some (2, a1)), .inr (some (0, 0))]) rfl (xc.mono h ?_)
      rintro r S18 ⟨t20, rfl, hC19, h⟩
      show xw _ _ 36 [some (.inr (some (0, 0))), some (.inr (some (2, a1)))] [.inr (xo 4 t20), .inr (some (2, a1)), .inr (some (0, 0))] _ _
      refine xw.call (m := 22) (as := [.inr (some (0, 0)), .inr (some (2, a1)), .inr (xo 4 t20)]) (nx := 39) (L' := [some (.inr (some (0, 0))), some (.inr (some (2, a1)))]) (st' := []) rfl (xc.mono h ?_)
      rintro r S21 ⟨rfl, hC22, h⟩
      show xw _ _ 39 [some (.inr (some (0, 0))), some (.inr (some (2, a1)))] [] _ _
      exact xw.ret (r := none) rfl h
    · skip
      exact xw.ret (r := none) rfl h
/-- admitWaiting -/
theorem cw_admitWaiting {d : Nat}  {S : xm_S} {Q : Option xm_V → xm_S → Prop} (hC : xk_C S) (h : xw (d + 2) 58 2 [some (.inr (some (0, 0))), some (.inl (0 : Int32)), none, none, none, none] [] S Q) : xc (d + 2) 58 [.inr (some (0, 0))] S Q := by
  show xw _ _ _ [some (.inr (some (0, 0))), none, none, none, none, none] _ _ _
  refine xw.s (pc' := 1) (st' := [.inl (0 : Int32)]) rfl ?_
  refine xw.s (pc' := 2) (st' := []) (L' := [some (.inr (some (0, 0))), some (.inl (0 : Int32)), none, none, none, none]) rfl ?_
  exact h
theorem cw_admitWaiting_2 {d : Nat} {l1 : Int32} {u2 : Option xm_V} {u3 : Option xm_V} {u4 : Option xm_V} {u5 : Option xm_V} {S : xm_S} {Q : Option xm_V → xm_S → Prop} (hC : xk_C S) (h : ((nI (xm_n S 1 3)) ≤ l1 → Q none S) ∧ (¬ (nI (xm_n S 1 3)) ≤ l1 → y_in l1 (xm_n S 1 3) ∧ (∃ k3, (xm_l S 3 (y_ix l1)) = (5, k3) ∧ (∀ t5, (xm_r S 5 k3 12) = t5 → (∃ k7, t5 = some k7 ∧ (xw (d + 2) 58 36 [some (.inr (some (0, 0))), some (.inl l1), some (.inr (some (5, k3))), some (.inl (nI (xm_n S 1 k7))), some (.inl (0 : Int32)), u5] [] S Q)))))) : xw (d + 2) 58 2 [some (.inr (some (0, 0))), some (.inl l1), u2, u3, u4, u5] [] S Q := by
  refine xw.s (pc' := 3) (st' := [.inl l1]) rfl ?_
  refine xw.s (pc' := 4) (st' := [.inr (some (0, 0)), .inl l1]) rfl ?_
  refine xw.fr (c := 0) (j := 3) (e := 12) (nx := 7) (t := (some 3)) rfl rfl (hC 3 (by decide)) ?_
  show xw _ _ _ [some (.inr (some (0, 0))), some (.inl l1), u2, u3, u4, u5] [.inr (some (12, 3)), .inl l1] _ _
  refine xw.lsz (nx := 10) (n := (xm_n S 1 3)) rfl (Nat.le_of_ble_eq_true rfl) rfl ?_
  refine xw.b (c := (nI (xm_n S 1 3)) ≤ l1) (cd := .ge) (x := l1) (y := (nI (xm_n S 1 3))) 110 13 (st' := []) rfl (y_cge _ _) h (fun c1 h => ?_) (fun c1 h => ?_)
  · skip
    exact xw.ret (r := none) rfl h
  · skip
    refine xw.s (pc' := 14) (st' := [.inr (some (0, 0))]) rfl ?_
    refine xw.fr (c := 0) (j := 3) (e := 12) (nx := 17) (t := (some 3)) rfl rfl (hC 3 (by decide)) ?_
    show xw _ _ _ [some (.inr (some (0, 0))), some (.inl l1), u2, u3, u4, u5] [.inr (some (12, 3))] _ _
    refine xw.s (pc' := 18) (st' := [.inl l1, .inr (some (12, 3))]) rfl ?_
    obtain ⟨z2, h⟩ := h
    obtain ⟨k3, q4, h⟩ := h
    refine xw.get (nx := 21) (p := (5, k3)) rfl (Nat.le_of_ble_eq_true rfl) z2 q4 ?_
    refine xw.s (pc' := 24) (st' := [.inr (some (5, k3))]) rfl ?_
    refine xw.s (pc' := 25) (st' := []) (L' := [some (.inr (some (0, 0))), some (.inl l1), some (.inr (some (5, k3))), u3, u4, u5]) rfl ?_
    refine xw.s (pc' := 26) (st' := [.inr (some (5, k3))]) rfl ?_
    obtain ⟨t5, q6⟩ : ∃ t, (xm_r S 5 k3 12) = t := ⟨_, rfl⟩
    replace h := h t5 q6
    refine xw.fr (c := 5) (j := 12) (e := 12) (nx := 29) (t := t5) rfl rfl q6 ?_
    show xw _ _ _ [some (.inr (some (0, 0))), some (.inl l1), some (.inr (some (5, k3))), u3, u4, u5] [.inr (xo 12 t5)] _ _
    obtain ⟨k7, rfl, h⟩ := h
    refine xw.lsz (nx := 32) (n := (xm_n S 1 k7)) rfl (Nat.le_of_ble_eq_true rfl) rfl ?_
    refine xw.s (pc' := 33) (st' := []) (L' := [some (.inr (some (0, 0))), some (.inl l1), some (.inr (some (5, k3))), some (.inl (nI (xm_n S 1 k7))), u4, u5]) rfl ?_
    refine xw.s (pc' := 34) (st' := [.inl (0 : Int32)]) rfl ?_
    refine xw.s (pc' := 36) (st' := []) (L' := [some (.inr (some (0, 0))), some (.inl l1), some (.inr (some (5, k3))), some (.inl (nI (xm_n S 1 k7))), some (.inl (0 : Int32)), u5]) rfl ?_
    exact h
theorem cw_admitWaiting_36 {d : Nat} {l1 : Int32} {l2 : Nat} {l3 : Int32} {l4 : Int32} {u5 : Option xm_V} {S : xm_S} {Q : Option xm_V → xm_S → Prop} (hC : xk_C S) (h : (l3 ≤ l4 → xw (d + 2) 58 2 [some (.inr (some (0, 0))), some (.inl (l1 + (1 : Int32))), some (.inr (some (5, l2))), some (.inl l3), some (.inl l4), u5] [] S Q) ∧ (¬ l3 ≤ l4 → ((xm_i S 5 l2 2) ≤ (xm_i S 5 l2 10) → xw (d + 2) 58 2 [some (.inr (some (0, 0))), some (.inl (l1 + (1 : Int32))), some (.inr (some (5, l2))), some (.inl l3), some (.inl l4), u5] [] S Q) ∧ (¬ (xm_i S 5 l2 2) ≤ (xm_i S 5 l2 10) → ∀ t3, (xm_r S 5 l2 12) = t3 → (∃ k5, t3 = some k5 ∧ (((xm_n S 1 k5) = 0 → xw (d + 2) 58 2 [some (.inr (some (0, 0))), some (.inl (l1 + (1 : Int32))), some (.inr (some (5, l2))), some (.inl l3), some (.inl l4), u5] [] S Q) ∧ (¬ (xm_n S 1 k5) = 0 → y_in (0 : Int32) (xm_n S 1 k5) ∧ (∃ k8, (xm_l S k5 (y_ix (0 : Int32))) = (2, k8) ∧ (∀ S10, S10 = xm_drop k5 (y_ix (0 : Int32)) S → (∀ S12, S12 = xm_si S10 2 k8 13 (0 : Int32) → (∀ S14, S14 = xm_si S12 5 l2 10 ((xm_i S 5 l2 10) + (1 : Int32)) → (∀ t16, (xm_r S 2 k8 1) = t16 → (xc d 16 [.inr (some (0, 0)), .inr (xo 6 t16), .inr (some (2, k8))] S14 (fun r S18 => r = none ∧ xk_C S18 ∧ (xw (d + 2) 58 36 [some (.inr (some (0, 0))), some (.inl l1), some (.inr (some (5, l2))), some (.inl l3), some (.inl (l4 + (1 : Int32))), some (.inr (some (2, k8)))] [] S18 Q)))))))))))))) : xw (d + 2) 58 36 [some (.inr (some (0, 0))), some (.inl l1), some (.inr (some (5, l2))), some (.inl l3), some (.inl l4), u5] [] S Q := by
  refine xw.s (pc' := 38) (st' := [.inl l4]) rfl ?_
  refine xw.s (pc' := 39) (st' := [.inl l3, .inl l4]) rfl ?_
  refine xw.b (c := l3 ≤ l4) (cd := .ge) (x := l4) (y := l3) 104 42 (st' := []) rfl (y_cge _ _) h (fun c1 h => ?_) (fun c1 h => ?_)
  · skip
    refine xw.s (pc' := 107) (st' := []) (L' := [some (.inr (some (0, 0))), some (.inl (l1 + (1 : Int32))), some (.inr (some (5, l2))), some (.inl l3), some (.inl l4), u5]) rfl ?_
    refine xw.s (pc' := 2) (st' := []) rfl ?_
    exact h
  · skip
    refine xw.s (pc' := 43) (st' := [.inr (some (5, l2))]) rfl ?_
    refine xw.fi (c := 5) (j := 10) (ty := 0) (nx := 46) (v := (xm_i S 5 l2 10)) rfl rfl rfl ?_
    refine xw.s (pc' := 47) (st' := [.inr (some (5, l2)), .inl (xm_i S 5 l2 10)]) rfl ?_
    refine xw.fi (c := 5) (j := 2) (ty := 0) (nx := 50) (v := (xm_i S 5 l2 2)) rfl rfl rfl ?_
    refine xw.b (c := (xm_i S 5 l2 2) ≤ (xm_i S 5 l2 10)) (cd := .ge) (x := (xm_i S 5 l2 10)) (y := (xm_i S 5 l2 2)) 104 53 (st' := []) rfl (y_cge _ _) h (fun c2 h => ?_) (fun c2 h => ?_)
    · skip
      refine xw.s (pc' := 107) (st' := []) (L' := [some (.inr (some (0, 0))), some (.inl (l1 + (1 : Int32))), some (.inr (some (5, l2))), some (.inl l3), some (.inl l4), u5]) rfl ?_
      refine xw.s (pc' := 2) (st' := []) rfl ?_
      exact h
    · skip
      refine xw.s (pc' := 54) (st' := [.inr (some (5, l2))]) rfl ?_
      obtain ⟨t3, q4⟩ : ∃ t, (xm_r S 5 l2 12) = t := ⟨_, rfl⟩
      replace h := h t3 q4
      refine xw.fr (c := 5) (j := 12) (e := 12) (nx := 57) (t := t3) rfl rfl q4 ?_
      show xw _ _ _ [some (.inr (some (0, 0))), some (.inl l1), some (.inr (some (5, l2))), some (.inl l3), some (.inl l4), u5] [.inr (xo 12 t3)] _ _
      obtain ⟨k5, rfl, h⟩ := h
      refine xw.lem (nx := 60) (n := (xm_n S 1 k5)) rfl (Nat.le_of_ble_eq_true rfl) rfl h (fun c6 h => ?_) (fun c6 h => ?_)
      · skip
        refine xw.bt (cd := .ne) (x := (1 : Int32)) (y := (0 : Int32)) 104 63 (st' := []) rfl (y_cne _ _) (by decide) ?_
        refine xw.s (pc' := 107) (st' := []) (L' := [some (.inr (some (0, 0))), some (.inl (l1 + (1 : Int32))), some (.inr (some (5, l2))), some (.inl l3), some (.inl l4), u5]) rfl ?_
        refine xw.s (pc' := 2) (st' := []) rfl ?_
        exact h
      · skip
        refine xw.bf (cd := .ne) (x := (0 : Int32)) (y := (0 : Int32)) 104 63 (st' := []) rfl (y_cne _ _) (by decide) ?_
        refine xw.s (pc' := 64) (st' := [.inr (some (5, l2))]) rfl ?_
        refine xw.fr (c := 5) (j := 12) (e := 12) (nx := 67) (t := (some k5)) rfl rfl q4 ?_
        show xw _ _ _ [some (.inr (some (0, 0))), some (.inl l1), some (.inr (some (5, l2))), some (.inl l3), some (.inl l4), u5] [.inr (some (12, k5))] _ _
        refine xw.s (pc' := 68) (st' := [.inl (0 : Int32), .inr (some (12, k5))]) rfl ?_
        obtain ⟨z7, h⟩ := h
        obtain ⟨k8, q9, h⟩ := h
        refine xw.rem (nx := 71) (p := (2, k8)) rfl (Nat.le_of_ble_eq_true rfl) z7 q9 ?_
        obtain ⟨S10, e11⟩ : ∃ s, s = xm_drop k5 (y_ix (0 : Int32)) S := ⟨_, rfl⟩
        rw [← e11]
        replace h := h S10 e11
        refine xw.s (pc' := 74) (st' := [.inr (some (2, k8))]) rfl ?_
        refine xw.s (pc' := 76) (st' := []) (L' := [some (.inr (some (0, 0))), some (.inl l1), some (.inr (some (5, l2))), some (.inl l3), some (.inl l4), some (.inr (some (2, k8)))]) rfl ?_
        refine xw.s (pc' := 78) (st' := [.inr (some (2, k8))]) rfl ?_
        refine xw.s (pc' := 79) (st' := [.inl (0 : Int32), .inr (some (2, k8))]) rfl ?_
        refine xw.fp (c := 2) (j := 13) (ty := 0) (nx := 82) rfl rfl (Or.inl rfl) ?_
        obtain ⟨S12, e13⟩ : ∃ s, s = xm_si S10 2 k8 13 (0 : Int32) := ⟨_, rfl⟩
        rw [← e13]
        replace h := h S12 e13
        refine xw.s (pc' := 83) (st' := [.inr (some (5, l2))]) rfl ?_
        refine xw.s (pc' := 84) (st' := [.inr (some (5, l2)), .inr (some (5, l2))]) rfl ?_
        refine xw.fi (c := 5) (j := 10) (ty := 0) (nx := 87) (v := (xm_i S 5 l2 10)) rfl rfl ((congrArg (fun s => xm_i s 5 l2 10) e13).trans ((xi_si (by decide)).trans ((congrArg (fun s => xm_i s 5 l2 10) e11).trans rfl))) ?_
        refine xw.s (pc' := 88) (st' := [.inl (1 : Int32), .inl (xm_i S 5 l2 10), .inr (some (5, l2))]) rfl ?_
        refine xw.s (pc' := 89) (st' := [.inl ((xm_i S 5 l2 10) + (1 : Int32)), .inr (some (5, l2))]) rfl ?_
        refine xw.fp (c := 5) (j := 10) (ty := 0) (nx := 92) rfl rfl (Or.inl rfl) ?_
        obtain ⟨S14, e15⟩ : ∃ s, s = xm_si S12 5 l2 10 ((xm_i S 5 l2 10) + (1 : Int32)) := ⟨_, rfl⟩
        rw [← e15]
        replace h := h S14 e15
        refine xw.s (pc' := 93) (st' := [.inr (some (0, 0))]) rfl ?_
        refine xw.s (pc' := 95) (st' := [.inr (some (2, k8)), .inr (some (0, 0))]) rfl ?_
        refine xw.call (m := 41) (as := [.inr (some (0, 0)), .inr (some (2, k8))]) (nx := 98) (L' := [some (.inr (some (0, 0))), some (.inl l1), some (.inr (some (5, l2))), some (.inl l3), some (.inl l4), some (.inr (some (2, k8)))]) (st' := []) rfl ?_
        show xw _ _ _ [some (.inr (some (0, 0))), some (.inr (some (2, k8)))] [] _ _
        refine xw.s (pc' := 1) (st' := [.inr (some (0, 0))]) rfl ?_
        refine xw.s (pc' := 2) (st' := [.inr (some (2, k8)), .inr (some (0, 0))]) rfl ?_
        obtain ⟨t16, q17⟩ : ∃ t, (xm_r S 2 k8 1) = t := ⟨_, rfl⟩
        replace h := h t16 q17
        refine xw.fr (c := 2) (j := 1) (e := 6) (nx := 5) (t := t16) rfl rfl (((congrArg (fun s => xm_r s 2 k8 1) e15).trans ((congrArg (fun s => xm_r s 2 k8 1) e13).trans ((congrArg (fun s => xm_r s 2 k8 1) e11).trans rfl))).trans q17) ?_
        show xw _ _ _ [some (.inr (some (0, 0))), some (.inr (some (2, k8)))] [.inr (xo 6 t16), .inr (some (0, 0))] _ _
        refine xw.s (pc' := 6) (st' := [.inr (some (2, k8)), .inr (xo 6 t16), .inr (some (0, 0))]) rfl ?_
        refine xw.call (m := 16) (as := [.inr (some (0, 0)), .inr (xo 6 t16), .inr (some (2, k8))]) (nx := 9) (L' := [some (.inr (some (0, 0))), some (.inr (some (2, k8)))]) (st' := []) rfl (xc.mono h ?_)
        rintro r S18 ⟨rfl, hC19, h⟩
        show xw _ _ 9 [some (.inr (some (0, 0))), some (.inr (some (2, k8)))] [] _ _
        refine xw.ret (r := none) rfl ?_
        show xw _ _ 98 [some (.inr (some (0, 0))), some (.inl l1), some (.inr (some (5, l2))), some (.inl l3), some (.inl l4), some (.inr (some (2, k8)))] [] S18 _
        refine xw.s (pc' := 101) (st' := []) (L' := [some (.inr (some (0, 0))), some (.inl l1), some (.inr (some (5, l2))), some (.inl l3), some (.inl (l4 + (1 : Int32))), some (.inr (some (2, k8)))]) rfl ?_
        refine xw.s (pc' := 36) (st' := []) rfl ?_
        exact h
/-- lookAtPlan -/
theorem cw_lookAtPlan {d : Nat} {a1 : Nat} {S : xm_S} {Q : Option xm_V → xm_S → Prop} (hC : xk_C S) (h : ((xm_i S 7 a1 12) = (0 : Int32) → Q none S) ∧ (¬ (xm_i S 7 a1 12) = (0 : Int32) → ((xm_i S 7 a1 7) = (xm_i S 0 0 13) → ∀ S3, S3 = xm_si S 7 a1 7 ((xm_i S 7 a1 7) + (xm_i S 7 a1 4)) → (∀ t5, (xm_r S 7 a1 1) = t5 → (∃ k7, t5 = some k7 ∧ (((xm_i S 9 k7 3) < (xm_i S 7 a1 5) → ∀ S9, S9 = xm_si S3 7 a1 11 ((xm_i S 7 a1 11) + (1 : Int32)) → (Q none S9)) ∧ (¬ (xm_i S 9 k7 3) < (xm_i S 7 a1 5) → ((xm_i S 7 a1 6) < (xm_i S 9 k7 3) → ∀ S12, S12 = xm_si S3 7 a1 11 ((xm_i S 7 a1 11) + (1 : Int32)) → (Q none S12)) ∧ (¬ (xm_i S 7 a1 6) < (xm_i S 9 k7 3) → ((nI (xm_n S 1 5)) < (60 : Int32) → ∀ S15, S15 = xm_si S3 7 a1 8 ((xm_i S 7 a1 8) + (1 : Int32)) → (∀ k17, k17 = xm_n S15 0 6 → (∀ S19, S19 = xm_mk 6 7 S15 → (∀ t21, (xm_r S 7 a1 0) = t21 → (xc d 102 [.inr (some (6, k17)), .inl (nI (xm_n S19 1 5)), .inr (xo 10 t21), .inr (some (9, k7)), .inl (xm_i S 7 a1 2), .inl (xm_i S 7 a1 3), .inl (0 : Int32)] S19 (fun r S23 => r = none ∧ xk_C S23 ∧ (xc d 15 [.inr (some (0, 0)), .inr (some (6, k17))] S23 (fun r S25 => ∃ x27 : Int32, r = some (.inl x27) ∧ xk_C S25 ∧ (∀ S28, S28 = xm_si S25 7 a1 9 x27 → (Q none S28)))))))))) ∧ (¬ (nI (xm_n S 1 5)) < (60 : Int32) → ∀ S30, S30 = xm_si S3 7 a1 10 ((xm_i S 7 a1 10) + (1 : Int32)) → (Q none S30)))))))) ∧ (¬ (xm_i S 7 a1 7) = (xm_i S 0 0 13) → Q none S))) : xc (d + 1) 59 [.inr (some (0, 0)), .inr (some (7, a1))] S Q := by
  show xw _ _ _ [some (.inr (some (0, 0))), some (.inr (some (7, a1)))] _ _ _
  refine xw.s (pc' := 1) (st' := [.inr (some (7, a1))]) rfl ?_
  refine xw.fi (c := 7) (j := 12) (ty := 1) (nx := 4) (v := (xm_i S 7 a1 12)) rfl rfl rfl ?_
  refine xw.b (c := (xm_i S 7 a1 12) = (0 : Int32)) (cd := .eq) (x := (xm_i S 7 a1 12)) (y := (0 : Int32)) 18 7 (st' := []) rfl (y_ceq _ _) h (fun c1 h => ?_) (fun c1 h => ?_)
  · skip
    exact xw.ret (r := none) rfl h
  · skip
    refine xw.s (pc' := 8) (st' := [.inr (some (7, a1))]) rfl ?_
    refine xw.fi (c := 7) (j := 7) (ty := 0) (nx := 11) (v := (xm_i S 7 a1 7)) rfl rfl rfl ?_
    refine xw.s (pc' := 12) (st' := [.inr (some (0, 0)), .inl (xm_i S 7 a1 7)]) rfl ?_
    refine xw.fi (c := 0) (j := 13) (ty := 0) (nx := 15) (v := (xm_i S 0 0 13)) rfl rfl rfl ?_
    refine xw.b (c := (xm_i S 7 a1 7) = (xm_i S 0 0 13)) (cd := .eq) (x := (xm_i S 7 a1 7)) (y := (xm_i S 0 0 13)) 19 18 (st' := []) rfl (y_ceq _ _) h (fun c2 h => ?_) (fun c2 h => ?_)
    · skip
      refine xw.s (pc' := 20) (st' := [.inr (some (7, a1))]) rfl ?_
      refine xw.s (pc' := 21) (st' := [.inr (some (7, a1)), .inr (some (7, a1))]) rfl ?_
      refine xw.fi (c := 7) (j := 7) (ty := 0) (nx := 24) (v := (xm_i S 7 a1 7)) rfl rfl rfl ?_
      refine xw.s (pc' := 25) (st' := [.inr (some (7, a1)), .inl (xm_i S 7 a1 7), .inr (some (7, a1))]) rfl ?_
      refine xw.fi (c := 7) (j := 4) (ty := 0) (nx := 28) (v := (xm_i S 7 a1 4)) rfl rfl rfl ?_
      refine xw.s (pc' := 29) (st' := [.inl ((xm_i S 7 a1 7) + (xm_i S 7 a1 4)), .inr (some (7, a1))]) rfl ?_
      refine xw.fp (c := 7) (j := 7) (ty := 0) (nx := 32) rfl rfl (Or.inl rfl) ?_
      obtain ⟨S3, e4⟩ : ∃ s, s = xm_si S 7 a1 7 ((xm_i S 7 a1 7) + (xm_i S 7 a1 4)) := ⟨_, rfl⟩
      rw [← e4]
      replace h := h S3 e4
      refine xw.s (pc' := 33) (st' := [.inr (some (7, a1))]) rfl ?_
      obtain ⟨t5, q6⟩ : ∃ t, (xm_r S 7 a1 1) = t := ⟨_, rfl⟩
      replace h := h t5 q6
      refine xw.fr (c := 7) (j := 1) (e := 9) (nx := 36) (t := t5) rfl rfl (((congrArg (fun s => xm_r s 7 a1 1) e4).trans rfl).trans q6) ?_
      show xw _ _ _ [some (.inr (some (0, 0))), some (.inr (some (7, a1)))] [.inr (xo 9 t5)] _ _
      obtain ⟨k7, rfl, h⟩ := h
      refine xw.fi (c := 9) (j := 3) (ty := 0) (nx := 39) (v := (xm_i S 9 k7 3)) rfl rfl ((congrArg (fun s => xm_i s 9 k7 3) e4).trans (xi_si (by decide))) ?_
      refine xw.s (pc' := 40) (st' := [.inr (some (7, a1)), .inl (xm_i S 9 k7 3)]) rfl ?_
      refine xw.fi (c := 7) (j := 5) (ty := 0) (nx := 43) (v := (xm_i S 7 a1 5)) rfl rfl ((congrArg (fun s => xm_i s 7 a1 5) e4).trans (xi_si (by decide))) ?_
      refine xw.s (pc' := 44) (st' := [.inr (some (7, a1)), .inl (xm_i S 7 a1 5), .inl (xm_i S 9 k7 3)]) rfl ?_
      refine xw.fi (c := 7) (j := 6) (ty := 0) (nx := 47) (v := (xm_i S 7 a1 6)) rfl rfl ((congrArg (fun s => xm_i s 7 a1 6) e4).trans (xi_si (by decide))) ?_
      refine xw.call (m := 2) (as := [.inl (xm_i S 9 k7 3), .inl (xm_i S 7 a1 5), .inl (xm_i S 7 a1 6)]) (nx := 50) (L' := [some (.inr (some (0, 0))), some (.inr (some (7, a1)))]) (st' := []) rfl ?_
      show xw _ _ _ [some (.inl (xm_i S 9 k7 3)), some (.inl (xm_i S 7 a1 5)), some (.inl (xm_i S 7 a1 6))] [] _ _
      refine xw.s (pc' := 1) (st' := [.inl (xm_i S 9 k7 3)]) rfl ?_
      refine xw.s (pc' := 2) (st' := [.inl (xm_i S 7 a1 5), .inl (xm_i S 9 k7 3)]) rfl ?_
      refine xw.b (c := (xm_i S 9 k7 3) < (xm_i S 7 a1 5)) (cd := .lt) (x := (xm_i S 9 k7 3)) (y := (xm_i S 7 a1 5)) 14 5 (st' := []) rfl (y_clt _ _) h (fun c8 h => ?_) (fun c8 h => ?_)
      · skip
        refine xw.s (pc' := 15) (st' := [.inl (0 : Int32)]) rfl ?_
        refine xw.retz (nx := 16) rfl (Or.inl rfl) ?_
        show xw _ _ 50 [some (.inr (some (0, 0))), some (.inr (some (7, a1)))] [.inl (0 : Int32)] S3 _
        refine xw.bf (cd := .ne) (x := (0 : Int32)) (y := (0 : Int32)) 66 53 (st' := []) rfl (y_cne _ _) (by decide) ?_
        refine xw.s (pc' := 54) (st' := [.inr (some (7, a1))]) rfl ?_
        refine xw.s (pc' := 55) (st' := [.inr (some (7, a1)), .inr (some (7, a1))]) rfl ?_
        refine xw.fi (c := 7) (j := 11) (ty := 0) (nx := 58) (v := (xm_i S 7 a1 11)) rfl rfl ((congrArg (fun s => xm_i s 7 a1 11) e4).trans (xi_si (by decide))) ?_
        refine xw.s (pc' := 59) (st' := [.inl (1 : Int32), .inl (xm_i S 7 a1 11), .inr (some (7, a1))]) rfl ?_
        refine xw.s (pc' := 60) (st' := [.inl ((xm_i S 7 a1 11) + (1 : Int32)), .inr (some (7, a1))]) rfl ?_
        refine xw.fp (c := 7) (j := 11) (ty := 0) (nx := 63) rfl rfl (Or.inl rfl) ?_
        obtain ⟨S9, e10⟩ : ∃ s, s = xm_si S3 7 a1 11 ((xm_i S 7 a1 11) + (1 : Int32)) := ⟨_, rfl⟩
        rw [← e10]
        replace h := h S9 e10
        refine xw.s (pc' := 140) (st' := []) rfl ?_
        exact xw.ret (r := none) rfl h
      · skip
        refine xw.s (pc' := 6) (st' := [.inl (xm_i S 9 k7 3)]) rfl ?_
        refine xw.s (pc' := 7) (st' := [.inl (xm_i S 7 a1 6), .inl (xm_i S 9 k7 3)]) rfl ?_
        refine xw.b (c := (xm_i S 7 a1 6) < (xm_i S 9 k7 3)) (cd := .gt) (x := (xm_i S 9 k7 3)) (y := (xm_i S 7 a1 6)) 14 10 (st' := []) rfl (y_cgt _ _) h (fun c11 h => ?_) (fun c11 h => ?_)
        · skip
          refine xw.s (pc' := 15) (st' := [.inl (0 : Int32)]) rfl ?_
          refine xw.retz (nx := 16) rfl (Or.inl rfl) ?_
          show xw _ _ 50 [some (.inr (some (0, 0))), some (.inr (some (7, a1)))] [.inl (0 : Int32)] S3 _
          refine xw.bf (cd := .ne) (x := (0 : Int32)) (y := (0 : Int32)) 66 53 (st' := []) rfl (y_cne _ _) (by decide) ?_
          refine xw.s (pc' := 54) (st' := [.inr (some (7, a1))]) rfl ?_
          refine xw.s (pc' := 55) (st' := [.inr (some (7, a1)), .inr (some (7, a1))]) rfl ?_
          refine xw.fi (c := 7) (j := 11) (ty := 0) (nx := 58) (v := (xm_i S 7 a1 11)) rfl rfl ((congrArg (fun s => xm_i s 7 a1 11) e4).trans (xi_si (by decide))) ?_
          refine xw.s (pc' := 59) (st' := [.inl (1 : Int32), .inl (xm_i S 7 a1 11), .inr (some (7, a1))]) rfl ?_
          refine xw.s (pc' := 60) (st' := [.inl ((xm_i S 7 a1 11) + (1 : Int32)), .inr (some (7, a1))]) rfl ?_
          refine xw.fp (c := 7) (j := 11) (ty := 0) (nx := 63) rfl rfl (Or.inl rfl) ?_
          obtain ⟨S12, e13⟩ : ∃ s, s = xm_si S3 7 a1 11 ((xm_i S 7 a1 11) + (1 : Int32)) := ⟨_, rfl⟩
          rw [← e13]
          replace h := h S12 e13
          refine xw.s (pc' := 140) (st' := []) rfl ?_
          exact xw.ret (r := none) rfl h
        · skip
          refine xw.s (pc' := 11) (st' := [.inl (1 : Int32)]) rfl ?_
          refine xw.s (pc' := 15) (st' := [.inl (1 : Int32)]) rfl ?_
          refine xw.retz (nx := 16) rfl (Or.inr rfl) ?_
          show xw _ _ 50 [some (.inr (some (0, 0))), some (.inr (some (7, a1)))] [.inl (1 : Int32)] S3 _
          refine xw.bt (cd := .ne) (x := (1 : Int32)) (y := (0 : Int32)) 66 53 (st' := []) rfl (y_cne _ _) (by decide) ?_
          refine xw.s (pc' := 67) (st' := [.inr (some (0, 0))]) rfl ?_
          refine xw.fr (c := 0) (j := 5) (e := 12) (nx := 70) (t := (some 5)) rfl rfl ((congrArg (fun s => xm_r s 0 0 5) e4).trans (hC 5 (by decide))) ?_
          show xw _ _ _ [some (.inr (some (0, 0))), some (.inr (some (7, a1)))] [.inr (some (12, 5))] _ _
          refine xw.lsz (nx := 73) (n := (xm_n S 1 5)) rfl (Nat.le_of_ble_eq_true rfl) ((congrArg (fun s => xm_n s 1 5) e4).trans rfl) ?_
          refine xw.s (pc' := 75) (st' := [.inl (60 : Int32), .inl (nI (xm_n S 1 5))]) rfl ?_
          refine xw.b (c := (nI (xm_n S 1 5)) < (60 : Int32)) (cd := .lt) (x := (nI (xm_n S 1 5))) (y := (60 : Int32)) 91 78 (st' := []) rfl (y_clt _ _) h (fun c14 h => ?_) (fun c14 h => ?_)
          · skip
            refine xw.s (pc' := 92) (st' := [.inr (some (7, a1))]) rfl ?_
            refine xw.s (pc' := 93) (st' := [.inr (some (7, a1)), .inr (some (7, a1))]) rfl ?_
            refine xw.fi (c := 7) (j := 8) (ty := 0) (nx := 96) (v := (xm_i S 7 a1 8)) rfl rfl ((congrArg (fun s => xm_i s 7 a1 8) e4).trans (xi_si (by decide))) ?_
            refine xw.s (pc' := 97) (st' := [.inl (1 : Int32), .inl (xm_i S 7 a1 8), .inr (some (7, a1))]) rfl ?_
            refine xw.s (pc' := 98) (st' := [.inl ((xm_i S 7 a1 8) + (1 : Int32)), .inr (some (7, a1))]) rfl ?_
            refine xw.fp (c := 7) (j := 8) (ty := 0) (nx := 101) rfl rfl (Or.inl rfl) ?_
            obtain ⟨S15, e16⟩ : ∃ s, s = xm_si S3 7 a1 8 ((xm_i S 7 a1 8) + (1 : Int32)) := ⟨_, rfl⟩
            rw [← e16]
            replace h := h S15 e16
            refine xw.s (pc' := 102) (st' := [.inr (some (7, a1))]) rfl ?_
            refine xw.s (pc' := 103) (st' := [.inr (some (0, 0)), .inr (some (7, a1))]) rfl ?_
            refine xw.s (pc' := 106) (st' := [.inr (some (6, (xm_n S15 0 6))), .inr (some (0, 0)), .inr (some (7, a1))]) (S1 := xm_mk 6 7 S15) rfl ?_
            obtain ⟨k17, q18⟩ : ∃ k, k = xm_n S15 0 6 := ⟨_, rfl⟩
            rw [← q18]
            replace h := h k17 q18
            obtain ⟨S19, e20⟩ : ∃ s, s = xm_mk 6 7 S15 := ⟨_, rfl⟩
            rw [← e20]
            replace h := h S19 e20
            refine xw.s (pc' := 107) (st' := [.inr (some (6, k17)), .inr (some (6, k17)), .inr (some (0, 0)), .inr (some (7, a1))]) rfl ?_
            refine xw.s (pc' := 108) (st' := [.inr (some (0, 0)), .inr (some (6, k17)), .inr (some (6, k17)), .inr (some (0, 0)), .inr (some (7, a1))]) rfl ?_
            refine xw.fr (c := 0) (j := 5) (e := 12) (nx := 111) (t := (some 5)) rfl rfl ((congrArg (fun s => xm_r s 0 0 5) e20).trans ((xr_mk (by decide)).trans ((congrArg (fun s => xm_r s 0 0 5) e16).trans ((congrArg (fun s => xm_r s 0 0 5) e4).trans (hC 5 (by decide)))))) ?_
            show xw _ _ _ [some (.inr (some (0, 0))), some (.inr (some (7, a1)))] [.inr (some (12, 5)), .inr (some (6, k17)), .inr (some (6, k17)), .inr (some (0, 0)), .inr (some (7, a1))] _ _
            refine xw.lsz (nx := 114) (n := (xm_n S19 1 5)) rfl (Nat.le_of_ble_eq_true rfl) rfl ?_
            refine xw.s (pc' := 115) (st' := [.inr (some (7, a1)), .inl (nI (xm_n S19 1 5)), .inr (some (6, k17)), .inr (some (6, k17)), .inr (some (0, 0)), .inr (some (7, a1))]) rfl ?_
            obtain ⟨t21, q22⟩ : ∃ t, (xm_r S 7 a1 0) = t := ⟨_, rfl⟩
            replace h := h t21 q22
            refine xw.fr (c := 7) (j := 0) (e := 10) (nx := 118) (t := t21) rfl rfl (((congrArg (fun s => xm_r s 7 a1 0) e20).trans ((xr_mk (by decide)).trans ((congrArg (fun s => xm_r s 7 a1 0) e16).trans ((congrArg (fun s => xm_r s 7 a1 0) e4).trans rfl)))).trans q22) ?_
            show xw _ _ _ [some (.inr (some (0, 0))), some (.inr (some (7, a1)))] [.inr (xo 10 t21), .inl (nI (xm_n S19 1 5)), .inr (some (6, k17)), .inr (some (6, k17)), .inr (some (0, 0)), .inr (some (7, a1))] _ _
            refine xw.s (pc' := 119) (st' := [.inr (some (7, a1)), .inr (xo 10 t21), .inl (nI (xm_n S19 1 5)), .inr (some (6, k17)), .inr (some (6, k17)), .inr (some (0, 0)), .inr (some (7, a1))]) rfl ?_
            refine xw.fr (c := 7) (j := 1) (e := 9) (nx := 122) (t := (some k7)) rfl rfl (((congrArg (fun s => xm_r s 7 a1 1) e20).trans ((xr_mk (by decide)).trans ((congrArg (fun s => xm_r s 7 a1 1) e16).trans ((congrArg (fun s => xm_r s 7 a1 1) e4).trans rfl)))).trans q6) ?_
            show xw _ _ _ [some (.inr (some (0, 0))), some (.inr (some (7, a1)))] [.inr (some (9, k7)), .inr (xo 10 t21), .inl (nI (xm_n S19 1 5)), .inr (some (6, k17)), .inr (some (6, k17)), .inr (some (0, 0)), .inr (some (7, a1))] _ _
            refine xw.s (pc' := 123) (st' := [.inr (some (7, a1)), .inr (some (9, k7)), .inr (xo 10 t21), .inl (nI (xm_n S19 1 5)), .inr (some (6, k17)), .inr (some (6, k17)), .inr (some (0, 0)), .inr (some (7, a1))]) rfl ?_
            refine xw.fi (c := 7) (j := 2) (ty := 0) (nx := 126) (v := (xm_i S 7 a1 2)) rfl rfl ((congrArg (fun s => xm_i s 7 a1 2) e20).trans ((xi_mk (by decide)).trans ((congrArg (fun s => xm_i s 7 a1 2) e16).trans ((xi_si (by decide)).trans ((congrArg (fun s => xm_i s 7 a1 2) e4).trans (xi_si (by decide))))))) ?_
            refine xw.s (pc' := 127) (st' := [.inr (some (7, a1)), .inl (xm_i S 7 a1 2), .inr (some (9, k7)), .inr (xo 10 t21), .inl (nI (xm_n S19 1 5)), .inr (some (6, k17)), .inr (some (6, k17)), .inr (some (0, 0)), .inr (some (7, a1))]) rfl ?_
            refine xw.fi (c := 7) (j := 3) (ty := 0) (nx := 130) (v := (xm_i S 7 a1 3)) rfl rfl ((congrArg (fun s => xm_i s 7 a1 3) e20).trans ((xi_mk (by decide)).trans ((congrArg (fun s => xm_i s 7 a1 3) e16).trans ((xi_si (by decide)).trans ((congrArg (fun s => xm_i s 7 a1 3) e4).trans (xi_si (by decide))))))) ?_
            refine xw.s (pc' := 131) (st' := [.inl (0 : Int32), .inl (xm_i S 7 a1 3), .inl (xm_i S 7 a1 2), .inr (some (9, k7)), .inr (xo 10 t21), .inl (nI (xm_n S19 1 5)), .inr (some (6, k17)), .inr (some (6, k17)), .inr (some (0, 0)), .inr (some (7, a1))]) rfl ?_
            refine xw.call (m := 102) (as := [.inr (some (6, k17)), .inl (nI (xm_n S19 1 5)), .inr (xo 10 t21), .inr (some (9, k7)), .inl (xm_i S 7 a1 2), .inl (xm_i S 7 a1 3), .inl (0 : Int32)]) (nx := 134) (L' := [some (.inr (some (0, 0))), some (.inr (some (7, a1)))]) (st' := [.inr (some (6, k17)), .inr (some (0, 0)), .inr (some (7, a1))]) rfl (xc.mono h ?_)
            rintro r S23 ⟨rfl, hC24, h⟩
            show xw _ _ 134 [some (.inr (some (0, 0))), some (.inr (some (7, a1)))] [.inr (some (6, k17)), .inr (some (0, 0)), .inr (some (7, a1))] _ _
            refine xw.call (m := 15) (as := [.inr (some (0, 0)), .inr (some (6, k17))]) (nx := 137) (L' := [some (.inr (some (0, 0))), some (.inr (some (7, a1)))]) (st' := [.inr (some (7, a1))]) rfl (xc.mono h ?_)
            rintro r S25 ⟨x27, rfl, hC26, h⟩
            show xw _ _ 137 [some (.inr (some (0, 0))), some (.inr (some (7, a1)))] [.inl x27, .inr (some (7, a1))] _ _
            refine xw.fp (c := 7) (j := 9) (ty := 0) (nx := 140) rfl rfl (Or.inl rfl) ?_
            obtain ⟨S28, e29⟩ : ∃ s, s = xm_si S25 7 a1 9 x27 := ⟨_, rfl⟩
            rw [← e29]
            replace h := h S28 e29
            exact xw.ret (r := none) rfl h
          · skip
            refine xw.s (pc' := 79) (st' := [.inr (some (7, a1))]) rfl ?_
            refine xw.s (pc' := 80) (st' := [.inr (some (7, a1)), .inr (some (7, a1))]) rfl ?_
            refine xw.fi (c := 7) (j := 10) (ty := 0) (nx := 83) (v := (xm_i S 7 a1 10)) rfl rfl ((congrArg (fun s => xm_i s 7 a1 10) e4).trans (xi_si (by decide))) ?_
            refine xw.s (pc' := 84) (st' := [.inl (1 : Int32), .inl (xm_i S 7 a1 10), .inr (some (7, a1))]) rfl ?_
            refine xw.s (pc' := 85) (st' := [.inl ((xm_i S 7 a1 10) + (1 : Int32)), .inr (some (7, a1))]) rfl ?_
            refine xw.fp (c := 7) (j := 10) (ty := 0) (nx := 88) rfl rfl (Or.inl rfl) ?_
            obtain ⟨S30, e31⟩ : ∃ s, s = xm_si S3 7 a1 10 ((xm_i S 7 a1 10) + (1 : Int32)) := ⟨_, rfl⟩
            rw [← e31]
            replace h := h S30 e31
            refine xw.s (pc' := 140) (st' := []) rfl ?_
            exact xw.ret (r := none) rfl h
    · skip
      exact xw.ret (r := none) rfl h
/-- lookAtAlarm -/
theorem cw_lookAtAlarm {d : Nat} {a1 : Nat} {S : xm_S} {Q : Option xm_V → xm_S → Prop} (hC : xk_C S) (h : xc d 61 [.inr (some (0, 0)), .inr (some (1, a1))] S (fun r S1 => ∃ x3 : Int32, r = some (.inl x3) ∧ xk_C S1 ∧ ((x3 = (0 : Int32) → (x3 = 0 ∨ x3 = 1) ∧ (∀ S6, S6 = xm_si S1 1 a1 3 x3 → (Q none S6))) ∧ (¬ x3 = (0 : Int32) → ((xm_i S1 1 a1 3) = (0 : Int32) → ∀ S9, S9 = xm_si S1 1 a1 4 ((xm_i S1 1 a1 4) + (1 : Int32)) → (∀ S11, S11 = xm_si S9 1 a1 5 (xm_i S1 0 0 13) → ((x3 = 0 ∨ x3 = 1) ∧ (∀ S14, S14 = xm_si S11 1 a1 3 x3 → (Q none S14))))) ∧ (¬ (xm_i S1 1 a1 3) = (0 : Int32) → (x3 = 0 ∨ x3 = 1) ∧ (∀ S17, S17 = xm_si S1 1 a1 3 x3 → (Q none S17))))))) : xc (d + 1) 60 [.inr (some (0, 0)), .inr (some (1, a1))] S Q := by
  show xw _ _ _ [some (.inr (some (0, 0))), some (.inr (some (1, a1))), none] _ _ _
  refine xw.s (pc' := 1) (st' := [.inr (some (0, 0))]) rfl ?_
  refine xw.s (pc' := 2) (st' := [.inr (some (1, a1)), .inr (some (0, 0))]) rfl ?_
  refine xw.call (m := 61) (as := [.inr (some (0, 0)), .inr (some (1, a1))]) (nx := 5) (L' := [some (.inr (some (0, 0))), some (.inr (some (1, a1))), none]) (st' := []) rfl (xc.mono h ?_)
  rintro r S1 ⟨x3, rfl, hC2, h⟩
  show xw _ _ 5 [some (.inr (some (0, 0))), some (.inr (some (1, a1))), none] [.inl x3] _ _
  refine xw.s (pc' := 6) (st' := []) (L' := [some (.inr (some (0, 0))), some (.inr (some (1, a1))), some (.inl x3)]) rfl ?_
  refine xw.s (pc' := 7) (st' := [.inl x3]) rfl ?_
  refine xw.b (c := x3 = (0 : Int32)) (cd := .eq) (x := x3) (y := (0 : Int32)) 35 10 (st' := []) rfl (y_ceq _ _) h (fun c4 h => ?_) (fun c4 h => ?_)
  · skip
    refine xw.s (pc' := 36) (st' := [.inr (some (1, a1))]) rfl ?_
    refine xw.s (pc' := 37) (st' := [.inl x3, .inr (some (1, a1))]) rfl ?_
    obtain ⟨z5, h⟩ := h
    refine xw.fp (c := 1) (j := 3) (ty := 1) (nx := 40) rfl rfl (Or.inr ⟨rfl, z5⟩) ?_
    obtain ⟨S6, e7⟩ : ∃ s, s = xm_si S1 1 a1 3 x3 := ⟨_, rfl⟩
    rw [← e7]
    replace h := h S6 e7
    exact xw.ret (r := none) rfl h
  · skip
    refine xw.s (pc' := 11) (st' := [.inr (some (1, a1))]) rfl ?_
    refine xw.fi (c := 1) (j := 3) (ty := 1) (nx := 14) (v := (xm_i S1 1 a1 3)) rfl rfl rfl ?_
    refine xw.bn (c := (xm_i S1 1 a1 3) = (0 : Int32)) (cd := .ne) (x := (xm_i S1 1 a1 3)) (y := (0 : Int32)) 35 17 (st' := []) rfl (y_cne _ _) h (fun c8 h => ?_) (fun c8 h => ?_)
    · skip
      refine xw.s (pc' := 18) (st' := [.inr (some (1, a1))]) rfl ?_
      refine xw.s (pc' := 19) (st' := [.inr (some (1, a1)), .inr (some (1, a1))]) rfl ?_
      refine xw.fi (c := 1) (j := 4) (ty := 0) (nx := 22) (v := (xm_i S1 1 a1 4)) rfl rfl rfl ?_
      refine xw.s (pc' := 23) (st' := [.inl (1 : Int32), .inl (xm_i S1 1 a1 4), .inr (some (1, a1))]) rfl ?_
      refine xw.s (pc' := 24) (st' := [.inl ((xm_i S1 1 a1 4) + (1 : Int32)), .inr (some (1, a1))]) rfl ?_
      refine xw.fp (c := 1) (j := 4) (ty := 0) (nx := 27) rfl rfl (Or.inl rfl) ?_
      obtain ⟨S9, e10⟩ : ∃ s, s = xm_si S1 1 a1 4 ((xm_i S1 1 a1 4) + (1 : Int32)) := ⟨_, rfl⟩
      rw [← e10]
      replace h := h S9 e10
      refine xw.s (pc' := 28) (st' := [.inr (some (1, a1))]) rfl ?_
      refine xw.s (pc' := 29) (st' := [.inr (some (0, 0)), .inr (some (1, a1))]) rfl ?_
      refine xw.fi (c := 0) (j := 13) (ty := 0) (nx := 32) (v := (xm_i S1 0 0 13)) rfl rfl ((congrArg (fun s => xm_i s 0 0 13) e10).trans (xi_si (by decide))) ?_
      refine xw.fp (c := 1) (j := 5) (ty := 0) (nx := 35) rfl rfl (Or.inl rfl) ?_
      obtain ⟨S11, e12⟩ : ∃ s, s = xm_si S9 1 a1 5 (xm_i S1 0 0 13) := ⟨_, rfl⟩
      rw [← e12]
      replace h := h S11 e12
      refine xw.s (pc' := 36) (st' := [.inr (some (1, a1))]) rfl ?_
      refine xw.s (pc' := 37) (st' := [.inl x3, .inr (some (1, a1))]) rfl ?_
      obtain ⟨z13, h⟩ := h
      refine xw.fp (c := 1) (j := 3) (ty := 1) (nx := 40) rfl rfl (Or.inr ⟨rfl, z13⟩) ?_
      obtain ⟨S14, e15⟩ : ∃ s, s = xm_si S11 1 a1 3 x3 := ⟨_, rfl⟩
      rw [← e15]
      replace h := h S14 e15
      exact xw.ret (r := none) rfl h
    · skip
      refine xw.s (pc' := 36) (st' := [.inr (some (1, a1))]) rfl ?_
      refine xw.s (pc' := 37) (st' := [.inl x3, .inr (some (1, a1))]) rfl ?_
      obtain ⟨z16, h⟩ := h
      refine xw.fp (c := 1) (j := 3) (ty := 1) (nx := 40) rfl rfl (Or.inr ⟨rfl, z16⟩) ?_
      obtain ⟨S17, e18⟩ : ∃ s, s = xm_si S1 1 a1 3 x3 := ⟨_, rfl⟩
      rw [← e18]
      replace h := h S17 e18
      exact xw.ret (r := none) rfl h
/-- holds -/
theorem cw_holds {d : Nat} {a1 : Nat} {S : xm_S} {Q : Option xm_V → xm_S → Prop} (hC : xk_C S) (h : ((xm_i S 1 a1 1) < (0 : Int32) → ((xm_i S 1 a1 0) = (0 : Int32) → Q (some (.inl (0 : Int32))) S) ∧ (¬ (xm_i S 1 a1 0) = (0 : Int32) → ((xm_i S 1 a1 0) = (1 : Int32) → Q (some (.inl (0 : Int32))) S) ∧ (¬ (xm_i S 1 a1 0) = (1 : Int32) → ((xm_i S 1 a1 0) = (2 : Int32) → Q (some (.inl (0 : Int32))) S) ∧ (¬ (xm_i S 1 a1 0) = (2 : Int32) → xc d 62 [.inr (some (0, 0)), .inl (xm_i S 1 a1 2)] S (fun r S5 => ∃ x7 : Int32, r = some (.inl x7) ∧ xk_C S5 ∧ ((x7 = 0 ∨ x7 = 1) ∧ Q (some (.inl x7)) S5)))))) ∧ (¬ (xm_i S 1 a1 1) < (0 : Int32) → ((nI (xm_n S 1 3)) ≤ (xm_i S 1 a1 1) → ((nI (xm_n S 1 0)) ≤ (xm_i S 1 a1 1) → ((xm_i S 1 a1 0) = (0 : Int32) → Q (some (.inl (0 : Int32))) S) ∧ (¬ (xm_i S 1 a1 0) = (0 : Int32) → ((xm_i S 1 a1 0) = (1 : Int32) → Q (some (.inl (0 : Int32))) S) ∧ (¬ (xm_i S 1 a1 0) = (1 : Int32) → ((xm_i S 1 a1 0) = (2 : Int32) → Q (some (.inl (0 : Int32))) S) ∧ (¬ (xm_i S 1 a1 0) = (2 : Int32) → xc d 62 [.inr (some (0, 0)), .inl (xm_i S 1 a1 2)] S (fun r S14 => ∃ x16 : Int32, r = some (.inl x16) ∧ xk_C S14 ∧ ((x16 = 0 ∨ x16 = 1) ∧ Q (some (.inl x16)) S14)))))) ∧ (¬ (nI (xm_n S 1 0)) ≤ (xm_i S 1 a1 1) → y_in (xm_i S 1 a1 1) (xm_n S 1 0) ∧ (∃ k19, (xm_l S 0 (y_ix (xm_i S 1 a1 1))) = (9, k19) ∧ (((xm_i S 1 a1 0) = (0 : Int32) → Q (some (.inl (0 : Int32))) S) ∧ (¬ (xm_i S 1 a1 0) = (0 : Int32) → ((xm_i S 1 a1 0) = (1 : Int32) → ((xm_i S 1 a1 2) ≤ (xm_i S 9 k19 3) → Q (some (.inl (0 : Int32))) S) ∧ (¬ (xm_i S 1 a1 2) ≤ (xm_i S 9 k19 3) → Q (some (.inl (1 : Int32))) S)) ∧ (¬ (xm_i S 1 a1 0) = (1 : Int32) → ((xm_i S 1 a1 0) = (2 : Int32) → Q (some (.inl (0 : Int32))) S) ∧ (¬ (xm_i S 1 a1 0) = (2 : Int32) → xc d 62 [.inr (some (0, 0)), .inl (xm_i S 1 a1 2)] S (fun r S25 => ∃ x27 : Int32, r = some (.inl x27) ∧ xk_C S25 ∧ ((x27 = 0 ∨ x27 = 1) ∧ Q (some (.inl x27)) S25))))))))) ∧ (¬ (nI (xm_n S 1 3)) ≤ (xm_i S 1 a1 1) → y_in (xm_i S 1 a1 1) (xm_n S 1 3) ∧ (∃ k30, (xm_l S 3 (y_ix (xm_i S 1 a1 1))) = (5, k30) ∧ (((nI (xm_n S 1 0)) ≤ (xm_i S 1 a1 1) → ((xm_i S 1 a1 0) = (0 : Int32) → ((xm_i S 5 k30 6) = (1 : Int32) → Q (some (.inl (1 : Int32))) S) ∧ (¬ (xm_i S 5 k30 6) = (1 : Int32) → Q (some (.inl (0 : Int32))) S)) ∧ (¬ (xm_i S 1 a1 0) = (0 : Int32) → ((xm_i S 1 a1 0) = (1 : Int32) → Q (some (.inl (0 : Int32))) S) ∧ (¬ (xm_i S 1 a1 0) = (1 : Int32) → ((xm_i S 1 a1 0) = (2 : Int32) → ∀ t37, (xm_r S 5 k30 12) = t37 → (∃ k39, t37 = some k39 ∧ (((nI (xm_n S 1 k39)) < (xm_i S 1 a1 2) → Q (some (.inl (0 : Int32))) S) ∧ (¬ (nI (xm_n S 1 k39)) < (xm_i S 1 a1 2) → Q (some (.inl (1 : Int32))) S)))) ∧ (¬ (xm_i S 1 a1 0) = (2 : Int32) → xc d 62 [.inr (some (0, 0)), .inl (xm_i S 1 a1 2)] S (fun r S41 => ∃ x43 : Int32, r = some (.inl x43) ∧ xk_C S41 ∧ ((x43 = 0 ∨ x43 = 1) ∧ Q (some (.inl x43)) S41)))))) ∧ (¬ (nI (xm_n S 1 0)) ≤ (xm_i S 1 a1 1) → y_in (xm_i S 1 a1 1) (xm_n S 1 0) ∧ (∃ k46, (xm_l S 0 (y_ix (xm_i S 1 a1 1))) = (9, k46) ∧ (((xm_i S 1 a1 0) = (0 : Int32) → ((xm_i S 5 k30 6) = (1 : Int32) → Q (some (.inl (1 : Int32))) S) ∧ (¬ (xm_i S 5 k30 6) = (1 : Int32) → Q (some (.inl (0 : Int32))) S)) ∧ (¬ (xm_i S 1 a1 0) = (0 : Int32) → ((xm_i S 1 a1 0) = (1 : Int32) → ((xm_i S 1 a1 2) ≤ (xm_i S 9 k46 3) → Q (some (.inl (0 : Int32))) S) ∧ (¬ (xm_i S 1 a1 2) ≤ (xm_i S 9 k46 3) → Q (some (.inl (1 : Int32))) S)) ∧ (¬ (xm_i S 1 a1 0) = (1 : Int32) → ((xm_i S 1 a1 0) = (2 : Int32) → ∀ t53, (xm_r S 5 k30 12) = t53 → (∃ k55, t53 = some k55 ∧ (((nI (xm_n S 1 k55)) < (xm_i S 1 a1 2) → Q (some (.inl (0 : Int32))) S) ∧ (¬ (nI (xm_n S 1 k55)) < (xm_i S 1 a1 2) → Q (some (.inl (1 : Int32))) S)))) ∧ (¬ (xm_i S 1 a1 0) = (2 : Int32) → xc d 62 [.inr (some (0, 0)), .inl (xm_i S 1 a1 2)] S (fun r S57 => ∃ x59 : Int32, r = some (.inl x59) ∧ xk_C S57 ∧ ((x59 = 0 ∨ x59 = 1) ∧ Q (some (.inl x59)) S57))))))))))))) : xc (d + 1) 61 [.inr (some (0, 0)), .inr (some (1, a1))] S Q := by
  show xw _ _ _ [some (.inr (some (0, 0))), some (.inr (some (1, a1))), none, none] _ _ _
  refine xw.s (pc' := 1) (st' := [.inr (some (0, 0))]) rfl ?_
  refine xw.s (pc' := 2) (st' := [.inr (some (1, a1)), .inr (some (0, 0))]) rfl ?_
  refine xw.fi (c := 1) (j := 1) (ty := 0) (nx := 5) (v := (xm_i S 1 a1 1)) rfl rfl rfl ?_
  refine xw.call (m := 10) (as := [.inr (some (0, 0)), .inl (xm_i S 1 a1 1)]) (nx := 8) (L' := [some (.inr (some (0, 0))), some (.inr (some (1, a1))), none, none]) (st' := []) rfl ?_
  show xw _ _ _ [some (.inr (some (0, 0))), some (.inl (xm_i S 1 a1 1))] [] _ _
  refine xw.s (pc' := 1) (st' := [.inl (xm_i S 1 a1 1)]) rfl ?_
  refine xw.b (c := (xm_i S 1 a1 1) < (0 : Int32)) (cd := .lt) (x := (xm_i S 1 a1 1)) (y := (0 : Int32)) 29 4 (st' := []) rfl (y_clt _ _) h (fun c1 h => ?_) (fun c1 h => ?_)
  · skip
    refine xw.s (pc' := 30) (st' := [.inr none]) rfl ?_
    refine xw.ret (r := some (.inr none)) rfl ?_
    show xw _ _ 8 [some (.inr (some (0, 0))), some (.inr (some (1, a1))), none, none] [.inr none] S _
    refine xw.s (pc' := 9) (st' := []) (L' := [some (.inr (some (0, 0))), some (.inr (some (1, a1))), some (.inr none), none]) rfl ?_
    refine xw.s (pc' := 10) (st' := [.inr (some (0, 0))]) rfl ?_
    refine xw.s (pc' := 11) (st' := [.inr (some (1, a1)), .inr (some (0, 0))]) rfl ?_
    refine xw.fi (c := 1) (j := 1) (ty := 0) (nx := 14) (v := (xm_i S 1 a1 1)) rfl rfl rfl ?_
    refine xw.call (m := 4) (as := [.inr (some (0, 0)), .inl (xm_i S 1 a1 1)]) (nx := 17) (L' := [some (.inr (some (0, 0))), some (.inr (some (1, a1))), some (.inr none), none]) (st' := []) rfl ?_
    show xw _ _ _ [some (.inr (some (0, 0))), some (.inl (xm_i S 1 a1 1))] [] _ _
    refine xw.s (pc' := 1) (st' := [.inl (xm_i S 1 a1 1)]) rfl ?_
    refine xw.bt (cd := .lt) (x := (xm_i S 1 a1 1)) (y := (0 : Int32)) 29 4 (st' := []) rfl (y_clt _ _) c1 ?_
    refine xw.s (pc' := 30) (st' := [.inr none]) rfl ?_
    refine xw.ret (r := some (.inr none)) rfl ?_
    show xw _ _ 17 [some (.inr (some (0, 0))), some (.inr (some (1, a1))), some (.inr none), none] [.inr none] S _
    refine xw.s (pc' := 18) (st' := []) (L' := [some (.inr (some (0, 0))), some (.inr (some (1, a1))), some (.inr none), some (.inr none)]) rfl ?_
    refine xw.s (pc' := 19) (st' := [.inr (some (1, a1))]) rfl ?_
    refine xw.fi (c := 1) (j := 0) (ty := 0) (nx := 22) (v := (xm_i S 1 a1 0)) rfl rfl rfl ?_
    refine xw.ts1 rfl rfl ?_
    refine xw.bw (0 : Int32) rfl h (fun c2 h => ?_) (fun c2 h => ?_)
    · skip
      refine xw.s (pc' := 49) (st' := [.inr none]) rfl ?_
      refine xw.s (pc' := 64) (st' := []) rfl ?_
      refine xw.s (pc' := 65) (st' := [.inl (0 : Int32)]) rfl ?_
      exact xw.retz (nx := 66) rfl (Or.inl rfl) h
    · skip
      refine xw.bw (1 : Int32) rfl h (fun c3 h => ?_) (fun c3 h => ?_)
      · skip
        refine xw.s (pc' := 67) (st' := [.inr none]) rfl ?_
        refine xw.s (pc' := 85) (st' := []) rfl ?_
        refine xw.s (pc' := 86) (st' := [.inl (0 : Int32)]) rfl ?_
        exact xw.retz (nx := 87) rfl (Or.inl rfl) h
      · skip
        refine xw.bw (2 : Int32) rfl h (fun c4 h => ?_) (fun c4 h => ?_)
        · skip
          refine xw.s (pc' := 88) (st' := [.inr none]) rfl ?_
          refine xw.s (pc' := 109) (st' := []) rfl ?_
          refine xw.s (pc' := 110) (st' := [.inl (0 : Int32)]) rfl ?_
          exact xw.retz (nx := 111) rfl (Or.inl rfl) h
        · skip
          refine xw.s (pc' := 112) (st' := [.inr (some (0, 0))]) rfl ?_
          refine xw.s (pc' := 113) (st' := [.inr (some (1, a1)), .inr (some (0, 0))]) rfl ?_
          refine xw.fi (c := 1) (j := 2) (ty := 0) (nx := 116) (v := (xm_i S 1 a1 2)) rfl rfl rfl ?_
          refine xw.call (m := 62) (as := [.inr (some (0, 0)), .inl (xm_i S 1 a1 2)]) (nx := 119) (L' := [some (.inr (some (0, 0))), some (.inr (some (1, a1))), some (.inr none), some (.inr none)]) (st' := []) rfl (xc.mono h ?_)
          rintro r S5 ⟨x7, rfl, hC6, h⟩
          show xw _ _ 119 [some (.inr (some (0, 0))), some (.inr (some (1, a1))), some (.inr none), some (.inr none)] [.inl x7] _ _
          exact xw.retz (nx := 120) rfl h.1 h.2
  · skip
    refine xw.s (pc' := 5) (st' := [.inl (xm_i S 1 a1 1)]) rfl ?_
    refine xw.s (pc' := 6) (st' := [.inr (some (0, 0)), .inl (xm_i S 1 a1 1)]) rfl ?_
    refine xw.fr (c := 0) (j := 3) (e := 12) (nx := 9) (t := (some 3)) rfl rfl (hC 3 (by decide)) ?_
    show xw _ _ _ [some (.inr (some (0, 0))), some (.inl (xm_i S 1 a1 1))] [.inr (some (12, 3)), .inl (xm_i S 1 a1 1)] _ _
    refine xw.lsz (nx := 12) (n := (xm_n S 1 3)) rfl (Nat.le_of_ble_eq_true rfl) rfl ?_
    refine xw.b (c := (nI (xm_n S 1 3)) ≤ (xm_i S 1 a1 1)) (cd := .ge) (x := (xm_i S 1 a1 1)) (y := (nI (xm_n S 1 3))) 29 15 (st' := []) rfl (y_cge _ _) h (fun c9 h => ?_) (fun c9 h => ?_)
    · skip
      refine xw.s (pc' := 30) (st' := [.inr none]) rfl ?_
      refine xw.ret (r := some (.inr none)) rfl ?_
      show xw _ _ 8 [some (.inr (some (0, 0))), some (.inr (some (1, a1))), none, none] [.inr none] S _
      refine xw.s (pc' := 9) (st' := []) (L' := [some (.inr (some (0, 0))), some (.inr (some (1, a1))), some (.inr none), none]) rfl ?_
      refine xw.s (pc' := 10) (st' := [.inr (some (0, 0))]) rfl ?_
      refine xw.s (pc' := 11) (st' := [.inr (some (1, a1)), .inr (some (0, 0))]) rfl ?_
      refine xw.fi (c := 1) (j := 1) (ty := 0) (nx := 14) (v := (xm_i S 1 a1 1)) rfl rfl rfl ?_
      refine xw.call (m := 4) (as := [.inr (some (0, 0)), .inl (xm_i S 1 a1 1)]) (nx := 17) (L' := [some (.inr (some (0, 0))), some (.inr (some (1, a1))), some (.inr none), none]) (st' := []) rfl ?_
      show xw _ _ _ [some (.inr (some (0, 0))), some (.inl (xm_i S 1 a1 1))] [] _ _
      refine xw.s (pc' := 1) (st' := [.inl (xm_i S 1 a1 1)]) rfl ?_
      refine xw.bf (cd := .lt) (x := (xm_i S 1 a1 1)) (y := (0 : Int32)) 29 4 (st' := []) rfl (y_clt _ _) c1 ?_
      refine xw.s (pc' := 5) (st' := [.inl (xm_i S 1 a1 1)]) rfl ?_
      refine xw.s (pc' := 6) (st' := [.inr (some (0, 0)), .inl (xm_i S 1 a1 1)]) rfl ?_
      refine xw.fr (c := 0) (j := 0) (e := 12) (nx := 9) (t := (some 0)) rfl rfl (hC 0 (by decide)) ?_
      show xw _ _ _ [some (.inr (some (0, 0))), some (.inl (xm_i S 1 a1 1))] [.inr (some (12, 0)), .inl (xm_i S 1 a1 1)] _ _
      refine xw.lsz (nx := 12) (n := (xm_n S 1 0)) rfl (Nat.le_of_ble_eq_true rfl) rfl ?_
      refine xw.b (c := (nI (xm_n S 1 0)) ≤ (xm_i S 1 a1 1)) (cd := .ge) (x := (xm_i S 1 a1 1)) (y := (nI (xm_n S 1 0))) 29 15 (st' := []) rfl (y_cge _ _) h (fun c10 h => ?_) (fun c10 h => ?_)
      · skip
        refine xw.s (pc' := 30) (st' := [.inr none]) rfl ?_
        refine xw.ret (r := some (.inr none)) rfl ?_
        show xw _ _ 17 [some (.inr (some (0, 0))), some (.inr (some (1, a1))), some (.inr none), none] [.inr none] S _
        refine xw.s (pc' := 18) (st' := []) (L' := [some (.inr (some (0, 0))), some (.inr (some (1, a1))), some (.inr none), some (.inr none)]) rfl ?_
        refine xw.s (pc' := 19) (st' := [.inr (some (1, a1))]) rfl ?_
        refine xw.fi (c := 1) (j := 0) (ty := 0) (nx := 22) (v := (xm_i S 1 a1 0)) rfl rfl rfl ?_
        refine xw.ts1 rfl rfl ?_
        refine xw.bw (0 : Int32) rfl h (fun c11 h => ?_) (fun c11 h => ?_)
        · skip
          refine xw.s (pc' := 49) (st' := [.inr none]) rfl ?_
          refine xw.s (pc' := 64) (st' := []) rfl ?_
          refine xw.s (pc' := 65) (st' := [.inl (0 : Int32)]) rfl ?_
          exact xw.retz (nx := 66) rfl (Or.inl rfl) h
        · skip
          refine xw.bw (1 : Int32) rfl h (fun c12 h => ?_) (fun c12 h => ?_)
          · skip
            refine xw.s (pc' := 67) (st' := [.inr none]) rfl ?_
            refine xw.s (pc' := 85) (st' := []) rfl ?_
            refine xw.s (pc' := 86) (st' := [.inl (0 : Int32)]) rfl ?_
            exact xw.retz (nx := 87) rfl (Or.inl rfl) h
          · skip
            refine xw.bw (2 : Int32) rfl h (fun c13 h => ?_) (fun c13 h => ?_)
            · skip
              refine xw.s (pc' := 88) (st' := [.inr none]) rfl ?_
              refine xw.s (pc' := 109) (st' := []) rfl ?_
              refine xw.s (pc' := 110) (st' := [.inl (0 : Int32)]) rfl ?_
              exact xw.retz (nx := 111) rfl (Or.inl rfl) h
            · skip
              refine xw.s (pc' := 112) (st' := [.inr (some (0, 0))]) rfl ?_
              refine xw.s (pc' := 113) (st' := [.inr (some (1, a1)), .inr (some (0, 0))]) rfl ?_
              refine xw.fi (c := 1) (j := 2) (ty := 0) (nx := 116) (v := (xm_i S 1 a1 2)) rfl rfl rfl ?_
              refine xw.call (m := 62) (as := [.inr (some (0, 0)), .inl (xm_i S 1 a1 2)]) (nx := 119) (L' := [some (.inr (some (0, 0))), some (.inr (some (1, a1))), some (.inr none), some (.inr none)]) (st' := []) rfl (xc.mono h ?_)
              rintro r S14 ⟨x16, rfl, hC15, h⟩
              show xw _ _ 119 [some (.inr (some (0, 0))), some (.inr (some (1, a1))), some (.inr none), some (.inr none)] [.inl x16] _ _
              exact xw.retz (nx := 120) rfl h.1 h.2
      · skip
        refine xw.s (pc' := 16) (st' := [.inr (some (0, 0))]) rfl ?_
        refine xw.fr (c := 0) (j := 0) (e := 12) (nx := 19) (t := (some 0)) rfl rfl (hC 0 (by decide)) ?_
        show xw _ _ _ [some (.inr (some (0, 0))), some (.inl (xm_i S 1 a1 1))] [.inr (some (12, 0))] _ _
        refine xw.s (pc' := 20) (st' := [.inl (xm_i S 1 a1 1), .inr (some (12, 0))]) rfl ?_
        obtain ⟨z18, h⟩ := h
        obtain ⟨k19, q20, h⟩ := h
        refine xw.get (nx := 23) (p := (9, k19)) rfl (Nat.le_of_ble_eq_true rfl) z18 q20 ?_
        refine xw.s (pc' := 26) (st' := [.inr (some (9, k19))]) rfl ?_
        refine xw.s (pc' := 30) (st' := [.inr (some (9, k19))]) rfl ?_
        refine xw.ret (r := some (.inr (some (9, k19)))) rfl ?_
        show xw _ _ 17 [some (.inr (some (0, 0))), some (.inr (some (1, a1))), some (.inr none), none] [.inr (some (9, k19))] S _
        refine xw.s (pc' := 18) (st' := []) (L' := [some (.inr (some (0, 0))), some (.inr (some (1, a1))), some (.inr none), some (.inr (some (9, k19)))]) rfl ?_
        refine xw.s (pc' := 19) (st' := [.inr (some (1, a1))]) rfl ?_
        refine xw.fi (c := 1) (j := 0) (ty := 0) (nx := 22) (v := (xm_i S 1 a1 0)) rfl rfl rfl ?_
        refine xw.ts1 rfl rfl ?_
        refine xw.bw (0 : Int32) rfl h (fun c21 h => ?_) (fun c21 h => ?_)
        · skip
          refine xw.s (pc' := 49) (st' := [.inr none]) rfl ?_
          refine xw.s (pc' := 64) (st' := []) rfl ?_
          refine xw.s (pc' := 65) (st' := [.inl (0 : Int32)]) rfl ?_
          exact xw.retz (nx := 66) rfl (Or.inl rfl) h
        · skip
          refine xw.bw (1 : Int32) rfl h (fun c22 h => ?_) (fun c22 h => ?_)
          · skip
            refine xw.s (pc' := 67) (st' := [.inr (some (9, k19))]) rfl ?_
            refine xw.s (pc' := 70) (st' := []) rfl ?_
            refine xw.s (pc' := 71) (st' := [.inr (some (9, k19))]) rfl ?_
            refine xw.fi (c := 9) (j := 3) (ty := 0) (nx := 74) (v := (xm_i S 9 k19 3)) rfl rfl rfl ?_
            refine xw.s (pc' := 75) (st' := [.inr (some (1, a1)), .inl (xm_i S 9 k19 3)]) rfl ?_
            refine xw.fi (c := 1) (j := 2) (ty := 0) (nx := 78) (v := (xm_i S 1 a1 2)) rfl rfl rfl ?_
            refine xw.b (c := (xm_i S 1 a1 2) ≤ (xm_i S 9 k19 3)) (cd := .ge) (x := (xm_i S 9 k19 3)) (y := (xm_i S 1 a1 2)) 85 81 (st' := []) rfl (y_cge _ _) h (fun c23 h => ?_) (fun c23 h => ?_)
            · skip
              refine xw.s (pc' := 86) (st' := [.inl (0 : Int32)]) rfl ?_
              exact xw.retz (nx := 87) rfl (Or.inl rfl) h
            · skip
              refine xw.s (pc' := 82) (st' := [.inl (1 : Int32)]) rfl ?_
              refine xw.s (pc' := 86) (st' := [.inl (1 : Int32)]) rfl ?_
              exact xw.retz (nx := 87) rfl (Or.inr rfl) h
          · skip
            refine xw.bw (2 : Int32) rfl h (fun c24 h => ?_) (fun c24 h => ?_)
            · skip
              refine xw.s (pc' := 88) (st' := [.inr none]) rfl ?_
              refine xw.s (pc' := 109) (st' := []) rfl ?_
              refine xw.s (pc' := 110) (st' := [.inl (0 : Int32)]) rfl ?_
              exact xw.retz (nx := 111) rfl (Or.inl rfl) h
            · skip
              refine xw.s (pc' := 112) (st' := [.inr (some (0, 0))]) rfl ?_
              refine xw.s (pc' := 113) (st' := [.inr (some (1, a1)), .inr (some (0, 0))]) rfl ?_
              refine xw.fi (c := 1) (j := 2) (ty := 0) (nx := 116) (v := (xm_i S 1 a1 2)) rfl rfl rfl ?_
              refine xw.call (m := 62) (as := [.inr (some (0, 0)), .inl (xm_i S 1 a1 2)]) (nx := 119) (L' := [some (.inr (some (0, 0))), some (.inr (some (1, a1))), some (.inr none), some (.inr (some (9, k19)))]) (st' := []) rfl (xc.mono h ?_)
              rintro r S25 ⟨x27, rfl, hC26, h⟩
              show xw _ _ 119 [some (.inr (some (0, 0))), some (.inr (some (1, a1))), some (.inr none), some (.inr (some (9, k19)))] [.inl x27] _ _
              exact xw.retz (nx := 120) rfl h.1 h.2
    · skip
      refine xw.s (pc' := 16) (st' := [.inr (some (0, 0))]) rfl ?_
      refine xw.fr (c := 0) (j := 3) (e := 12) (nx := 19) (t := (some 3)) rfl rfl (hC 3 (by decide)) ?_
      show xw _ _ _ [some (.inr (some (0, 0))), some (.inl (xm_i S 1 a1 1))] [.inr (some (12, 3))] _ _
      refine xw.s (pc' := 20) (st' := [.inl (xm_i S 1 a1 1), .inr (some (12, 3))]) rfl ?_
      obtain ⟨z29, h⟩ := h
      obtain ⟨k30, q31, h⟩ := h
      refine xw.get (nx := 23) (p := (5, k30)) rfl (Nat.le_of_ble_eq_true rfl) z29 q31 ?_
      refine xw.s (pc' := 26) (st' := [.inr (some (5, k30))]) rfl ?_
      refine xw.s (pc' := 30) (st' := [.inr (some (5, k30))]) rfl ?_
      refine xw.ret (r := some (.inr (some (5, k30)))) rfl ?_
      show xw _ _ 8 [some (.inr (some (0, 0))), some (.inr (some (1, a1))), none, none] [.inr (some (5, k30))] S _
      refine xw.s (pc' := 9) (st' := []) (L' := [some (.inr (some (0, 0))), some (.inr (some (1, a1))), some (.inr (some (5, k30))), none]) rfl ?_
      refine xw.s (pc' := 10) (st' := [.inr (some (0, 0))]) rfl ?_
      refine xw.s (pc' := 11) (st' := [.inr (some (1, a1)), .inr (some (0, 0))]) rfl ?_
      refine xw.fi (c := 1) (j := 1) (ty := 0) (nx := 14) (v := (xm_i S 1 a1 1)) rfl rfl rfl ?_
      refine xw.call (m := 4) (as := [.inr (some (0, 0)), .inl (xm_i S 1 a1 1)]) (nx := 17) (L' := [some (.inr (some (0, 0))), some (.inr (some (1, a1))), some (.inr (some (5, k30))), none]) (st' := []) rfl ?_
      show xw _ _ _ [some (.inr (some (0, 0))), some (.inl (xm_i S 1 a1 1))] [] _ _
      refine xw.s (pc' := 1) (st' := [.inl (xm_i S 1 a1 1)]) rfl ?_
      refine xw.bf (cd := .lt) (x := (xm_i S 1 a1 1)) (y := (0 : Int32)) 29 4 (st' := []) rfl (y_clt _ _) c1 ?_
      refine xw.s (pc' := 5) (st' := [.inl (xm_i S 1 a1 1)]) rfl ?_
      refine xw.s (pc' := 6) (st' := [.inr (some (0, 0)), .inl (xm_i S 1 a1 1)]) rfl ?_
      refine xw.fr (c := 0) (j := 0) (e := 12) (nx := 9) (t := (some 0)) rfl rfl (hC 0 (by decide)) ?_
      show xw _ _ _ [some (.inr (some (0, 0))), some (.inl (xm_i S 1 a1 1))] [.inr (some (12, 0)), .inl (xm_i S 1 a1 1)] _ _
      refine xw.lsz (nx := 12) (n := (xm_n S 1 0)) rfl (Nat.le_of_ble_eq_true rfl) rfl ?_
      refine xw.b (c := (nI (xm_n S 1 0)) ≤ (xm_i S 1 a1 1)) (cd := .ge) (x := (xm_i S 1 a1 1)) (y := (nI (xm_n S 1 0))) 29 15 (st' := []) rfl (y_cge _ _) h (fun c32 h => ?_) (fun c32 h => ?_)
      · skip
        refine xw.s (pc' := 30) (st' := [.inr none]) rfl ?_
        refine xw.ret (r := some (.inr none)) rfl ?_
        show xw _ _ 17 [some (.inr (some (0, 0))), some (.inr (some (1, a1))), some (.inr (some (5, k30))), none] [.inr none] S _
        refine xw.s (pc' := 18) (st' := []) (L' := [some (.inr (some (0, 0))), some (.inr (some (1, a1))), some (.inr (some (5, k30))), some (.inr none)]) rfl ?_
        refine xw.s (pc' := 19) (st' := [.inr (some (1, a1))]) rfl ?_
        refine xw.fi (c := 1) (j := 0) (ty := 0) (nx := 22) (v := (xm_i S 1 a1 0)) rfl rfl rfl ?_
        refine xw.ts1 rfl rfl ?_
        refine xw.bw (0 : Int32) rfl h (fun c33 h => ?_) (fun c33 h => ?_)
        · skip
          refine xw.s (pc' := 49) (st' := [.inr (some (5, k30))]) rfl ?_
          refine xw.s (pc' := 52) (st' := []) rfl ?_
          refine xw.s (pc' := 53) (st' := [.inr (some (5, k30))]) rfl ?_
          refine xw.fi (c := 5) (j := 6) (ty := 0) (nx := 56) (v := (xm_i S 5 k30 6)) rfl rfl rfl ?_
          refine xw.s (pc' := 57) (st' := [.inl (1 : Int32), .inl (xm_i S 5 k30 6)]) rfl ?_
          refine xw.bn (c := (xm_i S 5 k30 6) = (1 : Int32)) (cd := .ne) (x := (xm_i S 5 k30 6)) (y := (1 : Int32)) 64 60 (st' := []) rfl (y_cne _ _) h (fun c34 h => ?_) (fun c34 h => ?_)
          · skip
            refine xw.s (pc' := 61) (st' := [.inl (1 : Int32)]) rfl ?_
            refine xw.s (pc' := 65) (st' := [.inl (1 : Int32)]) rfl ?_
            exact xw.retz (nx := 66) rfl (Or.inr rfl) h
          · skip
            refine xw.s (pc' := 65) (st' := [.inl (0 : Int32)]) rfl ?_
            exact xw.retz (nx := 66) rfl (Or.inl rfl) h
        · skip
          refine xw.bw (1 : Int32) rfl h (fun c35 h => ?_) (fun c35 h => ?_)
          · skip
            refine xw.s (pc' := 67) (st' := [.inr none]) rfl ?_
            refine xw.s (pc' := 85) (st' := []) rfl ?_
            refine xw.s (pc' := 86) (st' := [.inl (0 : Int32)]) rfl ?_
            exact xw.retz (nx := 87) rfl (Or.inl rfl) h
          · skip
            refine xw.bw (2 : Int32) rfl h (fun c36 h => ?_) (fun c36 h => ?_)
            · skip
              refine xw.s (pc' := 88) (st' := [.inr (some (5, k30))]) rfl ?_
              refine xw.s (pc' := 91) (st' := []) rfl ?_
              refine xw.s (pc' := 92) (st' := [.inr (some (5, k30))]) rfl ?_
              obtain ⟨t37, q38⟩ : ∃ t, (xm_r S 5 k30 12) = t := ⟨_, rfl⟩
              replace h := h t37 q38
              refine xw.fr (c := 5) (j := 12) (e := 12) (nx := 95) (t := t37) rfl rfl q38 ?_
              show xw _ _ _ [some (.inr (some (0, 0))), some (.inr (some (1, a1))), some (.inr (some (5, k30))), some (.inr none)] [.inr (xo 12 t37)] _ _
              obtain ⟨k39, rfl, h⟩ := h
              refine xw.lsz (nx := 98) (n := (xm_n S 1 k39)) rfl (Nat.le_of_ble_eq_true rfl) rfl ?_
              refine xw.s (pc' := 99) (st' := [.inr (some (1, a1)), .inl (nI (xm_n S 1 k39))]) rfl ?_
              refine xw.fi (c := 1) (j := 2) (ty := 0) (nx := 102) (v := (xm_i S 1 a1 2)) rfl rfl rfl ?_
              refine xw.b (c := (nI (xm_n S 1 k39)) < (xm_i S 1 a1 2)) (cd := .lt) (x := (nI (xm_n S 1 k39))) (y := (xm_i S 1 a1 2)) 109 105 (st' := []) rfl (y_clt _ _) h (fun c40 h => ?_) (fun c40 h => ?_)
              · skip
                refine xw.s (pc' := 110) (st' := [.inl (0 : Int32)]) rfl ?_
                exact xw.retz (nx := 111) rfl (Or.inl rfl) h
              · skip
                refine xw.s (pc' := 106) (st' := [.inl (1 : Int32)]) rfl ?_
                refine xw.s (pc' := 110) (st' := [.inl (1 : Int32)]) rfl ?_
                exact xw.retz (nx := 111) rfl (Or.inr rfl) h
            · skip
              refine xw.s (pc' := 112) (st' := [.inr (some (0, 0))]) rfl ?_
              refine xw.s (pc' := 113) (st' := [.inr (some (1, a1)), .inr (some (0, 0))]) rfl ?_
              refine xw.fi (c := 1) (j := 2) (ty := 0) (nx := 116) (v := (xm_i S 1 a1 2)) rfl rfl rfl ?_
              refine xw.call (m := 62) (as := [.inr (some (0, 0)), .inl (xm_i S 1 a1 2)]) (nx := 119) (L' := [some (.inr (some (0, 0))), some (.inr (some (1, a1))), some (.inr (some (5, k30))), some (.inr none)]) (st' := []) rfl (xc.mono h ?_)
              rintro r S41 ⟨x43, rfl, hC42, h⟩
              show xw _ _ 119 [some (.inr (some (0, 0))), some (.inr (some (1, a1))), some (.inr (some (5, k30))), some (.inr none)] [.inl x43] _ _
              exact xw.retz (nx := 120) rfl h.1 h.2
      · skip
        refine xw.s (pc' := 16) (st' := [.inr (some (0, 0))]) rfl ?_
        refine xw.fr (c := 0) (j := 0) (e := 12) (nx := 19) (t := (some 0)) rfl rfl (hC 0 (by decide)) ?_
        show xw _ _ _ [some (.inr (some (0, 0))), some (.inl (xm_i S 1 a1 1))] [.inr (some (12, 0))] _ _
        refine xw.s (pc' := 20) (st' := [.inl (xm_i S 1 a1 1), .inr (some (12, 0))]) rfl ?_
        obtain ⟨z45, h⟩ := h
        obtain ⟨k46, q47, h⟩ := h
        refine xw.get (nx := 23) (p := (9, k46)) rfl (Nat.le_of_ble_eq_true rfl) z45 q47 ?_
        refine xw.s (pc' := 26) (st' := [.inr (some (9, k46))]) rfl ?_
        refine xw.s (pc' := 30) (st' := [.inr (some (9, k46))]) rfl ?_
        refine xw.ret (r := some (.inr (some (9, k46)))) rfl ?_
        show xw _ _ 17 [some (.inr (some (0, 0))), some (.inr (some (1, a1))), some (.inr (some (5, k30))), none] [.inr (some (9, k46))] S _
        refine xw.s (pc' := 18) (st' := []) (L' := [some (.inr (some (0, 0))), some (.inr (some (1, a1))), some (.inr (some (5, k30))), some (.inr (some (9, k46)))]) rfl ?_
        refine xw.s (pc' := 19) (st' := [.inr (some (1, a1))]) rfl ?_
        refine xw.fi (c := 1) (j := 0) (ty := 0) (nx := 22) (v := (xm_i S 1 a1 0)) rfl rfl rfl ?_
        refine xw.ts1 rfl rfl ?_
        refine xw.bw (0 : Int32) rfl h (fun c48 h => ?_) (fun c48 h => ?_)
        · skip
          refine xw.s (pc' := 49) (st' := [.inr (some (5, k30))]) rfl ?_
          refine xw.s (pc' := 52) (st' := []) rfl ?_
          refine xw.s (pc' := 53) (st' := [.inr (some (5, k30))]) rfl ?_
          refine xw.fi (c := 5) (j := 6) (ty := 0) (nx := 56) (v := (xm_i S 5 k30 6)) rfl rfl rfl ?_
          refine xw.s (pc' := 57) (st' := [.inl (1 : Int32), .inl (xm_i S 5 k30 6)]) rfl ?_
          refine xw.bn (c := (xm_i S 5 k30 6) = (1 : Int32)) (cd := .ne) (x := (xm_i S 5 k30 6)) (y := (1 : Int32)) 64 60 (st' := []) rfl (y_cne _ _) h (fun c49 h => ?_) (fun c49 h => ?_)
          · skip
            refine xw.s (pc' := 61) (st' := [.inl (1 : Int32)]) rfl ?_
            refine xw.s (pc' := 65) (st' := [.inl (1 : Int32)]) rfl ?_
            exact xw.retz (nx := 66) rfl (Or.inr rfl) h
          · skip
            refine xw.s (pc' := 65) (st' := [.inl (0 : Int32)]) rfl ?_
            exact xw.retz (nx := 66) rfl (Or.inl rfl) h
        · skip
          refine xw.bw (1 : Int32) rfl h (fun c50 h => ?_) (fun c50 h => ?_)
          · skip
            refine xw.s (pc' := 67) (st' := [.inr (some (9, k46))]) rfl ?_
            refine xw.s (pc' := 70) (st' := []) rfl ?_
            refine xw.s (pc' := 71) (st' := [.inr (some (9, k46))]) rfl ?_
            refine xw.fi (c := 9) (j := 3) (ty := 0) (nx := 74) (v := (xm_i S 9 k46 3)) rfl rfl rfl ?_
            refine xw.s (pc' := 75) (st' := [.inr (some (1, a1)), .inl (xm_i S 9 k46 3)]) rfl ?_
            refine xw.fi (c := 1) (j := 2) (ty := 0) (nx := 78) (v := (xm_i S 1 a1 2)) rfl rfl rfl ?_
            refine xw.b (c := (xm_i S 1 a1 2) ≤ (xm_i S 9 k46 3)) (cd := .ge) (x := (xm_i S 9 k46 3)) (y := (xm_i S 1 a1 2)) 85 81 (st' := []) rfl (y_cge _ _) h (fun c51 h => ?_) (fun c51 h => ?_)
            · skip
              refine xw.s (pc' := 86) (st' := [.inl (0 : Int32)]) rfl ?_
              exact xw.retz (nx := 87) rfl (Or.inl rfl) h
            · skip
              refine xw.s (pc' := 82) (st' := [.inl (1 : Int32)]) rfl ?_
              refine xw.s (pc' := 86) (st' := [.inl (1 : Int32)]) rfl ?_
              exact xw.retz (nx := 87) rfl (Or.inr rfl) h
          · skip
            refine xw.bw (2 : Int32) rfl h (fun c52 h => ?_) (fun c52 h => ?_)
            · skip
              refine xw.s (pc' := 88) (st' := [.inr (some (5, k30))]) rfl ?_
              refine xw.s (pc' := 91) (st' := []) rfl ?_
              refine xw.s (pc' := 92) (st' := [.inr (some (5, k30))]) rfl ?_
              obtain ⟨t53, q54⟩ : ∃ t, (xm_r S 5 k30 12) = t := ⟨_, rfl⟩
              replace h := h t53 q54
              refine xw.fr (c := 5) (j := 12) (e := 12) (nx := 95) (t := t53) rfl rfl q54 ?_
              show xw _ _ _ [some (.inr (some (0, 0))), some (.inr (some (1, a1))), some (.inr (some (5, k30))), some (.inr (some (9, k46)))] [.inr (xo 12 t53)] _ _
              obtain ⟨k55, rfl, h⟩ := h
              refine xw.lsz (nx := 98) (n := (xm_n S 1 k55)) rfl (Nat.le_of_ble_eq_true rfl) rfl ?_
              refine xw.s (pc' := 99) (st' := [.inr (some (1, a1)), .inl (nI (xm_n S 1 k55))]) rfl ?_
              refine xw.fi (c := 1) (j := 2) (ty := 0) (nx := 102) (v := (xm_i S 1 a1 2)) rfl rfl rfl ?_
              refine xw.b (c := (nI (xm_n S 1 k55)) < (xm_i S 1 a1 2)) (cd := .lt) (x := (nI (xm_n S 1 k55))) (y := (xm_i S 1 a1 2)) 109 105 (st' := []) rfl (y_clt _ _) h (fun c56 h => ?_) (fun c56 h => ?_)
              · skip
                refine xw.s (pc' := 110) (st' := [.inl (0 : Int32)]) rfl ?_
                exact xw.retz (nx := 111) rfl (Or.inl rfl) h
              · skip
                refine xw.s (pc' := 106) (st' := [.inl (1 : Int32)]) rfl ?_
                refine xw.s (pc' := 110) (st' := [.inl (1 : Int32)]) rfl ?_
                exact xw.retz (nx := 111) rfl (Or.inr rfl) h
            · skip
              refine xw.s (pc' := 112) (st' := [.inr (some (0, 0))]) rfl ?_
              refine xw.s (pc' := 113) (st' := [.inr (some (1, a1)), .inr (some (0, 0))]) rfl ?_
              refine xw.fi (c := 1) (j := 2) (ty := 0) (nx := 116) (v := (xm_i S 1 a1 2)) rfl rfl rfl ?_
              refine xw.call (m := 62) (as := [.inr (some (0, 0)), .inl (xm_i S 1 a1 2)]) (nx := 119) (L' := [some (.inr (some (0, 0))), some (.inr (some (1, a1))), some (.inr (some (5, k30))), some (.inr (some (9, k46)))]) (st' := []) rfl (xc.mono h ?_)
              rintro r S57 ⟨x59, rfl, hC58, h⟩
              show xw _ _ 119 [some (.inr (some (0, 0))), some (.inr (some (1, a1))), some (.inr (some (5, k30))), some (.inr (some (9, k46)))] [.inl x59] _ _
              exact xw.retz (nx := 120) rfl h.1 h.2
/-- someOrderLasts -/
theorem cw_someOrderLasts {d : Nat} {a1 : Int32} {S : xm_S} {Q : Option xm_V → xm_S → Prop} (hC : xk_C S) (h : xw (d + 1) 62 2 [some (.inr (some (0, 0))), some (.inl a1), some (.inl (0 : Int32)), none] [] S Q) : xc (d + 1) 62 [.inr (some (0, 0)), .inl a1] S Q := by
  show xw _ _ _ [some (.inr (some (0, 0))), some (.inl a1), none, none] _ _ _
  refine xw.s (pc' := 1) (st' := [.inl (0 : Int32)]) rfl ?_
  refine xw.s (pc' := 2) (st' := []) (L' := [some (.inr (some (0, 0))), some (.inl a1), some (.inl (0 : Int32)), none]) rfl ?_
  exact h
theorem cw_someOrderLasts_2 {d : Nat} {l1 : Int32} {l2 : Int32} {u3 : Option xm_V} {S : xm_S} {Q : Option xm_V → xm_S → Prop} (hC : xk_C S) (h : ((nI (xm_n S 1 5)) ≤ l2 → Q (some (.inl (0 : Int32))) S) ∧ (¬ (nI (xm_n S 1 5)) ≤ l2 → y_in l2 (xm_n S 1 5) ∧ (∃ k3, (xm_l S 5 (y_ix l2)) = (6, k3) ∧ (∀ t5, (xm_r S 6 k3 6) = t5 → ((t5 = none → xw (d + 1) 62 2 [some (.inr (some (0, 0))), some (.inl l1), some (.inl (l2 + (1 : Int32))), some (.inr (some (6, k3)))] [] S Q) ∧ (∀ k7, t5 = some k7 → ((xm_i S 2 k7 8) = (0 : Int32) → (((xm_i S 0 0 13) - (xm_i S 2 k7 5)) ≤ l1 → xw (d + 1) 62 2 [some (.inr (some (0, 0))), some (.inl l1), some (.inl (l2 + (1 : Int32))), some (.inr (some (6, k3)))] [] S Q) ∧ (¬ ((xm_i S 0 0 13) - (xm_i S 2 k7 5)) ≤ l1 → Q (some (.inl (1 : Int32))) S)) ∧ (¬ (xm_i S 2 k7 8) = (0 : Int32) → xw (d + 1) 62 2 [some (.inr (some (0, 0))), some (.inl l1), some (.inl (l2 + (1 : Int32))), some (.inr (some (6, k3)))] [] S Q))))))) : xw (d + 1) 62 2 [some (.inr (some (0, 0))), some (.inl l1), some (.inl l2), u3] [] S Q := by
  refine xw.s (pc' := 3) (st' := [.inl l2]) rfl ?_
  refine xw.s (pc' := 4) (st' := [.inr (some (0, 0)), .inl l2]) rfl ?_
  refine xw.fr (c := 0) (j := 5) (e := 12) (nx := 7) (t := (some 5)) rfl rfl (hC 5 (by decide)) ?_
  show xw _ _ _ [some (.inr (some (0, 0))), some (.inl l1), some (.inl l2), u3] [.inr (some (12, 5)), .inl l2] _ _
  refine xw.lsz (nx := 10) (n := (xm_n S 1 5)) rfl (Nat.le_of_ble_eq_true rfl) rfl ?_
  refine xw.b (c := (nI (xm_n S 1 5)) ≤ l2) (cd := .ge) (x := l2) (y := (nI (xm_n S 1 5))) 63 13 (st' := []) rfl (y_cge _ _) h (fun c1 h => ?_) (fun c1 h => ?_)
  · skip
    refine xw.s (pc' := 64) (st' := [.inl (0 : Int32)]) rfl ?_
    exact xw.retz (nx := 65) rfl (Or.inl rfl) h
  · skip
    refine xw.s (pc' := 14) (st' := [.inr (some (0, 0))]) rfl ?_
    refine xw.fr (c := 0) (j := 5) (e := 12) (nx := 17) (t := (some 5)) rfl rfl (hC 5 (by decide)) ?_
    show xw _ _ _ [some (.inr (some (0, 0))), some (.inl l1), some (.inl l2), u3] [.inr (some (12, 5))] _ _
    refine xw.s (pc' := 18) (st' := [.inl l2, .inr (some (12, 5))]) rfl ?_
    obtain ⟨z2, h⟩ := h
    obtain ⟨k3, q4, h⟩ := h
    refine xw.get (nx := 21) (p := (6, k3)) rfl (Nat.le_of_ble_eq_true rfl) z2 q4 ?_
    refine xw.s (pc' := 24) (st' := [.inr (some (6, k3))]) rfl ?_
    refine xw.s (pc' := 25) (st' := []) (L' := [some (.inr (some (0, 0))), some (.inl l1), some (.inl l2), some (.inr (some (6, k3)))]) rfl ?_
    refine xw.s (pc' := 26) (st' := [.inr (some (6, k3))]) rfl ?_
    refine xw.call (m := 104) (as := [.inr (some (6, k3))]) (nx := 29) (L' := [some (.inr (some (0, 0))), some (.inl l1), some (.inl l2), some (.inr (some (6, k3)))]) (st' := []) rfl ?_
    show xw _ _ _ [some (.inr (some (6, k3)))] [] _ _
    refine xw.s (pc' := 1) (st' := [.inr (some (6, k3))]) rfl ?_
    obtain ⟨t5, q6⟩ : ∃ t, (xm_r S 6 k3 6) = t := ⟨_, rfl⟩
    replace h := h t5 q6
    refine xw.fr (c := 6) (j := 6) (e := 2) (nx := 4) (t := t5) rfl rfl q6 ?_
    show xw _ _ _ [some (.inr (some (6, k3)))] [.inr (xo 2 t5)] _ _
    refine xw.nul (o := t5) (t := 21) (nx := 7) rfl rfl ?_
    rcases t5 with _ | k7
    · replace h := h.1 rfl
      show xw _ _ 21 [some (.inr (some (6, k3)))] [] _ _
      refine xw.s (pc' := 22) (st' := [.inl (0 : Int32)]) rfl ?_
      refine xw.retz (nx := 23) rfl (Or.inl rfl) ?_
      show xw _ _ 29 [some (.inr (some (0, 0))), some (.inl l1), some (.inl l2), some (.inr (some (6, k3)))] [.inl (0 : Int32)] S _
      refine xw.bt (cd := .eq) (x := (0 : Int32)) (y := (0 : Int32)) 57 32 (st' := []) rfl (y_ceq _ _) (by decide) ?_
      refine xw.s (pc' := 60) (st' := []) (L' := [some (.inr (some (0, 0))), some (.inl l1), some (.inl (l2 + (1 : Int32))), some (.inr (some (6, k3)))]) rfl ?_
      refine xw.s (pc' := 2) (st' := []) rfl ?_
      exact h
    · replace h := h.2 k7 rfl
      show xw _ _ 7 [some (.inr (some (6, k3)))] [] _ _
      refine xw.s (pc' := 8) (st' := [.inr (some (6, k3))]) rfl ?_
      refine xw.fr (c := 6) (j := 6) (e := 2) (nx := 11) (t := (some k7)) rfl rfl q6 ?_
      show xw _ _ _ [some (.inr (some (6, k3)))] [.inr (some (2, k7))] _ _
      refine xw.fi (c := 2) (j := 8) (ty := 0) (nx := 14) (v := (xm_i S 2 k7 8)) rfl rfl rfl ?_
      refine xw.bn (c := (xm_i S 2 k7 8) = (0 : Int32)) (cd := .ne) (x := (xm_i S 2 k7 8)) (y := (0 : Int32)) 21 17 (st' := []) rfl (y_cne _ _) h (fun c8 h => ?_) (fun c8 h => ?_)
      · skip
        refine xw.s (pc' := 18) (st' := [.inl (1 : Int32)]) rfl ?_
        refine xw.s (pc' := 22) (st' := [.inl (1 : Int32)]) rfl ?_
        refine xw.retz (nx := 23) rfl (Or.inr rfl) ?_
        show xw _ _ 29 [some (.inr (some (0, 0))), some (.inl l1), some (.inl l2), some (.inr (some (6, k3)))] [.inl (1 : Int32)] S _
        refine xw.bf (cd := .eq) (x := (1 : Int32)) (y := (0 : Int32)) 57 32 (st' := []) rfl (y_ceq _ _) (by decide) ?_
        refine xw.s (pc' := 33) (st' := [.inr (some (6, k3))]) rfl ?_
        refine xw.fr (c := 6) (j := 6) (e := 2) (nx := 36) (t := (some k7)) rfl rfl q6 ?_
        show xw _ _ _ [some (.inr (some (0, 0))), some (.inl l1), some (.inl l2), some (.inr (some (6, k3)))] [.inr (some (2, k7))] _ _
        refine xw.s (pc' := 39) (st' := []) rfl ?_
        refine xw.s (pc' := 40) (st' := [.inr (some (0, 0))]) rfl ?_
        refine xw.fi (c := 0) (j := 13) (ty := 0) (nx := 43) (v := (xm_i S 0 0 13)) rfl rfl rfl ?_
        refine xw.s (pc' := 44) (st' := [.inr (some (6, k3)), .inl (xm_i S 0 0 13)]) rfl ?_
        refine xw.fr (c := 6) (j := 6) (e := 2) (nx := 47) (t := (some k7)) rfl rfl q6 ?_
        show xw _ _ _ [some (.inr (some (0, 0))), some (.inl l1), some (.inl l2), some (.inr (some (6, k3)))] [.inr (some (2, k7)), .inl (xm_i S 0 0 13)] _ _
        refine xw.fi (c := 2) (j := 5) (ty := 0) (nx := 50) (v := (xm_i S 2 k7 5)) rfl rfl rfl ?_
        refine xw.s (pc' := 51) (st' := [.inl ((xm_i S 0 0 13) - (xm_i S 2 k7 5))]) rfl ?_
        refine xw.s (pc' := 52) (st' := [.inl l1, .inl ((xm_i S 0 0 13) - (xm_i S 2 k7 5))]) rfl ?_
        refine xw.b (c := ((xm_i S 0 0 13) - (xm_i S 2 k7 5)) ≤ l1) (cd := .le) (x := ((xm_i S 0 0 13) - (xm_i S 2 k7 5))) (y := l1) 57 55 (st' := []) rfl (y_cle _ _) h (fun c9 h => ?_) (fun c9 h => ?_)
        · skip
          refine xw.s (pc' := 60) (st' := []) (L' := [some (.inr (some (0, 0))), some (.inl l1), some (.inl (l2 + (1 : Int32))), some (.inr (some (6, k3)))]) rfl ?_
          refine xw.s (pc' := 2) (st' := []) rfl ?_
          exact h
        · skip
          refine xw.s (pc' := 56) (st' := [.inl (1 : Int32)]) rfl ?_
          exact xw.retz (nx := 57) rfl (Or.inr rfl) h
      · skip
        refine xw.s (pc' := 22) (st' := [.inl (0 : Int32)]) rfl ?_
        refine xw.retz (nx := 23) rfl (Or.inl rfl) ?_
        show xw _ _ 29 [some (.inr (some (0, 0))), some (.inl l1), some (.inl l2), some (.inr (some (6, k3)))] [.inl (0 : Int32)] S _
        refine xw.bt (cd := .eq) (x := (0 : Int32)) (y := (0 : Int32)) 57 32 (st' := []) rfl (y_ceq _ _) (by decide) ?_
        refine xw.s (pc' := 60) (st' := []) (L' := [some (.inr (some (0, 0))), some (.inl l1), some (.inl (l2 + (1 : Int32))), some (.inr (some (6, k3)))]) rfl ?_
        refine xw.s (pc' := 2) (st' := []) rfl ?_
        exact h
end
