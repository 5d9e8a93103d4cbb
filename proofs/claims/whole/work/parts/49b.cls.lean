/-! ===== THE CLASS: its methods (printed by wip/whole/gen49.py out of the bytecode) ===== -/
section
/-- tell -/
theorem cw_tell {d : Nat} {a1 : Nat} {a2 : Nat} {S : xm_S} {Q : Option xm_V → xm_S → Prop} (hC : xk_C S) (h : ∀ t1, (xm_r S 2 a1 4) = t1 → ((t1 = none → Q none S) ∧ (∀ k3, t1 = some k3 → ((xm_i S 2 a1 8) = (0 : Int32) → ((xm_i S 5 k3 1) = (0 : Int32) → xc (d + 1) 25 [.inr (some (0, 0)), .inr (some (5, k3)), .inr (some (2, a1)), .inr (some (2, a2))] S (fun r S6 => r = none ∧ xk_C S6 ∧ (Q none S6))) ∧ (¬ (xm_i S 5 k3 1) = (0 : Int32) → ((xm_i S 5 k3 1) = (1 : Int32) → ∀ S9, S9 = xm_si S 5 k3 10 ((xm_i S 5 k3 10) - (1 : Int32)) → (((xm_i S 2 a2 8) = (1 : Int32) → xc d 30 [.inr (some (0, 0)), .inr (some (2, a1)), .inl (xm_i S 2 a2 9), .inl (xm_i S 2 a2 10)] S9 (fun r S12 => r = none ∧ xk_C S12 ∧ (Q none S12))) ∧ (¬ (xm_i S 2 a2 8) = (1 : Int32) → ∀ t14, (xm_r S 2 a2 11) = t14 → (xc d 22 [.inr (some (0, 0)), .inr (some (2, a1)), .inr (xo 4 t14)] S9 (fun r S16 => r = none ∧ xk_C S16 ∧ (Q none S16)))))) ∧ (¬ (xm_i S 5 k3 1) = (1 : Int32) → ((xm_i S 5 k3 1) = (2 : Int32) → ((xm_i S 2 a2 8) = (1 : Int32) → xc d 30 [.inr (some (0, 0)), .inr (some (2, a1)), .inl (xm_i S 2 a2 9), .inl (xm_i S 2 a2 10)] S (fun r S20 => r = none ∧ xk_C S20 ∧ (Q none S20))) ∧ (¬ (xm_i S 2 a2 8) = (1 : Int32) → ∀ t22, (xm_r S 2 a2 11) = t22 → (xc d 22 [.inr (some (0, 0)), .inr (some (2, a1)), .inr (xo 4 t22)] S (fun r S24 => r = none ∧ xk_C S24 ∧ (Q none S24))))) ∧ (¬ (xm_i S 5 k3 1) = (2 : Int32) → ((xm_i S 5 k3 1) = (3 : Int32) → ((xm_i S 2 a2 8) = (1 : Int32) → xc d 30 [.inr (some (0, 0)), .inr (some (2, a1)), .inl (xm_i S 2 a2 9), .inl (xm_i S 2 a2 10)] S (fun r S28 => r = none ∧ xk_C S28 ∧ (Q none S28))) ∧ (¬ (xm_i S 2 a2 8) = (1 : Int32) → ∀ t30, (xm_r S 2 a2 11) = t30 → (xc d 22 [.inr (some (0, 0)), .inr (some (2, a1)), .inr (xo 4 t30)] S (fun r S32 => r = none ∧ xk_C S32 ∧ (Q none S32))))) ∧ (¬ (xm_i S 5 k3 1) = (3 : Int32) → ((xm_i S 5 k3 1) = (4 : Int32) → xc (d + 1) 31 [.inr (some (0, 0)), .inr (some (5, k3)), .inr (some (2, a1)), .inr (some (2, a2))] S (fun r S35 => r = none ∧ xk_C S35 ∧ (Q none S35))) ∧ (¬ (xm_i S 5 k3 1) = (4 : Int32) → ((xm_i S 5 k3 1) = (5 : Int32) → xc (d + 1) 33 [.inr (some (0, 0)), .inr (some (2, a1)), .inr (some (2, a2))] S (fun r S38 => r = none ∧ xk_C S38 ∧ (Q none S38))) ∧ (¬ (xm_i S 5 k3 1) = (5 : Int32) → ((xm_i S 5 k3 1) = (6 : Int32) → xc (d + 1) 37 [.inr (some (0, 0)), .inr (some (5, k3)), .inr (some (2, a1)), .inr (some (2, a2))] S (fun r S41 => r = none ∧ xk_C S41 ∧ (Q none S41))) ∧ (¬ (xm_i S 5 k3 1) = (6 : Int32) → ((xm_i S 5 k3 1) = (7 : Int32) → xc (d + 1) 39 [.inr (some (0, 0)), .inr (some (5, k3)), .inr (some (2, a1)), .inr (some (2, a2))] S (fun r S44 => r = none ∧ xk_C S44 ∧ (Q none S44))) ∧ (¬ (xm_i S 5 k3 1) = (7 : Int32) → ((xm_i S 5 k3 1) = (8 : Int32) → ((xm_i S 2 a2 8) = (1 : Int32) → xc d 30 [.inr (some (0, 0)), .inr (some (2, a1)), .inl (xm_i S 2 a2 9), .inl (xm_i S 2 a2 10)] S (fun r S48 => r = none ∧ xk_C S48 ∧ (Q none S48))) ∧ (¬ (xm_i S 2 a2 8) = (1 : Int32) → ∀ t50, (xm_r S 2 a2 11) = t50 → (xc d 22 [.inr (some (0, 0)), .inr (some (2, a1)), .inr (xo 4 t50)] S (fun r S52 => r = none ∧ xk_C S52 ∧ (Q none S52))))) ∧ (¬ (xm_i S 5 k3 1) = (8 : Int32) → ((xm_i S 5 k3 1) = (9 : Int32) → xc (d + 1) 40 [.inr (some (0, 0)), .inr (some (5, k3)), .inr (some (2, a1)), .inr (some (2, a2))] S (fun r S55 => r = none ∧ xk_C S55 ∧ (Q none S55))) ∧ (¬ (xm_i S 5 k3 1) = (9 : Int32) → ((xm_i S 2 a2 8) = (1 : Int32) → xc d 30 [.inr (some (0, 0)), .inr (some (2, a1)), .inl (xm_i S 2 a2 9), .inl (xm_i S 2 a2 10)] S (fun r S58 => r = none ∧ xk_C S58 ∧ (Q none S58))) ∧ (¬ (xm_i S 2 a2 8) = (1 : Int32) → ∀ t60, (xm_r S 2 a2 11) = t60 → (xc d 22 [.inr (some (0, 0)), .inr (some (2, a1)), .inr (xo 4 t60)] S (fun r S62 => r = none ∧ xk_C S62 ∧ (Q none S62))))))))))))))) ∧ (¬ (xm_i S 2 a1 8) = (0 : Int32) → Q none S)))) : xc (d + 2) 24 [.inr (some (0, 0)), .inr (some (2, a1)), .inr (some (2, a2))] S Q := by
  show xw _ _ _ [some (.inr (some (0, 0))), some (.inr (some (2, a1))), some (.inr (some (2, a2))), none] _ _ _
  refine xw.s (pc' := 1) (st' := [.inr (some (2, a1))]) rfl ?_
  obtain ⟨t1, q2⟩ : ∃ t, (xm_r S 2 a1 4) = t := ⟨_, rfl⟩
  replace h := h t1 q2
  refine xw.fr (c := 2) (j := 4) (e := 5) (nx := 4) (t := t1) rfl rfl q2 ?_
  show xw _ _ _ [some (.inr (some (0, 0))), some (.inr (some (2, a1))), some (.inr (some (2, a2))), none] [.inr (xo 5 t1)] _ _
  refine xw.s (pc' := 5) (st' := []) (L' := [some (.inr (some (0, 0))), some (.inr (some (2, a1))), some (.inr (some (2, a2))), some (.inr (xo 5 t1))]) rfl ?_
  refine xw.s (pc' := 6) (st' := [.inr (xo 5 t1)]) rfl ?_
  refine xw.nul (o := t1) (t := 16) (nx := 9) rfl rfl ?_
  rcases t1 with _ | k3
  · replace h := h.1 rfl
    show xw _ _ 16 [some (.inr (some (0, 0))), some (.inr (some (2, a1))), some (.inr (some (2, a2))), some (.inr none)] [] _ _
    exact xw.ret (r := none) rfl h
  · replace h := h.2 k3 rfl
    show xw _ _ 9 [some (.inr (some (0, 0))), some (.inr (some (2, a1))), some (.inr (some (2, a2))), some (.inr (some (5, k3)))] [] _ _
    refine xw.s (pc' := 10) (st' := [.inr (some (2, a1))]) rfl ?_
    refine xw.fi (c := 2) (j := 8) (ty := 0) (nx := 13) (v := (xm_i S 2 a1 8)) rfl rfl rfl ?_
    refine xw.b (c := (xm_i S 2 a1 8) = (0 : Int32)) (cd := .eq) (x := (xm_i S 2 a1 8)) (y := (0 : Int32)) 17 16 (st' := []) rfl (y_ceq _ _) h (fun c4 h => ?_) (fun c4 h => ?_)
    · skip
      refine xw.s (pc' := 18) (st' := [.inr (some (5, k3))]) rfl ?_
      refine xw.fi (c := 5) (j := 1) (ty := 0) (nx := 21) (v := (xm_i S 5 k3 1)) rfl rfl rfl ?_
      refine xw.ts1 rfl rfl ?_
      refine xw.bw (0 : Int32) rfl h (fun c5 h => ?_) (fun c5 h => ?_)
      · skip
        refine xw.s (pc' := 77) (st' := [.inr (some (0, 0))]) rfl ?_
        refine xw.s (pc' := 78) (st' := [.inr (some (5, k3)), .inr (some (0, 0))]) rfl ?_
        refine xw.s (pc' := 79) (st' := [.inr (some (2, a1)), .inr (some (5, k3)), .inr (some (0, 0))]) rfl ?_
        refine xw.s (pc' := 80) (st' := [.inr (some (2, a2)), .inr (some (2, a1)), .inr (some (5, k3)), .inr (some (0, 0))]) rfl ?_
        refine xw.call (m := 25) (as := [.inr (some (0, 0)), .inr (some (5, k3)), .inr (some (2, a1)), .inr (some (2, a2))]) (nx := 83) (L' := [some (.inr (some (0, 0))), some (.inr (some (2, a1))), some (.inr (some (2, a2))), some (.inr (some (5, k3)))]) (st' := []) rfl (xc.mono h ?_)
        rintro r S6 ⟨rfl, hC7, h⟩
        show xw _ _ 83 [some (.inr (some (0, 0))), some (.inr (some (2, a1))), some (.inr (some (2, a2))), some (.inr (some (5, k3)))] [] _ _
        refine xw.s (pc' := 160) (st' := []) rfl ?_
        exact xw.ret (r := none) rfl h
      · skip
        refine xw.bw (1 : Int32) rfl h (fun c8 h => ?_) (fun c8 h => ?_)
        · skip
          refine xw.s (pc' := 87) (st' := [.inr (some (5, k3))]) rfl ?_
          refine xw.s (pc' := 88) (st' := [.inr (some (5, k3)), .inr (some (5, k3))]) rfl ?_
          refine xw.fi (c := 5) (j := 10) (ty := 0) (nx := 91) (v := (xm_i S 5 k3 10)) rfl rfl rfl ?_
          refine xw.s (pc' := 92) (st' := [.inl (1 : Int32), .inl (xm_i S 5 k3 10), .inr (some (5, k3))]) rfl ?_
          refine xw.s (pc' := 93) (st' := [.inl ((xm_i S 5 k3 10) - (1 : Int32)), .inr (some (5, k3))]) rfl ?_
          refine xw.fp (c := 5) (j := 10) (ty := 0) (nx := 96) rfl rfl (Or.inl rfl) ?_
          obtain ⟨S9, e10⟩ : ∃ s, s = xm_si S 5 k3 10 ((xm_i S 5 k3 10) - (1 : Int32)) := ⟨_, rfl⟩
          rw [← e10]
          replace h := h S9 e10
          refine xw.s (pc' := 97) (st' := [.inr (some (0, 0))]) rfl ?_
          refine xw.s (pc' := 98) (st' := [.inr (some (2, a1)), .inr (some (0, 0))]) rfl ?_
          refine xw.s (pc' := 99) (st' := [.inr (some (2, a2)), .inr (some (2, a1)), .inr (some (0, 0))]) rfl ?_
          refine xw.call (m := 29) (as := [.inr (some (0, 0)), .inr (some (2, a1)), .inr (some (2, a2))]) (nx := 102) (L' := [some (.inr (some (0, 0))), some (.inr (some (2, a1))), some (.inr (some (2, a2))), some (.inr (some (5, k3)))]) (st' := []) rfl ?_
          show xw _ _ _ [some (.inr (some (0, 0))), some (.inr (some (2, a1))), some (.inr (some (2, a2)))] [] _ _
          refine xw.s (pc' := 1) (st' := [.inr (some (2, a2))]) rfl ?_
          refine xw.fi (c := 2) (j := 8) (ty := 0) (nx := 4) (v := (xm_i S 2 a2 8)) rfl rfl ((congrArg (fun s => xm_i s 2 a2 8) e10).trans (xi_si (by decide))) ?_
          refine xw.s (pc' := 5) (st' := [.inl (1 : Int32), .inl (xm_i S 2 a2 8)]) rfl ?_
          refine xw.bn (c := (xm_i S 2 a2 8) = (1 : Int32)) (cd := .ne) (x := (xm_i S 2 a2 8)) (y := (1 : Int32)) 24 8 (st' := []) rfl (y_cne _ _) h (fun c11 h => ?_) (fun c11 h => ?_)
          · skip
            refine xw.s (pc' := 9) (st' := [.inr (some (0, 0))]) rfl ?_
            refine xw.s (pc' := 10) (st' := [.inr (some (2, a1)), .inr (some (0, 0))]) rfl ?_
            refine xw.s (pc' := 11) (st' := [.inr (some (2, a2)), .inr (some (2, a1)), .inr (some (0, 0))]) rfl ?_
            refine xw.fi (c := 2) (j := 9) (ty := 0) (nx := 14) (v := (xm_i S 2 a2 9)) rfl rfl ((congrArg (fun s => xm_i s 2 a2 9) e10).trans (xi_si (by decide))) ?_
            refine xw.s (pc' := 15) (st' := [.inr (some (2, a2)), .inl (xm_i S 2 a2 9), .inr (some (2, a1)), .inr (some (0, 0))]) rfl ?_
            refine xw.fi (c := 2) (j := 10) (ty := 1) (nx := 18) (v := (xm_i S 2 a2 10)) rfl rfl ((congrArg (fun s => xm_i s 2 a2 10) e10).trans (xi_si (by decide))) ?_
            refine xw.call (m := 30) (as := [.inr (some (0, 0)), .inr (some (2, a1)), .inl (xm_i S 2 a2 9), .inl (xm_i S 2 a2 10)]) (nx := 21) (L' := [some (.inr (some (0, 0))), some (.inr (some (2, a1))), some (.inr (some (2, a2)))]) (st' := []) rfl (xc.mono h ?_)
            rintro r S12 ⟨rfl, hC13, h⟩
            show xw _ _ 21 [some (.inr (some (0, 0))), some (.inr (some (2, a1))), some (.inr (some (2, a2)))] [] _ _
            refine xw.s (pc' := 33) (st' := []) rfl ?_
            refine xw.ret (r := none) rfl ?_
            show xw _ _ 102 [some (.inr (some (0, 0))), some (.inr (some (2, a1))), some (.inr (some (2, a2))), some (.inr (some (5, k3)))] [] S12 _
            refine xw.s (pc' := 160) (st' := []) rfl ?_
            exact xw.ret (r := none) rfl h
          · skip
            refine xw.s (pc' := 25) (st' := [.inr (some (0, 0))]) rfl ?_
            refine xw.s (pc' := 26) (st' := [.inr (some (2, a1)), .inr (some (0, 0))]) rfl ?_
            refine xw.s (pc' := 27) (st' := [.inr (some (2, a2)), .inr (some (2, a1)), .inr (some (0, 0))]) rfl ?_
            obtain ⟨t14, q15⟩ : ∃ t, (xm_r S 2 a2 11) = t := ⟨_, rfl⟩
            replace h := h t14 q15
            refine xw.fr (c := 2) (j := 11) (e := 4) (nx := 30) (t := t14) rfl rfl (((congrArg (fun s => xm_r s 2 a2 11) e10).trans rfl).trans q15) ?_
            show xw _ _ _ [some (.inr (some (0, 0))), some (.inr (some (2, a1))), some (.inr (some (2, a2)))] [.inr (xo 4 t14), .inr (some (2, a1)), .inr (some (0, 0))] _ _
            refine xw.call (m := 22) (as := [.inr (some (0, 0)), .inr (some (2, a1)), .inr (xo 4 t14)]) (nx := 33) (L' := [some (.inr (some (0, 0))), some (.inr (some (2, a1))), some (.inr (some (2, a2)))]) (st' := []) rfl (xc.mono h ?_)
            rintro r S16 ⟨rfl, hC17, h⟩
            show xw _ _ 33 [some (.inr (some (0, 0))), some (.inr (some (2, a1))), some (.inr (some (2, a2)))] [] _ _
            refine xw.ret (r := none) rfl ?_
            show xw _ _ 102 [some (.inr (some (0, 0))), some (.inr (some (2, a1))), some (.inr (some (2, a2))), some (.inr (some (5, k3)))] [] S16 _
            refine xw.s (pc' := 160) (st' := []) rfl ?_
            exact xw.ret (r := none) rfl h
        · skip
          refine xw.bw (2 : Int32) rfl h (fun c18 h => ?_) (fun c18 h => ?_)
          · skip
            refine xw.s (pc' := 155) (st' := [.inr (some (0, 0))]) rfl ?_
            refine xw.s (pc' := 156) (st' := [.inr (some (2, a1)), .inr (some (0, 0))]) rfl ?_
            refine xw.s (pc' := 157) (st' := [.inr (some (2, a2)), .inr (some (2, a1)), .inr (some (0, 0))]) rfl ?_
            refine xw.call (m := 29) (as := [.inr (some (0, 0)), .inr (some (2, a1)), .inr (some (2, a2))]) (nx := 160) (L' := [some (.inr (some (0, 0))), some (.inr (some (2, a1))), some (.inr (some (2, a2))), some (.inr (some (5, k3)))]) (st' := []) rfl ?_
            show xw _ _ _ [some (.inr (some (0, 0))), some (.inr (some (2, a1))), some (.inr (some (2, a2)))] [] _ _
            refine xw.s (pc' := 1) (st' := [.inr (some (2, a2))]) rfl ?_
            refine xw.fi (c := 2) (j := 8) (ty := 0) (nx := 4) (v := (xm_i S 2 a2 8)) rfl rfl rfl ?_
            refine xw.s (pc' := 5) (st' := [.inl (1 : Int32), .inl (xm_i S 2 a2 8)]) rfl ?_
            refine xw.bn (c := (xm_i S 2 a2 8) = (1 : Int32)) (cd := .ne) (x := (xm_i S 2 a2 8)) (y := (1 : Int32)) 24 8 (st' := []) rfl (y_cne _ _) h (fun c19 h => ?_) (fun c19 h => ?_)
            · skip
              refine xw.s (pc' := 9) (st' := [.inr (some (0, 0))]) rfl ?_
              refine xw.s (pc' := 10) (st' := [.inr (some (2, a1)), .inr (some (0, 0))]) rfl ?_
              refine xw.s (pc' := 11) (st' := [.inr (some (2, a2)), .inr (some (2, a1)), .inr (some (0, 0))]) rfl ?_
              refine xw.fi (c := 2) (j := 9) (ty := 0) (nx := 14) (v := (xm_i S 2 a2 9)) rfl rfl rfl ?_
              refine xw.s (pc' := 15) (st' := [.inr (some (2, a2)), .inl (xm_i S 2 a2 9), .inr (some (2, a1)), .inr (some (0, 0))]) rfl ?_
              refine xw.fi (c := 2) (j := 10) (ty := 1) (nx := 18) (v := (xm_i S 2 a2 10)) rfl rfl rfl ?_
              refine xw.call (m := 30) (as := [.inr (some (0, 0)), .inr (some (2, a1)), .inl (xm_i S 2 a2 9), .inl (xm_i S 2 a2 10)]) (nx := 21) (L' := [some (.inr (some (0, 0))), some (.inr (some (2, a1))), some (.inr (some (2, a2)))]) (st' := []) rfl (xc.mono h ?_)
              rintro r S20 ⟨rfl, hC21, h⟩
              show xw _ _ 21 [some (.inr (some (0, 0))), some (.inr (some (2, a1))), some (.inr (some (2, a2)))] [] _ _
              refine xw.s (pc' := 33) (st' := []) rfl ?_
              refine xw.ret (r := none) rfl ?_
              show xw _ _ 160 [some (.inr (some (0, 0))), some (.inr (some (2, a1))), some (.inr (some (2, a2))), some (.inr (some (5, k3)))] [] S20 _
              exact xw.ret (r := none) rfl h
            · skip
              refine xw.s (pc' := 25) (st' := [.inr (some (0, 0))]) rfl ?_
              refine xw.s (pc' := 26) (st' := [.inr (some (2, a1)), .inr (some (0, 0))]) rfl ?_
              refine xw.s (pc' := 27) (st' := [.inr (some (2, a2)), .inr (some (2, a1)), .inr (some (0, 0))]) rfl ?_
              obtain ⟨t22, q23⟩ : ∃ t, (xm_r S 2 a2 11) = t := ⟨_, rfl⟩
              replace h := h t22 q23
              refine xw.fr (c := 2) (j := 11) (e := 4) (nx := 30) (t := t22) rfl rfl q23 ?_
              show xw _ _ _ [some (.inr (some (0, 0))), some (.inr (some (2, a1))), some (.inr (some (2, a2)))] [.inr (xo 4 t22), .inr (some (2, a1)), .inr (some (0, 0))] _ _
              refine xw.call (m := 22) (as := [.inr (some (0, 0)), .inr (some (2, a1)), .inr (xo 4 t22)]) (nx := 33) (L' := [some (.inr (some (0, 0))), some (.inr (some (2, a1))), some (.inr (some (2, a2)))]) (st' := []) rfl (xc.mono h ?_)
              rintro r S24 ⟨rfl, hC25, h⟩
              show xw _ _ 33 [some (.inr (some (0, 0))), some (.inr (some (2, a1))), some (.inr (some (2, a2)))] [] _ _
              refine xw.ret (r := none) rfl ?_
              show xw _ _ 160 [some (.inr (some (0, 0))), some (.inr (some (2, a1))), some (.inr (some (2, a2))), some (.inr (some (5, k3)))] [] S24 _
              exact xw.ret (r := none) rfl h
          · skip
            refine xw.bw (3 : Int32) rfl h (fun c26 h => ?_) (fun c26 h => ?_)
            · skip
              refine xw.s (pc' := 155) (st' := [.inr (some (0, 0))]) rfl ?_
              refine xw.s (pc' := 156) (st' := [.inr (some (2, a1)), .inr (some (0, 0))]) rfl ?_
              refine xw.s (pc' := 157) (st' := [.inr (some (2, a2)), .inr (some (2, a1)), .inr (some (0, 0))]) rfl ?_
              refine xw.call (m := 29) (as := [.inr (some (0, 0)), .inr (some (2, a1)), .inr (some (2, a2))]) (nx := 160) (L' := [some (.inr (some (0, 0))), some (.inr (some (2, a1))), some (.inr (some (2, a2))), some (.inr (some (5, k3)))]) (st' := []) rfl ?_
              show xw _ _ _ [some (.inr (some (0, 0))), some (.inr (some (2, a1))), some (.inr (some (2, a2)))] [] _ _
              refine xw.s (pc' := 1) (st' := [.inr (some (2, a2))]) rfl ?_
              refine xw.fi (c := 2) (j := 8) (ty := 0) (nx := 4) (v := (xm_i S 2 a2 8)) rfl rfl rfl ?_
              refine xw.s (pc' := 5) (st' := [.inl (1 : Int32), .inl (xm_i S 2 a2 8)]) rfl ?_
              refine xw.bn (c := (xm_i S 2 a2 8) = (1 : Int32)) (cd := .ne) (x := (xm_i S 2 a2 8)) (y := (1 : Int32)) 24 8 (st' := []) rfl (y_cne _ _) h (fun c27 h => ?_) (fun c27 h => ?_)
              · skip
                refine xw.s (pc' := 9) (st' := [.inr (some (0, 0))]) rfl ?_
                refine xw.s (pc' := 10) (st' := [.inr (some (2, a1)), .inr (some (0, 0))]) rfl ?_
                refine xw.s (pc' := 11) (st' := [.inr (some (2, a2)), .inr (some (2, a1)), .inr (some (0, 0))]) rfl ?_
                refine xw.fi (c := 2) (j := 9) (ty := 0) (nx := 14) (v := (xm_i S 2 a2 9)) rfl rfl rfl ?_
                refine xw.s (pc' := 15) (st' := [.inr (some (2, a2)), .inl (xm_i S 2 a2 9), .inr (some (2, a1)), .inr (some (0, 0))]) rfl ?_
                refine xw.fi (c := 2) (j := 10) (ty := 1) (nx := 18) (v := (xm_i S 2 a2 10)) rfl rfl rfl ?_
                refine xw.call (m := 30) (as := [.inr (some (0, 0)), .inr (some (2, a1)), .inl (xm_i S 2 a2 9), .inl (xm_i S 2 a2 10)]) (nx := 21) (L' := [some (.inr (some (0, 0))), some (.inr (some (2, a1))), some (.inr (some (2, a2)))]) (st' := []) rfl (xc.mono h ?_)
                rintro r S28 ⟨rfl, hC29, h⟩
                show xw _ _ 21 [some (.inr (some (0, 0))), some (.inr (some (2, a1))), some (.inr (some (2, a2)))] [] _ _
                refine xw.s (pc' := 33) (st' := []) rfl ?_
                refine xw.ret (r := none) rfl ?_
                show xw _ _ 160 [some (.inr (some (0, 0))), some (.inr (some (2, a1))), some (.inr (some (2, a2))), some (.inr (some (5, k3)))] [] S28 _
                exact xw.ret (r := none) rfl h
              · skip
                refine xw.s (pc' := 25) (st' := [.inr (some (0, 0))]) rfl ?_
                refine xw.s (pc' := 26) (st' := [.inr (some (2, a1)), .inr (some (0, 0))]) rfl ?_
                refine xw.s (pc' := 27) (st' := [.inr (some (2, a2)), .inr (some (2, a1)), .inr (some (0, 0))]) rfl ?_
                obtain ⟨t30, q31⟩ : ∃ t, (xm_r S 2 a2 11) = t := ⟨_, rfl⟩
                replace h := h t30 q31
                refine xw.fr (c := 2) (j := 11) (e := 4) (nx := 30) (t := t30) rfl rfl q31 ?_
                show xw _ _ _ [some (.inr (some (0, 0))), some (.inr (some (2, a1))), some (.inr (some (2, a2)))] [.inr (xo 4 t30), .inr (some (2, a1)), .inr (some (0, 0))] _ _
                refine xw.call (m := 22) (as := [.inr (some (0, 0)), .inr (some (2, a1)), .inr (xo 4 t30)]) (nx := 33) (L' := [some (.inr (some (0, 0))), some (.inr (some (2, a1))), some (.inr (some (2, a2)))]) (st' := []) rfl (xc.mono h ?_)
                rintro r S32 ⟨rfl, hC33, h⟩
                show xw _ _ 33 [some (.inr (some (0, 0))), some (.inr (some (2, a1))), some (.inr (some (2, a2)))] [] _ _
                refine xw.ret (r := none) rfl ?_
                show xw _ _ 160 [some (.inr (some (0, 0))), some (.inr (some (2, a1))), some (.inr (some (2, a2))), some (.inr (some (5, k3)))] [] S32 _
                exact xw.ret (r := none) rfl h
            · skip
              refine xw.bw (4 : Int32) rfl h (fun c34 h => ?_) (fun c34 h => ?_)
              · skip
                refine xw.s (pc' := 106) (st' := [.inr (some (0, 0))]) rfl ?_
                refine xw.s (pc' := 107) (st' := [.inr (some (5, k3)), .inr (some (0, 0))]) rfl ?_
                refine xw.s (pc' := 108) (st' := [.inr (some (2, a1)), .inr (some (5, k3)), .inr (some (0, 0))]) rfl ?_
                refine xw.s (pc' := 109) (st' := [.inr (some (2, a2)), .inr (some (2, a1)), .inr (some (5, k3)), .inr (some (0, 0))]) rfl ?_
                refine xw.call (m := 31) (as := [.inr (some (0, 0)), .inr (some (5, k3)), .inr (some (2, a1)), .inr (some (2, a2))]) (nx := 112) (L' := [some (.inr (some (0, 0))), some (.inr (some (2, a1))), some (.inr (some (2, a2))), some (.inr (some (5, k3)))]) (st' := []) rfl (xc.mono h ?_)
                rintro r S35 ⟨rfl, hC36, h⟩
                show xw _ _ 112 [some (.inr (some (0, 0))), some (.inr (some (2, a1))), some (.inr (some (2, a2))), some (.inr (some (5, k3)))] [] _ _
                refine xw.s (pc' := 160) (st' := []) rfl ?_
                exact xw.ret (r := none) rfl h
              · skip
                refine xw.bw (5 : Int32) rfl h (fun c37 h => ?_) (fun c37 h => ?_)
                · skip
                  refine xw.s (pc' := 116) (st' := [.inr (some (0, 0))]) rfl ?_
                  refine xw.s (pc' := 117) (st' := [.inr (some (2, a1)), .inr (some (0, 0))]) rfl ?_
                  refine xw.s (pc' := 118) (st' := [.inr (some (2, a2)), .inr (some (2, a1)), .inr (some (0, 0))]) rfl ?_
                  refine xw.call (m := 33) (as := [.inr (some (0, 0)), .inr (some (2, a1)), .inr (some (2, a2))]) (nx := 121) (L' := [some (.inr (some (0, 0))), some (.inr (some (2, a1))), some (.inr (some (2, a2))), some (.inr (some (5, k3)))]) (st' := []) rfl (xc.mono h ?_)
                  rintro r S38 ⟨rfl, hC39, h⟩
                  show xw _ _ 121 [some (.inr (some (0, 0))), some (.inr (some (2, a1))), some (.inr (some (2, a2))), some (.inr (some (5, k3)))] [] _ _
                  refine xw.s (pc' := 160) (st' := []) rfl ?_
                  exact xw.ret (r := none) rfl h
                · skip
                  refine xw.bw (6 : Int32) rfl h (fun c40 h => ?_) (fun c40 h => ?_)
                  · skip
                    refine xw.s (pc' := 125) (st' := [.inr (some (0, 0))]) rfl ?_
                    refine xw.s (pc' := 126) (st' := [.inr (some (5, k3)), .inr (some (0, 0))]) rfl ?_
                    refine xw.s (pc' := 127) (st' := [.inr (some (2, a1)), .inr (some (5, k3)), .inr (some (0, 0))]) rfl ?_
                    refine xw.s (pc' := 128) (st' := [.inr (some (2, a2)), .inr (some (2, a1)), .inr (some (5, k3)), .inr (some (0, 0))]) rfl ?_
                    refine xw.call (m := 37) (as := [.inr (some (0, 0)), .inr (some (5, k3)), .inr (some (2, a1)), .inr (some (2, a2))]) (nx := 131) (L' := [some (.inr (some (0, 0))), some (.inr (some (2, a1))), some (.inr (some (2, a2))), some (.inr (some (5, k3)))]) (st' := []) rfl (xc.mono h ?_)
                    rintro r S41 ⟨rfl, hC42, h⟩
                    show xw _ _ 131 [some (.inr (some (0, 0))), some (.inr (some (2, a1))), some (.inr (some (2, a2))), some (.inr (some (5, k3)))] [] _ _
                    refine xw.s (pc' := 160) (st' := []) rfl ?_
                    exact xw.ret (r := none) rfl h
                  · skip
                    refine xw.bw (7 : Int32) rfl h (fun c43 h => ?_) (fun c43 h => ?_)
                    · skip
                      refine xw.s (pc' := 135) (st' := [.inr (some (0, 0))]) rfl ?_
                      refine xw.s (pc' := 136) (st' := [.inr (some (5, k3)), .inr (some (0, 0))]) rfl ?_
                      refine xw.s (pc' := 137) (st' := [.inr (some (2, a1)), .inr (some (5, k3)), .inr (some (0, 0))]) rfl ?_
                      refine xw.s (pc' := 138) (st' := [.inr (some (2, a2)), .inr (some (2, a1)), .inr (some (5, k3)), .inr (some (0, 0))]) rfl ?_
                      refine xw.call (m := 39) (as := [.inr (some (0, 0)), .inr (some (5, k3)), .inr (some (2, a1)), .inr (some (2, a2))]) (nx := 141) (L' := [some (.inr (some (0, 0))), some (.inr (some (2, a1))), some (.inr (some (2, a2))), some (.inr (some (5, k3)))]) (st' := []) rfl (xc.mono h ?_)
                      rintro r S44 ⟨rfl, hC45, h⟩
                      show xw _ _ 141 [some (.inr (some (0, 0))), some (.inr (some (2, a1))), some (.inr (some (2, a2))), some (.inr (some (5, k3)))] [] _ _
                      refine xw.s (pc' := 160) (st' := []) rfl ?_
                      exact xw.ret (r := none) rfl h
                    · skip
                      refine xw.bw (8 : Int32) rfl h (fun c46 h => ?_) (fun c46 h => ?_)
                      · skip
                        refine xw.s (pc' := 155) (st' := [.inr (some (0, 0))]) rfl ?_
                        refine xw.s (pc' := 156) (st' := [.inr (some (2, a1)), .inr (some (0, 0))]) rfl ?_
                        refine xw.s (pc' := 157) (st' := [.inr (some (2, a2)), .inr (some (2, a1)), .inr (some (0, 0))]) rfl ?_
                        refine xw.call (m := 29) (as := [.inr (some (0, 0)), .inr (some (2, a1)), .inr (some (2, a2))]) (nx := 160) (L' := [some (.inr (some (0, 0))), some (.inr (some (2, a1))), some (.inr (some (2, a2))), some (.inr (some (5, k3)))]) (st' := []) rfl ?_
                        show xw _ _ _ [some (.inr (some (0, 0))), some (.inr (some (2, a1))), some (.inr (some (2, a2)))] [] _ _
                        refine xw.s (pc' := 1) (st' := [.inr (some (2, a2))]) rfl ?_
                        refine xw.fi (c := 2) (j := 8) (ty := 0) (nx := 4) (v := (xm_i S 2 a2 8)) rfl rfl rfl ?_
                        refine xw.s (pc' := 5) (st' := [.inl (1 : Int32), .inl (xm_i S 2 a2 8)]) rfl ?_
                        refine xw.bn (c := (xm_i S 2 a2 8) = (1 : Int32)) (cd := .ne) (x := (xm_i S 2 a2 8)) (y := (1 : Int32)) 24 8 (st' := []) rfl (y_cne _ _) h (fun c47 h => ?_) (fun c47 h => ?_)
                        · skip
                          refine xw.s (pc' := 9) (st' := [.inr (some (0, 0))]) rfl ?_
                          refine xw.s (pc' := 10) (st' := [.inr (some (2, a1)), .inr (some (0, 0))]) rfl ?_
                          refine xw.s (pc' := 11) (st' := [.inr (some (2, a2)), .inr (some (2, a1)), .inr (some (0, 0))]) rfl ?_
                          refine xw.fi (c := 2) (j := 9) (ty := 0) (nx := 14) (v := (xm_i S 2 a2 9)) rfl rfl rfl ?_
                          refine xw.s (pc' := 15) (st' := [.inr (some (2, a2)), .inl (xm_i S 2 a2 9), .inr (some (2, a1)), .inr (some (0, 0))]) rfl ?_
                          refine xw.fi (c := 2) (j := 10) (ty := 1) (nx := 18) (v := (xm_i S 2 a2 10)) rfl rfl rfl ?_
                          refine xw.call (m := 30) (as := [.inr (some (0, 0)), .inr (some (2, a1)), .inl (xm_i S 2 a2 9), .inl (xm_i S 2 a2 10)]) (nx := 21) (L' := [some (.inr (some (0, 0))), some (.inr (some (2, a1))), some (.inr (some (2, a2)))]) (st' := []) rfl (xc.mono h ?_)
                          rintro r S48 ⟨rfl, hC49, h⟩
                          show xw _ _ 21 [some (.inr (some (0, 0))), some (.inr (some (2, a1))), some (.inr (some (2, a2)))] [] _ _
                          refine xw.s (pc' := 33) (st' := []) rfl ?_
                          refine xw.ret (r := none) rfl ?_
                          show xw _ _ 160 [some (.inr (some (0, 0))), some (.inr (some (2, a1))), some (.inr (some (2, a2))), some (.inr (some (5, k3)))] [] S48 _
                          exact xw.ret (r := none) rfl h
                        · skip
                          refine xw.s (pc' := 25) (st' := [.inr (some (0, 0))]) rfl ?_
                          refine xw.s (pc' := 26) (st' := [.inr (some (2, a1)), .inr (some (0, 0))]) rfl ?_
                          refine xw.s (pc' := 27) (st' := [.inr (some (2, a2)), .inr (some (2, a1)), .inr (some (0, 0))]) rfl ?_
                          obtain ⟨t50, q51⟩ : ∃ t, (xm_r S 2 a2 11) = t := ⟨_, rfl⟩
                          replace h := h t50 q51
                          refine xw.fr (c := 2) (j := 11) (e := 4) (nx := 30) (t := t50) rfl rfl q51 ?_
                          show xw _ _ _ [some (.inr (some (0, 0))), some (.inr (some (2, a1))), some (.inr (some (2, a2)))] [.inr (xo 4 t50), .inr (some (2, a1)), .inr (some (0, 0))] _ _
                          refine xw.call (m := 22) (as := [.inr (some (0, 0)), .inr (some (2, a1)), .inr (xo 4 t50)]) (nx := 33) (L' := [some (.inr (some (0, 0))), some (.inr (some (2, a1))), some (.inr (some (2, a2)))]) (st' := []) rfl (xc.mono h ?_)
                          rintro r S52 ⟨rfl, hC53, h⟩
                          show xw _ _ 33 [some (.inr (some (0, 0))), some (.inr (some (2, a1))), some (.inr (some (2, a2)))] [] _ _
                          refine xw.ret (r := none) rfl ?_
                          show xw _ _ 160 [some (.inr (some (0, 0))), some (.inr (some (2, a1))), some (.inr (some (2, a2))), some (.inr (some (5, k3)))] [] S52 _
                          exact xw.ret (r := none) rfl h
                      · skip
                        refine xw.bw (9 : Int32) rfl h (fun c54 h => ?_) (fun c54 h => ?_)
                        · skip
                          refine xw.s (pc' := 145) (st' := [.inr (some (0, 0))]) rfl ?_
                          refine xw.s (pc' := 146) (st' := [.inr (some (5, k3)), .inr (some (0, 0))]) rfl ?_
                          refine xw.s (pc' := 147) (st' := [.inr (some (2, a1)), .inr (some (5, k3)), .inr (some (0, 0))]) rfl ?_
                          refine xw.s (pc' := 148) (st' := [.inr (some (2, a2)), .inr (some (2, a1)), .inr (some (5, k3)), .inr (some (0, 0))]) rfl ?_
                          refine xw.call (m := 40) (as := [.inr (some (0, 0)), .inr (some (5, k3)), .inr (some (2, a1)), .inr (some (2, a2))]) (nx := 151) (L' := [some (.inr (some (0, 0))), some (.inr (some (2, a1))), some (.inr (some (2, a2))), some (.inr (some (5, k3)))]) (st' := []) rfl (xc.mono h ?_)
                          rintro r S55 ⟨rfl, hC56, h⟩
                          show xw _ _ 151 [some (.inr (some (0, 0))), some (.inr (some (2, a1))), some (.inr (some (2, a2))), some (.inr (some (5, k3)))] [] _ _
                          refine xw.s (pc' := 160) (st' := []) rfl ?_
                          exact xw.ret (r := none) rfl h
                        · skip
                          refine xw.s (pc' := 155) (st' := [.inr (some (0, 0))]) rfl ?_
                          refine xw.s (pc' := 156) (st' := [.inr (some (2, a1)), .inr (some (0, 0))]) rfl ?_
                          refine xw.s (pc' := 157) (st' := [.inr (some (2, a2)), .inr (some (2, a1)), .inr (some (0, 0))]) rfl ?_
                          refine xw.call (m := 29) (as := [.inr (some (0, 0)), .inr (some (2, a1)), .inr (some (2, a2))]) (nx := 160) (L' := [some (.inr (some (0, 0))), some (.inr (some (2, a1))), some (.inr (some (2, a2))), some (.inr (some (5, k3)))]) (st' := []) rfl ?_
                          show xw _ _ _ [some (.inr (some (0, 0))), some (.inr (some (2, a1))), some (.inr (some (2, a2)))] [] _ _
                          refine xw.s (pc' := 1) (st' := [.inr (some (2, a2))]) rfl ?_
                          refine xw.fi (c := 2) (j := 8) (ty := 0) (nx := 4) (v := (xm_i S 2 a2 8)) rfl rfl rfl ?_
                          refine xw.s (pc' := 5) (st' := [.inl (1 : Int32), .inl (xm_i S 2 a2 8)]) rfl ?_
                          refine xw.bn (c := (xm_i S 2 a2 8) = (1 : Int32)) (cd := .ne) (x := (xm_i S 2 a2 8)) (y := (1 : Int32)) 24 8 (st' := []) rfl (y_cne _ _) h (fun c57 h => ?_) (fun c57 h => ?_)
                          · skip
                            refine xw.s (pc' := 9) (st' := [.inr (some (0, 0))]) rfl ?_
                            refine xw.s (pc' := 10) (st' := [.inr (some (2, a1)), .inr (some (0, 0))]) rfl ?_
                            refine xw.s (pc' := 11) (st' := [.inr (some (2, a2)), .inr (some (2, a1)), .inr (some (0, 0))]) rfl ?_
                            refine xw.fi (c := 2) (j := 9) (ty := 0) (nx := 14) (v := (xm_i S 2 a2 9)) rfl rfl rfl ?_
                            refine xw.s (pc' := 15) (st' := [.inr (some (2, a2)), .inl (xm_i S 2 a2 9), .inr (some (2, a1)), .inr (some (0, 0))]) rfl ?_
                            refine xw.fi (c := 2) (j := 10) (ty := 1) (nx := 18) (v := (xm_i S 2 a2 10)) rfl rfl rfl ?_
                            refine xw.call (m := 30) (as := [.inr (some (0, 0)), .inr (some (2, a1)), .inl (xm_i S 2 a2 9), .inl (xm_i S 2 a2 10)]) (nx := 21) (L' := [some (.inr (some (0, 0))), some (.inr (some (2, a1))), some (.inr (some (2, a2)))]) (st' := []) rfl (xc.mono h ?_)
                            rintro r S58 ⟨rfl, hC59, h⟩
                            show xw _ _ 21 [some (.inr (some (0, 0))), some (.inr (some (2, a1))), some (.inr (some (2, a2)))] [] _ _
                            refine xw.s (pc' := 33) (st' := []) rfl ?_
                            refine xw.ret (r := none) rfl ?_
                            show xw _ _ 160 [some (.inr (some (0, 0))), some (.inr (some (2, a1))), some (.inr (some (2, a2))), some (.inr (some (5, k3)))] [] S58 _
                            exact xw.ret (r := none) rfl h
                          · skip
                            refine xw.s (pc' := 25) (st' := [.inr (some (0, 0))]) rfl ?_
                            refine xw.s (pc' := 26) (st' := [.inr (some (2, a1)), .inr (some (0, 0))]) rfl ?_
                            refine xw.s (pc' := 27) (st' := [.inr (some (2, a2)), .inr (some (2, a1)), .inr (some (0, 0))]) rfl ?_
                            obtain ⟨t60, q61⟩ : ∃ t, (xm_r S 2 a2 11) = t := ⟨_, rfl⟩
                            replace h := h t60 q61
                            refine xw.fr (c := 2) (j := 11) (e := 4) (nx := 30) (t := t60) rfl rfl q61 ?_
                            show xw _ _ _ [some (.inr (some (0, 0))), some (.inr (some (2, a1))), some (.inr (some (2, a2)))] [.inr (xo 4 t60), .inr (some (2, a1)), .inr (some (0, 0))] _ _
                            refine xw.call (m := 22) (as := [.inr (some (0, 0)), .inr (some (2, a1)), .inr (xo 4 t60)]) (nx := 33) (L' := [some (.inr (some (0, 0))), some (.inr (some (2, a1))), some (.inr (some (2, a2)))]) (st' := []) rfl (xc.mono h ?_)
                            rintro r S62 ⟨rfl, hC63, h⟩
                            show xw _ _ 33 [some (.inr (some (0, 0))), some (.inr (some (2, a1))), some (.inr (some (2, a2)))] [] _ _
                            refine xw.ret (r := none) rfl ?_
                            show xw _ _ 160 [some (.inr (some (0, 0))), some (.inr (some (2, a1))), some (.inr (some (2, a2))), some (.inr (some (5, k3)))] [] S62 _
                            exact xw.ret (r := none) rfl h
    · skip
      exact xw.ret (r := none) rfl h
/-- tellFuse -/
theorem cw_tellFuse {d : Nat} {a1 : Nat} {a2 : Nat} {a3 : Nat} {S : xm_S} {Q : Option xm_V → xm_S → Prop} (hC : xk_C S) (h : ∀ t1, (xm_r S 2 a3 11) = t1 → ((t1 = none → ∀ t4, (xm_r S 5 a1 9) = t4 → ((t4 = some a2 → ∀ S7, S7 = xm_sr S 5 a1 9 none → (∀ S9, S9 = xm_si S7 5 a1 6 (0 : Int32) → (∀ S11, S11 = xm_si S9 5 a1 7 (0 : Int32) → (((xm_i S 2 a3 8) = (1 : Int32) → xc d 30 [.inr (some (0, 0)), .inr (some (2, a2)), .inl (xm_i S 2 a3 9), .inl (xm_i S 2 a3 10)] S11 (fun r S14 => r = none ∧ xk_C S14 ∧ (Q none S14))) ∧ (¬ (xm_i S 2 a3 8) = (1 : Int32) → xc d 22 [.inr (some (0, 0)), .inr (some (2, a2)), .inr none] S11 (fun r S16 => r = none ∧ xk_C S16 ∧ (Q none S16))))))) ∧ (¬ t4 = some a2 → ((xm_i S 5 a1 6) = (0 : Int32) → ∀ S19, S19 = xm_si S 5 a1 7 (0 : Int32) → (((0 : Int32) = (xm_i S 5 a1 2) → ∀ S22, S22 = xm_si S19 5 a1 6 (1 : Int32) → (∀ S24, S24 = xm_si S22 5 a1 8 ((xm_i S 0 0 13) + (xm_i S 5 a1 3)) → (((xm_i S 2 a3 8) = (1 : Int32) → xc d 30 [.inr (some (0, 0)), .inr (some (2, a2)), .inl (xm_i S 2 a3 9), .inl (xm_i S 2 a3 10)] S24 (fun r S27 => r = none ∧ xk_C S27 ∧ (Q none S27))) ∧ (¬ (xm_i S 2 a3 8) = (1 : Int32) → xc d 22 [.inr (some (0, 0)), .inr (some (2, a2)), .inr none] S24 (fun r S29 => r = none ∧ xk_C S29 ∧ (Q none S29)))))) ∧ (¬ (0 : Int32) = (xm_i S 5 a1 2) → ((xm_i S 2 a3 8) = (1 : Int32) → xc d 30 [.inr (some (0, 0)), .inr (some (2, a2)), .inl (xm_i S 2 a3 9), .inl (xm_i S 2 a3 10)] S19 (fun r S32 => r = none ∧ xk_C S32 ∧ (Q none S32))) ∧ (¬ (xm_i S 2 a3 8) = (1 : Int32) → xc d 22 [.inr (some (0, 0)), .inr (some (2, a2)), .inr none] S19 (fun r S34 => r = none ∧ xk_C S34 ∧ (Q none S34)))))) ∧ (¬ (xm_i S 5 a1 6) = (0 : Int32) → ((xm_i S 2 a3 8) = (1 : Int32) → xc d 30 [.inr (some (0, 0)), .inr (some (2, a2)), .inl (xm_i S 2 a3 9), .inl (xm_i S 2 a3 10)] S (fun r S37 => r = none ∧ xk_C S37 ∧ (Q none S37))) ∧ (¬ (xm_i S 2 a3 8) = (1 : Int32) → xc d 22 [.inr (some (0, 0)), .inr (some (2, a2)), .inr none] S (fun r S39 => r = none ∧ xk_C S39 ∧ (Q none S39))))))) ∧ (∀ k3, t1 = some k3 → xc d 27 [.inl (xm_i S 4 k3 1), .inl (xm_i S 5 a1 5)] S (fun r S41 => ∃ x43 : Int32, r = some (.inl x43) ∧ xk_C S41 ∧ ((x43 = (0 : Int32) → ∀ t45, (xm_r S41 5 a1 9) = t45 → ((t45 = some a2 → ∀ S48, S48 = xm_sr S41 5 a1 9 none → (∀ S50, S50 = xm_si S48 5 a1 6 (0 : Int32) → (∀ S52, S52 = xm_si S50 5 a1 7 (0 : Int32) → (((xm_i S41 2 a3 8) = (1 : Int32) → xc d 30 [.inr (some (0, 0)), .inr (some (2, a2)), .inl (xm_i S41 2 a3 9), .inl (xm_i S41 2 a3 10)] S52 (fun r S55 => r = none ∧ xk_C S55 ∧ (Q none S55))) ∧ (¬ (xm_i S41 2 a3 8) = (1 : Int32) → ∀ t57, (xm_r S41 2 a3 11) = t57 → (xc d 22 [.inr (some (0, 0)), .inr (some (2, a2)), .inr (xo 4 t57)] S52 (fun r S59 => r = none ∧ xk_C S59 ∧ (Q none S59)))))))) ∧ (¬ t45 = some a2 → ((xm_i S41 5 a1 6) = (0 : Int32) → ∀ S62, S62 = xm_si S41 5 a1 7 (0 : Int32) → (((0 : Int32) = (xm_i S41 5 a1 2) → ∀ S65, S65 = xm_si S62 5 a1 6 (1 : Int32) → (∀ S67, S67 = xm_si S65 5 a1 8 ((xm_i S41 0 0 13) + (xm_i S41 5 a1 3)) → (((xm_i S41 2 a3 8) = (1 : Int32) → xc d 30 [.inr (some (0, 0)), .inr (some (2, a2)), .inl (xm_i S41 2 a3 9), .inl (xm_i S41 2 a3 10)] S67 (fun r S70 => r = none ∧ xk_C S70 ∧ (Q none S70))) ∧ (¬ (xm_i S41 2 a3 8) = (1 : Int32) → ∀ t72, (xm_r S41 2 a3 11) = t72 → (xc d 22 [.inr (some (0, 0)), .inr (some (2, a2)), .inr (xo 4 t72)] S67 (fun r S74 => r = none ∧ xk_C S74 ∧ (Q none S74))))))) ∧ (¬ (0 : Int32) = (xm_i S41 5 a1 2) → ((xm_i S41 2 a3 8) = (1 : Int32) → xc d 30 [.inr (some (0, 0)), .inr (some (2, a2)), .inl (xm_i S41 2 a3 9), .inl (xm_i S41 2 a3 10)] S62 (fun r S77 => r = none ∧ xk_C S77 ∧ (Q none S77))) ∧ (¬ (xm_i S41 2 a3 8) = (1 : Int32) → ∀ t79, (xm_r S41 2 a3 11) = t79 → (xc d 22 [.inr (some (0, 0)), .inr (some (2, a2)), .inr (xo 4 t79)] S62 (fun r S81 => r = none ∧ xk_C S81 ∧ (Q none S81))))))) ∧ (¬ (xm_i S41 5 a1 6) = (0 : Int32) → ((xm_i S41 2 a3 8) = (1 : Int32) → xc d 30 [.inr (some (0, 0)), .inr (some (2, a2)), .inl (xm_i S41 2 a3 9), .inl (xm_i S41 2 a3 10)] S41 (fun r S84 => r = none ∧ xk_C S84 ∧ (Q none S84))) ∧ (¬ (xm_i S41 2 a3 8) = (1 : Int32) → ∀ t86, (xm_r S41 2 a3 11) = t86 → (xc d 22 [.inr (some (0, 0)), .inr (some (2, a2)), .inr (xo 4 t86)] S41 (fun r S88 => r = none ∧ xk_C S88 ∧ (Q none S88)))))))) ∧ (¬ x43 = (0 : Int32) → ∀ t90, (xm_r S41 5 a1 9) = t90 → ((t90 = some a2 → ∀ S93, S93 = xm_sr S41 5 a1 9 none → (∀ S95, S95 = xm_si S93 5 a1 6 (1 : Int32) → (∀ S97, S97 = xm_si S95 5 a1 8 ((xm_i S41 0 0 13) + (xm_i S41 5 a1 3)) → (((xm_i S41 2 a3 8) = (1 : Int32) → xc d 30 [.inr (some (0, 0)), .inr (some (2, a2)), .inl (xm_i S41 2 a3 9), .inl (xm_i S41 2 a3 10)] S97 (fun r S100 => r = none ∧ xk_C S100 ∧ (Q none S100))) ∧ (¬ (xm_i S41 2 a3 8) = (1 : Int32) → ∀ t102, (xm_r S41 2 a3 11) = t102 → (xc d 22 [.inr (some (0, 0)), .inr (some (2, a2)), .inr (xo 4 t102)] S97 (fun r S104 => r = none ∧ xk_C S104 ∧ (Q none S104)))))))) ∧ (¬ t90 = some a2 → ((xm_i S41 5 a1 6) = (0 : Int32) → ∀ S107, S107 = xm_si S41 5 a1 7 ((xm_i S41 5 a1 7) + (1 : Int32)) → ((((xm_i S41 5 a1 7) + (1 : Int32)) = (xm_i S41 5 a1 2) → ∀ S110, S110 = xm_si S107 5 a1 6 (1 : Int32) → (∀ S112, S112 = xm_si S110 5 a1 8 ((xm_i S41 0 0 13) + (xm_i S41 5 a1 3)) → (((xm_i S41 2 a3 8) = (1 : Int32) → xc d 30 [.inr (some (0, 0)), .inr (some (2, a2)), .inl (xm_i S41 2 a3 9), .inl (xm_i S41 2 a3 10)] S112 (fun r S115 => r = none ∧ xk_C S115 ∧ (Q none S115))) ∧ (¬ (xm_i S41 2 a3 8) = (1 : Int32) → ∀ t117, (xm_r S41 2 a3 11) = t117 → (xc d 22 [.inr (some (0, 0)), .inr (some (2, a2)), .inr (xo 4 t117)] S112 (fun r S119 => r = none ∧ xk_C S119 ∧ (Q none S119))))))) ∧ (¬ ((xm_i S41 5 a1 7) + (1 : Int32)) = (xm_i S41 5 a1 2) → ((xm_i S41 2 a3 8) = (1 : Int32) → xc d 30 [.inr (some (0, 0)), .inr (some (2, a2)), .inl (xm_i S41 2 a3 9), .inl (xm_i S41 2 a3 10)] S107 (fun r S122 => r = none ∧ xk_C S122 ∧ (Q none S122))) ∧ (¬ (xm_i S41 2 a3 8) = (1 : Int32) → ∀ t124, (xm_r S41 2 a3 11) = t124 → (xc d 22 [.inr (some (0, 0)), .inr (some (2, a2)), .inr (xo 4 t124)] S107 (fun r S126 => r = none ∧ xk_C S126 ∧ (Q none S126))))))) ∧ (¬ (xm_i S41 5 a1 6) = (0 : Int32) → ((xm_i S41 2 a3 8) = (1 : Int32) → xc d 30 [.inr (some (0, 0)), .inr (some (2, a2)), .inl (xm_i S41 2 a3 9), .inl (xm_i S41 2 a3 10)] S41 (fun r S129 => r = none ∧ xk_C S129 ∧ (Q none S129))) ∧ (¬ (xm_i S41 2 a3 8) = (1 : Int32) → ∀ t131, (xm_r S41 2 a3 11) = t131 → (xc d 22 [.inr (some (0, 0)), .inr (some (2, a2)), .inr (xo 4 t131)] S41 (fun r S133 => r = none ∧ xk_C S133 ∧ (Q none S133))))))))))))) : xc (d + 2) 25 [.inr (some (0, 0)), .inr (some (5, a1)), .inr (some (2, a2)), .inr (some (2, a3))] S Q := by
  show xw _ _ _ [some (.inr (some (0, 0))), some (.inr (some (5, a1))), some (.inr (some (2, a2))), some (.inr (some (2, a3))), none] _ _ _
  refine xw.s (pc' := 1) (st' := [.inr (some (5, a1))]) rfl ?_
  refine xw.s (pc' := 2) (st' := [.inr (some (2, a3)), .inr (some (5, a1))]) rfl ?_
  obtain ⟨t1, q2⟩ : ∃ t, (xm_r S 2 a3 11) = t := ⟨_, rfl⟩
  replace h := h t1 q2
  refine xw.fr (c := 2) (j := 11) (e := 4) (nx := 5) (t := t1) rfl rfl q2 ?_
  show xw _ _ _ [some (.inr (some (0, 0))), some (.inr (some (5, a1))), some (.inr (some (2, a2))), some (.inr (some (2, a3))), none] [.inr (xo 4 t1), .inr (some (5, a1))] _ _
  refine xw.call (m := 26) (as := [.inr (some (5, a1)), .inr (xo 4 t1)]) (nx := 8) (L' := [some (.inr (some (0, 0))), some (.inr (some (5, a1))), some (.inr (some (2, a2))), some (.inr (some (2, a3))), none]) (st' := []) rfl ?_
  show xw _ _ _ [some (.inr (some (5, a1))), some (.inr (xo 4 t1))] [] _ _
  refine xw.s (pc' := 1) (st' := [.inr (xo 4 t1)]) rfl ?_
  refine xw.nul (o := t1) (t := 22) (nx := 4) rfl rfl ?_
  rcases t1 with _ | k3
  · replace h := h.1 rfl
    show xw _ _ 22 [some (.inr (some (5, a1))), some (.inr none)] [] _ _
    refine xw.s (pc' := 23) (st' := [.inl (0 : Int32)]) rfl ?_
    refine xw.retz (nx := 24) rfl (Or.inl rfl) ?_
    show xw _ _ 8 [some (.inr (some (0, 0))), some (.inr (some (5, a1))), some (.inr (some (2, a2))), some (.inr (some (2, a3))), none] [.inl (0 : Int32)] S _
    refine xw.s (pc' := 10) (st' := []) (L' := [some (.inr (some (0, 0))), some (.inr (some (5, a1))), some (.inr (some (2, a2))), some (.inr (some (2, a3))), some (.inl (0 : Int32))]) rfl ?_
    refine xw.s (pc' := 11) (st' := [.inr (some (5, a1))]) rfl ?_
    obtain ⟨t4, q5⟩ : ∃ t, (xm_r S 5 a1 9) = t := ⟨_, rfl⟩
    replace h := h t4 q5
    refine xw.fr (c := 5) (j := 9) (e := 2) (nx := 14) (t := t4) rfl rfl q5 ?_
    show xw _ _ _ [some (.inr (some (0, 0))), some (.inr (some (5, a1))), some (.inr (some (2, a2))), some (.inr (some (2, a3))), some (.inl (0 : Int32))] [.inr (xo 2 t4)] _ _
    refine xw.s (pc' := 15) (st' := [.inr (some (2, a2)), .inr (xo 2 t4)]) rfl ?_
    refine xw.an (c := 2) (a := t4) (b := (some a2)) (cn := t4 = some a2) (t := 53) (nx := 18) rfl rfl (by decide) Iff.rfl h (fun c6 h => ?_) (fun c6 h => ?_)
    · skip
      refine xw.s (pc' := 19) (st' := [.inr (some (5, a1))]) rfl ?_
      refine xw.s (pc' := 20) (st' := [.inr none, .inr (some (5, a1))]) rfl ?_
      refine xw.fq (c := 5) (j := 9) (e := 2) (nx := 23) (t := none) rfl rfl ?_
      obtain ⟨S7, e8⟩ : ∃ s, s = xm_sr S 5 a1 9 none := ⟨_, rfl⟩
      rw [← e8]
      replace h := h S7 e8
      refine xw.s (pc' := 25) (st' := [.inl (0 : Int32)]) rfl ?_
      refine xw.bt (cd := .eq) (x := (0 : Int32)) (y := (0 : Int32)) 40 28 (st' := []) rfl (y_ceq _ _) (by decide) ?_
      refine xw.s (pc' := 41) (st' := [.inr (some (5, a1))]) rfl ?_
      refine xw.s (pc' := 42) (st' := [.inl (0 : Int32), .inr (some (5, a1))]) rfl ?_
      refine xw.fp (c := 5) (j := 6) (ty := 0) (nx := 45) rfl rfl (Or.inl rfl) ?_
      obtain ⟨S9, e10⟩ : ∃ s, s = xm_si S7 5 a1 6 (0 : Int32) := ⟨_, rfl⟩
      rw [← e10]
      replace h := h S9 e10
      refine xw.s (pc' := 46) (st' := [.inr (some (5, a1))]) rfl ?_
      refine xw.s (pc' := 47) (st' := [.inl (0 : Int32), .inr (some (5, a1))]) rfl ?_
      refine xw.fp (c := 5) (j := 7) (ty := 0) (nx := 50) rfl rfl (Or.inl rfl) ?_
      obtain ⟨S11, e12⟩ : ∃ s, s = xm_si S9 5 a1 7 (0 : Int32) := ⟨_, rfl⟩
      rw [← e12]
      replace h := h S11 e12
      refine xw.s (pc' := 99) (st' := []) rfl ?_
      refine xw.s (pc' := 100) (st' := [.inr (some (0, 0))]) rfl ?_
      refine xw.s (pc' := 101) (st' := [.inr (some (2, a2)), .inr (some (0, 0))]) rfl ?_
      refine xw.s (pc' := 102) (st' := [.inr (some (2, a3)), .inr (some (2, a2)), .inr (some (0, 0))]) rfl ?_
      refine xw.call (m := 29) (as := [.inr (some (0, 0)), .inr (some (2, a2)), .inr (some (2, a3))]) (nx := 105) (L' := [some (.inr (some (0, 0))), some (.inr (some (5, a1))), some (.inr (some (2, a2))), some (.inr (some (2, a3))), some (.inl (0 : Int32))]) (st' := []) rfl ?_
      show xw _ _ _ [some (.inr (some (0, 0))), some (.inr (some (2, a2))), some (.inr (some (2, a3)))] [] _ _
      refine xw.s (pc' := 1) (st' := [.inr (some (2, a3))]) rfl ?_
      refine xw.fi (c := 2) (j := 8) (ty := 0) (nx := 4) (v := (xm_i S 2 a3 8)) rfl rfl ((congrArg (fun s => xm_i s 2 a3 8) e12).trans ((xi_si (by decide)).trans ((congrArg (fun s => xm_i s 2 a3 8) e10).trans ((xi_si (by decide)).trans ((congrArg (fun s => xm_i s 2 a3 8) e8).trans rfl))))) ?_
      refine xw.s (pc' := 5) (st' := [.inl (1 : Int32), .inl (xm_i S 2 a3 8)]) rfl ?_
      refine xw.bn (c := (xm_i S 2 a3 8) = (1 : Int32)) (cd := .ne) (x := (xm_i S 2 a3 8)) (y := (1 : Int32)) 24 8 (st' := []) rfl (y_cne _ _) h (fun c13 h => ?_) (fun c13 h => ?_)
      · skip
        refine xw.s (pc' := 9) (st' := [.inr (some (0, 0))]) rfl ?_
        refine xw.s (pc' := 10) (st' := [.inr (some (2, a2)), .inr (some (0, 0))]) rfl ?_
        refine xw.s (pc' := 11) (st' := [.inr (some (2, a3)), .inr (some (2, a2)), .inr (some (0, 0))]) rfl ?_
        refine xw.fi (c := 2) (j := 9) (ty := 0) (nx := 14) (v := (xm_i S 2 a3 9)) rfl rfl ((congrArg (fun s => xm_i s 2 a3 9) e12).trans ((xi_si (by decide)).trans ((congrArg (fun s => xm_i s 2 a3 9) e10).trans ((xi_si (by decide)).trans ((congrArg (fun s => xm_i s 2 a3 9) e8).trans rfl))))) ?_
        refine xw.s (pc' := 15) (st' := [.inr (some (2, a3)), .inl (xm_i S 2 a3 9), .inr (some (2, a2)), .inr (some (0, 0))]) rfl ?_
        refine xw.fi (c := 2) (j := 10) (ty := 1) (nx := 18) (v := (xm_i S 2 a3 10)) rfl rfl ((congrArg (fun s => xm_i s 2 a3 10) e12).trans ((xi_si (by decide)).trans ((congrArg (fun s => xm_i s 2 a3 10) e10).trans ((xi_si (by decide)).trans ((congrArg (fun s => xm_i s 2 a3 10) e8).trans rfl))))) ?_
        refine xw.call (m := 30) (as := [.inr (some (0, 0)), .inr (some (2, a2)), .inl (xm_i S 2 a3 9), .inl (xm_i S 2 a3 10)]) (nx := 21) (L' := [some (.inr (some (0, 0))), some (.inr (some (2, a2))), some (.inr (some (2, a3)))]) (st' := []) rfl (xc.mono h ?_)
        rintro r S14 ⟨rfl, hC15, h⟩
        show xw _ _ 21 [some (.inr (some (0, 0))), some (.inr (some (2, a2))), some (.inr (some (2, a3)))] [] _ _
        refine xw.s (pc' := 33) (st' := []) rfl ?_
        refine xw.ret (r := none) rfl ?_
        show xw _ _ 105 [some (.inr (some (0, 0))), some (.inr (some (5, a1))), some (.inr (some (2, a2))), some (.inr (some (2, a3))), some (.inl (0 : Int32))] [] S14 _
        exact xw.ret (r := none) rfl h
      · skip
        refine xw.s (pc' := 25) (st' := [.inr (some (0, 0))]) rfl ?_
        refine xw.s (pc' := 26) (st' := [.inr (some (2, a2)), .inr (some (0, 0))]) rfl ?_
        refine xw.s (pc' := 27) (st' := [.inr (some (2, a3)), .inr (some (2, a2)), .inr (some (0, 0))]) rfl ?_
        refine xw.fr (c := 2) (j := 11) (e := 4) (nx := 30) (t := none) rfl rfl (((congrArg (fun s => xm_r s 2 a3 11) e12).trans ((congrArg (fun s => xm_r s 2 a3 11) e10).trans ((congrArg (fun s => xm_r s 2 a3 11) e8).trans (xr_sr (by decide))))).trans q2) ?_
        show xw _ _ _ [some (.inr (some (0, 0))), some (.inr (some (2, a2))), some (.inr (some (2, a3)))] [.inr none, .inr (some (2, a2)), .inr (some (0, 0))] _ _
        refine xw.call (m := 22) (as := [.inr (some (0, 0)), .inr (some (2, a2)), .inr none]) (nx := 33) (L' := [some (.inr (some (0, 0))), some (.inr (some (2, a2))), some (.inr (some (2, a3)))]) (st' := []) rfl (xc.mono h ?_)
        rintro r S16 ⟨rfl, hC17, h⟩
        show xw _ _ 33 [some (.inr (some (0, 0))), some (.inr (some (2, a2))), some (.inr (some (2, a3)))] [] _ _
        refine xw.ret (r := none) rfl ?_
        show xw _ _ 105 [some (.inr (some (0, 0))), some (.inr (some (5, a1))), some (.inr (some (2, a2))), some (.inr (some (2, a3))), some (.inl (0 : Int32))] [] S16 _
        exact xw.ret (r := none) rfl h
    · skip
      refine xw.s (pc' := 54) (st' := [.inr (some (5, a1))]) rfl ?_
      refine xw.fi (c := 5) (j := 6) (ty := 0) (nx := 57) (v := (xm_i S 5 a1 6)) rfl rfl rfl ?_
      refine xw.bn (c := (xm_i S 5 a1 6) = (0 : Int32)) (cd := .ne) (x := (xm_i S 5 a1 6)) (y := (0 : Int32)) 99 60 (st' := []) rfl (y_cne _ _) h (fun c18 h => ?_) (fun c18 h => ?_)
      · skip
        refine xw.s (pc' := 61) (st' := [.inr (some (5, a1))]) rfl ?_
        refine xw.s (pc' := 63) (st' := [.inl (0 : Int32), .inr (some (5, a1))]) rfl ?_
        refine xw.bt (cd := .eq) (x := (0 : Int32)) (y := (0 : Int32)) 75 66 (st' := [.inr (some (5, a1))]) rfl (y_ceq _ _) (by decide) ?_
        refine xw.s (pc' := 76) (st' := [.inl (0 : Int32), .inr (some (5, a1))]) rfl ?_
        refine xw.fp (c := 5) (j := 7) (ty := 0) (nx := 79) rfl rfl (Or.inl rfl) ?_
        obtain ⟨S19, e20⟩ : ∃ s, s = xm_si S 5 a1 7 (0 : Int32) := ⟨_, rfl⟩
        rw [← e20]
        replace h := h S19 e20
        refine xw.s (pc' := 80) (st' := [.inr (some (5, a1))]) rfl ?_
        refine xw.fi (c := 5) (j := 7) (ty := 0) (nx := 83) (v := (0 : Int32)) rfl rfl ((congrArg (fun s => xm_i s 5 a1 7) e20).trans xi_same) ?_
        refine xw.s (pc' := 84) (st' := [.inr (some (5, a1)), .inl (0 : Int32)]) rfl ?_
        refine xw.fi (c := 5) (j := 2) (ty := 0) (nx := 87) (v := (xm_i S 5 a1 2)) rfl rfl ((congrArg (fun s => xm_i s 5 a1 2) e20).trans (xi_si (by decide))) ?_
        refine xw.bn (c := (0 : Int32) = (xm_i S 5 a1 2)) (cd := .ne) (x := (0 : Int32)) (y := (xm_i S 5 a1 2)) 99 90 (st' := []) rfl (y_cne _ _) h (fun c21 h => ?_) (fun c21 h => ?_)
        · skip
          refine xw.s (pc' := 91) (st' := [.inr (some (0, 0))]) rfl ?_
          refine xw.s (pc' := 92) (st' := [.inr (some (5, a1)), .inr (some (0, 0))]) rfl ?_
          refine xw.s (pc' := 93) (st' := [.inr (some (5, a1)), .inr (some (5, a1)), .inr (some (0, 0))]) rfl ?_
          refine xw.fi (c := 5) (j := 3) (ty := 0) (nx := 96) (v := (xm_i S 5 a1 3)) rfl rfl ((congrArg (fun s => xm_i s 5 a1 3) e20).trans (xi_si (by decide))) ?_
          refine xw.call (m := 28) (as := [.inr (some (0, 0)), .inr (some (5, a1)), .inl (xm_i S 5 a1 3)]) (nx := 99) (L' := [some (.inr (some (0, 0))), some (.inr (some (5, a1))), some (.inr (some (2, a2))), some (.inr (some (2, a3))), some (.inl (0 : Int32))]) (st' := []) rfl ?_
          show xw _ _ _ [some (.inr (some (0, 0))), some (.inr (some (5, a1))), some (.inl (xm_i S 5 a1 3))] [] _ _
          refine xw.s (pc' := 1) (st' := [.inr (some (5, a1))]) rfl ?_
          refine xw.s (pc' := 2) (st' := [.inl (1 : Int32), .inr (some (5, a1))]) rfl ?_
          refine xw.fp (c := 5) (j := 6) (ty := 0) (nx := 5) rfl rfl (Or.inl rfl) ?_
          obtain ⟨S22, e23⟩ : ∃ s, s = xm_si S19 5 a1 6 (1 : Int32) := ⟨_, rfl⟩
          rw [← e23]
          replace h := h S22 e23
          refine xw.s (pc' := 6) (st' := [.inr (some (5, a1))]) rfl ?_
          refine xw.s (pc' := 7) (st' := [.inr (some (0, 0)), .inr (some (5, a1))]) rfl ?_
          refine xw.fi (c := 0) (j := 13) (ty := 0) (nx := 10) (v := (xm_i S 0 0 13)) rfl rfl ((congrArg (fun s => xm_i s 0 0 13) e23).trans ((xi_si (by decide)).trans ((congrArg (fun s => xm_i s 0 0 13) e20).trans (xi_si (by decide))))) ?_
          refine xw.s (pc' := 11) (st' := [.inl (xm_i S 5 a1 3), .inl (xm_i S 0 0 13), .inr (some (5, a1))]) rfl ?_
          refine xw.s (pc' := 12) (st' := [.inl ((xm_i S 0 0 13) + (xm_i S 5 a1 3)), .inr (some (5, a1))]) rfl ?_
          refine xw.fp (c := 5) (j := 8) (ty := 0) (nx := 15) rfl rfl (Or.inl rfl) ?_
          obtain ⟨S24, e25⟩ : ∃ s, s = xm_si S22 5 a1 8 ((xm_i S 0 0 13) + (xm_i S 5 a1 3)) := ⟨_, rfl⟩
          rw [← e25]
          replace h := h S24 e25
          refine xw.ret (r := none) rfl ?_
          show xw _ _ 99 [some (.inr (some (0, 0))), some (.inr (some (5, a1))), some (.inr (some (2, a2))), some (.inr (some (2, a3))), some (.inl (0 : Int32))] [] S24 _
          refine xw.s (pc' := 100) (st' := [.inr (some (0, 0))]) rfl ?_
          refine xw.s (pc' := 101) (st' := [.inr (some (2, a2)), .inr (some (0, 0))]) rfl ?_
          refine xw.s (pc' := 102) (st' := [.inr (some (2, a3)), .inr (some (2, a2)), .inr (some (0, 0))]) rfl ?_
          refine xw.call (m := 29) (as := [.inr (some (0, 0)), .inr (some (2, a2)), .inr (some (2, a3))]) (nx := 105) (L' := [some (.inr (some (0, 0))), some (.inr (some (5, a1))), some (.inr (some (2, a2))), some (.inr (some (2, a3))), some (.inl (0 : Int32))]) (st' := []) rfl ?_
          show xw _ _ _ [some (.inr (some (0, 0))), some (.inr (some (2, a2))), some (.inr (some (2, a3)))] [] _ _
          refine xw.s (pc' := 1) (st' := [.inr (some (2, a3))]) rfl ?_
          refine xw.fi (c := 2) (j := 8) (ty := 0) (nx := 4) (v := (xm_i S 2 a3 8)) rfl rfl ((congrArg (fun s => xm_i s 2 a3 8) e25).trans ((xi_si (by decide)).trans ((congrArg (fun s => xm_i s 2 a3 8) e23).trans ((xi_si (by decide)).trans ((congrArg (fun s => xm_i s 2 a3 8) e20).trans (xi_si (by decide))))))) ?_
          refine xw.s (pc' := 5) (st' := [.inl (1 : Int32), .inl (xm_i S 2 a3 8)]) rfl ?_
          refine xw.bn (c := (xm_i S 2 a3 8) = (1 : Int32)) (cd := .ne) (x := (xm_i S 2 a3 8)) (y := (1 : Int32)) 24 8 (st' := []) rfl (y_cne _ _) h (fun c26 h => ?_) (fun c26 h => ?_)
          · skip
            refine xw.s (pc' := 9) (st' := [.inr (some (0, 0))]) rfl ?_
            refine xw.s (pc' := 10) (st' := [.inr (some (2, a2)), .inr (some (0, 0))]) rfl ?_
            refine xw.s (pc' := 11) (st' := [.inr (some (2, a3)), .inr (some (2, a2)), .inr (some (0, 0))]) rfl ?_
            refine xw.fi (c := 2) (j := 9) (ty := 0) (nx := 14) (v := (xm_i S 2 a3 9)) rfl rfl ((congrArg (fun s => xm_i s 2 a3 9) e25).trans ((xi_si (by decide)).trans ((congrArg (fun s => xm_i s 2 a3 9) e23).trans ((xi_si (by decide)).trans ((congrArg (fun s => xm_i s 2 a3 9) e20).trans (xi_si (by decide))))))) ?_
            refine xw.s (pc' := 15) (st' := [.inr (some (2, a3)), .inl (xm_i S 2 a3 9), .inr (some (2, a2)), .inr (some (0, 0))]) rfl ?_
            refine xw.fi (c := 2) (j := 10) (ty := 1) (nx := 18) (v := (xm_i S 2 a3 10)) rfl rfl ((congrArg (fun s => xm_i s 2 a3 10) e25).trans ((xi_si (by decide)).trans ((congrArg (fun s => xm_i s 2 a3 10) e23).trans ((xi_si (by decide)).trans ((congrArg (fun s => xm_i s 2 a3 10) e20).trans (xi_si (by decide))))))) ?_
            refine xw.call (m := 30) (as := [.inr (some (0, 0)), .inr (some (2, a2)), .inl (xm_i S 2 a3 9), .inl (xm_i S 2 a3 10)]) (nx := 21) (L' := [some (.inr (some (0, 0))), some (.inr (some (2, a2))), some (.inr (some (2, a3)))]) (st' := []) rfl (xc.mono h ?_)
            rintro r S27 ⟨rfl, hC28, h⟩
            show xw _ _ 21 [some (.inr (some (0, 0))), some (.inr (some (2, a2))), some (.inr (some (2, a3)))] [] _ _
            refine xw.s (pc' := 33) (st' := []) rfl ?_
            refine xw.ret (r := none) rfl ?_
            show xw _ _ 105 [some (.inr (some (0, 0))), some (.inr (some (5, a1))), some (.inr (some (2, a2))), some (.inr (some (2, a3))), some (.inl (0 : Int32))] [] S27 _
            exact xw.ret (r := none) rfl h
          · skip
            refine xw.s (pc' := 25) (st' := [.inr (some (0, 0))]) rfl ?_
            refine xw.s (pc' := 26) (st' := [.inr (some (2, a2)), .inr (some (0, 0))]) rfl ?_
            refine xw.s (pc' := 27) (st' := [.inr (some (2, a3)), .inr (some (2, a2)), .inr (some (0, 0))]) rfl ?_
            refine xw.fr (c := 2) (j := 11) (e := 4) (nx := 30) (t := none) rfl rfl (((congrArg (fun s => xm_r s 2 a3 11) e25).trans ((congrArg (fun s => xm_r s 2 a3 11) e23).trans ((congrArg (fun s => xm_r s 2 a3 11) e20).trans rfl))).trans q2) ?_
            show xw _ _ _ [some (.inr (some (0, 0))), some (.inr (some (2, a2))), some (.inr (some (2, a3)))] [.inr none, .inr (some (2, a2)), .inr (some (0, 0))] _ _
            refine xw.call (m := 22) (as := [.inr (some (0, 0)), .inr (some (2, a2)), .inr none]) (nx := 33) (L' := [some (.inr (some (0, 0))), some (.inr (some (2, a2))), some (.inr (some (2, a3)))]) (st' := []) rfl (xc.mono h ?_)
            rintro r S29 ⟨rfl, hC30, h⟩
            show xw _ _ 33 [some (.inr (some (0, 0))), some (.inr (some (2, a2))), some (.inr (some (2, a3)))] [] _ _
            refine xw.ret (r := none) rfl ?_
            show xw _ _ 105 [some (.inr (some (0, 0))), some (.inr (some (5, a1))), some (.inr (some (2, a2))), some (.inr (some (2, a3))), some (.inl (0 : Int32))] [] S29 _
            exact xw.ret (r := none) rfl h
        · skip
          refine xw.s (pc' := 100) (st' := [.inr (some (0, 0))]) rfl ?_
          refine xw.s (pc' := 101) (st' := [.inr (some (2, a2)), .inr (some (0, 0))]) rfl ?_
          refine xw.s (pc' := 102) (st' := [.inr (some (2, a3)), .inr (some (2, a2)), .inr (some (0, 0))]) rfl ?_
          refine xw.call (m := 29) (as := [.inr (some (0, 0)), .inr (some (2, a2)), .inr (some (2, a3))]) (nx := 105) (L' := [some (.inr (some (0, 0))), some (.inr (some (5, a1))), some (.inr (some (2, a2))), some (.inr (some (2, a3))), some (.inl (0 : Int32))]) (st' := []) rfl ?_
          show xw _ _ _ [some (.inr (some (0, 0))), some (.inr (some (2, a2))), some (.inr (some (2, a3)))] [] _ _
          refine xw.s (pc' := 1) (st' := [.inr (some (2, a3))]) rfl ?_
          refine xw.fi (c := 2) (j := 8) (ty := 0) (nx := 4) (v := (xm_i S 2 a3 8)) rfl rfl ((congrArg (fun s => xm_i s 2 a3 8) e20).trans (xi_si (by decide))) ?_
          refine xw.s (pc' := 5) (st' := [.inl (1 : Int32), .inl (xm_i S 2 a3 8)]) rfl ?_
          refine xw.bn (c := (xm_i S 2 a3 8) = (1 : Int32)) (cd := .ne) (x := (xm_i S 2 a3 8)) (y := (1 : Int32)) 24 8 (st' := []) rfl (y_cne _ _) h (fun c31 h => ?_) (fun c31 h => ?_)
          · skip
            refine xw.s (pc' := 9) (st' := [.inr (some (0, 0))]) rfl ?_
            refine xw.s (pc' := 10) (st' := [.inr (some (2, a2)), .inr (some (0, 0))]) rfl ?_
            refine xw.s (pc' := 11) (st' := [.inr (some (2, a3)), .inr (some (2, a2)), .inr (some (0, 0))]) rfl ?_
            refine xw.fi (c := 2) (j := 9) (ty := 0) (nx := 14) (v := (xm_i S 2 a3 9)) rfl rfl ((congrArg (fun s => xm_i s 2 a3 9) e20).trans (xi_si (by decide))) ?_
            refine xw.s (pc' := 15) (st' := [.inr (some (2, a3)), .inl (xm_i S 2 a3 9), .inr (some (2, a2)), .inr (some (0, 0))]) rfl ?_
            refine xw.fi (c := 2) (j := 10) (ty := 1) (nx := 18) (v := (xm_i S 2 a3 10)) rfl rfl ((congrArg (fun s => xm_i s 2 a3 10) e20).trans (xi_si (by decide))) ?_
            refine xw.call (m := 30) (as := [.inr (some (0, 0)), .inr (some (2, a2)), .inl (xm_i S 2 a3 9), .inl (xm_i S 2 a3 10)]) (nx := 21) (L' := [some (.inr (some (0, 0))), some (.inr (some (2, a2))), some (.inr (some (2, a3)))]) (st' := []) rfl (xc.mono h ?_)
            rintro r S32 ⟨rfl, hC33, h⟩
            show xw _ _ 21 [some (.inr (some (0, 0))), some (.inr (some (2, a2))), some (.inr (some (2, a3)))] [] _ _
            refine xw.s (pc' := 33) (st' := []) rfl ?_
            refine xw.ret (r := none) rfl ?_
            show xw _ _ 105 [some (.inr (some (0, 0))), some (.inr (some (5, a1))), some (.inr (some (2, a2))), some (.inr (some (2, a3))), some (.inl (0 : Int32))] [] S32 _
            exact xw.ret (r := none) rfl h
          · skip
            refine xw.s (pc' := 25) (st' := [.inr (some (0, 0))]) rfl ?_
            refine xw.s (pc' := 26) (st' := [.inr (some (2, a2)), .inr (some (0, 0))]) rfl ?_
            refine xw.s (pc' := 27) (st' := [.inr (some (2, a3)), .inr (some (2, a2)), .inr (some (0, 0))]) rfl ?_
            refine xw.fr (c := 2) (j := 11) (e := 4) (nx := 30) (t := none) rfl rfl (((congrArg (fun s => xm_r s 2 a3 11) e20).trans rfl).trans q2) ?_
            show xw _ _ _ [some (.inr (some (0, 0))), some (.inr (some (2, a2))), some (.inr (some (2, a3)))] [.inr none, .inr (some (2, a2)), .inr (some (0, 0))] _ _
            refine xw.call (m := 22) (as := [.inr (some (0, 0)), .inr (some (2, a2)), .inr none]) (nx := 33) (L' := [some (.inr (some (0, 0))), some (.inr (some (2, a2))), some (.inr (some (2, a3)))]) (st' := []) rfl (xc.mono h ?_)
            rintro r S34 ⟨rfl, hC35, h⟩
            show xw _ _ 33 [some (.inr (some (0, 0))), some (.inr (some (2, a2))), some (.inr (some (2, a3)))] [] _ _
            refine xw.ret (r := none) rfl ?_
            show xw _ _ 105 [some (.inr (some (0, 0))), some (.inr (some (5, a1))), some (.inr (some (2, a2))), some (.inr (some (2, a3))), some (.inl (0 : Int32))] [] S34 _
            exact xw.ret (r := none) rfl h
      · skip
        refine xw.s (pc' := 100) (st' := [.inr (some (0, 0))]) rfl ?_
        refine xw.s (pc' := 101) (st' := [.inr (some (2, a2)), .inr (some (0, 0))]) rfl ?_
        refine xw.s (pc' := 102) (st' := [.inr (some (2, a3)), .inr (some (2, a2)), .inr (some (0, 0))]) rfl ?_
        refine xw.call (m := 29) (as := [.inr (some (0, 0)), .inr (some (2, a2)), .inr (some (2, a3))]) (nx := 105) (L' := [some (.inr (some (0, 0))), some (.inr (some (5, a1))), some (.inr (some (2, a2))), some (.inr (some (2, a3))), some (.inl (0 : Int32))]) (st' := []) rfl ?_
        show xw _ _ _ [some (.inr (some (0, 0))), some (.inr (some (2, a2))), some (.inr (some (2, a3)))] [] _ _
        refine xw.s (pc' := 1) (st' := [.inr (some (2, a3))]) rfl ?_
        refine xw.fi (c := 2) (j := 8) (ty := 0) (nx := 4) (v := (xm_i S 2 a3 8)) rfl rfl rfl ?_
        refine xw.s (pc' := 5) (st' := [.inl (1 : Int32), .inl (xm_i S 2 a3 8)]) rfl ?_
        refine xw.bn (c := (xm_i S 2 a3 8) = (1 : Int32)) (cd := .ne) (x := (xm_i S 2 a3 8)) (y := (1 : Int32)) 24 8 (st' := []) rfl (y_cne _ _) h (fun c36 h => ?_) (fun c36 h => ?_)
        · skip
          refine xw.s (pc' := 9) (st' := [.inr (some (0, 0))]) rfl ?_
          refine xw.s (pc' := 10) (st' := [.inr (some (2, a2)), .inr (some (0, 0))]) rfl ?_
          refine xw.s (pc' := 11) (st' := [.inr (some (2, a3)), .inr (some (2, a2)), .inr (some (0, 0))]) rfl ?_
          refine xw.fi (c := 2) (j := 9) (ty := 0) (nx := 14) (v := (xm_i S 2 a3 9)) rfl rfl rfl ?_
          refine xw.s (pc' := 15) (st' := [.inr (some (2, a3)), .inl (xm_i S 2 a3 9), .inr (some (2, a2)), .inr (some (0, 0))]) rfl ?_
          refine xw.fi (c := 2) (j := 10) (ty := 1) (nx := 18) (v := (xm_i S 2 a3 10)) rfl rfl rfl ?_
          refine xw.call (m := 30) (as := [.inr (some (0, 0)), .inr (some (2, a2)), .inl (xm_i S 2 a3 9), .inl (xm_i S 2 a3 10)]) (nx := 21) (L' := [some (.inr (some (0, 0))), some (.inr (some (2, a2))), some (.inr (some (2, a3)))]) (st' := []) rfl (xc.mono h ?_)
          rintro r S37 ⟨rfl, hC38, h⟩
          show xw _ _ 21 [some (.inr (some (0, 0))), some (.inr (some (2, a2))), some (.inr (some (2, a3)))] [] _ _
          refine xw.s (pc' := 33) (st' := []) rfl ?_
          refine xw.ret (r := none) rfl ?_
          show xw _ _ 105 [some (.inr (some (0, 0))), some (.inr (some (5, a1))), some (.inr (some (2, a2))), some (.inr (some (2, a3))), some (.inl (0 : Int32))] [] S37 _
          exact xw.ret (r := none) rfl h
        · skip
          refine xw.s (pc' := 25) (st' := [.inr (some (0, 0))]) rfl ?_
          refine xw.s (pc' := 26) (st' := [.inr (some (2, a2)), .inr (some (0, 0))]) rfl ?_
          refine xw.s (pc' := 27) (st' := [.inr (some (2, a3)), .inr (some (2, a2)), .inr (some (0, 0))]) rfl ?_
          refine xw.fr (c := 2) (j := 11) (e := 4) (nx := 30) (t := none) rfl rfl q2 ?_
          show xw _ _ _ [some (.inr (some (0, 0))), some (.inr (some (2, a2))), some (.inr (some (2, a3)))] [.inr none, .inr (some (2, a2)), .inr (some (0, 0))] _ _
          refine xw.call (m := 22) (as := [.inr (some (0, 0)), .inr (some (2, a2)), .inr none]) (nx := 33) (L' := [some (.inr (some (0, 0))), some (.inr (some (2, a2))), some (.inr (some (2, a3)))]) (st' := []) rfl (xc.mono h ?_)
          rintro r S39 ⟨rfl, hC40, h⟩
          show xw _ _ 33 [some (.inr (some (0, 0))), some (.inr (some (2, a2))), some (.inr (some (2, a3)))] [] _ _
          refine xw.ret (r := none) rfl ?_
          show xw _ _ 105 [some (.inr (some (0, 0))), some (.inr (some (5, a1))), some (.inr (some (2, a2))), some (.inr (some (2, a3))), some (.inl (0 : Int32))] [] S39 _
          exact xw.ret (r := none) rfl h
  · replace h := h.2 k3 rfl
    show xw _ _ 4 [some (.inr (some (5, a1))), some (.inr (some (4, k3)))] [] _ _
    refine xw.s (pc' := 5) (st' := [.inr (some (4, k3))]) rfl ?_
    refine xw.fi (c := 4) (j := 1) (ty := 0) (nx := 8) (v := (xm_i S 4 k3 1)) rfl rfl rfl ?_
    refine xw.s (pc' := 9) (st' := [.inr (some (5, a1)), .inl (xm_i S 4 k3 1)]) rfl ?_
    refine xw.fi (c := 5) (j := 5) (ty := 0) (nx := 12) (v := (xm_i S 5 a1 5)) rfl rfl rfl ?_
    refine xw.call (m := 27) (as := [.inl (xm_i S 4 k3 1), .inl (xm_i S 5 a1 5)]) (nx := 15) (L' := [some (.inr (some (5, a1))), some (.inr (some (4, k3)))]) (st' := []) rfl (xc.mono h ?_)
    rintro r S41 ⟨x43, rfl, hC42, h⟩
    show xw _ _ 15 [some (.inr (some (5, a1))), some (.inr (some (4, k3)))] [.inl x43] _ _
    refine xw.b (c := x43 = (0 : Int32)) (cd := .eq) (x := x43) (y := (0 : Int32)) 22 18 (st' := []) rfl (y_ceq _ _) h (fun c44 h => ?_) (fun c44 h => ?_)
    · skip
      refine xw.s (pc' := 23) (st' := [.inl (0 : Int32)]) rfl ?_
      refine xw.retz (nx := 24) rfl (Or.inl rfl) ?_
      show xw _ _ 8 [some (.inr (some (0, 0))), some (.inr (some (5, a1))), some (.inr (some (2, a2))), some (.inr (some (2, a3))), none] [.inl (0 : Int32)] S41 _
      refine xw.s (pc' := 10) (st' := []) (L' := [some (.inr (some (0, 0))), some (.inr (some (5, a1))), some (.inr (some (2, a2))), some (.inr (some (2, a3))), some (.inl (0 : Int32))]) rfl ?_
      refine xw.s (pc' := 11) (st' := [.inr (some (5, a1))]) rfl ?_
      obtain ⟨t45, q46⟩ : ∃ t, (xm_r S41 5 a1 9) = t := ⟨_, rfl⟩
      replace h := h t45 q46
      refine xw.fr (c := 5) (j := 9) (e := 2) (nx := 14) (t := t45) rfl rfl q46 ?_
      show xw _ _ _ [some (.inr (some (0, 0))), some (.inr (some (5, a1))), some (.inr (some (2, a2))), some (.inr (some (2, a3))), some (.inl (0 : Int32))] [.inr (xo 2 t45)] _ _
      refine xw.s (pc' := 15) (st' := [.inr (some (2, a2)), .inr (xo 2 t45)]) rfl ?_
      refine xw.an (c := 2) (a := t45) (b := (some a2)) (cn := t45 = some a2) (t := 53) (nx := 18) rfl rfl (by decide) Iff.rfl h (fun c47 h => ?_) (fun c47 h => ?_)
      · skip
        refine xw.s (pc' := 19) (st' := [.inr (some (5, a1))]) rfl ?_
        refine xw.s (pc' := 20) (st' := [.inr none, .inr (some (5, a1))]) rfl ?_
        refine xw.fq (c := 5) (j := 9) (e := 2) (nx := 23) (t := none) rfl rfl ?_
        obtain ⟨S48, e49⟩ : ∃ s, s = xm_sr S41 5 a1 9 none := ⟨_, rfl⟩
        rw [← e49]
        replace h := h S48 e49
        refine xw.s (pc' := 25) (st' := [.inl (0 : Int32)]) rfl ?_
        refine xw.bt (cd := .eq) (x := (0 : Int32)) (y := (0 : Int32)) 40 28 (st' := []) rfl (y_ceq _ _) (by decide) ?_
        refine xw.s (pc' := 41) (st' := [.inr (some (5, a1))]) rfl ?_
        refine xw.s (pc' := 42) (st' := [.inl (0 : Int32), .inr (some (5, a1))]) rfl ?_
        refine xw.fp (c := 5) (j := 6) (ty := 0) (nx := 45) rfl rfl (Or.inl rfl) ?_
        obtain ⟨S50, e51⟩ : ∃ s, s = xm_si S48 5 a1 6 (0 : Int32) := ⟨_, rfl⟩
        rw [← e51]
        replace h := h S50 e51
        refine xw.s (pc' := 46) (st' := [.inr (some (5, a1))]) rfl ?_
        refine xw.s (pc' := 47) (st' := [.inl (0 : Int32), .inr (some (5, a1))]) rfl ?_
        refine xw.fp (c := 5) (j := 7) (ty := 0) (nx := 50) rfl rfl (Or.inl rfl) ?_
        obtain ⟨S52, e53⟩ : ∃ s, s = xm_si S50 5 a1 7 (0 : Int32) := ⟨_, rfl⟩
        rw [← e53]
        replace h := h S52 e53
        refine xw.s (pc' := 99) (st' := []) rfl ?_
        refine xw.s (pc' := 100) (st' := [.inr (some (0, 0))]) rfl ?_
        refine xw.s (pc' := 101) (st' := [.inr (some (2, a2)), .inr (some (0, 0))]) rfl ?_
        refine xw.s (pc' := 102) (st' := [.inr (some (2, a3)), .inr (some (2, a2)), .inr (some (0, 0))]) rfl ?_
        refine xw.call (m := 29) (as := [.inr (some (0, 0)), .inr (some (2, a2)), .inr (some (2, a3))]) (nx := 105) (L' := [some (.inr (some (0, 0))), some (.inr (some (5, a1))), some (.inr (some (2, a2))), some (.inr (some (2, a3))), some (.inl (0 : Int32))]) (st' := []) rfl ?_
        show xw _ _ _ [some (.inr (some (0, 0))), some (.inr (some (2, a2))), some (.inr (some (2, a3)))] [] _ _
        refine xw.s (pc' := 1) (st' := [.inr (some (2, a3))]) rfl ?_
        refine xw.fi (c := 2) (j := 8) (ty := 0) (nx := 4) (v := (xm_i S41 2 a3 8)) rfl rfl ((congrArg (fun s => xm_i s 2 a3 8) e53).trans ((xi_si (by decide)).trans ((congrArg (fun s => xm_i s 2 a3 8) e51).trans ((xi_si (by decide)).trans ((congrArg (fun s => xm_i s 2 a3 8) e49).trans rfl))))) ?_
        refine xw.s (pc' := 5) (st' := [.inl (1 : Int32), .inl (xm_i S41 2 a3 8)]) rfl ?_
        refine xw.bn (c := (xm_i S41 2 a3 8) = (1 : Int32)) (cd := .ne) (x := (xm_i S41 2 a3 8)) (y := (1 : Int32)) 24 8 (st' := []) rfl (y_cne _ _) h (fun c54 h => ?_) (fun c54 h => ?_)
        · skip
          refine xw.s (pc' := 9) (st' := [.inr (some (0, 0))]) rfl ?_
          refine xw.s (pc' := 10) (st' := [.inr (some (2, a2)), .inr (some (0, 0))]) rfl ?_
          refine xw.s (pc' := 11) (st' := [.inr (some (2, a3)), .inr (some (2, a2)), .inr (some (0, 0))]) rfl ?_
          refine xw.fi (c := 2) (j := 9) (ty := 0) (nx := 14) (v := (xm_i S41 2 a3 9)) rfl rfl ((congrArg (fun s => xm_i s 2 a3 9) e53).trans ((xi_si (by decide)).trans ((congrArg (fun s => xm_i s 2 a3 9) e51).trans ((xi_si (by decide)).trans ((congrArg (fun s => xm_i s 2 a3 9) e49).trans rfl))))) ?_
          refine xw.s (pc' := 15) (st' := [.inr (some (2, a3)), .inl (xm_i S41 2 a3 9), .inr (some (2, a2)), .inr (some (0, 0))]) rfl ?_
          refine xw.fi (c := 2) (j := 10) (ty := 1) (nx := 18) (v := (xm_i S41 2 a3 10)) rfl rfl ((congrArg (fun s => xm_i s 2 a3 10) e53).trans ((xi_si (by decide)).trans ((congrArg (fun s => xm_i s 2 a3 10) e51).trans ((xi_si (by decide)).trans ((congrArg (fun s => xm_i s 2 a3 10) e49).trans rfl))))) ?_
          refine xw.call (m := 30) (as := [.inr (some (0, 0)), .inr (some (2, a2)), .inl (xm_i S41 2 a3 9), .inl (xm_i S41 2 a3 10)]) (nx := 21) (L' := [some (.inr (some (0, 0))), some (.inr (some (2, a2))), some (.inr (some (2, a3)))]) (st' := []) rfl (xc.mono h ?_)
          rintro r S55 ⟨rfl, hC56, h⟩
          show xw _ _ 21 [some (.inr (some (0, 0))), some (.inr (some (2, a2))), some (.inr (some (2, a3)))] [] _ _
          refine xw.s (pc' := 33) (st' := []) rfl ?_
          refine xw.ret (r := none) rfl ?_
          show xw _ _ 105 [some (.inr (some (0, 0))), some (.inr (some (5, a1))), some (.inr (some (2, a2))), some (.inr (some (2, a3))), some (.inl (0 : Int32))] [] S55 _
          exact xw.ret (r := none) rfl h
        · skip
          refine xw.s (pc' := 25) (st' := [.inr (some (0, 0))]) rfl ?_
          refine xw.s (pc' := 26) (st' := [.inr (some (2, a2)), .inr (some (0, 0))]) rfl ?_
          refine xw.s (pc' := 27) (st' := [.inr (some (2, a3)), .inr (some (2, a2)), .inr (some (0, 0))]) rfl ?_
          obtain ⟨t57, q58⟩ : ∃ t, (xm_r S41 2 a3 11) = t := ⟨_, rfl⟩
          replace h := h t57 q58
          refine xw.fr (c := 2) (j := 11) (e := 4) (nx := 30) (t := t57) rfl rfl (((congrArg (fun s => xm_r s 2 a3 11) e53).trans ((congrArg (fun s => xm_r s 2 a3 11) e51).trans ((congrArg (fun s => xm_r s 2 a3 11) e49).trans (xr_sr (by decide))))).trans q58) ?_
          show xw _ _ _ [some (.inr (some (0, 0))), some (.inr (some (2, a2))), some (.inr (some (2, a3)))] [.inr (xo 4 t57), .inr (some (2, a2)), .inr (some (0, 0))] _ _
          refine xw.call (m := 22) (as := [.inr (some (0, 0)), .inr (some (2, a2)), .inr (xo 4 t57)]) (nx := 33) (L' := [some (.inr (some (0, 0))), some (.inr (some (2, a2))), some (.inr (some (2, a3)))]) (st' := []) rfl (xc.mono h ?_)
          rintro r S59 ⟨rfl, hC60, h⟩
          show xw _ _ 33 [some (.inr (some (0, 0))), some (.inr (some (2, a2))), some (.inr (some (2, a3)))] [] _ _
          refine xw.ret (r := none) rfl ?_
          show xw _ _ 105 [some (.inr (some (0, 0))), some (.inr (some (5, a1))), some (.inr (some (2, a2))), some (.inr (some (2, a3))), some (.inl (0 : Int32))] [] S59 _
          exact xw.ret (r := none) rfl h
      · skip
        refine xw.s (pc' := 54) (st' := [.inr (some (5, a1))]) rfl ?_
        refine xw.fi (c := 5) (j := 6) (ty := 0) (nx := 57) (v := (xm_i S41 5 a1 6)) rfl rfl rfl ?_
        refine xw.bn (c := (xm_i S41 5 a1 6) = (0 : Int32)) (cd := .ne) (x := (xm_i S41 5 a1 6)) (y := (0 : Int32)) 99 60 (st' := []) rfl (y_cne _ _) h (fun c61 h => ?_) (fun c61 h => ?_)
        · skip
          refine xw.s (pc' := 61) (st' := [.inr (some (5, a1))]) rfl ?_
          refine xw.s (pc' := 63) (st' := [.inl (0 : Int32), .inr (some (5, a1))]) rfl ?_
          refine xw.bt (cd := .eq) (x := (0 : Int32)) (y := (0 : Int32)) 75 66 (st' := [.inr (some (5, a1))]) rfl (y_ceq _ _) (by decide) ?_
          refine xw.s (pc' := 76) (st' := [.inl (0 : Int32), .inr (some (5, a1))]) rfl ?_
          refine xw.fp (c := 5) (j := 7) (ty := 0) (nx := 79) rfl rfl (Or.inl rfl) ?_
          obtain ⟨S62, e63⟩ : ∃ s, s = xm_si S41 5 a1 7 (0 : Int32) := ⟨_, rfl⟩
          rw [← e63]
          replace h := h S62 e63
          refine xw.s (pc' := 80) (st' := [.inr (some (5, a1))]) rfl ?_
          refine xw.fi (c := 5) (j := 7) (ty := 0) (nx := 83) (v := (0 : Int32)) rfl rfl ((congrArg (fun s => xm_i s 5 a1 7) e63).trans xi_same) ?_
          refine xw.s (pc' := 84) (st' := [.inr (some (5, a1)), .inl (0 : Int32)]) rfl ?_
          refine xw.fi (c := 5) (j := 2) (ty := 0) (nx := 87) (v := (xm_i S41 5 a1 2)) rfl rfl ((congrArg (fun s => xm_i s 5 a1 2) e63).trans (xi_si (by decide))) ?_
          refine xw.bn (c := (0 : Int32) = (xm_i S41 5 a1 2)) (cd := .ne) (x := (0 : Int32)) (y := (xm_i S41 5 a1 2)) 99 90 (st' := []) rfl (y_cne _ _) h (fun c64 h => ?_) (fun c64 h => ?_)
          · skip
            refine xw.s (pc' := 91) (st' := [.inr (some (0, 0))]) rfl ?_
            refine xw.s (pc' := 92) (st' := [.inr (some (5, a1)), .inr (some (0, 0))]) rfl ?_
            refine xw.s (pc' := 93) (st' := [.inr (some (5, a1)), .inr (some (5, a1)), .inr (some (0, 0))]) rfl ?_
            refine xw.fi (c := 5) (j := 3) (ty := 0) (nx := 96) (v := (xm_i S41 5 a1 3)) rfl rfl ((congrArg (fun s => xm_i s 5 a1 3) e63).trans (xi_si (by decide))) ?_
            refine xw.call (m := 28) (as := [.inr (some (0, 0)), .inr (some (5, a1)), .inl (xm_i S41 5 a1 3)]) (nx := 99) (L' := [some (.inr (some (0, 0))), some (.inr (some (5, a1))), some (.inr (some (2, a2))), some (.inr (some (2, a3))), some (.inl (0 : Int32))]) (st' := []) rfl ?_
            show xw _ _ _ [some (.inr (some (0, 0))), some (.inr (some (5, a1))), some (.inl (xm_i S41 5 a1 3))] [] _ _
            refine xw.s (pc' := 1) (st' := [.inr (some (5, a1))]) rfl ?_
            refine xw.s (pc' := 2) (st' := [.inl (1 : Int32), .inr (some (5, a1))]) rfl ?_
            refine xw.fp (c := 5) (j := 6) (ty := 0) (nx := 5) rfl rfl (Or.inl rfl) ?_
            obtain ⟨S65, e66⟩ : ∃ s, s = xm_si S62 5 a1 6 (1 : Int32) := ⟨_, rfl⟩
            rw [← e66]
            replace h := h S65 e66
            refine xw.s (pc' := 6) (st' := [.inr (some (5, a1))]) rfl ?_
            refine xw.s (pc' := 7) (st' := [.inr (some (0, 0)), .inr (some (5, a1))]) rfl ?_
            refine xw.fi (c := 0) (j := 13) (ty := 0) (nx := 10) (v := (xm_i S41 0 0 13)) rfl rfl ((congrArg (fun s => xm_i s 0 0 13) e66).trans ((xi_si (by decide)).trans ((congrArg (fun s => xm_i s 0 0 13) e63).trans (xi_si (by decide))))) ?_
            refine xw.s (pc' := 11) (st' := [.inl (xm_i S41 5 a1 3), .inl (xm_i S41 0 0 13), .inr (some (5, a1))]) rfl ?_
            refine xw.s (pc' := 12) (st' := [.inl ((xm_i S41 0 0 13) + (xm_i S41 5 a1 3)), .inr (some (5, a1))]) rfl ?_
            refine xw.fp (c := 5) (j := 8) (ty := 0) (nx := 15) rfl rfl (Or.inl rfl) ?_
            obtain ⟨S67, e68⟩ : ∃ s, s = xm_si S65 5 a1 8 ((xm_i S41 0 0 13) + (xm_i S41 5 a1 3)) := ⟨_, rfl⟩
            rw [← e68]
            replace h := h S67 e68
            refine xw.ret (r := none) rfl ?_
            show xw _ _ 99 [some (.inr (some (0, 0))), some (.inr (some (5, a1))), some (.inr (some (2, a2))), some (.inr (some (2, a3))), some (.inl (0 : Int32))] [] S67 _
            refine xw.s (pc' := 100) (st' := [.inr (some (0, 0))]) rfl ?_
            refine xw.s (pc' := 101) (st' := [.inr (some (2, a2)), .inr (some (0, 0))]) rfl ?_
            refine xw.s (pc' := 102) (st' := [.inr (some (2, a3)), .inr (some (2, a2)), .inr (some (0, 0))]) rfl ?_
            refine xw.call (m := 29) (as := [.inr (some (0, 0)), .inr (some (2, a2)), .inr (some (2, a3))]) (nx := 105) (L' := [some (.inr (some (0, 0))), some (.inr (some (5, a1))), some (.inr (some (2, a2))), some (.inr (some (2, a3))), some (.inl (0 : Int32))]) (st' := []) rfl ?_
            show xw _ _ _ [some (.inr (some (0, 0))), some (.inr (some (2, a2))), some (.inr (some (2, a3)))] [] _ _
            refine xw.s (pc' := 1) (st' := [.inr (some (2, a3))]) rfl ?_
            refine xw.fi (c := 2) (j := 8) (ty := 0) (nx := 4) (v := (xm_i S41 2 a3 8)) rfl rfl ((congrArg (fun s => xm_i s 2 a3 8) e68).trans ((xi_si (by decide)).trans ((congrArg (fun s => xm_i s 2 a3 8) e66).trans ((xi_si (by decide)).trans ((congrArg (fun s => xm_i s 2 a3 8) e63).trans (xi_si (by decide))))))) ?_
            refine xw.s (pc' := 5) (st' := [.inl (1 : Int32), .inl (xm_i S41 2 a3 8)]) rfl ?_
            refine xw.bn (c := (xm_i S41 2 a3 8) = (1 : Int32)) (cd := .ne) (x := (xm_i S41 2 a3 8)) (y := (1 : Int32)) 24 8 (st' := []) rfl (y_cne _ _) h (fun c69 h => ?_) (fun c69 h => ?_)
            · skip
              refine xw.s (pc' := 9) (st' := [.inr (some (0, 0))]) rfl ?_
              refine xw.s (pc' := 10) (st' := [.inr (some (2, a2)), .inr (some (0, 0))]) rfl ?_
              refine xw.s (pc' := 11) (st' := [.inr (some (2, a3)), .inr (some (2, a2)), .inr (some (0, 0))]) rfl ?_
              refine xw.fi (c := 2) (j := 9) (ty := 0) (nx := 14) (v := (xm_i S41 2 a3 9)) rfl rfl ((congrArg (fun s => xm_i s 2 a3 9) e68).trans ((xi_si (by decide)).trans ((congrArg (fun s => xm_i s 2 a3 9) e66).trans ((xi_si (by decide)).trans ((congrArg (fun s => xm_i s 2 a3 9) e63).trans (xi_si (by decide))))))) ?_
              refine xw.s (pc' := 15) (st' := [.inr (some (2, a3)), .inl (xm_i S41 2 a3 9), .inr (some (2, a2)), .inr (some (0, 0))]) rfl ?_
              refine xw.fi (c := 2) (j := 10) (ty := 1) (nx := 18) (v := (xm_i S41 2 a3 10)) rfl rfl ((congrArg (fun s => xm_i s 2 a3 10) e68).trans ((xi_si (by decide)).trans ((congrArg (fun s => xm_i s 2 a3 10) e66).trans ((xi_si (by decide)).trans ((congrArg (fun s => xm_i s 2 a3 10) e63).trans (xi_si (by decide))))))) ?_
              refine xw.call (m := 30) (as := [.inr (some (0, 0)), .inr (some (2, a2)), .inl (xm_i S41 2 a3 9), .inl (xm_i S41 2 a3 10)]) (nx := 21) (L' := [some (.inr (some (0, 0))), some (.inr (some (2, a2))), some (.inr (some (2, a3)))]) (st' := []) rfl (xc.mono h ?_)
              rintro r S70 ⟨rfl, hC71, h⟩
              show xw _ _ 21 [some (.inr (some (0, 0))), some (.inr (some (2, a2))), some (.inr (some (2, a3)))] [] _ _
              refine xw.s (pc' := 33) (st' := []) rfl ?_
              refine xw.ret (r := none) rfl ?_
              show xw _ _ 105 [some (.inr (some (0, 0))), some (.inr (some (5, a1))), some (.inr (some (2, a2))), some (.inr (some (2, a3))), some (.inl (0 : Int32))] [] S70 _
              exact xw.ret (r := none) rfl h
            · skip
              refine xw.s (pc' := 25) (st' := [.inr (some (0, 0))]) rfl ?_
              refine xw.s (pc' := 26) (st' := [.inr (some (2, a2)), .inr (some (0, 0))]) rfl ?_
              refine xw.s (pc' := 27) (st' := [.inr (some (2, a3)), .inr (some (2, a2)), .inr (some (0, 0))]) rfl ?_
              obtain ⟨t72, q73⟩ : ∃ t, (xm_r S41 2 a3 11) = t := ⟨_, rfl⟩
              replace h := h t72 q73
              refine xw.fr (c := 2) (j := 11) (e := 4) (nx := 30) (t := t72) rfl rfl (((congrArg (fun s => xm_r s 2 a3 11) e68).trans ((congrArg (fun s => xm_r s 2 a3 11) e66).trans ((congrArg (fun s => xm_r s 2 a3 11) e63).trans rfl))).trans q73) ?_
              show xw _ _ _ [some (.inr (some (0, 0))), some (.inr (some (2, a2))), some (.inr (some (2, a3)))] [.inr (xo 4 t72), .inr (some (2, a2)), .inr (some (0, 0))] _ _
              refine xw.call (m := 22) (as := [.inr (some (0, 0)), .inr (some (2, a2)), .inr (xo 4 t72)]) (nx := 33) (L' := [some (.inr (some (0, 0))), some (.inr (some (2, a2))), some (.inr (some (2, a3)))]) (st' := []) rfl (xc.mono h ?_)
              rintro r S74 ⟨rfl, hC75, h⟩
              show xw _ _ 33 [some (.inr (some (0, 0))), some (.inr (some (2, a2))), some (.inr (some (2, a3)))] [] _ _
              refine xw.ret (r := none) rfl ?_
              show xw _ _ 105 [some (.inr (some (0, 0))), some (.inr (some (5, a1))), some (.inr (some (2, a2))), some (.inr (some (2, a3))), some (.inl (0 : Int32))] [] S74 _
              exact xw.ret (r := none) rfl h
          · skip
            refine xw.s (pc' := 100) (st' := [.inr (some (0, 0))]) rfl ?_
            refine xw.s (pc' := 101) (st' := [.inr (some (2, a2)), .inr (some (0, 0))]) rfl ?_
            refine xw.s (pc' := 102) (st' := [.inr (some (2, a3)), .inr (some (2, a2)), .inr (some (0, 0))]) rfl ?_
            refine xw.call (m := 29) (as := [.inr (some (0, 0)), .inr (some (2, a2)), .inr (some (2, a3))]) (nx := 105) (L' := [some (.inr (some (0, 0))), some (.inr (some (5, a1))), some (.inr (some (2, a2))), some (.inr (some (2, a3))), some (.inl (0 : Int32))]) (st' := []) rfl ?_
            show xw _ _ _ [some (.inr (some (0, 0))), some (.inr (some (2, a2))), some (.inr (some (2, a3)))] [] _ _
            refine xw.s (pc' := 1) (st' := [.inr (some (2, a3))]) rfl ?_
            refine xw.fi (c := 2) (j := 8) (ty := 0) (nx := 4) (v := (xm_i S41 2 a3 8)) rfl rfl ((congrArg (fun s => xm_i s 2 a3 8) e63).trans (xi_si (by decide))) ?_
            refine xw.s (pc' := 5) (st' := [.inl (1 : Int32), .inl (xm_i S41 2 a3 8)]) rfl ?_
            refine xw.bn (c := (xm_i S41 2 a3 8) = (1 : Int32)) (cd := .ne) (x := (xm_i S41 2 a3 8)) (y := (1 : Int32)) 24 8 (st' := []) rfl (y_cne _ _) h (fun c76 h => ?_) (fun c76 h => ?_)
            · skip
              refine xw.s (pc' := 9) (st' := [.inr (some (0, 0))]) rfl ?_
              refine xw.s (pc' := 10) (st' := [.inr (some (2, a2)), .inr (some (0, 0))]) rfl ?_
              refine xw.s (pc' := 11) (st' := [.inr (some (2, a3)), .inr (some (2, a2)), .inr (some (0, 0))]) rfl ?_
              refine xw.fi (c := 2) (j := 9) (ty := 0) (nx := 14) (v := (xm_i S41 2 a3 9)) rfl rfl ((congrArg (fun s => xm_i s 2 a3 9) e63).trans (xi_si (by decide))) ?_
              refine xw.s (pc' := 15) (st' := [.inr (some (2, a3)), .inl (xm_i S41 2 a3 9), .inr (some (2, a2)), .inr (some (0, 0))]) rfl ?_
              refine xw.fi (c := 2) (j := 10) (ty := 1) (nx := 18) (v := (xm_i S41 2 a3 10)) rfl rfl ((congrArg (fun s => xm_i s 2 a3 10) e63).trans (xi_si (by decide))) ?_
              refine xw.call (m := 30) (as := [.inr (some (0, 0)), .inr (some (2, a2)), .inl (xm_i S41 2 a3 9), .inl (xm_i S41 2 a3 10)]) (nx := 21) (L' := [some (.inr (some (0, 0))), some (.inr (some (2, a2))), some (.inr (some (2, a3)))]) (st' := []) rfl (xc.mono h ?_)
              rintro r S77 ⟨rfl, hC78, h⟩
              show xw _ _ 21 [some (.inr (some (0, 0))), some (.inr (some (2, a2))), some (.inr (some (2, a3)))] [] _ _
              refine xw.s (pc' := 33) (st' := []) rfl ?_
              refine xw.ret (r := none) rfl ?_
              show xw _ _ 105 [some (.inr (some (0, 0))), some (.inr (some (5, a1))), some (.inr (some (2, a2))), some (.inr (some (2, a3))), some (.inl (0 : Int32))] [] S77 _
              exact xw.ret (r := none) rfl h
            · skip
              refine xw.s (pc' := 25) (st' := [.inr (some (0, 0))]) rfl ?_
              refine xw.s (pc' := 26) (st' := [.inr (some (2, a2)), .inr (some (0, 0))]) rfl ?_
              refine xw.s (pc' := 27) (st' := [.inr (some (2, a3)), .inr (some (2, a2)), .inr (some (0, 0))]) rfl ?_
              obtain ⟨t79, q80⟩ : ∃ t, (xm_r S41 2 a3 11) = t := ⟨_, rfl⟩
              replace h := h t79 q80
              refine xw.fr (c := 2) (j := 11) (e := 4) (nx := 30) (t := t79) rfl rfl (((congrArg (fun s => xm_r s 2 a3 11) e63).trans rfl).trans q80) ?_
              show xw _ _ _ [some (.inr (some (0, 0))), some (.inr (some (2, a2))), some (.inr (some (2, a3)))] [.inr (xo 4 t79), .inr (some (2, a2)), .inr (some (0, 0))] _ _
              refine xw.call (m := 22) (as := [.inr (some (0, 0)), .inr (some (2, a2)), .inr (xo 4 t79)]) (nx := 33) (L' := [some (.inr (some (0, 0))), some (.inr (some (2, a2))), some (.inr (some (2, a3)))]) (st' := []) rfl (xc.mono h ?_)
              rintro r S81 ⟨rfl, hC82, h⟩
              show xw _ _ 33 [some (.inr (some (0, 0))), some (.inr (some (2, a2))), some (.inr (some (2, a3)))] [] _ _
              refine xw.ret (r := none) rfl ?_
              show xw _ _ 105 [some (.inr (some (0, 0))), some (.inr (some (5, a1))), some (.inr (some (2, a2))), some (.inr (some (2, a3))), some (.inl (0 : Int32))] [] S81 _
              exact xw.ret (r := none) rfl h
        · skip
          refine xw.s (pc' := 100) (st' := [.inr (some (0, 0))]) rfl ?_
          refine xw.s (pc' := 101) (st' := [.inr (some (2, a2)), .inr (some (0, 0))]) rfl ?_
          refine xw.s (pc' := 102) (st' := [.inr (some (2, a3)), .inr (some (2, a2)), .inr (some (0, 0))]) rfl ?_
          refine xw.call (m := 29) (as := [.inr (some (0, 0)), .inr (some (2, a2)), .inr (some (2, a3))]) (nx := 105) (L' := [some (.inr (some (0, 0))), some (.inr (some (5, a1))), some (.inr (some (2, a2))), some (.inr (some (2, a3))), some (.inl (0 : Int32))]) (st' := []) rfl ?_
          show xw _ _ _ [some (.inr (some (0, 0))), some (.inr (some (2, a2))), some (.inr (some (2, a3)))] [] _ _
          refine xw.s (pc' := 1) (st' := [.inr (some (2, a3))]) rfl ?_
          refine xw.fi (c := 2) (j := 8) (ty := 0) (nx := 4) (v := (xm_i S41 2 a3 8)) rfl rfl rfl ?_
          refine xw.s (pc' := 5) (st' := [.inl (1 : Int32), .inl (xm_i S41 2 a3 8)]) rfl ?_
          refine xw.bn (c := (xm_i S41 2 a3 8) = (1 : Int32)) (cd := .ne) (x := (xm_i S41 2 a3 8)) (y := (1 : Int32)) 24 8 (st' := []) rfl (y_cne _ _) h (fun c83 h => ?_) (fun c83 h => ?_)
          · skip
            refine xw.s (pc' := 9) (st' := [.inr (some (0, 0))]) rfl ?_
            refine xw.s (pc' := 10) (st' := [.inr (some (2, a2)), .inr (some (0, 0))]) rfl ?_
            refine xw.s (pc' := 11) (st' := [.inr (some (2, a3)), .inr (some (2, a2)), .inr (some (0, 0))]) rfl ?_
            refine xw.fi (c := 2) (j := 9) (ty := 0) (nx := 14) (v := (xm_i S41 2 a3 9)) rfl rfl rfl ?_
            refine xw.s (pc' := 15) (st' := [.inr (some (2, a3)), .inl (xm_i S41 2 a3 9), .inr (some (2, a2)), .inr (some (0, 0))]) rfl ?_
            refine xw.fi (c := 2) (j := 10) (ty := 1) (nx := 18) (v := (xm_i S41 2 a3 10)) rfl rfl rfl ?_
            refine xw.call (m := 30) (as := [.inr (some (0, 0)), .inr (some (2, a2)), .inl (xm_i S41 2 a3 9), .inl (xm_i S41 2 a3 10)]) (nx := 21) (L' := [some (.inr (some (0, 0))), some (.inr (some (2, a2))), some (.inr (some (2, a3)))]) (st' := []) rfl (xc.mono h ?_)
            rintro r S84 ⟨rfl, hC85, h⟩
            show xw _ _ 21 [some (.inr (some (0, 0))), some (.inr (some (2, a2))), some (.inr (some (2, a3)))] [] _ _
            refine xw.s (pc' := 33) (st' := []) rfl ?_
            refine xw.ret (r := none) rfl ?_
            show xw _ _ 105 [some (.inr (some (0, 0))), some (.inr (some (5, a1))), some (.inr (some (2, a2))), some (.inr (some (2, a3))), some (.inl (0 : Int32))] [] S84 _
            exact xw.ret (r := none) rfl h
          · skip
            refine xw.s (pc' := 25) (st' := [.inr (some (0, 0))]) rfl ?_
            refine xw.s (pc' := 26) (st' := [.inr (some (2, a2)), .inr (some (0, 0))]) rfl ?_
            refine xw.s (pc' := 27) (st' := [.inr (some (2, a3)), .inr (some (2, a2)), .inr (some (0, 0))]) rfl ?_
            obtain ⟨t86, q87⟩ : ∃ t, (xm_r S41 2 a3 11) = t := ⟨_, rfl⟩
            replace h := h t86 q87
            refine xw.fr (c := 2) (j := 11) (e := 4) (nx := 30) (t := t86) rfl rfl q87 ?_
            show xw _ _ _ [some (.inr (some (0, 0))), some (.inr (some (2, a2))), some (.inr (some (2, a3)))] [.inr (xo 4 t86), .inr (some (2, a2)), .inr (some (0, 0))] _ _
            refine xw.call (m := 22) (as := [.inr (some (0, 0)), .inr (some (2, a2)), .inr (xo 4 t86)]) (nx := 33) (L' := [some (.inr (some (0, 0))), some (.inr (some (2, a2))), some (.inr (some (2, a3)))]) (st' := []) rfl (xc.mono h ?_)
            rintro r S88 ⟨rfl, hC89, h⟩
            show xw _ _ 33 [some (.inr (some (0, 0))), some (.inr (some (2, a2))), some (.inr (some (2, a3)))] [] _ _
            refine xw.ret (r := none) rfl ?_
            show xw _ _ 105 [some (.inr (some (0, 0))), some (.inr (some (5, a1))), some (.inr (some (2, a2))), some (.inr (some (2, a3))), some (.inl (0 : Int32))] [] S88 _
            exact xw.ret (r := none) rfl h
    · skip
      refine xw.s (pc' := 19) (st' := [.inl (1 : Int32)]) rfl ?_
      refine xw.s (pc' := 23) (st' := [.inl (1 : Int32)]) rfl ?_
      refine xw.retz (nx := 24) rfl (Or.inr rfl) ?_
      show xw _ _ 8 [some (.inr (some (0, 0))), some (.inr (some (5, a1))), some (.inr (some (2, a2))), some (.inr (some (2, a3))), none] [.inl (1 : Int32)] S41 _
      refine xw.s (pc' := 10) (st' := []) (L' := [some (.inr (some (0, 0))), some (.inr (some (5, a1))), some (.inr (some (2, a2))), some (.inr (some (2, a3))), some (.inl (1 : Int32))]) rfl ?_
      refine xw.s (pc' := 11) (st' := [.inr (some (5, a1))]) rfl ?_
      obtain ⟨t90, q91⟩ : ∃ t, (xm_r S41 5 a1 9) = t := ⟨_, rfl⟩
      replace h := h t90 q91
      refine xw.fr (c := 5) (j := 9) (e := 2) (nx := 14) (t := t90) rfl rfl q91 ?_
      show xw _ _ _ [some (.inr (some (0, 0))), some (.inr (some (5, a1))), some (.inr (some (2, a2))), some (.inr (some (2, a3))), some (.inl (1 : Int32))] [.inr (xo 2 t90)] _ _
      refine xw.s (pc' := 15) (st' := [.inr (some (2, a2)), .inr (xo 2 t90)]) rfl ?_
      refine xw.an (c := 2) (a := t90) (b := (some a2)) (cn := t90 = some a2) (t := 53) (nx := 18) rfl rfl (by decide) Iff.rfl h (fun c92 h => ?_) (fun c92 h => ?_)
      · skip
        refine xw.s (pc' := 19) (st' := [.inr (some (5, a1))]) rfl ?_
        refine xw.s (pc' := 20) (st' := [.inr none, .inr (some (5, a1))]) rfl ?_
        refine xw.fq (c := 5) (j := 9) (e := 2) (nx := 23) (t := none) rfl rfl ?_
        obtain ⟨S93, e94⟩ : ∃ s, s = xm_sr S41 5 a1 9 none := ⟨_, rfl⟩
        rw [← e94]
        replace h := h S93 e94
        refine xw.s (pc' := 25) (st' := [.inl (1 : Int32)]) rfl ?_
        refine xw.bf (cd := .eq) (x := (1 : Int32)) (y := (0 : Int32)) 40 28 (st' := []) rfl (y_ceq _ _) (by decide) ?_
        refine xw.s (pc' := 29) (st' := [.inr (some (0, 0))]) rfl ?_
        refine xw.s (pc' := 30) (st' := [.inr (some (5, a1)), .inr (some (0, 0))]) rfl ?_
        refine xw.s (pc' := 31) (st' := [.inr (some (5, a1)), .inr (some (5, a1)), .inr (some (0, 0))]) rfl ?_
        refine xw.fi (c := 5) (j := 3) (ty := 0) (nx := 34) (v := (xm_i S41 5 a1 3)) rfl rfl ((congrArg (fun s => xm_i s 5 a1 3) e94).trans rfl) ?_
        refine xw.call (m := 28) (as := [.inr (some (0, 0)), .inr (some (5, a1)), .inl (xm_i S41 5 a1 3)]) (nx := 37) (L' := [some (.inr (some (0, 0))), some (.inr (some (5, a1))), some (.inr (some (2, a2))), some (.inr (some (2, a3))), some (.inl (1 : Int32))]) (st' := []) rfl ?_
        show xw _ _ _ [some (.inr (some (0, 0))), some (.inr (some (5, a1))), some (.inl (xm_i S41 5 a1 3))] [] _ _
        refine xw.s (pc' := 1) (st' := [.inr (some (5, a1))]) rfl ?_
        refine xw.s (pc' := 2) (st' := [.inl (1 : Int32), .inr (some (5, a1))]) rfl ?_
        refine xw.fp (c := 5) (j := 6) (ty := 0) (nx := 5) rfl rfl (Or.inl rfl) ?_
        obtain ⟨S95, e96⟩ : ∃ s, s = xm_si S93 5 a1 6 (1 : Int32) := ⟨_, rfl⟩
        rw [← e96]
        replace h := h S95 e96
        refine xw.s (pc' := 6) (st' := [.inr (some (5, a1))]) rfl ?_
        refine xw.s (pc' := 7) (st' := [.inr (some (0, 0)), .inr (some (5, a1))]) rfl ?_
        refine xw.fi (c := 0) (j := 13) (ty := 0) (nx := 10) (v := (xm_i S41 0 0 13)) rfl rfl ((congrArg (fun s => xm_i s 0 0 13) e96).trans ((xi_si (by decide)).trans ((congrArg (fun s => xm_i s 0 0 13) e94).trans rfl))) ?_
        refine xw.s (pc' := 11) (st' := [.inl (xm_i S41 5 a1 3), .inl (xm_i S41 0 0 13), .inr (some (5, a1))]) rfl ?_
        refine xw.s (pc' := 12) (st' := [.inl ((xm_i S41 0 0 13) + (xm_i S41 5 a1 3)), .inr (some (5, a1))]) rfl ?_
        refine xw.fp (c := 5) (j := 8) (ty := 0) (nx := 15) rfl rfl (Or.inl rfl) ?_
        obtain ⟨S97, e98⟩ : ∃ s, s = xm_si S95 5 a1 8 ((xm_i S41 0 0 13) + (xm_i S41 5 a1 3)) := ⟨_, rfl⟩
        rw [← e98]
        replace h := h S97 e98
        refine xw.ret (r := none) rfl ?_
        show xw _ _ 37 [some (.inr (some (0, 0))), some (.inr (some (5, a1))), some (.inr (some (2, a2))), some (.inr (some (2, a3))), some (.inl (1 : Int32))] [] S97 _
        refine xw.s (pc' := 99) (st' := []) rfl ?_
        refine xw.s (pc' := 100) (st' := [.inr (some (0, 0))]) rfl ?_
        refine xw.s (pc' := 101) (st' := [.inr (some (2, a2)), .inr (some (0, 0))]) rfl ?_
        refine xw.s (pc' := 102) (st' := [.inr (some (2, a3)), .inr (some (2, a2)), .inr (some (0, 0))]) rfl ?_
        refine xw.call (m := 29) (as := [.inr (some (0, 0)), .inr (some (2, a2)), .inr (some (2, a3))]) (nx := 105) (L' := [some (.inr (some (0, 0))), some (.inr (some (5, a1))), some (.inr (some (2, a2))), some (.inr (some (2, a3))), some (.inl (1 : Int32))]) (st' := []) rfl ?_
        show xw _ _ _ [some (.inr (some (0, 0))), some (.inr (some (2, a2))), some (.inr (some (2, a3)))] [] _ _
        refine xw.s (pc' := 1) (st' := [.inr (some (2, a3))]) rfl ?_
        refine xw.fi (c := 2) (j := 8) (ty := 0) (nx := 4) (v := (xm_i S41 2 a3 8)) rfl rfl ((congrArg (fun s => xm_i s 2 a3 8) e98).trans ((xi_si (by decide)).trans ((congrArg (fun s => xm_i s 2 a3 8) e96).trans ((xi_si (by decide)).trans ((congrArg (fun s => xm_i s 2 a3 8) e94).trans rfl))))) ?_
        refine xw.s (pc' := 5) (st' := [.inl (1 : Int32), .inl (xm_i S41 2 a3 8)]) rfl ?_
        refine xw.bn (c := (xm_i S41 2 a3 8) = (1 : Int32)) (cd := .ne) (x := (xm_i S41 2 a3 8)) (y := (1 : Int32)) 24 8 (st' := []) rfl (y_cne _ _) h (fun c99 h => ?_) (fun c99 h => ?_)
        · skip
          refine xw.s (pc' := 9) (st' := [.inr (some (0, 0))]) rfl ?_
          refine xw.s (pc' := 10) (st' := [.inr (some (2, a2)), .inr (some (0, 0))]) rfl ?_
          refine xw.s (pc' := 11) (st' := [.inr (some (2, a3)), .inr (some (2, a2)), .inr (some (0, 0))]) rfl ?_
          refine xw.fi (c := 2) (j := 9) (ty := 0) (nx := 14) (v := (xm_i S41 2 a3 9)) rfl rfl ((congrArg (fun s => xm_i s 2 a3 9) e98).trans ((xi_si (by decide)).trans ((congrArg (fun s => xm_i s 2 a3 9) e96).trans ((xi_si (by decide)).trans ((congrArg (fun s => xm_i s 2 a3 9) e94).trans rfl))))) ?_
          refine xw.s (pc' := 15) (st' := [.inr (some (2, a3)), .inl (xm_i S41 2 a3 9), .inr (some (2, a2)), .inr (some (0, 0))]) rfl ?_
          refine xw.fi (c := 2) (j := 10) (ty := 1) (nx := 18) (v := (xm_i S41 2 a3 10)) rfl rfl ((congrArg (fun s => xm_i s 2 a3 10) e98).trans ((xi_si (by decide)).trans ((congrArg (fun s => xm_i s 2 a3 10) e96).trans ((xi_si (by decide)).trans ((congrArg (fun s => xm_i s 2 a3 10) e94).trans rfl))))) ?_
          refine xw.call (m := 30) (as := [.inr (some (0, 0)), .inr (some (2, a2)), .inl (xm_i S41 2 a3 9), .inl (xm_i S41 2 a3 10)]) (nx := 21) (L' := [some (.inr (some (0, 0))), some (.inr (some (2, a2))), some (.inr (some (2, a3)))]) (st' := []) rfl (xc.mono h ?_)
          rintro r S100 ⟨rfl, hC101, h⟩
          show xw _ _ 21 [some (.inr (some (0, 0))), some (.inr (some (2, a2))), some (.inr (some (2, a3)))] [] _ _
          refine xw.s (pc' := 33) (st' := []) rfl ?_
          refine xw.ret (r := none) rfl ?_
          show xw _ _ 105 [some (.inr (some (0, 0))), some (.inr (some (5, a1))), some (.inr (some (2, a2))), some (.inr (some (2, a3))), some (.inl (1 : Int32))] [] S100 _
          exact xw.ret (r := none) rfl h
        · skip
          refine xw.s (pc' := 25) (st' := [.inr (some (0, 0))]) rfl ?_
          refine xw.s (pc' := 26) (st' := [.inr (some (2, a2)), .inr (some (0, 0))]) rfl ?_
          refine xw.s (pc' := 27) (st' := [.inr (some (2, a3)), .inr (some (2, a2)), .inr (some (0, 0))]) rfl ?_
          obtain ⟨t102, q103⟩ : ∃ t, (xm_r S41 2 a3 11) = t := ⟨_, rfl⟩
          replace h := h t102 q103
          refine xw.fr (c := 2) (j := 11) (e := 4) (nx := 30) (t := t102) rfl rfl (((congrArg (fun s => xm_r s 2 a3 11) e98).trans ((congrArg (fun s => xm_r s 2 a3 11) e96).trans ((congrArg (fun s => xm_r s 2 a3 11) e94).trans (xr_sr (by decide))))).trans q103) ?_
          show xw _ _ _ [some (.inr (some (0, 0))), some (.inr (some (2, a2))), some (.inr (some (2, a3)))] [.inr (xo 4 t102), .inr (some (2, a2)), .inr (some (0, 0))] _ _
          refine xw.call (m := 22) (as := [.inr (some (0, 0)), .inr (some (2, a2)), .inr (xo 4 t102)]) (nx := 33) (L' := [some (.inr (some (0, 0))), some (.inr (some (2, a2))), some (.inr (some (2, a3)))]) (st' := []) rfl (xc.mono h ?_)
          rintro r S104 ⟨rfl, hC105, h⟩
          show xw _ _ 33 [some (.inr (some (0, 0))), some (.inr (some (2, a2))), some (.inr (some (2, a3)))] [] _ _
          refine xw.ret (r := none) rfl ?_
          show xw _ _ 105 [some (.inr (some (0, 0))), some (.inr (some (5, a1))), some (.inr (some (2, a2))), some (.inr (some (2, a3))), some (.inl (1 : Int32))] [] S104 _
          exact xw.ret (r := none) rfl h
      · skip
        refine xw.s (pc' := 54) (st' := [.inr (some (5, a1))]) rfl ?_
        refine xw.fi (c := 5) (j := 6) (ty := 0) (nx := 57) (v := (xm_i S41 5 a1 6)) rfl rfl rfl ?_
        refine xw.bn (c := (xm_i S41 5 a1 6) = (0 : Int32)) (cd := .ne) (x := (xm_i S41 5 a1 6)) (y := (0 : Int32)) 99 60 (st' := []) rfl (y_cne _ _) h (fun c106 h => ?_) (fun c106 h => ?_)
        · skip
          refine xw.s (pc' := 61) (st' := [.inr (some (5, a1))]) rfl ?_
          refine xw.s (pc' := 63) (st' := [.inl (1 : Int32), .inr (some (5, a1))]) rfl ?_
          refine xw.bf (cd := .eq) (x := (1 : Int32)) (y := (0 : Int32)) 75 66 (st' := [.inr (some (5, a1))]) rfl (y_ceq _ _) (by decide) ?_
          refine xw.s (pc' := 67) (st' := [.inr (some (5, a1)), .inr (some (5, a1))]) rfl ?_
          refine xw.fi (c := 5) (j := 7) (ty := 0) (nx := 70) (v := (xm_i S41 5 a1 7)) rfl rfl rfl ?_
          refine xw.s (pc' := 71) (st' := [.inl (1 : Int32), .inl (xm_i S41 5 a1 7), .inr (some (5, a1))]) rfl ?_
          refine xw.s (pc' := 72) (st' := [.inl ((xm_i S41 5 a1 7) + (1 : Int32)), .inr (some (5, a1))]) rfl ?_
          refine xw.s (pc' := 76) (st' := [.inl ((xm_i S41 5 a1 7) + (1 : Int32)), .inr (some (5, a1))]) rfl ?_
          refine xw.fp (c := 5) (j := 7) (ty := 0) (nx := 79) rfl rfl (Or.inl rfl) ?_
          obtain ⟨S107, e108⟩ : ∃ s, s = xm_si S41 5 a1 7 ((xm_i S41 5 a1 7) + (1 : Int32)) := ⟨_, rfl⟩
          rw [← e108]
          replace h := h S107 e108
          refine xw.s (pc' := 80) (st' := [.inr (some (5, a1))]) rfl ?_
          refine xw.fi (c := 5) (j := 7) (ty := 0) (nx := 83) (v := ((xm_i S41 5 a1 7) + (1 : Int32))) rfl rfl ((congrArg (fun s => xm_i s 5 a1 7) e108).trans xi_same) ?_
          refine xw.s (pc' := 84) (st' := [.inr (some (5, a1)), .inl ((xm_i S41 5 a1 7) + (1 : Int32))]) rfl ?_
          refine xw.fi (c := 5) (j := 2) (ty := 0) (nx := 87) (v := (xm_i S41 5 a1 2)) rfl rfl ((congrArg (fun s => xm_i s 5 a1 2) e108).trans (xi_si (by decide))) ?_
          refine xw.bn (c := ((xm_i S41 5 a1 7) + (1 : Int32)) = (xm_i S41 5 a1 2)) (cd := .ne) (x := ((xm_i S41 5 a1 7) + (1 : Int32))) (y := (xm_i S41 5 a1 2)) 99 90 (st' := []) rfl (y_cne _ _) h (fun c109 h => ?_) (fun c109 h => ?_)
          · skip
            refine xw.s (pc' := 91) (st' := [.inr (some (0, 0))]) rfl ?_
            refine xw.s (pc' := 92) (st' := [.inr (some (5, a1)), .inr (some (0, 0))]) rfl ?_
            refine xw.s (pc' := 93) (st' := [.inr (some (5, a1)), .inr (some (5, a1)), .inr (some (0, 0))]) rfl ?_
            refine xw.fi (c := 5) (j := 3) (ty := 0) (nx := 96) (v := (xm_i S41 5 a1 3)) rfl rfl ((congrArg (fun s => xm_i s 5 a1 3) e108).trans (xi_si (by decide))) ?_
            refine xw.call (m := 28) (as := [.inr (some (0, 0)), .inr (some (5, a1)), .inl (xm_i S41 5 a1 3)]) (nx := 99) (L' := [some (.inr (some (0, 0))), some (.inr (some (5, a1))), some (.inr (some (2, a2))), some (.inr (some (2, a3))), some (.inl (1 : Int32))]) (st' := []) rfl ?_
            show xw _ _ _ [some (.inr (some (0, 0))), some (.inr (some (5, a1))), some (.inl (xm_i S41 5 a1 3))] [] _ _
            refine xw.s (pc' := 1) (st' := [.inr (some (5, a1))]) rfl ?_
            refine xw.s (pc' := 2) (st' := [.inl (1 : Int32), .inr (some (5, a1))]) rfl ?_
            refine xw.fp (c := 5) (j := 6) (ty := 0) (nx := 5) rfl rfl (Or.inl rfl) ?_
            obtain ⟨S110, e111⟩ : ∃ s, s = xm_si S107 5 a1 6 (1 : Int32) := ⟨_, rfl⟩
            rw [← e111]
            replace h := h S110 e111
            refine xw.s (pc' := 6) (st' := [.inr (some (5, a1))]) rfl ?_
            refine xw.s (pc' := 7) (st' := [.inr (some (0, 0)), .inr (some (5, a1))]) rfl ?_
            refine xw.fi (c := 0) (j := 13) (ty := 0) (nx := 10) (v := (xm_i S41 0 0 13)) rfl rfl ((congrArg (fun s => xm_i s 0 0 13) e111).trans ((xi_si (by decide)).trans ((congrArg (fun s => xm_i s 0 0 13) e108).trans (xi_si (by decide))))) ?_
            refine xw.s (pc' := 11) (st' := [.inl (xm_i S41 5 a1 3), .inl (xm_i S41 0 0 13), .inr (some (5, a1))]) rfl ?_
            refine xw.s (pc' := 12) (st' := [.inl ((xm_i S41 0 0 13) + (xm_i S41 5 a1 3)), .inr (some (5, a1))]) rfl ?_
            refine xw.fp (c := 5) (j := 8) (ty := 0) (nx := 15) rfl rfl (Or.inl rfl) ?_
            obtain ⟨S112, e113⟩ : ∃ s, s = xm_si S110 5 a1 8 ((xm_i S41 0 0 13) + (xm_i S41 5 a1 3)) := ⟨_, rfl⟩
            rw [← e113]
            replace h := h S112 e113
            refine xw.ret (r := none) rfl ?_
            show xw _ _ 99 [some (.inr (some (0, 0))), some (.inr (some (5, a1))), some (.inr (some (2, a2))), some (.inr (some (2, a3))), some (.inl (1 : Int32))] [] S112 _
            refine xw.s (pc' := 100) (st' := [.inr (some (0, 0))]) rfl ?_
            refine xw.s (pc' := 101) (st' := [.inr (some (2, a2)), .inr (some (0, 0))]) rfl ?_
            refine xw.s (pc' := 102) (st' := [.inr (some (2, a3)), .inr (some (2, a2)), .inr (some (0, 0))]) rfl ?_
            refine xw.call (m := 29) (as := [.inr (some (0, 0)), .inr (some (2, a2)), .inr (some (2, a3))]) (nx := 105) (L' := [some (.inr (some (0, 0))), some (.inr (some (5, a1))), some (.inr (some (2, a2))), some (.inr (some (2, a3))), some (.inl (1 : Int32))]) (st' := []) rfl ?_
            show xw _ _ _ [some (.inr (some (0, 0))), some (.inr (some (2, a2))), some (.inr (some (2, a3)))] [] _ _
            refine xw.s (pc' := 1) (st' := [.inr (some (2, a3))]) rfl ?_
            refine xw.fi (c := 2) (j := 8) (ty := 0) (nx := 4) (v := (xm_i S41 2 a3 8)) rfl rfl ((congrArg (fun s => xm_i s 2 a3 8) e113).trans ((xi_si (by decide)).trans ((congrArg (fun s => xm_i s 2 a3 8) e111).trans ((xi_si (by decide)).trans ((congrArg (fun s => xm_i s 2 a3 8) e108).trans (xi_si (by decide))))))) ?_
            refine xw.s (pc' := 5) (st' := [.inl (1 : Int32), .inl (xm_i S41 2 a3 8)]) rfl ?_
            refine xw.bn (c := (xm_i S41 2 a3 8) = (1 : Int32)) (cd := .ne) (x := (xm_i S41 2 a3 8)) (y := (1 : Int32)) 24 8 (st' := []) rfl (y_cne _ _) h (fun c114 h => ?_) (fun c114 h => ?_)
            · skip
              refine xw.s (pc' := 9) (st' := [.inr (some (0, 0))]) rfl ?_
              refine xw.s (pc' := 10) (st' := [.inr (some (2, a2)), .inr (some (0, 0))]) rfl ?_
              refine xw.s (pc' := 11) (st' := [.inr (some (2, a3)), .inr (some (2, a2)), .inr (some (0, 0))]) rfl ?_
              refine xw.fi (c := 2) (j := 9) (ty := 0) (nx := 14) (v := (xm_i S41 2 a3 9)) rfl rfl ((congrArg (fun s => xm_i s 2 a3 9) e113).trans ((xi_si (by decide)).trans ((congrArg (fun s => xm_i s 2 a3 9) e111).trans ((xi_si (by decide)).trans ((congrArg (fun s => xm_i s 2 a3 9) e108).trans (xi_si (by decide))))))) ?_
              refine xw.s (pc' := 15) (st' := [.inr (some (2, a3)), .inl (xm_i S41 2 a3 9), .inr (some (2, a2)), .inr (some (0, 0))]) rfl ?_
              refine xw.fi (c := 2) (j := 10) (ty := 1) (nx := 18) (v := (xm_i S41 2 a3 10)) rfl rfl ((congrArg (fun s => xm_i s 2 a3 10) e113).trans ((xi_si (by decide)).trans ((congrArg (fun s => xm_i s 2 a3 10) e111).trans ((xi_si (by decide)).trans ((congrArg (fun s => xm_i s 2 a3 10) e108).trans (xi_si (by decide))))))) ?_
              refine xw.call (m := 30) (as := [.inr (some (0, 0)), .inr (some (2, a2)), .inl (xm_i S41 2 a3 9), .inl (xm_i S41 2 a3 10)]) (nx := 21) (L' := [some (.inr (some (0, 0))), some (.inr (some (2, a2))), some (.inr (some (2, a3)))]) (st' := []) rfl (xc.mono h ?_)
              rintro r S115 ⟨rfl, hC116, h⟩
              show xw _ _ 21 [some (.inr (some (0, 0))), some (.inr (some (2, a2))), some (.inr (some (2, a3)))] [] _ _
              refine xw.s (pc' := 33) (st' := []) rfl ?_
              refine xw.ret (r := none) rfl ?_
              show xw _ _ 105 [some (.inr (some (0, 0))), some (.inr (some (5, a1))), some (.inr (some (2, a2))), some (.inr (some (2, a3))), some (.inl (1 : Int32))] [] S115 _
              exact xw.ret (r := none) rfl h
            · skip
              refine xw.s (pc' := 25) (st' := [.inr (some (0, 0))]) rfl ?_
              refine xw.s (pc' := 26) (st' := [.inr (some (2, a2)), .inr (some (0, 0))]) rfl ?_
              refine xw.s (pc' := 27) (st' := [.inr (some (2, a3)), .inr (some (2, a2)), .inr (some (0, 0))]) rfl ?_
              obtain ⟨t117, q118⟩ : ∃ t, (xm_r S41 2 a3 11) = t := ⟨_, rfl⟩
              replace h := h t117 q118
              refine xw.fr (c := 2) (j := 11) (e := 4) (nx := 30) (t := t117) rfl rfl (((congrArg (fun s => xm_r s 2 a3 11) e113).trans ((congrArg (fun s => xm_r s 2 a3 11) e111).trans ((congrArg (fun s => xm_r s 2 a3 11) e108).trans rfl))).trans q118) ?_
              show xw _ _ _ [some (.inr (some (0, 0))), some (.inr (some (2, a2))), some (.inr (some (2, a3)))] [.inr (xo 4 t117), .inr (some (2, a2)), .inr (some (0, 0))] _ _
              refine xw.call (m := 22) (as := [.inr (some (0, 0)), .inr (some (2, a2)), .inr (xo 4 t117)]) (nx := 33) (L' := [some (.inr (some (0, 0))), some (.inr (some (2, a2))), some (.inr (some (2, a3)))]) (st' := []) rfl (xc.mono h ?_)
              rintro r S119 ⟨rfl, hC120, h⟩
              show xw _ _ 33 [some (.inr (some (0, 0))), some (.inr (some (2, a2))), some (.inr (some (2, a3)))] [] _ _
              refine xw.ret (r := none) rfl ?_
              show xw _ _ 105 [some (.inr (some (0, 0))), some (.inr (some (5, a1))), some (.inr (some (2, a2))), some (.inr (some (2, a3))), some (.inl (1 : Int32))] [] S119 _
              exact xw.ret (r := none) rfl h
          · skip
            refine xw.s (pc' := 100) (st' := [.inr (some (0, 0))]) rfl ?_
            refine xw.s (pc' := 101) (st' := [.inr (some (2, a2)), .inr (some (0, 0))]) rfl ?_
            refine xw.s (pc' := 102) (st' := [.inr (some (2, a3)), .inr (some (2, a2)), .inr (some (0, 0))]) rfl ?_
            refine xw.call (m := 29) (as := [.inr (some (0, 0)), .inr (some (2, a2)), .inr (some (2, a3))]) (nx := 105) (L' := [some (.inr (some (0, 0))), some (.inr (some (5, a1))), some (.inr (some (2, a2))), some (.inr (some (2, a3))), some (.inl (1 : Int32))]) (st' := []) rfl ?_
            show xw _ _ _ [some (.inr (some (0, 0))), some (.inr (some (2, a2))), some (.inr (some (2, a3)))] [] _ _
            refine xw.s (pc' := 1) (st' := [.inr (some (2, a3))]) rfl ?_
            refine xw.fi (c := 2) (j := 8) (ty := 0) (nx := 4) (v := (xm_i S41 2 a3 8)) rfl rfl ((congrArg (fun s => xm_i s 2 a3 8) e108).trans (xi_si (by decide))) ?_
            refine xw.s (pc' := 5) (st' := [.inl (1 : Int32), .inl (xm_i S41 2 a3 8)]) rfl ?_
            refine xw.bn (c := (xm_i S41 2 a3 8) = (1 : Int32)) (cd := .ne) (x := (xm_i S41 2 a3 8)) (y := (1 : Int32)) 24 8 (st' := []) rfl (y_cne _ _) h (fun c121 h => ?_) (fun c121 h => ?_)
            · skip
              refine xw.s (pc' := 9) (st' := [.inr (some (0, 0))]) rfl ?_
              refine xw.s (pc' := 10) (st' := [.inr (some (2, a2)), .inr (some (0, 0))]) rfl ?_
              refine xw.s (pc' := 11) (st' := [.inr (some (2, a3)), .inr (some (2, a2)), .inr (some (0, 0))]) rfl ?_
              refine xw.fi (c := 2) (j := 9) (ty := 0) (nx := 14) (v := (xm_i S41 2 a3 9)) rfl rfl ((congrArg (fun s => xm_i s 2 a3 9) e108).trans (xi_si (by decide))) ?_
              refine xw.s (pc' := 15) (st' := [.inr (some (2, a3)), .inl (xm_i S41 2 a3 9), .inr (some (2, a2)), .inr (some (0, 0))]) rfl ?_
              refine xw.fi (c := 2) (j := 10) (ty := 1) (nx := 18) (v := (xm_i S41 2 a3 10)) rfl rfl ((congrArg (fun s => xm_i s 2 a3 10) e108).trans (xi_si (by decide))) ?_
              refine xw.call (m := 30) (as := [.inr (some (0, 0)), .inr (some (2, a2)), .inl (xm_i S41 2 a3 9), .inl (xm_i S41 2 a3 10)]) (nx := 21) (L' := [some (.inr (some (0, 0))), some (.inr (some (2, a2))), some (.inr (some (2, a3)))]) (st' := []) rfl (xc.mono h ?_)
              rintro r S122 ⟨rfl, hC123, h⟩
              show xw _ _ 21 [some (.inr (some (0, 0))), some (.inr (some (2, a2))), some (.inr (some (2, a3)))] [] _ _
              refine xw.s (pc' := 33) (st' := []) rfl ?_
              refine xw.ret (r := none) rfl ?_
              show xw _ _ 105 [some (.inr (some (0, 0))), some (.inr (some (5, a1))), some (.inr (some (2, a2))), some (.inr (some (2, a3))), some (.inl (1 : Int32))] [] S122 _
              exact xw.ret (r := none) rfl h
            · skip
              refine xw.s (pc' := 25) (st' := [.inr (some (0, 0))]) rfl ?_
              refine xw.s (pc' := 26) (st' := [.inr (some (2, a2)), .inr (some (0, 0))]) rfl ?_
              refine xw.s (pc' := 27) (st' := [.inr (some (2, a3)), .inr (some (2, a2)), .inr (some (0, 0))]) rfl ?_
              obtain ⟨t124, q125⟩ : ∃ t, (xm_r S41 2 a3 11) = t := ⟨_, rfl⟩
              replace h := h t124 q125
              refine xw.fr (c := 2) (j := 11) (e := 4) (nx := 30) (t := t124) rfl rfl (((congrArg (fun s => xm_r s 2 a3 11) e108).trans rfl).trans q125) ?_
              show xw _ _ _ [some (.inr (some (0, 0))), some (.inr (some (2, a2))), some (.inr (some (2, a3)))] [.inr (xo 4 t124), .inr (some (2, a2)), .inr (some (0, 0))] _ _
              refine xw.call (m := 22) (as := [.inr (some (0, 0)), .inr (some (2, a2)), .inr (xo 4 t124)]) (nx := 33) (L' := [some (.inr (some (0, 0))), some (.inr (some (2, a2))), some (.inr (some (2, a3)))]) (st' := []) rfl (xc.mono h ?_)
              rintro r S126 ⟨rfl, hC127, h⟩
              show xw _ _ 33 [some (.inr (some (0, 0))), some (.inr (some (2, a2))), some (.inr (some (2, a3)))] [] _ _
              refine xw.ret (r := none) rfl ?_
              show xw _ _ 105 [some (.inr (some (0, 0))), some (.inr (some (5, a1))), some (.inr (some (2, a2))), some (.inr (some (2, a3))), some (.inl (1 : Int32))] [] S126 _
              exact xw.ret (r := none) rfl h
        · skip
          refine xw.s (pc' := 100) (st' := [.inr (some (0, 0))]) rfl ?_
          refine xw.s (pc' := 101) (st' := [.inr (some (2, a2)), .inr (some (0, 0))]) rfl ?_
          refine xw.s (pc' := 102) (st' := [.inr (some (2, a3)), .inr (some (2, a2)), .inr (some (0, 0))]) rfl ?_
          refine xw.call (m := 29) (as := [.inr (some (0, 0)), .inr (some (2, a2)), .inr (some (2, a3))]) (nx := 105) (L' := [some (.inr (some (0, 0))), some (.inr (some (5, a1))), some (.inr (some (2, a2))), some (.inr (some (2, a3))), some (.inl (1 : Int32))]) (st' := []) rfl ?_
          show xw _ _ _ [some (.inr (some (0, 0))), some (.inr (some (2, a2))), some (.inr (some (2, a3)))] [] _ _
          refine xw.s (pc' := 1) (st' := [.inr (some (2, a3))]) rfl ?_
          refine xw.fi (c := 2) (j := 8) (ty := 0) (nx := 4) (v := (xm_i S41 2 a3 8)) rfl rfl rfl ?_
          refine xw.s (pc' := 5) (st' := [.inl (1 : Int32), .inl (xm_i S41 2 a3 8)]) rfl ?_
          refine xw.bn (c := (xm_i S41 2 a3 8) = (1 : Int32)) (cd := .ne) (x := (xm_i S41 2 a3 8)) (y := (1 : Int32)) 24 8 (st' := []) rfl (y_cne _ _) h (fun c128 h => ?_) (fun c128 h => ?_)
          · skip
            refine xw.s (pc' := 9) (st' := [.inr (some (0, 0))]) rfl ?_
            refine xw.s (pc' := 10) (st' := [.inr (some (2, a2)), .inr (some (0, 0))]) rfl ?_
            refine xw.s (pc' := 11) (st' := [.inr (some (2, a3)), .inr (some (2, a2)), .inr (some (0, 0))]) rfl ?_
            refine xw.fi (c := 2) (j := 9) (ty := 0) (nx := 14) (v := (xm_i S41 2 a3 9)) rfl rfl rfl ?_
            refine xw.s (pc' := 15) (st' := [.inr (some (2, a3)), .inl (xm_i S41 2 a3 9), .inr (some (2, a2)), .inr (some (0, 0))]) rfl ?_
            refine xw.fi (c := 2) (j := 10) (ty := 1) (nx := 18) (v := (xm_i S41 2 a3 10)) rfl rfl rfl ?_
            refine xw.call (m := 30) (as := [.inr (some (0, 0)), .inr (some (2, a2)), .inl (xm_i S41 2 a3 9), .inl (xm_i S41 2 a3 10)]) (nx := 21) (L' := [some (.inr (some (0, 0))), some (.inr (some (2, a2))), some (.inr (some (2, a3)))]) (st' := []) rfl (xc.mono h ?_)
            rintro r S129 ⟨rfl, hC130, h⟩
            show xw _ _ 21 [some (.inr (some (0, 0))), some (.inr (some (2, a2))), some (.inr (some (2, a3)))] [] _ _
            refine xw.s (pc' := 33) (st' := []) rfl ?_
            refine xw.ret (r := none) rfl ?_
            show xw _ _ 105 [some (.inr (some (0, 0))), some (.inr (some (5, a1))), some (.inr (some (2, a2))), some (.inr (some (2, a3))), some (.inl (1 : Int32))] [] S129 _
            exact xw.ret (r := none) rfl h
          · skip
            refine xw.s (pc' := 25) (st' := [.inr (some (0, 0))]) rfl ?_
            refine xw.s (pc' := 26) (st' := [.inr (some (2, a2)), .inr (some (0, 0))]) rfl ?_
            refine xw.s (pc' := 27) (st' := [.inr (some (2, a3)), .inr (some (2, a2)), .inr (some (0, 0))]) rfl ?_
            obtain ⟨t131, q132⟩ : ∃ t, (xm_r S41 2 a3 11) = t := ⟨_, rfl⟩
            replace h := h t131 q132
            refine xw.fr (c := 2) (j := 11) (e := 4) (nx := 30) (t := t131) rfl rfl q132 ?_
            show xw _ _ _ [some (.inr (some (0, 0))), some (.inr (some (2, a2))), some (.inr (some (2, a3)))] [.inr (xo 4 t131), .inr (some (2, a2)), .inr (some (0, 0))] _ _
            refine xw.call (m := 22) (as := [.inr (some (0, 0)), .inr (some (2, a2)), .inr (xo 4 t131)]) (nx := 33) (L' := [some (.inr (some (0, 0))), some (.inr (some (2, a2))), some (.inr (some (2, a3)))]) (st' := []) rfl (xc.mono h ?_)
            rintro r S133 ⟨rfl, hC134, h⟩
            show xw _ _ 33 [some (.inr (some (0, 0))), some (.inr (some (2, a2))), some (.inr (some (2, a3)))] [] _ _
            refine xw.ret (r := none) rfl ?_
            show xw _ _ 105 [some (.inr (some (0, 0))), some (.inr (some (5, a1))), some (.inr (some (2, a2))), some (.inr (some (2, a3))), some (.inl (1 : Int32))] [] S133 _
            exact xw.ret (r := none) rfl h
/-- kindIsOf -/
theorem cw_kindIsOf {d : Nat} {a1 : Int32} {a2 : Int32} {S : xm_S} {Q : Option xm_V → xm_S → Prop} (hC : xk_C S) (h : xw d 27 4 [some (.inl a1), some (.inl a2), some (.inl a1), some (.inl (0 : Int32))] [] S Q) : xc (d) 27 [.inl a1, .inl a2] S Q := by
  show xw _ _ _ [some (.inl a1), some (.inl a2), none, none] _ _ _
  refine xw.s (pc' := 1) (st' := [.inl a1]) rfl ?_
  refine xw.s (pc' := 2) (st' := []) (L' := [some (.inl a1), some (.inl a2), some (.inl a1), none]) rfl ?_
  refine xw.s (pc' := 3) (st' := [.inl (0 : Int32)]) rfl ?_
  refine xw.s (pc' := 4) (st' := []) (L' := [some (.inl a1), some (.inl a2), some (.inl a1), some (.inl (0 : Int32))]) rfl ?_
  exact h
theorem cw_kindIsOf_4 {d : Nat} {l0 : Int32} {l1 : Int32} {l2 : Int32} {l3 : Int32} {S : xm_S} {Q : Option xm_V → xm_S → Prop} (hC : xk_C S) (h : ((15 : Int32) < l3 → Q (some (.inl (0 : Int32))) S) ∧ (¬ (15 : Int32) < l3 → (l2 < (0 : Int32) → Q (some (.inl (0 : Int32))) S) ∧ (¬ l2 < (0 : Int32) → ((nI (xm_n S 26 6)) ≤ l2 → Q (some (.inl (0 : Int32))) S) ∧ (¬ (nI (xm_n S 26 6)) ≤ l2 → (l2 = l1 → Q (some (.inl (1 : Int32))) S) ∧ (¬ l2 = l1 → y_in l2 (xm_n S 26 6) ∧ (xw d 27 4 [some (.inl l0), some (.inl l1), some (.inl (xm_i S 16 6 (y_ix l2))), some (.inl (l3 + (1 : Int32)))] [] S Q)))))) : xw (d) 27 4 [some (.inl l0), some (.inl l1), some (.inl l2), some (.inl l3)] [] S Q := by
  refine xw.s (pc' := 5) (st' := [.inl l3]) rfl ?_
  refine xw.s (pc' := 7) (st' := [.inl (15 : Int32), .inl l3]) rfl ?_
  refine xw.b (c := (15 : Int32) < l3) (cd := .gt) (x := l3) (y := (15 : Int32)) 41 10 (st' := []) rfl (y_cgt _ _) h (fun c1 h => ?_) (fun c1 h => ?_)
  · skip
    refine xw.s (pc' := 42) (st' := [.inl (0 : Int32)]) rfl ?_
    exact xw.retz (nx := 43) rfl (Or.inl rfl) h
  · skip
    refine xw.s (pc' := 11) (st' := [.inl l2]) rfl ?_
    refine xw.b (c := l2 < (0 : Int32)) (cd := .lt) (x := l2) (y := (0 : Int32)) 41 14 (st' := []) rfl (y_clt _ _) h (fun c2 h => ?_) (fun c2 h => ?_)
    · skip
      refine xw.s (pc' := 42) (st' := [.inl (0 : Int32)]) rfl ?_
      exact xw.retz (nx := 43) rfl (Or.inl rfl) h
    · skip
      refine xw.s (pc' := 15) (st' := [.inl l2]) rfl ?_
      refine xw.s (pc' := 18) (st' := [.inr (some (16, 6)), .inl l2]) rfl ?_
      refine xw.aln (c := 16) (n := (xm_n S 26 6)) (nx := 19) rfl (by decide) rfl ?_
      refine xw.b (c := (nI (xm_n S 26 6)) ≤ l2) (cd := .ge) (x := l2) (y := (nI (xm_n S 26 6))) 41 22 (st' := []) rfl (y_cge _ _) h (fun c3 h => ?_) (fun c3 h => ?_)
      · skip
        refine xw.s (pc' := 42) (st' := [.inl (0 : Int32)]) rfl ?_
        exact xw.retz (nx := 43) rfl (Or.inl rfl) h
      · skip
        refine xw.s (pc' := 23) (st' := [.inl l2]) rfl ?_
        refine xw.s (pc' := 24) (st' := [.inl l1, .inl l2]) rfl ?_
        refine xw.bn (c := l2 = l1) (cd := .ne) (x := l2) (y := l1) 29 27 (st' := []) rfl (y_cne _ _) h (fun c4 h => ?_) (fun c4 h => ?_)
        · skip
          refine xw.s (pc' := 28) (st' := [.inl (1 : Int32)]) rfl ?_
          exact xw.retz (nx := 29) rfl (Or.inr rfl) h
        · skip
          refine xw.s (pc' := 32) (st' := [.inr (some (16, 6))]) rfl ?_
          refine xw.s (pc' := 33) (st' := [.inl l2, .inr (some (16, 6))]) rfl ?_
          obtain ⟨z5, h⟩ := h
          refine xw.ild (c := 16) (nx := 34) (v := (xm_i S 16 6 (y_ix l2))) rfl (by decide) z5 rfl ?_
          refine xw.s (pc' := 35) (st' := []) (L' := [some (.inl l0), some (.inl l1), some (.inl (xm_i S 16 6 (y_ix l2))), some (.inl l3)]) rfl ?_
          refine xw.s (pc' := 38) (st' := []) (L' := [some (.inl l0), some (.inl l1), some (.inl (xm_i S 16 6 (y_ix l2))), some (.inl (l3 + (1 : Int32)))]) rfl ?_
          refine xw.s (pc' := 4) (st' := []) rfl ?_
          exact h
/-- endGood -/
theorem cw_endGood {d : Nat} {a1 : Nat} {a2 : Int32} {a3 : Int32} {S : xm_S} {Q : Option xm_V → xm_S → Prop} (hC : xk_C S) (h : ((xm_i S 2 a1 8) = (0 : Int32) → ∀ S2, S2 = xm_si S 2 a1 8 (1 : Int32) → (∀ S4, S4 = xm_si S2 2 a1 9 a2 → ((a3 = 0 ∨ a3 = 1) ∧ (∀ S7, S7 = xm_si S4 2 a1 10 a3 → (xc d 23 [.inr (some (0, 0)), .inr (some (2, a1))] S7 (fun r S9 => r = none ∧ xk_C S9 ∧ (Q none S9))))))) ∧ (¬ (xm_i S 2 a1 8) = (0 : Int32) → Q none S)) : xc (d + 1) 30 [.inr (some (0, 0)), .inr (some (2, a1)), .inl a2, .inl a3] S Q := by
  show xw _ _ _ [some (.inr (some (0, 0))), some (.inr (some (2, a1))), some (.inl a2), some (.inl a3)] _ _ _
  refine xw.s (pc' := 1) (st' := [.inr (some (2, a1))]) rfl ?_
  refine xw.fi (c := 2) (j := 8) (ty := 0) (nx := 4) (v := (xm_i S 2 a1 8)) rfl rfl rfl ?_
  refine xw.bn (c := (xm_i S 2 a1 8) = (0 : Int32)) (cd := .ne) (x := (xm_i S 2 a1 8)) (y := (0 : Int32)) 27 7 (st' := []) rfl (y_cne _ _) h (fun c1 h => ?_) (fun c1 h => ?_)
  · skip
    refine xw.s (pc' := 8) (st' := [.inr (some (2, a1))]) rfl ?_
    refine xw.s (pc' := 9) (st' := [.inl (1 : Int32), .inr (some (2, a1))]) rfl ?_
    refine xw.fp (c := 2) (j := 8) (ty := 0) (nx := 12) rfl rfl (Or.inl rfl) ?_
    obtain ⟨S2, e3⟩ : ∃ s, s = xm_si S 2 a1 8 (1 : Int32) := ⟨_, rfl⟩
    rw [← e3]
    replace h := h S2 e3
    refine xw.s (pc' := 13) (st' := [.inr (some (2, a1))]) rfl ?_
    refine xw.s (pc' := 14) (st' := [.inl a2, .inr (some (2, a1))]) rfl ?_
    refine xw.fp (c := 2) (j := 9) (ty := 0) (nx := 17) rfl rfl (Or.inl rfl) ?_
    obtain ⟨S4, e5⟩ : ∃ s, s = xm_si S2 2 a1 9 a2 := ⟨_, rfl⟩
    rw [← e5]
    replace h := h S4 e5
    refine xw.s (pc' := 18) (st' := [.inr (some (2, a1))]) rfl ?_
    refine xw.s (pc' := 19) (st' := [.inl a3, .inr (some (2, a1))]) rfl ?_
    obtain ⟨z6, h⟩ := h
    refine xw.fp (c := 2) (j := 10) (ty := 1) (nx := 22) rfl rfl (Or.inr ⟨rfl, z6⟩) ?_
    obtain ⟨S7, e8⟩ : ∃ s, s = xm_si S4 2 a1 10 a3 := ⟨_, rfl⟩
    rw [← e8]
    replace h := h S7 e8
    refine xw.s (pc' := 23) (st' := [.inr (some (0, 0))]) rfl ?_
    refine xw.s (pc' := 24) (st' := [.inr (some (2, a1)), .inr (some (0, 0))]) rfl ?_
    refine xw.call (m := 23) (as := [.inr (some (0, 0)), .inr (some (2, a1))]) (nx := 27) (L' := [some (.inr (some (0, 0))), some (.inr (some (2, a1))), some (.inl a2), some (.inl a3)]) (st' := []) rfl (xc.mono h ?_)
    rintro r S9 ⟨rfl, hC10, h⟩
    show xw _ _ 27 [some (.inr (some (0, 0))), some (.inr (some (2, a1))), some (.inl a2), some (.inl a3)] [] _ _
    exact xw.ret (r := none) rfl h
  · skip
    exact xw.ret (r := none) rfl h
/-- tellRetry -/
theorem cw_tellRetry {d : Nat} {a1 : Nat} {a2 : Nat} {a3 : Nat} {S : xm_S} {Q : Option xm_V → xm_S → Prop} (hC : xk_C S) (h : ∀ t1, (xm_r S 2 a3 11) = t1 → ((t1 = none → ∀ t4, (xm_r S 2 a3 18) = t4 → (xw (d + 2) 31 69 [some (.inr (some (0, 0))), some (.inr (some (5, a1))), some (.inr (some (2, a2))), some (.inr (some (2, a3))), some (.inr (xo 2 t4))] [] S Q)) ∧ (∀ k3, t1 = some k3 → xc d 27 [.inl (xm_i S 4 k3 1), .inl (xm_i S 5 a1 5)] S (fun r S6 => ∃ x8 : Int32, r = some (.inl x8) ∧ xk_C S6 ∧ ((x8 = (0 : Int32) → ∀ t10, (xm_r S6 2 a3 18) = t10 → (xw (d + 2) 31 69 [some (.inr (some (0, 0))), some (.inr (some (5, a1))), some (.inr (some (2, a2))), some (.inr (some (2, a3))), some (.inr (xo 2 t10))] [] S6 Q)) ∧ (¬ x8 = (0 : Int32) → ((xm_i S6 5 a1 2) ≤ (xm_i S6 2 a2 16) → ∀ t13, (xm_r S6 2 a3 18) = t13 → (xw (d + 2) 31 69 [some (.inr (some (0, 0))), some (.inr (some (5, a1))), some (.inr (some (2, a2))), some (.inr (some (2, a3))), some (.inr (xo 2 t13))] [] S6 Q)) ∧ (¬ (xm_i S6 5 a1 2) ≤ (xm_i S6 2 a2 16) → ∀ S15, S15 = xm_si S6 2 a2 13 (2 : Int32) → (((xm_i S6 5 a1 4) = (1 : Int32) → ∀ S18, S18 = xm_si S15 2 a2 12 ((xm_i S6 0 0 13) + ((xm_i S6 5 a1 3) <<< (((xm_i S6 2 a2 16) - (1 : Int32)) &&& 31))) → (Q none S18)) ∧ (¬ (xm_i S6 5 a1 4) = (1 : Int32) → ∀ S20, S20 = xm_si S15 2 a2 12 ((xm_i S6 0 0 13) + (xm_i S6 5 a1 3)) → (Q none S20)))))))))) : xc (d + 2) 31 [.inr (some (0, 0)), .inr (some (5, a1)), .inr (some (2, a2)), .inr (some (2, a3))] S Q := by
  show xw _ _ _ [some (.inr (some (0, 0))), some (.inr (some (5, a1))), some (.inr (some (2, a2))), some (.inr (some (2, a3))), none] _ _ _
  refine xw.s (pc' := 1) (st' := [.inr (some (5, a1))]) rfl ?_
  refine xw.s (pc' := 2) (st' := [.inr (some (2, a3)), .inr (some (5, a1))]) rfl ?_
  obtain ⟨t1, q2⟩ : ∃ t, (xm_r S 2 a3 11) = t := ⟨_, rfl⟩
  replace h := h t1 q2
  refine xw.fr (c := 2) (j := 11) (e := 4) (nx := 5) (t := t1) rfl rfl q2 ?_
  show xw _ _ _ [some (.inr (some (0, 0))), some (.inr (some (5, a1))), some (.inr (some (2, a2))), some (.inr (some (2, a3))), none] [.inr (xo 4 t1), .inr (some (5, a1))] _ _
  refine xw.call (m := 26) (as := [.inr (some (5, a1)), .inr (xo 4 t1)]) (nx := 8) (L' := [some (.inr (some (0, 0))), some (.inr (some (5, a1))), some (.inr (some (2, a2))), some (.inr (some (2, a3))), none]) (st' := []) rfl ?_
  show xw _ _ _ [some (.inr (some (5, a1))), some (.inr (xo 4 t1))] [] _ _
  refine xw.s (pc' := 1) (st' := [.inr (xo 4 t1)]) rfl ?_
  refine xw.nul (o := t1) (t := 22) (nx := 4) rfl rfl ?_
  rcases t1 with _ | k3
  · replace h := h.1 rfl
    show xw _ _ 22 [some (.inr (some (5, a1))), some (.inr none)] [] _ _
    refine xw.s (pc' := 23) (st' := [.inl (0 : Int32)]) rfl ?_
    refine xw.retz (nx := 24) rfl (Or.inl rfl) ?_
    show xw _ _ 8 [some (.inr (some (0, 0))), some (.inr (some (5, a1))), some (.inr (some (2, a2))), some (.inr (some (2, a3))), none] [.inl (0 : Int32)] S _
    refine xw.bt (cd := .eq) (x := (0 : Int32)) (y := (0 : Int32)) 63 11 (st' := []) rfl (y_ceq _ _) (by decide) ?_
    refine xw.s (pc' := 64) (st' := [.inr (some (2, a3))]) rfl ?_
    obtain ⟨t4, q5⟩ : ∃ t, (xm_r S 2 a3 18) = t := ⟨_, rfl⟩
    replace h := h t4 q5
    refine xw.fr (c := 2) (j := 18) (e := 2) (nx := 67) (t := t4) rfl rfl q5 ?_
    show xw _ _ _ [some (.inr (some (0, 0))), some (.inr (some (5, a1))), some (.inr (some (2, a2))), some (.inr (some (2, a3))), none] [.inr (xo 2 t4)] _ _
    refine xw.s (pc' := 69) (st' := []) (L' := [some (.inr (some (0, 0))), some (.inr (some (5, a1))), some (.inr (some (2, a2))), some (.inr (some (2, a3))), some (.inr (xo 2 t4))]) rfl ?_
    exact h
  · replace h := h.2 k3 rfl
    show xw _ _ 4 [some (.inr (some (5, a1))), some (.inr (some (4, k3)))] [] _ _
    refine xw.s (pc' := 5) (st' := [.inr (some (4, k3))]) rfl ?_
    refine xw.fi (c := 4) (j := 1) (ty := 0) (nx := 8) (v := (xm_i S 4 k3 1)) rfl rfl rfl ?_
    refine xw.s (pc' := 9) (st' := [.inr (some (5, a1)), .inl (xm_i S 4 k3 1)]) rfl ?_
    refine xw.fi (c := 5) (j := 5) (ty := 0) (nx := 12) (v := (xm_i S 5 a1 5)) rfl rfl rfl ?_
    refine xw.call (m := 27) (as := [.inl (xm_i S 4 k3 1), .inl (xm_i S 5 a1 5)]) (nx := 15) (L' := [some (.inr (some (5, a1))), some (.inr (some (4, k3)))]) (st' := []) rfl (xc.mono h ?_)
    rintro r S6 ⟨x8, rfl, hC7, h⟩
    show xw _ _ 15 [some (.inr (some (5, a1))), some (.inr (some (4, k3)))] [.inl x8] _ _
    refine xw.b (c := x8 = (0 : Int32)) (cd := .eq) (x := x8) (y := (0 : Int32)) 22 18 (st' := []) rfl (y_ceq _ _) h (fun c9 h => ?_) (fun c9 h => ?_)
    · skip
      refine xw.s (pc' := 23) (st' := [.inl (0 : Int32)]) rfl ?_
      refine xw.retz (nx := 24) rfl (Or.inl rfl) ?_
      show xw _ _ 8 [some (.inr (some (0, 0))), some (.inr (some (5, a1))), some (.inr (some (2, a2))), some (.inr (some (2, a3))), none] [.inl (0 : Int32)] S6 _
      refine xw.bt (cd := .eq) (x := (0 : Int32)) (y := (0 : Int32)) 63 11 (st' := []) rfl (y_ceq _ _) (by decide) ?_
      refine xw.s (pc' := 64) (st' := [.inr (some (2, a3))]) rfl ?_
      obtain ⟨t10, q11⟩ : ∃ t, (xm_r S6 2 a3 18) = t := ⟨_, rfl⟩
      replace h := h t10 q11
      refine xw.fr (c := 2) (j := 18) (e := 2) (nx := 67) (t := t10) rfl rfl q11 ?_
      show xw _ _ _ [some (.inr (some (0, 0))), some (.inr (some (5, a1))), some (.inr (some (2, a2))), some (.inr (some (2, a3))), none] [.inr (xo 2 t10)] _ _
      refine xw.s (pc' := 69) (st' := []) (L' := [some (.inr (some (0, 0))), some (.inr (some (5, a1))), some (.inr (some (2, a2))), some (.inr (some (2, a3))), some (.inr (xo 2 t10))]) rfl ?_
      exact h
    · skip
      refine xw.s (pc' := 19) (st' := [.inl (1 : Int32)]) rfl ?_
      refine xw.s (pc' := 23) (st' := [.inl (1 : Int32)]) rfl ?_
      refine xw.retz (nx := 24) rfl (Or.inr rfl) ?_
      show xw _ _ 8 [some (.inr (some (0, 0))), some (.inr (some (5, a1))), some (.inr (some (2, a2))), some (.inr (some (2, a3))), none] [.inl (1 : Int32)] S6 _
      refine xw.bf (cd := .eq) (x := (1 : Int32)) (y := (0 : Int32)) 63 11 (st' := []) rfl (y_ceq _ _) (by decide) ?_
      refine xw.s (pc' := 12) (st' := [.inr (some (2, a2))]) rfl ?_
      refine xw.fi (c := 2) (j := 16) (ty := 0) (nx := 15) (v := (xm_i S6 2 a2 16)) rfl rfl rfl ?_
      refine xw.s (pc' := 16) (st' := [.inr (some (5, a1)), .inl (xm_i S6 2 a2 16)]) rfl ?_
      refine xw.fi (c := 5) (j := 2) (ty := 0) (nx := 19) (v := (xm_i S6 5 a1 2)) rfl rfl rfl ?_
      refine xw.b (c := (xm_i S6 5 a1 2) ≤ (xm_i S6 2 a2 16)) (cd := .ge) (x := (xm_i S6 2 a2 16)) (y := (xm_i S6 5 a1 2)) 63 22 (st' := []) rfl (y_cge _ _) h (fun c12 h => ?_) (fun c12 h => ?_)
      · skip
        refine xw.s (pc' := 64) (st' := [.inr (some (2, a3))]) rfl ?_
        obtain ⟨t13, q14⟩ : ∃ t, (xm_r S6 2 a3 18) = t := ⟨_, rfl⟩
        replace h := h t13 q14
        refine xw.fr (c := 2) (j := 18) (e := 2) (nx := 67) (t := t13) rfl rfl q14 ?_
        show xw _ _ _ [some (.inr (some (0, 0))), some (.inr (some (5, a1))), some (.inr (some (2, a2))), some (.inr (some (2, a3))), none] [.inr (xo 2 t13)] _ _
        refine xw.s (pc' := 69) (st' := []) (L' := [some (.inr (some (0, 0))), some (.inr (some (5, a1))), some (.inr (some (2, a2))), some (.inr (some (2, a3))), some (.inr (xo 2 t13))]) rfl ?_
        exact h
      · skip
        refine xw.s (pc' := 23) (st' := [.inr (some (2, a2))]) rfl ?_
        refine xw.s (pc' := 24) (st' := [.inl (2 : Int32), .inr (some (2, a2))]) rfl ?_
        refine xw.fp (c := 2) (j := 13) (ty := 0) (nx := 27) rfl rfl (Or.inl rfl) ?_
        obtain ⟨S15, e16⟩ : ∃ s, s = xm_si S6 2 a2 13 (2 : Int32) := ⟨_, rfl⟩
        rw [← e16]
        replace h := h S15 e16
        refine xw.s (pc' := 28) (st' := [.inr (some (2, a2))]) rfl ?_
        refine xw.s (pc' := 29) (st' := [.inr (some (0, 0)), .inr (some (2, a2))]) rfl ?_
        refine xw.fi (c := 0) (j := 13) (ty := 0) (nx := 32) (v := (xm_i S6 0 0 13)) rfl rfl ((congrArg (fun s => xm_i s 0 0 13) e16).trans (xi_si (by decide))) ?_
        refine xw.s (pc' := 33) (st' := [.inr (some (5, a1)), .inl (xm_i S6 0 0 13), .inr (some (2, a2))]) rfl ?_
        refine xw.fi (c := 5) (j := 4) (ty := 0) (nx := 36) (v := (xm_i S6 5 a1 4)) rfl rfl ((congrArg (fun s => xm_i s 5 a1 4) e16).trans (xi_si (by decide))) ?_
        refine xw.s (pc' := 37) (st' := [.inl (1 : Int32), .inl (xm_i S6 5 a1 4), .inl (xm_i S6 0 0 13), .inr (some (2, a2))]) rfl ?_
        refine xw.bn (c := (xm_i S6 5 a1 4) = (1 : Int32)) (cd := .ne) (x := (xm_i S6 5 a1 4)) (y := (1 : Int32)) 54 40 (st' := [.inl (xm_i S6 0 0 13), .inr (some (2, a2))]) rfl (y_cne _ _) h (fun c17 h => ?_) (fun c17 h => ?_)
        · skip
          refine xw.s (pc' := 41) (st' := [.inr (some (5, a1)), .inl (xm_i S6 0 0 13), .inr (some (2, a2))]) rfl ?_
          refine xw.fi (c := 5) (j := 3) (ty := 0) (nx := 44) (v := (xm_i S6 5 a1 3)) rfl rfl ((congrArg (fun s => xm_i s 5 a1 3) e16).trans (xi_si (by decide))) ?_
          refine xw.s (pc' := 45) (st' := [.inr (some (2, a2)), .inl (xm_i S6 5 a1 3), .inl (xm_i S6 0 0 13), .inr (some (2, a2))]) rfl ?_
          refine xw.fi (c := 2) (j := 16) (ty := 0) (nx := 48) (v := (xm_i S6 2 a2 16)) rfl rfl ((congrArg (fun s => xm_i s 2 a2 16) e16).trans (xi_si (by decide))) ?_
          refine xw.s (pc' := 49) (st' := [.inl (1 : Int32), .inl (xm_i S6 2 a2 16), .inl (xm_i S6 5 a1 3), .inl (xm_i S6 0 0 13), .inr (some (2, a2))]) rfl ?_
          refine xw.s (pc' := 50) (st' := [.inl ((xm_i S6 2 a2 16) - (1 : Int32)), .inl (xm_i S6 5 a1 3), .inl (xm_i S6 0 0 13), .inr (some (2, a2))]) rfl ?_
          refine xw.s (pc' := 51) (st' := [.inl ((xm_i S6 5 a1 3) <<< (((xm_i S6 2 a2 16) - (1 : Int32)) &&& 31)), .inl (xm_i S6 0 0 13), .inr (some (2, a2))]) rfl ?_
          refine xw.s (pc' := 58) (st' := [.inl ((xm_i S6 5 a1 3) <<< (((xm_i S6 2 a2 16) - (1 : Int32)) &&& 31)), .inl (xm_i S6 0 0 13), .inr (some (2, a2))]) rfl ?_
          refine xw.s (pc' := 59) (st' := [.inl ((xm_i S6 0 0 13) + ((xm_i S6 5 a1 3) <<< (((xm_i S6 2 a2 16) - (1 : Int32)) &&& 31))), .inr (some (2, a2))]) rfl ?_
          refine xw.fp (c := 2) (j := 12) (ty := 0) (nx := 62) rfl rfl (Or.inl rfl) ?_
          obtain ⟨S18, e19⟩ : ∃ s, s = xm_si S15 2 a2 12 ((xm_i S6 0 0 13) + ((xm_i S6 5 a1 3) <<< (((xm_i S6 2 a2 16) - (1 : Int32)) &&& 31))) := ⟨_, rfl⟩
          rw [← e19]
          replace h := h S18 e19
          exact xw.ret (r := none) rfl h
        · skip
          refine xw.s (pc' := 55) (st' := [.inr (some (5, a1)), .inl (xm_i S6 0 0 13), .inr (some (2, a2))]) rfl ?_
          refine xw.fi (c := 5) (j := 3) (ty := 0) (nx := 58) (v := (xm_i S6 5 a1 3)) rfl rfl ((congrArg (fun s => xm_i s 5 a1 3) e16).trans (xi_si (by decide))) ?_
          refine xw.s (pc' := 59) (st' := [.inl ((xm_i S6 0 0 13) + (xm_i S6 5 a1 3)), .inr (some (2, a2))]) rfl ?_
          refine xw.fp (c := 2) (j := 12) (ty := 0) (nx := 62) rfl rfl (Or.inl rfl) ?_
          obtain ⟨S20, e21⟩ : ∃ s, s = xm_si S15 2 a2 12 ((xm_i S6 0 0 13) + (xm_i S6 5 a1 3)) := ⟨_, rfl⟩
          rw [← e21]
          replace h := h S20 e21
          exact xw.ret (r := none) rfl h
theorem cw_tellRetry_69 {d : Nat} {l1 : Nat} {l2 : Nat} {l3 : Nat} {l4 : Option Nat} {S : xm_S} {Q : Option xm_V → xm_S → Prop} (hC : xk_C S) (h : ∀ t1, (xm_r S 2 l3 11) = t1 → ((t1 = none → ((xm_i S 2 l3 8) = (1 : Int32) → xc d 30 [.inr (some (0, 0)), .inr (some (2, l2)), .inl (xm_i S 2 l3 9), .inl (xm_i S 2 l3 10)] S (fun r S5 => r = none ∧ xk_C S5 ∧ (Q none S5))) ∧ (¬ (xm_i S 2 l3 8) = (1 : Int32) → xc d 22 [.inr (some (0, 0)), .inr (some (2, l2)), .inr none] S (fun r S7 => r = none ∧ xk_C S7 ∧ (Q none S7)))) ∧ (∀ k3, t1 = some k3 → (l4 = none → ((xm_i S 2 l3 8) = (1 : Int32) → xc d 30 [.inr (some (0, 0)), .inr (some (2, l2)), .inl (xm_i S 2 l3 9), .inl (xm_i S 2 l3 10)] S (fun r S11 => r = none ∧ xk_C S11 ∧ (Q none S11))) ∧ (¬ (xm_i S 2 l3 8) = (1 : Int32) → xc d 22 [.inr (some (0, 0)), .inr (some (2, l2)), .inr (some (4, k3))] S (fun r S13 => r = none ∧ xk_C S13 ∧ (Q none S13)))) ∧ (∀ k9, l4 = some k9 → ∀ t15, (xm_r S 2 k9 11) = t15 → ((t15 = none → ∀ t18, (xm_r S 2 k9 18) = t18 → (xw (d + 2) 31 69 [some (.inr (some (0, 0))), some (.inr (some (5, l1))), some (.inr (some (2, l2))), some (.inr (some (2, l3))), some (.inr (xo 2 t18))] [] S Q)) ∧ (∀ k17, t15 = some k17 → (k17 = k3 → ∀ t21, (xm_r S 2 k9 18) = t21 → (xw (d + 2) 31 69 [some (.inr (some (0, 0))), some (.inr (some (5, l1))), some (.inr (some (2, l2))), some (.inr (some (2, l3))), some (.inr (xo 2 t21))] [] S Q)) ∧ (¬ k17 = k3 → ∀ t23, (xm_r S 4 k17 6) = t23 → ((t23 = none → ∀ S26, S26 = xm_sr S 4 k17 6 (some k3) → (∀ t28, (xm_r S 2 k9 18) = t28 → (xw (d + 2) 31 69 [some (.inr (some (0, 0))), some (.inr (some (5, l1))), some (.inr (some (2, l2))), some (.inr (some (2, l3))), some (.inr (xo 2 t28))] [] S26 Q))) ∧ (∀ k25, t23 = some k25 → ∀ t30, (xm_r S 2 k9 18) = t30 → (xw (d + 2) 31 69 [some (.inr (some (0, 0))), some (.inr (some (5, l1))), some (.inr (some (2, l2))), some (.inr (some (2, l3))), some (.inr (xo 2 t30))] [] S Q)))))))))) : xw (d + 2) 31 69 [some (.inr (some (0, 0))), some (.inr (some (5, l1))), some (.inr (some (2, l2))), some (.inr (some (2, l3))), some (.inr (xo 2 l4))] [] S Q := by
  refine xw.s (pc' := 70) (st' := [.inr (some (2, l3))]) rfl ?_
  obtain ⟨t1, q2⟩ : ∃ t, (xm_r S 2 l3 11) = t := ⟨_, rfl⟩
  replace h := h t1 q2
  refine xw.fr (c := 2) (j := 11) (e := 4) (nx := 73) (t := t1) rfl rfl q2 ?_
  show xw _ _ _ [some (.inr (some (0, 0))), some (.inr (some (5, l1))), some (.inr (some (2, l2))), some (.inr (some (2, l3))), some (.inr (xo 2 l4))] [.inr (xo 4 t1)] _ _
  refine xw.nul (o := t1) (t := 103) (nx := 76) rfl rfl ?_
  rcases t1 with _ | k3
  · replace h := h.1 rfl
    show xw _ _ 103 [some (.inr (some (0, 0))), some (.inr (some (5, l1))), some (.inr (some (2, l2))), some (.inr (some (2, l3))), some (.inr (xo 2 l4))] [] _ _
    refine xw.s (pc' := 104) (st' := [.inr (some (0, 0))]) rfl ?_
    refine xw.s (pc' := 105) (st' := [.inr (some (2, l2)), .inr (some (0, 0))]) rfl ?_
    refine xw.s (pc' := 106) (st' := [.inr (some (2, l3)), .inr (some (2, l2)), .inr (some (0, 0))]) rfl ?_
    refine xw.call (m := 29) (as := [.inr (some (0, 0)), .inr (some (2, l2)), .inr (some (2, l3))]) (nx := 109) (L' := [some (.inr (some (0, 0))), some (.inr (some (5, l1))), some (.inr (some (2, l2))), some (.inr (some (2, l3))), some (.inr (xo 2 l4))]) (st' := []) rfl ?_
    show xw _ _ _ [some (.inr (some (0, 0))), some (.inr (some (2, l2))), some (.inr (some (2, l3)))] [] _ _
    refine xw.s (pc' := 1) (st' := [.inr (some (2, l3))]) rfl ?_
    refine xw.fi (c := 2) (j := 8) (ty := 0) (nx := 4) (v := (xm_i S 2 l3 8)) rfl rfl rfl ?_
    refine xw.s (pc' := 5) (st' := [.inl (1 : Int32), .inl (xm_i S 2 l3 8)]) rfl ?_
    refine xw.bn (c := (xm_i S 2 l3 8) = (1 : Int32)) (cd := .ne) (x := (xm_i S 2 l3 8)) (y := (1 : Int32)) 24 8 (st' := []) rfl (y_cne _ _) h (fun c4 h => ?_) (fun c4 h => ?_)
    · skip
      refine xw.s (pc' := 9) (st' := [.inr (some (0, 0))]) rfl ?_
      refine xw.s (pc' := 10) (st' := [.inr (some (2, l2)), .inr (some (0, 0))]) rfl ?_
      refine xw.s (pc' := 11) (st' := [.inr (some (2, l3)), .inr (some (2, l2)), .inr (some (0, 0))]) rfl ?_
      refine xw.fi (c := 2) (j := 9) (ty := 0) (nx := 14) (v := (xm_i S 2 l3 9)) rfl rfl rfl ?_
      refine xw.s (pc' := 15) (st' := [.inr (some (2, l3)), .inl (xm_i S 2 l3 9), .inr (some (2, l2)), .inr (some (0, 0))]) rfl ?_
      refine xw.fi (c := 2) (j := 10) (ty := 1) (nx := 18) (v := (xm_i S 2 l3 10)) rfl rfl rfl ?_
      refine xw.call (m := 30) (as := [.inr (some (0, 0)), .inr (some (2, l2)), .inl (xm_i S 2 l3 9), .inl (xm_i S 2 l3 10)]) (nx := 21) (L' := [some (.inr (some (0, 0))), some (.inr (some (2, l2))), some (.inr (some (2, l3)))]) (st' := []) rfl (xc.mono h ?_)
      rintro r S5 ⟨rfl, hC6, h⟩
      show xw _ _ 21 [some (.inr (some (0, 0))), some (.inr (some (2, l2))), some (.inr (some (2, l3)))] [] _ _
      refine xw.s (pc' := 33) (st' := []) rfl ?_
      refine xw.ret (r := none) rfl ?_
      show xw _ _ 109 [some (.inr (some (0, 0))), some (.inr (some (5, l1))), some (.inr (some (2, l2))), some (.inr (some (2, l3))), some (.inr (xo 2 l4))] [] S5 _
      exact xw.ret (r := none) rfl h
    · skip
      refine xw.s (pc' := 25) (st' := [.inr (some (0, 0))]) rfl ?_
      refine xw.s (pc' := 26) (st' := [.inr (some (2, l2)), .inr (some (0, 0))]) rfl ?_
      refine xw.s (pc' := 27) (st' := [.inr (some (2, l3)), .inr (some (2, l2)), .inr (some (0, 0))]) rfl ?_
      refine xw.fr (c := 2) (j := 11) (e := 4) (nx := 30) (t := none) rfl rfl q2 ?_
      show xw _ _ _ [some (.inr (some (0, 0))), some (.inr (some (2, l2))), some (.inr (some (2, l3)))] [.inr none, .inr (some (2, l2)), .inr (some (0, 0))] _ _
      refine xw.call (m := 22) (as := [.inr (some (0, 0)), .inr (some (2, l2)), .inr none]) (nx := 33) (L' := [some (.inr (some (0, 0))), some (.inr (some (2, l2))), some (.inr (some (2, l3)))]) (st' := []) rfl (xc.mono h ?_)
      rintro r S7 ⟨rfl, hC8, h⟩
      show xw _ _ 33 [some (.inr (some (0, 0))), some (.inr (some (2, l2))), some (.inr (some (2, l3)))] [] _ _
      refine xw.ret (r := none) rfl ?_
      show xw _ _ 109 [some (.inr (some (0, 0))), some (.inr (some (5, l1))), some (.inr (some (2, l2))), some (.inr (some (2, l3))), some (.inr (xo 2 l4))] [] S7 _
      exact xw.ret (r := none) rfl h
  · replace h := h.2 k3 rfl
    show xw _ _ 76 [some (.inr (some (0, 0))), some (.inr (some (5, l1))), some (.inr (some (2, l2))), some (.inr (some (2, l3))), some (.inr (xo 2 l4))] [] _ _
    refine xw.s (pc' := 78) (st' := [.inr (xo 2 l4)]) rfl ?_
    refine xw.nul (o := l4) (t := 103) (nx := 81) rfl rfl ?_
    rcases l4 with _ | k9
    · replace h := h.1 rfl
      show xw _ _ 103 [some (.inr (some (0, 0))), some (.inr (some (5, l1))), some (.inr (some (2, l2))), some (.inr (some (2, l3))), some (.inr none)] [] _ _
      refine xw.s (pc' := 104) (st' := [.inr (some (0, 0))]) rfl ?_
      refine xw.s (pc' := 105) (st' := [.inr (some (2, l2)), .inr (some (0, 0))]) rfl ?_
      refine xw.s (pc' := 106) (st' := [.inr (some (2, l3)), .inr (some (2, l2)), .inr (some (0, 0))]) rfl ?_
      refine xw.call (m := 29) (as := [.inr (some (0, 0)), .inr (some (2, l2)), .inr (some (2, l3))]) (nx := 109) (L' := [some (.inr (some (0, 0))), some (.inr (some (5, l1))), some (.inr (some (2, l2))), some (.inr (some (2, l3))), some (.inr none)]) (st' := []) rfl ?_
      show xw _ _ _ [some (.inr (some (0, 0))), some (.inr (some (2, l2))), some (.inr (some (2, l3)))] [] _ _
      refine xw.s (pc' := 1) (st' := [.inr (some (2, l3))]) rfl ?_
      refine xw.fi (c := 2) (j := 8) (ty := 0) (nx := 4) (v := (xm_i S 2 l3 8)) rfl rfl rfl ?_
      refine xw.s (pc' := 5) (st' := [.inl (1 : Int32), .inl (xm_i S 2 l3 8)]) rfl ?_
      refine xw.bn (c := (xm_i S 2 l3 8) = (1 : Int32)) (cd := .ne) (x := (xm_i S 2 l3 8)) (y := (1 : Int32)) 24 8 (st' := []) rfl (y_cne _ _) h (fun c10 h => ?_) (fun c10 h => ?_)
      · skip
        refine xw.s (pc' := 9) (st' := [.inr (some (0, 0))]) rfl ?_
        refine xw.s (pc' := 10) (st' := [.inr (some (2, l2)), .inr (some (0, 0))]) rfl ?_
        refine xw.s (pc' := 11) (st' := [.inr (some (2, l3)), .inr (some (2, l2)), .inr (some (0, 0))]) rfl ?_
        refine xw.fi (c := 2) (j := 9) (ty := 0) (nx := 14) (v := (xm_i S 2 l3 9)) rfl rfl rfl ?_
        refine xw.s (pc' := 15) (st' := [.inr (some (2, l3)), .inl (xm_i S 2 l3 9), .inr (some (2, l2)), .inr (some (0, 0))]) rfl ?_
        refine xw.fi (c := 2) (j := 10) (ty := 1) (nx := 18) (v := (xm_i S 2 l3 10)) rfl rfl rfl ?_
        refine xw.call (m := 30) (as := [.inr (some (0, 0)), .inr (some (2, l2)), .inl (xm_i S 2 l3 9), .inl (xm_i S 2 l3 10)]) (nx := 21) (L' := [some (.inr (some (0, 0))), some (.inr (some (2, l2))), some (.inr (some (2, l3)))]) (st' := []) rfl (xc.mono h ?_)
        rintro r S11 ⟨rfl, hC12, h⟩
        show xw _ _ 21 [some (.inr (some (0, 0))), some (.inr (some (2, l2))), some (.inr (some (2, l3)))] [] _ _
        refine xw.s (pc' := 33) (st' := []) rfl ?_
        refine xw.ret (r := none) rfl ?_
        show xw _ _ 109 [some (.inr (some (0, 0))), some (.inr (some (5, l1))), some (.inr (some (2, l2))), some (.inr (some (2, l3))), some (.inr none)] [] S11 _
        exact xw.ret (r := none) rfl h
      · skip
        refine xw.s (pc' := 25) (st' := [.inr (some (0, 0))]) rfl ?_
        refine xw.s (pc' := 26) (st' := [.inr (some (2, l2)), .inr (some (0, 0))]) rfl ?_
        refine xw.s (pc' := 27) (st' := [.inr (some (2, l3)), .inr (some (2, l2)), .inr (some (0, 0))]) rfl ?_
        refine xw.fr (c := 2) (j := 11) (e := 4) (nx := 30) (t := (some k3)) rfl rfl q2 ?_
        show xw _ _ _ [some (.inr (some (0, 0))), some (.inr (some (2, l2))), some (.inr (some (2, l3)))] [.inr (some (4, k3)), .inr (some (2, l2)), .inr (some (0, 0))] _ _
        refine xw.call (m := 22) (as := [.inr (some (0, 0)), .inr (some (2, l2)), .inr (some (4, k3))]) (nx := 33) (L' := [some (.inr (some (0, 0))), some (.inr (some (2, l2))), some (.inr (some (2, l3)))]) (st' := []) rfl (xc.mono h ?_)
        rintro r S13 ⟨rfl, hC14, h⟩
        show xw _ _ 33 [some (.inr (some (0, 0))), some (.inr (some (2, l2))), some (.inr (some (2, l3)))] [] _ _
        refine xw.ret (r := none) rfl ?_
        show xw _ _ 109 [some (.inr (some (0, 0))), some (.inr (some (5, l1))), some (.inr (some (2, l2))), some (.inr (some (2, l3))), some (.inr none)] [] S13 _
        exact xw.ret (r := none) rfl h
    · replace h := h.2 k9 rfl
      show xw _ _ 81 [some (.inr (some (0, 0))), some (.inr (some (5, l1))), some (.inr (some (2, l2))), some (.inr (some (2, l3))), some (.inr (some (2, k9)))] [] _ _
      refine xw.s (pc' := 83) (st' := [.inr (some (2, k9))]) rfl ?_
      obtain ⟨t15, q16⟩ : ∃ t, (xm_r S 2 k9 11) = t := ⟨_, rfl⟩
      replace h := h t15 q16
      refine xw.fr (c := 2) (j := 11) (e := 4) (nx := 86) (t := t15) rfl rfl q16 ?_
      show xw _ _ _ [some (.inr (some (0, 0))), some (.inr (some (5, l1))), some (.inr (some (2, l2))), some (.inr (some (2, l3))), some (.inr (some (2, k9)))] [.inr (xo 4 t15)] _ _
      refine xw.s (pc' := 87) (st' := [.inr (some (2, l3)), .inr (xo 4 t15)]) rfl ?_
      refine xw.fr (c := 2) (j := 11) (e := 4) (nx := 90) (t := (some k3)) rfl rfl q2 ?_
      show xw _ _ _ [some (.inr (some (0, 0))), some (.inr (some (5, l1))), some (.inr (some (2, l2))), some (.inr (some (2, l3))), some (.inr (some (2, k9)))] [.inr (some (4, k3)), .inr (xo 4 t15)] _ _
      refine xw.call (m := 32) (as := [.inr (xo 4 t15), .inr (some (4, k3))]) (nx := 93) (L' := [some (.inr (some (0, 0))), some (.inr (some (5, l1))), some (.inr (some (2, l2))), some (.inr (some (2, l3))), some (.inr (some (2, k9)))]) (st' := []) rfl ?_
      show xw _ _ _ [some (.inr (xo 4 t15)), some (.inr (some (4, k3)))] [] _ _
      refine xw.s (pc' := 1) (st' := [.inr (xo 4 t15)]) rfl ?_
      refine xw.nul (o := t15) (t := 21) (nx := 4) rfl rfl ?_
      rcases t15 with _ | k17
      · replace h := h.1 rfl
        show xw _ _ 21 [some (.inr none), some (.inr (some (4, k3)))] [] _ _
        refine xw.ret (r := none) rfl ?_
        show xw _ _ 93 [some (.inr (some (0, 0))), some (.inr (some (5, l1))), some (.inr (some (2, l2))), some (.inr (some (2, l3))), some (.inr (some (2, k9)))] [] S _
        refine xw.s (pc' := 95) (st' := [.inr (some (2, k9))]) rfl ?_
        obtain ⟨t18, q19⟩ : ∃ t, (xm_r S 2 k9 18) = t := ⟨_, rfl⟩
        replace h := h t18 q19
        refine xw.fr (c := 2) (j := 18) (e := 2) (nx := 98) (t := t18) rfl rfl q19 ?_
        show xw _ _ _ [some (.inr (some (0, 0))), some (.inr (some (5, l1))), some (.inr (some (2, l2))), some (.inr (some (2, l3))), some (.inr (some (2, k9)))] [.inr (xo 2 t18)] _ _
        refine xw.s (pc' := 100) (st' := []) (L' := [some (.inr (some (0, 0))), some (.inr (some (5, l1))), some (.inr (some (2, l2))), some (.inr (some (2, l3))), some (.inr (xo 2 t18))]) rfl ?_
        refine xw.s (pc' := 69) (st' := []) rfl ?_
        exact h
      · replace h := h.2 k17 rfl
        show xw _ _ 4 [some (.inr (some (4, k17))), some (.inr (some (4, k3)))] [] _ _
        refine xw.s (pc' := 5) (st' := [.inr (some (4, k17))]) rfl ?_
        refine xw.s (pc' := 6) (st' := [.inr (some (4, k3)), .inr (some (4, k17))]) rfl ?_
        refine xw.ae (c := 4) (a := (some k17)) (b := (some k3)) (cn := k17 = k3) (t := 21) (nx := 9) rfl rfl (by decide) ⟨fun z => Option.some.inj z, fun z => congrArg some z⟩ h (fun c20 h => ?_) (fun c20 h => ?_)
        · skip
          refine xw.ret (r := none) rfl ?_
          show xw _ _ 93 [some (.inr (some (0, 0))), some (.inr (some (5, l1))), some (.inr (some (2, l2))), some (.inr (some (2, l3))), some (.inr (some (2, k9)))] [] S _
          refine xw.s (pc' := 95) (st' := [.inr (some (2, k9))]) rfl ?_
          obtain ⟨t21, q22⟩ : ∃ t, (xm_r S 2 k9 18) = t := ⟨_, rfl⟩
          replace h := h t21 q22
          refine xw.fr (c := 2) (j := 18) (e := 2) (nx := 98) (t := t21) rfl rfl q22 ?_
          show xw _ _ _ [some (.inr (some (0, 0))), some (.inr (some (5, l1))), some (.inr (some (2, l2))), some (.inr (some (2, l3))), some (.inr (some (2, k9)))] [.inr (xo 2 t21)] _ _
          refine xw.s (pc' := 100) (st' := []) (L' := [some (.inr (some (0, 0))), some (.inr (some (5, l1))), some (.inr (some (2, l2))), some (.inr (some (2, l3))), some (.inr (xo 2 t21))]) rfl ?_
          refine xw.s (pc' := 69) (st' := []) rfl ?_
          exact h
        · skip
          refine xw.s (pc' := 10) (st' := [.inr (some (4, k17))]) rfl ?_
          obtain ⟨t23, q24⟩ : ∃ t, (xm_r S 4 k17 6) = t := ⟨_, rfl⟩
          replace h := h t23 q24
          refine xw.fr (c := 4) (j := 6) (e := 4) (nx := 13) (t := t23) rfl rfl q24 ?_
          show xw _ _ _ [some (.inr (some (4, k17))), some (.inr (some (4, k3)))] [.inr (xo 4 t23)] _ _
          refine xw.nnul (o := t23) (t := 21) (nx := 16) rfl rfl ?_
          rcases t23 with _ | k25
          · replace h := h.1 rfl
            show xw _ _ 16 [some (.inr (some (4, k17))), some (.inr (some (4, k3)))] [] _ _
            refine xw.s (pc' := 17) (st' := [.inr (some (4, k17))]) rfl ?_
            refine xw.s (pc' := 18) (st' := [.inr (some (4, k3)), .inr (some (4, k17))]) rfl ?_
            refine xw.fq (c := 4) (j := 6) (e := 4) (nx := 21) (t := (some k3)) rfl rfl ?_
            obtain ⟨S26, e27⟩ : ∃ s, s = xm_sr S 4 k17 6 (some k3) := ⟨_, rfl⟩
            rw [← e27]
            replace h := h S26 e27
            refine xw.ret (r := none) rfl ?_
            show xw _ _ 93 [some (.inr (some (0, 0))), some (.inr (some (5, l1))), some (.inr (some (2, l2))), some (.inr (some (2, l3))), some (.inr (some (2, k9)))] [] S26 _
            refine xw.s (pc' := 95) (st' := [.inr (some (2, k9))]) rfl ?_
            obtain ⟨t28, q29⟩ : ∃ t, (xm_r S 2 k9 18) = t := ⟨_, rfl⟩
            replace h := h t28 q29
            refine xw.fr (c := 2) (j := 18) (e := 2) (nx := 98) (t := t28) rfl rfl (((congrArg (fun s => xm_r s 2 k9 18) e27).trans (xr_sr (by decide))).trans q29) ?_
            show xw _ _ _ [some (.inr (some (0, 0))), some (.inr (some (5, l1))), some (.inr (some (2, l2))), some (.inr (some (2, l3))), some (.inr (some (2, k9)))] [.inr (xo 2 t28)] _ _
            refine xw.s (pc' := 100) (st' := []) (L' := [some (.inr (some (0, 0))), some (.inr (some (5, l1))), some (.inr (some (2, l2))), some (.inr (some (2, l3))), some (.inr (xo 2 t28))]) rfl ?_
            refine xw.s (pc' := 69) (st' := []) rfl ?_
            exact h
          · replace h := h.2 k25 rfl
            show xw _ _ 21 [some (.inr (some (4, k17))), some (.inr (some (4, k3)))] [] _ _
            refine xw.ret (r := none) rfl ?_
            show xw _ _ 93 [some (.inr (some (0, 0))), some (.inr (some (5, l1))), some (.inr (some (2, l2))), some (.inr (some (2, l3))), some (.inr (some (2, k9)))] [] S _
            refine xw.s (pc' := 95) (st' := [.inr (some (2, k9))]) rfl ?_
            obtain ⟨t30, q31⟩ : ∃ t, (xm_r S 2 k9 18) = t := ⟨_, rfl⟩
            replace h := h t30 q31
            refine xw.fr (c := 2) (j := 18) (e := 2) (nx := 98) (t := t30) rfl rfl q31 ?_
            show xw _ _ _ [some (.inr (some (0, 0))), some (.inr (some (5, l1))), some (.inr (some (2, l2))), some (.inr (some (2, l3))), some (.inr (some (2, k9)))] [.inr (xo 2 t30)] _ _
            refine xw.s (pc' := 100) (st' := []) (L' := [some (.inr (some (0, 0))), some (.inr (some (5, l1))), some (.inr (some (2, l2))), some (.inr (some (2, l3))), some (.inr (xo 2 t30))]) rfl ?_
            refine xw.s (pc' := 69) (st' := []) rfl ?_
            exact h
/-- tellHedge -/
theorem cw_tellHedge {d : Nat} {a1 : Nat} {a2 : Nat} {S : xm_S} {Q : Option xm_V → xm_S → Prop} (hC : xk_C S) (h : ∀ t1, (xm_r S 2 a1 17) = t1 → (((some a2) = t1 → ∀ t4, (xm_r S 2 a2 18) = t4 → (((xm_i S 2 a2 8) = (1 : Int32) → (t4 = none → xc d 30 [.inr (some (0, 0)), .inr (some (2, a1)), .inl (xm_i S 2 a2 9), .inl (xm_i S 2 a2 10)] S (fun r S8 => r = none ∧ xk_C S8 ∧ (Q none S8))) ∧ (∀ k7, t4 = some k7 → ((xm_i S 2 k7 8) = (0 : Int32) → xc (d + 1) 34 [.inr (some (0, 0)), .inr (some (2, k7))] S (fun r S11 => ∃ x13 : Int32, r = some (.inl x13) ∧ xk_C S11 ∧ (((xm_i S11 2 a2 8) = (1 : Int32) → xc d 30 [.inr (some (0, 0)), .inr (some (2, a1)), .inl (xm_i S11 2 a2 9), .inl (xm_i S11 2 a2 10)] S11 (fun r S15 => r = none ∧ xk_C S15 ∧ (Q none S15))) ∧ (¬ (xm_i S11 2 a2 8) = (1 : Int32) → ∀ t17, (xm_r S11 2 a2 11) = t17 → (xc d 22 [.inr (some (0, 0)), .inr (some (2, a1)), .inr (xo 4 t17)] S11 (fun r S19 => r = none ∧ xk_C S19 ∧ (Q none S19))))))) ∧ (¬ (xm_i S 2 k7 8) = (0 : Int32) → xc d 30 [.inr (some (0, 0)), .inr (some (2, a1)), .inl (xm_i S 2 a2 9), .inl (xm_i S 2 a2 10)] S (fun r S21 => r = none ∧ xk_C S21 ∧ (Q none S21))))) ∧ (¬ (xm_i S 2 a2 8) = (1 : Int32) → (t4 = none → ∀ t24, (xm_r S 2 a2 11) = t24 → (xc d 22 [.inr (some (0, 0)), .inr (some (2, a1)), .inr (xo 4 t24)] S (fun r S26 => r = none ∧ xk_C S26 ∧ (Q none S26)))) ∧ (∀ k23, t4 = some k23 → ((xm_i S 2 k23 8) = (2 : Int32) → ∀ t29, (xm_r S 2 a2 11) = t29 → (∀ t31, (xm_r S 2 k23 11) = t31 → ((t29 = none → xc d 22 [.inr (some (0, 0)), .inr (some (2, a1)), .inr (xo 4 t31)] S (fun r S34 => r = none ∧ xk_C S34 ∧ (Q none S34))) ∧ (∀ k33, t29 = some k33 → ((some k33) = t31 → xc d 22 [.inr (some (0, 0)), .inr (some (2, a1)), .inr (xo 4 t31)] S (fun r S37 => r = none ∧ xk_C S37 ∧ (Q none S37))) ∧ (¬ (some k33) = t31 → ∀ t39, (xm_r S 4 k33 6) = t39 → ((t39 = none → ∀ S42, S42 = xm_sr S 4 k33 6 t31 → (xc d 22 [.inr (some (0, 0)), .inr (some (2, a1)), .inr (xo 4 t31)] S42 (fun r S44 => r = none ∧ xk_C S44 ∧ (Q none S44)))) ∧ (∀ k41, t39 = some k41 → xc d 22 [.inr (some (0, 0)), .inr (some (2, a1)), .inr (xo 4 t31)] S (fun r S46 => r = none ∧ xk_C S46 ∧ (Q none S46))))))))) ∧ (¬ (xm_i S 2 k23 8) = (2 : Int32) → ((xm_i S 2 k23 8) = (0 : Int32) → Q none S) ∧ (¬ (xm_i S 2 k23 8) = (0 : Int32) → ∀ t49, (xm_r S 2 a2 11) = t49 → (xc d 22 [.inr (some (0, 0)), .inr (some (2, a1)), .inr (xo 4 t49)] S (fun r S51 => r = none ∧ xk_C S51 ∧ (Q none S51))))))))) ∧ (¬ (some a2) = t1 → ((xm_i S 2 a2 8) = (1 : Int32) → (t1 = none → xc d 30 [.inr (some (0, 0)), .inr (some (2, a1)), .inl (xm_i S 2 a2 9), .inl (xm_i S 2 a2 10)] S (fun r S55 => r = none ∧ xk_C S55 ∧ (Q none S55))) ∧ (∀ k54, t1 = some k54 → ((xm_i S 2 k54 8) = (0 : Int32) → xc (d + 1) 34 [.inr (some (0, 0)), .inr (some (2, k54))] S (fun r S58 => ∃ x60 : Int32, r = some (.inl x60) ∧ xk_C S58 ∧ (((xm_i S58 2 a2 8) = (1 : Int32) → xc d 30 [.inr (some (0, 0)), .inr (some (2, a1)), .inl (xm_i S58 2 a2 9), .inl (xm_i S58 2 a2 10)] S58 (fun r S62 => r = none ∧ xk_C S62 ∧ (Q none S62))) ∧ (¬ (xm_i S58 2 a2 8) = (1 : Int32) → ∀ t64, (xm_r S58 2 a2 11) = t64 → (xc d 22 [.inr (some (0, 0)), .inr (some (2, a1)), .inr (xo 4 t64)] S58 (fun r S66 => r = none ∧ xk_C S66 ∧ (Q none S66))))))) ∧ (¬ (xm_i S 2 k54 8) = (0 : Int32) → xc d 30 [.inr (some (0, 0)), .inr (some (2, a1)), .inl (xm_i S 2 a2 9), .inl (xm_i S 2 a2 10)] S (fun r S68 => r = none ∧ xk_C S68 ∧ (Q none S68))))) ∧ (¬ (xm_i S 2 a2 8) = (1 : Int32) → (t1 = none → ∀ t71, (xm_r S 2 a2 11) = t71 → (xc d 22 [.inr (some (0, 0)), .inr (some (2, a1)), .inr (xo 4 t71)] S (fun r S73 => r = none ∧ xk_C S73 ∧ (Q none S73)))) ∧ (∀ k70, t1 = some k70 → ((xm_i S 2 k70 8) = (2 : Int32) → ∀ t76, (xm_r S 2 a2 11) = t76 → (∀ t78, (xm_r S 2 k70 11) = t78 → ((t76 = none → xc d 22 [.inr (some (0, 0)), .inr (some (2, a1)), .inr (xo 4 t78)] S (fun r S81 => r = none ∧ xk_C S81 ∧ (Q none S81))) ∧ (∀ k80, t76 = some k80 → ((some k80) = t78 → xc d 22 [.inr (some (0, 0)), .inr (some (2, a1)), .inr (xo 4 t78)] S (fun r S84 => r = none ∧ xk_C S84 ∧ (Q none S84))) ∧ (¬ (some k80) = t78 → ∀ t86, (xm_r S 4 k80 6) = t86 → ((t86 = none → ∀ S89, S89 = xm_sr S 4 k80 6 t78 → (xc d 22 [.inr (some (0, 0)), .inr (some (2, a1)), .inr (xo 4 t78)] S89 (fun r S91 => r = none ∧ xk_C S91 ∧ (Q none S91)))) ∧ (∀ k88, t86 = some k88 → xc d 22 [.inr (some (0, 0)), .inr (some (2, a1)), .inr (xo 4 t78)] S (fun r S93 => r = none ∧ xk_C S93 ∧ (Q none S93))))))))) ∧ (¬ (xm_i S 2 k70 8) = (2 : Int32) → ((xm_i S 2 k70 8) = (0 : Int32) → Q none S) ∧ (¬ (xm_i S 2 k70 8) = (0 : Int32) → ∀ t96, (xm_r S 2 a2 11) = t96 → (xc d 22 [.inr (some (0, 0)), .inr (some (2, a1)), .inr (xo 4 t96)] S (fun r S98 => r = none ∧ xk_C S98 ∧ (Q none S98)))))))))) : xc (d + 2) 33 [.inr (some (0, 0)), .inr (some (2, a1)), .inr (some (2, a2))] S Q := by
  show xw _ _ _ [some (.inr (some (0, 0))), some (.inr (some (2, a1))), some (.inr (some (2, a2))), none] _ _ _
  refine xw.s (pc' := 1) (st' := [.inr (some (2, a2))]) rfl ?_
  refine xw.s (pc' := 2) (st' := [.inr (some (2, a1)), .inr (some (2, a2))]) rfl ?_
  obtain ⟨t1, q2⟩ : ∃ t, (xm_r S 2 a1 17) = t := ⟨_, rfl⟩
  replace h := h t1 q2
  refine xw.fr (c := 2) (j := 17) (e := 2) (nx := 5) (t := t1) rfl rfl q2 ?_
  show xw _ _ _ [some (.inr (some (0, 0))), some (.inr (some (2, a1))), some (.inr (some (2, a2))), none] [.inr (xo 2 t1), .inr (some (2, a2))] _ _
  refine xw.an (c := 2) (a := (some a2)) (b := t1) (cn := (some a2) = t1) (t := 15) (nx := 8) rfl rfl (by decide) Iff.rfl h (fun c3 h => ?_) (fun c3 h => ?_)
  · skip
    refine xw.s (pc' := 9) (st' := [.inr (some (2, a2))]) rfl ?_
    obtain ⟨t4, q5⟩ : ∃ t, (xm_r S 2 a2 18) = t := ⟨_, rfl⟩
    replace h := h t4 q5
    refine xw.fr (c := 2) (j := 18) (e := 2) (nx := 12) (t := t4) rfl rfl q5 ?_
    show xw _ _ _ [some (.inr (some (0, 0))), some (.inr (some (2, a1))), some (.inr (some (2, a2))), none] [.inr (xo 2 t4)] _ _
    refine xw.s (pc' := 19) (st' := [.inr (xo 2 t4)]) rfl ?_
    refine xw.s (pc' := 20) (st' := []) (L' := [some (.inr (some (0, 0))), some (.inr (some (2, a1))), some (.inr (some (2, a2))), some (.inr (xo 2 t4))]) rfl ?_
    refine xw.s (pc' := 21) (st' := [.inr (some (2, a2))]) rfl ?_
    refine xw.fi (c := 2) (j := 8) (ty := 0) (nx := 24) (v := (xm_i S 2 a2 8)) rfl rfl rfl ?_
    refine xw.s (pc' := 25) (st' := [.inl (1 : Int32), .inl (xm_i S 2 a2 8)]) rfl ?_
    refine xw.bn (c := (xm_i S 2 a2 8) = (1 : Int32)) (cd := .ne) (x := (xm_i S 2 a2 8)) (y := (1 : Int32)) 54 28 (st' := []) rfl (y_cne _ _) h (fun c6 h => ?_) (fun c6 h => ?_)
    · skip
      refine xw.s (pc' := 29) (st' := [.inr (xo 2 t4)]) rfl ?_
      refine xw.nul (o := t4) (t := 45) (nx := 32) rfl rfl ?_
      rcases t4 with _ | k7
      · replace h := h.1 rfl
        show xw _ _ 45 [some (.inr (some (0, 0))), some (.inr (some (2, a1))), some (.inr (some (2, a2))), some (.inr none)] [] _ _
        refine xw.s (pc' := 46) (st' := [.inr (some (0, 0))]) rfl ?_
        refine xw.s (pc' := 47) (st' := [.inr (some (2, a1)), .inr (some (0, 0))]) rfl ?_
        refine xw.s (pc' := 48) (st' := [.inr (some (2, a2)), .inr (some (2, a1)), .inr (some (0, 0))]) rfl ?_
        refine xw.call (m := 29) (as := [.inr (some (0, 0)), .inr (some (2, a1)), .inr (some (2, a2))]) (nx := 51) (L' := [some (.inr (some (0, 0))), some (.inr (some (2, a1))), some (.inr (some (2, a2))), some (.inr none)]) (st' := []) rfl ?_
        show xw _ _ _ [some (.inr (some (0, 0))), some (.inr (some (2, a1))), some (.inr (some (2, a2)))] [] _ _
        refine xw.s (pc' := 1) (st' := [.inr (some (2, a2))]) rfl ?_
        refine xw.fi (c := 2) (j := 8) (ty := 0) (nx := 4) (v := (xm_i S 2 a2 8)) rfl rfl rfl ?_
        refine xw.s (pc' := 5) (st' := [.inl (1 : Int32), .inl (xm_i S 2 a2 8)]) rfl ?_
        refine xw.bf (cd := .ne) (x := (xm_i S 2 a2 8)) (y := (1 : Int32)) 24 8 (st' := []) rfl (y_cne _ _) (fun z => z c6) ?_
        refine xw.s (pc' := 9) (st' := [.inr (some (0, 0))]) rfl ?_
        refine xw.s (pc' := 10) (st' := [.inr (some (2, a1)), .inr (some (0, 0))]) rfl ?_
        refine xw.s (pc' := 11) (st' := [.inr (some (2, a2)), .inr (some (2, a1)), .inr (some (0, 0))]) rfl ?_
        refine xw.fi (c := 2) (j := 9) (ty := 0) (nx := 14) (v := (xm_i S 2 a2 9)) rfl rfl rfl ?_
        refine xw.s (pc' := 15) (st' := [.inr (some (2, a2)), .inl (xm_i S 2 a2 9), .inr (some (2, a1)), .inr (some (0, 0))]) rfl ?_
        refine xw.fi (c := 2) (j := 10) (ty := 1) (nx := 18) (v := (xm_i S 2 a2 10)) rfl rfl rfl ?_
        refine xw.call (m := 30) (as := [.inr (some (0, 0)), .inr (some (2, a1)), .inl (xm_i S 2 a2 9), .inl (xm_i S 2 a2 10)]) (nx := 21) (L' := [some (.inr (some (0, 0))), some (.inr (some (2, a1))), some (.inr (some (2, a2)))]) (st' := []) rfl (xc.mono h ?_)
        rintro r S8 ⟨rfl, hC9, h⟩
        show xw _ _ 21 [some (.inr (some (0, 0))), some (.inr (some (2, a1))), some (.inr (some (2, a2)))] [] _ _
        refine xw.s (pc' := 33) (st' := []) rfl ?_
        refine xw.ret (r := none) rfl ?_
        show xw _ _ 51 [some (.inr (some (0, 0))), some (.inr (some (2, a1))), some (.inr (some (2, a2))), some (.inr none)] [] S8 _
        refine xw.s (pc' := 103) (st' := []) rfl ?_
        exact xw.ret (r := none) rfl h
      · replace h := h.2 k7 rfl
        show xw _ _ 32 [some (.inr (some (0, 0))), some (.inr (some (2, a1))), some (.inr (some (2, a2))), some (.inr (some (2, k7)))] [] _ _
        refine xw.s (pc' := 33) (st' := [.inr (some (2, k7))]) rfl ?_
        refine xw.fi (c := 2) (j := 8) (ty := 0) (nx := 36) (v := (xm_i S 2 k7 8)) rfl rfl rfl ?_
        refine xw.bn (c := (xm_i S 2 k7 8) = (0 : Int32)) (cd := .ne) (x := (xm_i S 2 k7 8)) (y := (0 : Int32)) 45 39 (st' := []) rfl (y_cne _ _) h (fun c10 h => ?_) (fun c10 h => ?_)
        · skip
          refine xw.s (pc' := 40) (st' := [.inr (some (0, 0))]) rfl ?_
          refine xw.s (pc' := 41) (st' := [.inr (some (2, k7)), .inr (some (0, 0))]) rfl ?_
          refine xw.call (m := 34) (as := [.inr (some (0, 0)), .inr (some (2, k7))]) (nx := 44) (L' := [some (.inr (some (0, 0))), some (.inr (some (2, a1))), some (.inr (some (2, a2))), some (.inr (some (2, k7)))]) (st' := []) rfl (xc.mono h ?_)
          rintro r S11 ⟨x13, rfl, hC12, h⟩
          show xw _ _ 44 [some (.inr (some (0, 0))), some (.inr (some (2, a1))), some (.inr (some (2, a2))), some (.inr (some (2, k7)))] [.inl x13] _ _
          refine xw.s (pc' := 45) (st' := []) rfl ?_
          refine xw.s (pc' := 46) (st' := [.inr (some (0, 0))]) rfl ?_
          refine xw.s (pc' := 47) (st' := [.inr (some (2, a1)), .inr (some (0, 0))]) rfl ?_
          refine xw.s (pc' := 48) (st' := [.inr (some (2, a2)), .inr (some (2, a1)), .inr (some (0, 0))]) rfl ?_
          refine xw.call (m := 29) (as := [.inr (some (0, 0)), .inr (some (2, a1)), .inr (some (2, a2))]) (nx := 51) (L' := [some (.inr (some (0, 0))), some (.inr (some (2, a1))), some (.inr (some (2, a2))), some (.inr (some (2, k7)))]) (st' := []) rfl ?_
          show xw _ _ _ [some (.inr (some (0, 0))), some (.inr (some (2, a1))), some (.inr (some (2, a2)))] [] _ _
          refine xw.s (pc' := 1) (st' := [.inr (some (2, a2))]) rfl ?_
          refine xw.fi (c := 2) (j := 8) (ty := 0) (nx := 4) (v := (xm_i S11 2 a2 8)) rfl rfl rfl ?_
          refine xw.s (pc' := 5) (st' := [.inl (1 : Int32), .inl (xm_i S11 2 a2 8)]) rfl ?_
          refine xw.bn (c := (xm_i S11 2 a2 8) = (1 : Int32)) (cd := .ne) (x := (xm_i S11 2 a2 8)) (y := (1 : Int32)) 24 8 (st' := []) rfl (y_cne _ _) h (fun c14 h => ?_) (fun c14 h => ?_)
          · skip
            refine xw.s (pc' := 9) (st' := [.inr (some (0, 0))]) rfl ?_
            refine xw.s (pc' := 10) (st' := [.inr (some (2, a1)), .inr (some (0, 0))]) rfl ?_
            refine xw.s (pc' := 11) (st' := [.inr (some (2, a2)), .inr (some (2, a1)), .inr (some (0, 0))]) rfl ?_
            refine xw.fi (c := 2) (j := 9) (ty := 0) (nx := 14) (v := (xm_i S11 2 a2 9)) rfl rfl rfl ?_
            refine xw.s (pc' := 15) (st' := [.inr (some (2, a2)), .inl (xm_i S11 2 a2 9), .inr (some (2, a1)), .inr (some (0, 0))]) rfl ?_
            refine xw.fi (c := 2) (j := 10) (ty := 1) (nx := 18) (v := (xm_i S11 2 a2 10)) rfl rfl rfl ?_
            refine xw.call (m := 30) (as := [.inr (some (0, 0)), .inr (some (2, a1)), .inl (xm_i S11 2 a2 9), .inl (xm_i S11 2 a2 10)]) (nx := 21) (L' := [some (.inr (some (0, 0))), some (.inr (some (2, a1))), some (.inr (some (2, a2)))]) (st' := []) rfl (xc.mono h ?_)
            rintro r S15 ⟨rfl, hC16, h⟩
            show xw _ _ 21 [some (.inr (some (0, 0))), some (.inr (some (2, a1))), some (.inr (some (2, a2)))] [] _ _
            refine xw.s (pc' := 33) (st' := []) rfl ?_
            refine xw.ret (r := none) rfl ?_
            show xw _ _ 51 [some (.inr (some (0, 0))), some (.inr (some (2, a1))), some (.inr (some (2, a2))), some (.inr (some (2, k7)))] [] S15 _
            refine xw.s (pc' := 103) (st' := []) rfl ?_
            exact xw.ret (r := none) rfl h
          · skip
            refine xw.s (pc' := 25) (st' := [.inr (some (0, 0))]) rfl ?_
            refine xw.s (pc' := 26) (st' := [.inr (some (2, a1)), .inr (some (0, 0))]) rfl ?_
            refine xw.s (pc' := 27) (st' := [.inr (some (2, a2)), .inr (some (2, a1)), .inr (some (0, 0))]) rfl ?_
            obtain ⟨t17, q18⟩ : ∃ t, (xm_r S11 2 a2 11) = t := ⟨_, rfl⟩
            replace h := h t17 q18
            refine xw.fr (c := 2) (j := 11) (e := 4) (nx := 30) (t := t17) rfl rfl q18 ?_
            show xw _ _ _ [some (.inr (some (0, 0))), some (.inr (some (2, a1))), some (.inr (some (2, a2)))] [.inr (xo 4 t17), .inr (some (2, a1)), .inr (some (0, 0))] _ _
            refine xw.call (m := 22) (as := [.inr (some (0, 0)), .inr (some (2, a1)), .inr (xo 4 t17)]) (nx := 33) (L' := [some (.inr (some (0, 0))), some (.inr (some (2, a1))), some (.inr (some (2, a2)))]) (st' := []) rfl (xc.mono h ?_)
            rintro r S19 ⟨rfl, hC20, h⟩
            show xw _ _ 33 [some (.inr (some (0, 0))), some (.inr (some (2, a1))), some (.inr (some (2, a2)))] [] _ _
            refine xw.ret (r := none) rfl ?_
            show xw _ _ 51 [some (.inr (some (0, 0))), some (.inr (some (2, a1))), some (.inr (some (2, a2))), some (.inr (some (2, k7)))] [] S19 _
            refine xw.s (pc' := 103) (st' := []) rfl ?_
            exact xw.ret (r := none) rfl h
        · skip
          refine xw.s (pc' := 46) (st' := [.inr (some (0, 0))]) rfl ?_
          refine xw.s (pc' := 47) (st' := [.inr (some (2, a1)), .inr (some (0, 0))]) rfl ?_
          refine xw.s (pc' := 48) (st' := [.inr (some (2, a2)), .inr (some (2, a1)), .inr (some (0, 0))]) rfl ?_
          refine xw.call (m := 29) (as := [.inr (some (0, 0)), .inr (some (2, a1)), .inr (some (2, a2))]) (nx := 51) (L' := [some (.inr (some (0, 0))), some (.inr (some (2, a1))), some (.inr (some (2, a2))), some (.inr (some (2, k7)))]) (st' := []) rfl ?_
          show xw _ _ _ [some (.inr (some (0, 0))), some (.inr (some (2, a1))), some (.inr (some (2, a2)))] [] _ _
          refine xw.s (pc' := 1) (st' := [.inr (some (2, a2))]) rfl ?_
          refine xw.fi (c := 2) (j := 8) (ty := 0) (nx := 4) (v := (xm_i S 2 a2 8)) rfl rfl rfl ?_
          refine xw.s (pc' := 5) (st' := [.inl (1 : Int32), .inl (xm_i S 2 a2 8)]) rfl ?_
          refine xw.bf (cd := .ne) (x := (xm_i S 2 a2 8)) (y := (1 : Int32)) 24 8 (st' := []) rfl (y_cne _ _) (fun z => z c6) ?_
          refine xw.s (pc' := 9) (st' := [.inr (some (0, 0))]) rfl ?_
          refine xw.s (pc' := 10) (st' := [.inr (some (2, a1)), .inr (some (0, 0))]) rfl ?_
          refine xw.s (pc' := 11) (st' := [.inr (some (2, a2)), .inr (some (2, a1)), .inr (some (0, 0))]) rfl ?_
          refine xw.fi (c := 2) (j := 9) (ty := 0) (nx := 14) (v := (xm_i S 2 a2 9)) rfl rfl rfl ?_
          refine xw.s (pc' := 15) (st' := [.inr (some (2, a2)), .inl (xm_i S 2 a2 9), .inr (some (2, a1)), .inr (some (0, 0))]) rfl ?_
          refine xw.fi (c := 2) (j := 10) (ty := 1) (nx := 18) (v := (xm_i S 2 a2 10)) rfl rfl rfl ?_
          refine xw.call (m := 30) (as := [.inr (some (0, 0)), .inr (some (2, a1)), .inl (xm_i S 2 a2 9), .inl (xm_i S 2 a2 10)]) (nx := 21) (L' := [some (.inr (some (0, 0))), some (.inr (some (2, a1))), some (.inr (some (2, a2)))]) (st' := []) rfl (xc.mono h ?_)
          rintro r S21 ⟨rfl, hC22, h⟩
          show xw _ _ 21 [some (.inr (some (0, 0))), some (.inr (some (2, a1))), some (.inr (some (2, a2)))] [] _ _
          refine xw.s (pc' := 33) (st' := []) rfl ?_
          refine xw.ret (r := none) rfl ?_
          show xw _ _ 51 [some (.inr (some (0, 0))), some (.inr (some (2, a1))), some (.inr (some (2, a2))), some (.inr (some (2, k7)))] [] S21 _
          refine xw.s (pc' := 103) (st' := []) rfl ?_
          exact xw.ret (r := none) rfl h
    · skip
      refine xw.s (pc' := 55) (st' := [.inr (xo 2 t4)]) rfl ?_
      refine xw.nul (o := t4) (t := 86) (nx := 58) rfl rfl ?_
      rcases t4 with _ | k23
      · replace h := h.1 rfl
        show xw _ _ 86 [some (.inr (some (0, 0))), some (.inr (some (2, a1))), some (.inr (some (2, a2))), some (.inr none)] [] _ _
        refine xw.s (pc' := 87) (st' := [.inr none]) rfl ?_
        refine xw.s (pc' := 97) (st' := []) rfl ?_
        refine xw.s (pc' := 98) (st' := [.inr (some (0, 0))]) rfl ?_
        refine xw.s (pc' := 99) (st' := [.inr (some (2, a1)), .inr (some (0, 0))]) rfl ?_
        refine xw.s (pc' := 100) (st' := [.inr (some (2, a2)), .inr (some (2, a1)), .inr (some (0, 0))]) rfl ?_
        refine xw.call (m := 29) (as := [.inr (some (0, 0)), .inr (some (2, a1)), .inr (some (2, a2))]) (nx := 103) (L' := [some (.inr (some (0, 0))), some (.inr (some (2, a1))), some (.inr (some (2, a2))), some (.inr none)]) (st' := []) rfl ?_
        show xw _ _ _ [some (.inr (some (0, 0))), some (.inr (some (2, a1))), some (.inr (some (2, a2)))] [] _ _
        refine xw.s (pc' := 1) (st' := [.inr (some (2, a2))]) rfl ?_
        refine xw.fi (c := 2) (j := 8) (ty := 0) (nx := 4) (v := (xm_i S 2 a2 8)) rfl rfl rfl ?_
        refine xw.s (pc' := 5) (st' := [.inl (1 : Int32), .inl (xm_i S 2 a2 8)]) rfl ?_
        refine xw.bt (cd := .ne) (x := (xm_i S 2 a2 8)) (y := (1 : Int32)) 24 8 (st' := []) rfl (y_cne _ _) c6 ?_
        refine xw.s (pc' := 25) (st' := [.inr (some (0, 0))]) rfl ?_
        refine xw.s (pc' := 26) (st' := [.inr (some (2, a1)), .inr (some (0, 0))]) rfl ?_
        refine xw.s (pc' := 27) (st' := [.inr (some (2, a2)), .inr (some (2, a1)), .inr (some (0, 0))]) rfl ?_
        obtain ⟨t24, q25⟩ : ∃ t, (xm_r S 2 a2 11) = t := ⟨_, rfl⟩
        replace h := h t24 q25
        refine xw.fr (c := 2) (j := 11) (e := 4) (nx := 30) (t := t24) rfl rfl q25 ?_
        show xw _ _ _ [some (.inr (some (0, 0))), some (.inr (some (2, a1))), some (.inr (some (2, a2)))] [.inr (xo 4 t24), .inr (some (2, a1)), .inr (some (0, 0))] _ _
        refine xw.call (m := 22) (as := [.inr (some (0, 0)), .inr (some (2, a1)), .inr (xo 4 t24)]) (nx := 33) (L' := [some (.inr (some (0, 0))), some (.inr (some (2, a1))), some (.inr (some (2, a2)))]) (st' := []) rfl (xc.mono h ?_)
        rintro r S26 ⟨rfl, hC27, h⟩
        show xw _ _ 33 [some (.inr (some (0, 0))), some (.inr (some (2, a1))), some (.inr (some (2, a2)))] [] _ _
        refine xw.ret (r := none) rfl ?_
        show xw _ _ 103 [some (.inr (some (0, 0))), some (.inr (some (2, a1))), some (.inr (some (2, a2))), some (.inr none)] [] S26 _
        exact xw.ret (r := none) rfl h
      · replace h := h.2 k23 rfl
        show xw _ _ 58 [some (.inr (some (0, 0))), some (.inr (some (2, a1))), some (.inr (some (2, a2))), some (.inr (some (2, k23)))] [] _ _
        refine xw.s (pc' := 59) (st' := [.inr (some (2, k23))]) rfl ?_
        refine xw.fi (c := 2) (j := 8) (ty := 0) (nx := 62) (v := (xm_i S 2 k23 8)) rfl rfl rfl ?_
        refine xw.s (pc' := 63) (st' := [.inl (2 : Int32), .inl (xm_i S 2 k23 8)]) rfl ?_
        refine xw.bn (c := (xm_i S 2 k23 8) = (2 : Int32)) (cd := .ne) (x := (xm_i S 2 k23 8)) (y := (2 : Int32)) 86 66 (st' := []) rfl (y_cne _ _) h (fun c28 h => ?_) (fun c28 h => ?_)
        · skip
          refine xw.s (pc' := 67) (st' := [.inr (some (2, a2))]) rfl ?_
          obtain ⟨t29, q30⟩ : ∃ t, (xm_r S 2 a2 11) = t := ⟨_, rfl⟩
          replace h := h t29 q30
          refine xw.fr (c := 2) (j := 11) (e := 4) (nx := 70) (t := t29) rfl rfl q30 ?_
          show xw _ _ _ [some (.inr (some (0, 0))), some (.inr (some (2, a1))), some (.inr (some (2, a2))), some (.inr (some (2, k23)))] [.inr (xo 4 t29)] _ _
          refine xw.s (pc' := 71) (st' := [.inr (some (2, k23)), .inr (xo 4 t29)]) rfl ?_
          obtain ⟨t31, q32⟩ : ∃ t, (xm_r S 2 k23 11) = t := ⟨_, rfl⟩
          replace h := h t31 q32
          refine xw.fr (c := 2) (j := 11) (e := 4) (nx := 74) (t := t31) rfl rfl q32 ?_
          show xw _ _ _ [some (.inr (some (0, 0))), some (.inr (some (2, a1))), some (.inr (some (2, a2))), some (.inr (some (2, k23)))] [.inr (xo 4 t31), .inr (xo 4 t29)] _ _
          refine xw.call (m := 32) (as := [.inr (xo 4 t29), .inr (xo 4 t31)]) (nx := 77) (L' := [some (.inr (some (0, 0))), some (.inr (some (2, a1))), some (.inr (some (2, a2))), some (.inr (some (2, k23)))]) (st' := []) rfl ?_
          show xw _ _ _ [some (.inr (xo 4 t29)), some (.inr (xo 4 t31))] [] _ _
          refine xw.s (pc' := 1) (st' := [.inr (xo 4 t29)]) rfl ?_
          refine xw.nul (o := t29) (t := 21) (nx := 4) rfl rfl ?_
          rcases t29 with _ | k33
          · replace h := h.1 rfl
            show xw _ _ 21 [some (.inr none), some (.inr (xo 4 t31))] [] _ _
            refine xw.ret (r := none) rfl ?_
            show xw _ _ 77 [some (.inr (some (0, 0))), some (.inr (some (2, a1))), some (.inr (some (2, a2))), some (.inr (some (2, k23)))] [] S _
            refine xw.s (pc' := 78) (st' := [.inr (some (0, 0))]) rfl ?_
            refine xw.s (pc' := 79) (st' := [.inr (some (2, a1)), .inr (some (0, 0))]) rfl ?_
            refine xw.s (pc' := 80) (st' := [.inr (some (2, k23)), .inr (some (2, a1)), .inr (some (0, 0))]) rfl ?_
            refine xw.call (m := 29) (as := [.inr (some (0, 0)), .inr (some (2, a1)), .inr (some (2, k23))]) (nx := 83) (L' := [some (.inr (some (0, 0))), some (.inr (some (2, a1))), some (.inr (some (2, a2))), some (.inr (some (2, k23)))]) (st' := []) rfl ?_
            show xw _ _ _ [some (.inr (some (0, 0))), some (.inr (some (2, a1))), some (.inr (some (2, k23)))] [] _ _
            refine xw.s (pc' := 1) (st' := [.inr (some (2, k23))]) rfl ?_
            refine xw.fi (c := 2) (j := 8) (ty := 0) (nx := 4) (v := (xm_i S 2 k23 8)) rfl rfl rfl ?_
            refine xw.s (pc' := 5) (st' := [.inl (1 : Int32), .inl (xm_i S 2 k23 8)]) rfl ?_
            refine xw.bt (cd := .ne) (x := (xm_i S 2 k23 8)) (y := (1 : Int32)) 24 8 (st' := []) rfl (y_cne _ _) (fun z => absurd (c28.symm.trans z) (by decide)) ?_
            refine xw.s (pc' := 25) (st' := [.inr (some (0, 0))]) rfl ?_
            refine xw.s (pc' := 26) (st' := [.inr (some (2, a1)), .inr (some (0, 0))]) rfl ?_
            refine xw.s (pc' := 27) (st' := [.inr (some (2, k23)), .inr (some (2, a1)), .inr (some (0, 0))]) rfl ?_
            refine xw.fr (c := 2) (j := 11) (e := 4) (nx := 30) (t := t31) rfl rfl q32 ?_
            show xw _ _ _ [some (.inr (some (0, 0))), some (.inr (some (2, a1))), some (.inr (some (2, k23)))] [.inr (xo 4 t31), .inr (some (2, a1)), .inr (some (0, 0))] _ _
            refine xw.call (m := 22) (as := [.inr (some (0, 0)), .inr (some (2, a1)), .inr (xo 4 t31)]) (nx := 33) (L' := [some (.inr (some (0, 0))), some (.inr (some (2, a1))), some (.inr (some (2, k23)))]) (st' := []) rfl (xc.mono h ?_)
            rintro r S34 ⟨rfl, hC35, h⟩
            show xw _ _ 33 [some (.inr (some (0, 0))), some (.inr (some (2, a1))), some (.inr (some (2, k23)))] [] _ _
            refine xw.ret (r := none) rfl ?_
            show xw _ _ 83 [some (.inr (some (0, 0))), some (.inr (some (2, a1))), some (.inr (some (2, a2))), some (.inr (some (2, k23)))] [] S34 _
            refine xw.s (pc' := 103) (st' := []) rfl ?_
            exact xw.ret (r := none) rfl h
          · replace h := h.2 k33 rfl
            show xw _ _ 4 [some (.inr (some (4, k33))), some (.inr (xo 4 t31))] [] _ _
            refine xw.s (pc' := 5) (st' := [.inr (some (4, k33))]) rfl ?_
            refine xw.s (pc' := 6) (st' := [.inr (xo 4 t31), .inr (some (4, k33))]) rfl ?_
            refine xw.ae (c := 4) (a := (some k33)) (b := t31) (cn := (some k33) = t31) (t := 21) (nx := 9) rfl rfl (by decide) Iff.rfl h (fun c36 h => ?_) (fun c36 h => ?_)
            · skip
              refine xw.ret (r := none) rfl ?_
              show xw _ _ 77 [some (.inr (some (0, 0))), some (.inr (some (2, a1))), some (.inr (some (2, a2))), some (.inr (some (2, k23)))] [] S _
              refine xw.s (pc' := 78) (st' := [.inr (some (0, 0))]) rfl ?_
              refine xw.s (pc' := 79) (st' := [.inr (some (2, a1)), .inr (some (0, 0))]) rfl ?_
              refine xw.s (pc' := 80) (st' := [.inr (some (2, k23)), .inr (some (2, a1)), .inr (some (0, 0))]) rfl ?_
              refine xw.call (m := 29) (as := [.inr (some (0, 0)), .inr (some (2, a1)), .inr (some (2, k23))]) (nx := 83) (L' := [some (.inr (some (0, 0))), some (.inr (some (2, a1))), some (.inr (some (2, a2))), some (.inr (some (2, k23)))]) (st' := []) rfl ?_
              show xw _ _ _ [some (.inr (some (0, 0))), some (.inr (some (2, a1))), some (.inr (some (2, k23)))] [] _ _
              refine xw.s (pc' := 1) (st' := [.inr (some (2, k23))]) rfl ?_
              refine xw.fi (c := 2) (j := 8) (ty := 0) (nx := 4) (v := (xm_i S 2 k23 8)) rfl rfl rfl ?_
              refine xw.s (pc' := 5) (st' := [.inl (1 : Int32), .inl (xm_i S 2 k23 8)]) rfl ?_
              refine xw.bt (cd := .ne) (x := (xm_i S 2 k23 8)) (y := (1 : Int32)) 24 8 (st' := []) rfl (y_cne _ _) (fun z => absurd (c28.symm.trans z) (by decide)) ?_
              refine xw.s (pc' := 25) (st' := [.inr (some (0, 0))]) rfl ?_
              refine xw.s (pc' := 26) (st' := [.inr (some (2, a1)), .inr (some (0, 0))]) rfl ?_
              refine xw.s (pc' := 27) (st' := [.inr (some (2, k23)), .inr (some (2, a1)), .inr (some (0, 0))]) rfl ?_
              refine xw.fr (c := 2) (j := 11) (e := 4) (nx := 30) (t := t31) rfl rfl q32 ?_
              show xw _ _ _ [some (.inr (some (0, 0))), some (.inr (some (2, a1))), some (.inr (some (2, k23)))] [.inr (xo 4 t31), .inr (some (2, a1)), .inr (some (0, 0))] _ _
              refine xw.call (m := 22) (as := [.inr (some (0, 0)), .inr (some (2, a1)), .inr (xo 4 t31)]) (nx := 33) (L' := [some (.inr (some (0, 0))), some (.inr (some (2, a1))), some (.inr (some (2, k23)))]) (st' := []) rfl (xc.mono h ?_)
              rintro r S37 ⟨rfl, hC38, h⟩
              show xw _ _ 33 [some (.inr (some (0, 0))), some (.inr (some (2, a1))), some (.inr (some (2, k23)))] [] _ _
              refine xw.ret (r := none) rfl ?_
              show xw _ _ 83 [some (.inr (some (0, 0))), some (.inr (some (2, a1))), some (.inr (some (2, a2))), some (.inr (some (2, k23)))] [] S37 _
              refine xw.s (pc' := 103) (st' := []) rfl ?_
              exact xw.ret (r := none) rfl h
            · skip
              refine xw.s (pc' := 10) (st' := [.inr (some (4, k33))]) rfl ?_
              obtain ⟨t39, q40⟩ : ∃ t, (xm_r S 4 k33 6) = t := ⟨_, rfl⟩
              replace h := h t39 q40
              refine xw.fr (c := 4) (j := 6) (e := 4) (nx := 13) (t := t39) rfl rfl q40 ?_
              show xw _ _ _ [some (.inr (some (4, k33))), some (.inr (xo 4 t31))] [.inr (xo 4 t39)] _ _
              refine xw.nnul (o := t39) (t := 21) (nx := 16) rfl rfl ?_
              rcases t39 with _ | k41
              · replace h := h.1 rfl
                show xw _ _ 16 [some (.inr (some (4, k33))), some (.inr (xo 4 t31))] [] _ _
                refine xw.s (pc' := 17) (st' := [.inr (some (4, k33))]) rfl ?_
                refine xw.s (pc' := 18) (st' := [.inr (xo 4 t31), .inr (some (4, k33))]) rfl ?_
                refine xw.fq (c := 4) (j := 6) (e := 4) (nx := 21) (t := t31) rfl rfl ?_
                obtain ⟨S42, e43⟩ : ∃ s, s = xm_sr S 4 k33 6 t31 := ⟨_, rfl⟩
                rw [← e43]
                replace h := h S42 e43
                refine xw.ret (r := none) rfl ?_
                show xw _ _ 77 [some (.inr (some (0, 0))), some (.inr (some (2, a1))), some (.inr (some (2, a2))), some (.inr (some (2, k23)))] [] S42 _
                refine xw.s (pc' := 78) (st' := [.inr (some (0, 0))]) rfl ?_
                refine xw.s (pc' := 79) (st' := [.inr (some (2, a1)), .inr (some (0, 0))]) rfl ?_
                refine xw.s (pc' := 80) (st' := [.inr (some (2, k23)), .inr (some (2, a1)), .inr (some (0, 0))]) rfl ?_
                refine xw.call (m := 29) (as := [.inr (some (0, 0)), .inr (some (2, a1)), .inr (some (2, k23))]) (nx := 83) (L' := [some (.inr (some (0, 0))), some (.inr (some (2, a1))), some (.inr (some (2, a2))), some (.inr (some (2, k23)))]) (st' := []) rfl ?_
                show xw _ _ _ [some (.inr (some (0, 0))), some (.inr (some (2, a1))), some (.inr (some (2, k23)))] [] _ _
                refine xw.s (pc' := 1) (st' := [.inr (some (2, k23))]) rfl ?_
                refine xw.fi (c := 2) (j := 8) (ty := 0) (nx := 4) (v := (xm_i S 2 k23 8)) rfl rfl ((congrArg (fun s => xm_i s 2 k23 8) e43).trans rfl) ?_
                refine xw.s (pc' := 5) (st' := [.inl (1 : Int32), .inl (xm_i S 2 k23 8)]) rfl ?_
                refine xw.bt (cd := .ne) (x := (xm_i S 2 k23 8)) (y := (1 : Int32)) 24 8 (st' := []) rfl (y_cne _ _) (fun z => absurd (c28.symm.trans z) (by decide)) ?_
                refine xw.s (pc' := 25) (st' := [.inr (some (0, 0))]) rfl ?_
                refine xw.s (pc' := 26) (st' := [.inr (some (2, a1)), .inr (some (0, 0))]) rfl ?_
                refine xw.s (pc' := 27) (st' := [.inr (some (2, k23)), .inr (some (2, a1)), .inr (some (0, 0))]) rfl ?_
                refine xw.fr (c := 2) (j := 11) (e := 4) (nx := 30) (t := t31) rfl rfl (((congrArg (fun s => xm_r s 2 k23 11) e43).trans (xr_sr (by decide))).trans q32) ?_
                show xw _ _ _ [some (.inr (some (0, 0))), some (.inr (some (2, a1))), some (.inr (some (2, k23)))] [.inr (xo 4 t31), .inr (some (2, a1)), .inr (some (0, 0))] _ _
                refine xw.call (m := 22) (as := [.inr (some (0, 0)), .inr (some (2, a1)), .inr (xo 4 t31)]) (nx := 33) (L' := [some (.inr (some (0, 0))), some (.inr (some (2, a1))), some (.inr (some (2, k23)))]) (st' := []) rfl (xc.mono h ?_)
                rintro r S44 ⟨rfl, hC45, h⟩
                show xw _ _ 33 [some (.inr (some (0, 0))), some (.inr (some (2, a1))), some (.inr (some (2, k23)))] [] _ _
                refine xw.ret (r := none) rfl ?_
                show xw _ _ 83 [some (.inr (some (0, 0))), some (.inr (some (2, a1))), some (.inr (some (2, a2))), some (.inr (some (2, k23)))] [] S44 _
                refine xw.s (pc' := 103) (st' := []) rfl ?_
                exact xw.ret (r := none) rfl h
              · replace h := h.2 k41 rfl
                show xw _ _ 21 [some (.inr (some (4, k33))), some (.inr (xo 4 t31))] [] _ _
                refine xw.ret (r := none) rfl ?_
                show xw _ _ 77 [some (.inr (some (0, 0))), some (.inr (some (2, a1))), some (.inr (some (2, a2))), some (.inr (some (2, k23)))] [] S _
                refine xw.s (pc' := 78) (st' := [.inr (some (0, 0))]) rfl ?_
                refine xw.s (pc' := 79) (st' := [.inr (some (2, a1)), .inr (some (0, 0))]) rfl ?_
                refine xw.s (pc' := 80) (st' := [.inr (some (2, k23)), .inr (some (2, a1)), .inr (some (0, 0))]) rfl ?_
                refine xw.call (m := 29) (as := [.inr (some (0, 0)), .inr (some (2, a1)), .inr (some (2, k23))]) (nx := 83) (L' := [some (.inr (some (0, 0))), some (.inr (some (2, a1))), some (.inr (some (2, a2))), some (.inr (some (2, k23)))]) (st' := []) rfl ?_
                show xw _ _ _ [some (.inr (some (0, 0))), some (.inr (some (2, a1))), some (.inr (some (2, k23)))] [] _ _
                refine xw.s (pc' := 1) (st' := [.inr (some (2, k23))]) rfl ?_
                refine xw.fi (c := 2) (j := 8) (ty := 0) (nx := 4) (v := (xm_i S 2 k23 8)) rfl rfl rfl ?_
                refine xw.s (pc' := 5) (st' := [.inl (1 : Int32), .inl (xm_i S 2 k23 8)]) rfl ?_
                refine xw.bt (cd := .ne) (x := (xm_i S 2 k23 8)) (y := (1 : Int32)) 24 8 (st' := []) rfl (y_cne _ _) (fun z => absurd (c28.symm.trans z) (by decide)) ?_
                refine xw.s (pc' := 25) (st' := [.inr (some (0, 0))]) rfl ?_
                refine xw.s (pc' := 26) (st' := [.inr (some (2, a1)), .inr (some (0, 0))]) rfl ?_
                refine xw.s (pc' := 27) (st' := [.inr (some (2, k23)), .inr (some (2, a1)), .inr (some (0, 0))]) rfl ?_
                refine xw.fr (c := 2) (j := 11) (e := 4) (nx := 30) (t := t31) rfl rfl q32 ?_
                show xw _ _ _ [some (.inr (some (0, 0))), some (.inr (some (2, a1))), some (.inr (some (2, k23)))] [.inr (xo 4 t31), .inr (some (2, a1)), .inr (some (0, 0))] _ _
                refine xw.call (m := 22) (as := [.inr (some (0, 0)), .inr (some (2, a1)), .inr (xo 4 t31)]) (nx := 33) (L' := [some (.inr (some (0, 0))), some (.inr (some (2, a1))), some (.inr (some (2, k23)))]) (st' := []) rfl (xc.mono h ?_)
                rintro r S46 ⟨rfl, hC47, h⟩
                show xw _ _ 33 [some (.inr (some (0, 0))), some (.inr (some (2, a1))), some (.inr (some (2, k23)))] [] _ _
                refine xw.ret (r := none) rfl ?_
                show xw _ _ 83 [some (.inr (some (0, 0))), some (.inr (some (2, a1))), some (.inr (some (2, a2))), some (.inr (some (2, k23)))] [] S46 _
                refine xw.s (pc' := 103) (st' := []) rfl ?_
                exact xw.ret (r := none) rfl h
        · skip
          refine xw.s (pc' := 87) (st' := [.inr (some (2, k23))]) rfl ?_
          refine xw.s (pc' := 90) (st' := []) rfl ?_
          refine xw.s (pc' := 91) (st' := [.inr (some (2, k23))]) rfl ?_
          refine xw.fi (c := 2) (j := 8) (ty := 0) (nx := 94) (v := (xm_i S 2 k23 8)) rfl rfl rfl ?_
          refine xw.b (c := (xm_i S 2 k23 8) = (0 : Int32)) (cd := .eq) (x := (xm_i S 2 k23 8)) (y := (0 : Int32)) 103 97 (st' := []) rfl (y_ceq _ _) h (fun c48 h => ?_) (fun c48 h => ?_)
          · skip
            exact xw.ret (r := none) rfl h
          · skip
            refine xw.s (pc' := 98) (st' := [.inr (some (0, 0))]) rfl ?_
            refine xw.s (pc' := 99) (st' := [.inr (some (2, a1)), .inr (some (0, 0))]) rfl ?_
            refine xw.s (pc' := 100) (st' := [.inr (some (2, a2)), .inr (some (2, a1)), .inr (some (0, 0))]) rfl ?_
            refine xw.call (m := 29) (as := [.inr (some (0, 0)), .inr (some (2, a1)), .inr (some (2, a2))]) (nx := 103) (L' := [some (.inr (some (0, 0))), some (.inr (some (2, a1))), some (.inr (some (2, a2))), some (.inr (some (2, k23)))]) (st' := []) rfl ?_
            show xw _ _ _ [some (.inr (some (0, 0))), some (.inr (some (2, a1))), some (.inr (some (2, a2)))] [] _ _
            refine xw.s (pc' := 1) (st' := [.inr (some (2, a2))]) rfl ?_
            refine xw.fi (c := 2) (j := 8) (ty := 0) (nx := 4) (v := (xm_i S 2 a2 8)) rfl rfl rfl ?_
            refine xw.s (pc' := 5) (st' := [.inl (1 : Int32), .inl (xm_i S 2 a2 8)]) rfl ?_
            refine xw.bt (cd := .ne) (x := (xm_i S 2 a2 8)) (y := (1 : Int32)) 24 8 (st' := []) rfl (y_cne _ _) c6 ?_
            refine xw.s (pc' := 25) (st' := [.inr (some (0, 0))]) rfl ?_
            refine xw.s (pc' := 26) (st' := [.inr (some (2, a1)), .inr (some (0, 0))]) rfl ?_
            refine xw.s (pc' := 27) (st' := [.inr (some (2, a2)), .inr (some (2, a1)), .inr (some (0, 0))]) rfl ?_
            obtain ⟨t49, q50⟩ : ∃ t, (xm_r S 2 a2 11) = t := ⟨_, rfl⟩
            replace h := h t49 q50
            refine xw.fr (c := 2) (j := 11) (e := 4) (nx := 30) (t := t49) rfl rfl q50 ?_
            show xw _ _ _ [some (.inr (some (0, 0))), some (.inr (some (2, a1))), some (.inr (some (2, a2)))] [.inr (xo 4 t49), .inr (some (2, a1)), .inr (some (0, 0))] _ _
            refine xw.call (m := 22) (as := [.inr (some (0, 0)), .inr (some (2, a1)), .inr (xo 4 t49)]) (nx := 33) (L' := [some (.inr (some (0, 0))), some (.inr (some (2, a1))), some (.inr (some (2, a2)))]) (st' := []) rfl (xc.mono h ?_)
            rintro r S51 ⟨rfl, hC52, h⟩
            show xw _ _ 33 [some (.inr (some (0, 0))), some (.inr (some (2, a1))), some (.inr (some (2, a2)))] [] _ _
            refine xw.ret (r := none) rfl ?_
            show xw _ _ 103 [some (.inr (some (0, 0))), some (.inr (some (2, a1))), some (.inr (some (2, a2))), some (.inr (some (2, k23)))] [] S51 _
            exact xw.ret (r := none) rfl h
  · skip
    refine xw.s (pc' := 16) (st' := [.inr (some (2, a1))]) rfl ?_
    refine xw.fr (c := 2) (j := 17) (e := 2) (nx := 19) (t := t1) rfl rfl q2 ?_
    show xw _ _ _ [some (.inr (some (0, 0))), some (.inr (some (2, a1))), some (.inr (some (2, a2))), none] [.inr (xo 2 t1)] _ _
    refine xw.s (pc' := 20) (st' := []) (L' := [some (.inr (some (0, 0))), some (.inr (some (2, a1))), some (.inr (some (2, a2))), some (.inr (xo 2 t1))]) rfl ?_
    refine xw.s (pc' := 21) (st' := [.inr (some (2, a2))]) rfl ?_
    refine xw.fi (c := 2) (j := 8) (ty := 0) (nx := 24) (v := (xm_i S 2 a2 8)) rfl rfl rfl ?_
    refine xw.s (pc' := 25) (st' := [.inl (1 : Int32), .inl (xm_i S 2 a2 8)]) rfl ?_
    refine xw.bn (c := (xm_i S 2 a2 8) = (1 : Int32)) (cd := .ne) (x := (xm_i S 2 a2 8)) (y := (1 : Int32)) 54 28 (st' := []) rfl (y_cne _ _) h (fun c53 h => ?_) (fun c53 h => ?_)
    · skip
      refine xw.s (pc' := 29) (st' := [.inr (xo 2 t1)]) rfl ?_
      refine xw.nul (o := t1) (t := 45) (nx := 32) rfl rfl ?_
      rcases t1 with _ | k54
      · replace h := h.1 rfl
        show xw _ _ 45 [some (.inr (some (0, 0))), some (.inr (some (2, a1))), some (.inr (some (2, a2))), some (.inr none)] [] _ _
        refine xw.s (pc' := 46) (st' := [.inr (some (0, 0))]) rfl ?_
        refine xw.s (pc' := 47) (st' := [.inr (some (2, a1)), .inr (some (0, 0))]) rfl ?_
        refine xw.s (pc' := 48) (st' := [.inr (some (2, a2)), .inr (some (2, a1)), .inr (some (0, 0))]) rfl ?_
        refine xw.call (m := 29) (as := [.inr (some (0, 0)), .inr (some (2, a1)), .inr (some (2, a2))]) (nx := 51) (L' := [some (.inr (some (0, 0))), some (.inr (some (2, a1))), some (.inr (some (2, a2))), some (.inr none)]) (st' := []) rfl ?_
        show xw _ _ _ [some (.inr (some (0, 0))), some (.inr (some (2, a1))), some (.inr (some (2, a2)))] [] _ _
        refine xw.s (pc' := 1) (st' := [.inr (some (2, a2))]) rfl ?_
        refine xw.fi (c := 2) (j := 8) (ty := 0) (nx := 4) (v := (xm_i S 2 a2 8)) rfl rfl rfl ?_
        refine xw.s (pc' := 5) (st' := [.inl (1 : Int32), .inl (xm_i S 2 a2 8)]) rfl ?_
        refine xw.bf (cd := .ne) (x := (xm_i S 2 a2 8)) (y := (1 : Int32)) 24 8 (st' := []) rfl (y_cne _ _) (fun z => z c53) ?_
        refine xw.s (pc' := 9) (st' := [.inr (some (0, 0))]) rfl ?_
        refine xw.s (pc' := 10) (st' := [.inr (some (2, a1)), .inr (some (0, 0))]) rfl ?_
        refine xw.s (pc' := 11) (st' := [.inr (some (2, a2)), .inr (some (2, a1)), .inr (some (0, 0))]) rfl ?_
        refine xw.fi (c := 2) (j := 9) (ty := 0) (nx := 14) (v := (xm_i S 2 a2 9)) rfl rfl rfl ?_
        refine xw.s (pc' := 15) (st' := [.inr (some (2, a2)), .inl (xm_i S 2 a2 9), .inr (some (2, a1)), .inr (some (0, 0))]) rfl ?_
        refine xw.fi (c := 2) (j := 10) (ty := 1) (nx := 18) (v := (xm_i S 2 a2 10)) rfl rfl rfl ?_
        refine xw.call (m := 30) (as := [.inr (some (0, 0)), .inr (some (2, a1)), .inl (xm_i S 2 a2 9), .inl (xm_i S 2 a2 10)]) (nx := 21) (L' := [some (.inr (some (0, 0))), some (.inr (some (2, a1))), some (.inr (some (2, a2)))]) (st' := []) rfl (xc.mono h ?_)
        rintro r S55 ⟨rfl, hC56, h⟩
        show xw _ _ 21 [some (.inr (some (0, 0))), some (.inr (some (2, a1))), some (.inr (some (2, a2)))] [] _ _
        refine xw.s (pc' := 33) (st' := []) rfl ?_
        refine xw.ret (r := none) rfl ?_
        show xw _ _ 51 [some (.inr (some (0, 0))), some (.inr (some (2, a1))), some (.inr (some (2, a2))), some (.inr none)] [] S55 _
        refine xw.s (pc' := 103) (st' := []) rfl ?_
        exact xw.ret (r := none) rfl h
      · replace h := h.2 k54 rfl
        show xw _ _ 32 [some (.inr (some (0, 0))), some (.inr (some (2, a1))), some (.inr (some (2, a2))), some (.inr (some (2, k54)))] [] _ _
        refine xw.s (pc' := 33) (st' := [.inr (some (2, k54))]) rfl ?_
        refine xw.fi (c := 2) (j := 8) (ty := 0) (nx := 36) (v := (xm_i S 2 k54 8)) rfl rfl rfl ?_
        refine xw.bn (c := (xm_i S 2 k54 8) = (0 : Int32)) (cd := .ne) (x := (xm_i S 2 k54 8)) (y := (0 : Int32)) 45 39 (st' := []) rfl (y_cne _ _) h (fun c57 h => ?_) (fun c57 h => ?_)
        · skip
          refine xw.s (pc' := 40) (st' := [.inr (some (0, 0))]) rfl ?_
          refine xw.s (pc' := 41) (st' := [.inr (some (2, k54)), .inr (some (0, 0))]) rfl ?_
          refine xw.call (m := 34) (as := [.inr (some (0, 0)), .inr (some (2, k54))]) (nx := 44) (L' := [some (.inr (some (0, 0))), some (.inr (some (2, a1))), some (.inr (some (2, a2))), some (.inr (some (2, k54)))]) (st' := []) rfl (xc.mono h ?_)
          rintro r S58 ⟨x60, rfl, hC59, h⟩
          show xw _ _ 44 [some (.inr (some (0, 0))), some (.inr (some (2, a1))), some (.inr (some (2, a2))), some (.inr (some (2, k54)))] [.inl x60] _ _
          refine xw.s (pc' := 45) (st' := []) rfl ?_
          refine xw.s (pc' := 46) (st' := [.inr (some (0, 0))]) rfl ?_
          refine xw.s (pc' := 47) (st' := [.inr (some (2, a1)), .inr (some (0, 0))]) rfl ?_
          refine xw.s (pc' := 48) (st' := [.inr (some (2, a2)), .inr (some (2, a1)), .inr (some (0, 0))]) rfl ?_
          refine xw.call (m := 29) (as := [.inr (some (0, 0)), .inr (some (2, a1)), .inr (some (2, a2))]) (nx := 51) (L' := [some (.inr (some (0, 0))), some (.inr (some (2, a1))), some (.inr (some (2, a2))), some (.inr (some (2, k54)))]) (st' := []) rfl ?_
          show xw _ _ _ [some (.inr (some (0, 0))), some (.inr (some (2, a1))), some (.inr (some (2, a2)))] [] _ _
          refine xw.s (pc' := 1) (st' := [.inr (some (2, a2))]) rfl ?_
          refine xw.fi (c := 2) (j := 8) (ty := 0) (nx := 4) (v := (xm_i S58 2 a2 8)) rfl rfl rfl ?_
          refine xw.s (pc' := 5) (st' := [.inl (1 : Int32), .inl (xm_i S58 2 a2 8)]) rfl ?_
          refine xw.bn (c := (xm_i S58 2 a2 8) = (1 : Int32)) (cd := .ne) (x := (xm_i S58 2 a2 8)) (y := (1 : Int32)) 24 8 (st' := []) rfl (y_cne _ _) h (fun c61 h => ?_) (fun c61 h => ?_)
          · skip
            refine xw.s (pc' := 9) (st' := [.inr (some (0, 0))]) rfl ?_
            refine xw.s (pc' := 10) (st' := [.inr (some (2, a1)), .inr (some (0, 0))]) rfl ?_
            refine xw.s (pc' := 11) (st' := [.inr (some (2, a2)), .inr (some (2, a1)), .inr (some (0, 0))]) rfl ?_
            refine xw.fi (c := 2) (j := 9) (ty := 0) (nx := 14) (v := (xm_i S58 2 a2 9)) rfl rfl rfl ?_
            refine xw.s (pc' := 15) (st' := [.inr (some (2, a2)), .inl (xm_i S58 2 a2 9), .inr (some (2, a1)), .inr (some (0, 0))]) rfl ?_
            refine xw.fi (c := 2) (j := 10) (ty := 1) (nx := 18) (v := (xm_i S58 2 a2 10)) rfl rfl rfl ?_
            refine xw.call (m := 30) (as := [.inr (some (0, 0)), .inr (some (2, a1)), .inl (xm_i S58 2 a2 9), .inl (xm_i S58 2 a2 10)]) (nx := 21) (L' := [some (.inr (some (0, 0))), some (.inr (some (2, a1))), some (.inr (some (2, a2)))]) (st' := []) rfl (xc.mono h ?_)
            rintro r S62 ⟨rfl, hC63, h⟩
            show xw _ _ 21 [some (.inr (some (0, 0))), some (.inr (some (2, a1))), some (.inr (some (2, a2)))] [] _ _
            refine xw.s (pc' := 33) (st' := []) rfl ?_
            refine xw.ret (r := none) rfl ?_
            show xw _ _ 51 [some (.inr (some (0, 0))), some (.inr (some (2, a1))), some (.inr (some (2, a2))), some (.inr (some (2, k54)))] [] S62 _
            refine xw.s (pc' := 103) (st' := []) rfl ?_
            exact xw.ret (r := none) rfl h
          · skip
            refine xw.s (pc' := 25) (st' := [.inr (some (0, 0))]) rfl ?_
            refine xw.s (pc' := 26) (st' := [.inr (some (2, a1)), .inr (some (0, 0))]) rfl ?_
            refine xw.s (pc' := 27) (st' := [.inr (some (2, a2)), .inr (some (2, a1)), .inr (some (0, 0))]) rfl ?_
            obtain ⟨t64, q65⟩ : ∃ t, (xm_r S58 2 a2 11) = t := ⟨_, rfl⟩
            replace h := h t64 q65
            refine xw.fr (c := 2) (j := 11) (e := 4) (nx := 30) (t := t64) rfl rfl q65 ?_
            show xw _ _ _ [some (.inr (some (0, 0))), some (.inr (some (2, a1))), some (.inr (some (2, a2)))] [.inr (xo 4 t64), .inr (some (2, a1)), .inr (some (0, 0))] _ _
            refine xw.call (m := 22) (as := [.inr (some (0, 0)), .inr (some (2, a1)), .inr (xo 4 t64)]) (nx := 33) (L' := [some (.inr (some (0, 0))), some (.inr (some (2, a1))), some (.inr (some (2, a2)))]) (st' := []) rfl (xc.mono h ?_)
            rintro r S66 ⟨rfl, hC67, h⟩
            show xw _ _ 33 [some (.inr (some (0, 0))), some (.inr (some (2, a1))), some (.inr (some (2, a2)))] [] _ _
            refine xw.ret (r := none) rfl ?_
            show xw _ _ 51 [some (.inr (some (0, 0))), some (.inr (some (2, a1))), some (.inr (some (2, a2))), some (.inr (some (2, k54)))] [] S66 _
            refine xw.s (pc' := 103) (st' := []) rfl ?_
            exact xw.ret (r := none) rfl h
        · skip
          refine xw.s (pc' := 46) (st' := [.inr (some (0, 0))]) rfl ?_
          refine xw.s (pc' := 47) (st' := [.inr (some (2, a1)), .inr (some (0, 0))]) rfl ?_
          refine xw.s (pc' := 48) (st' := [.inr (some (2, a2)), .inr (some (2, a1)), .inr (some (0, 0))]) rfl ?_
          refine xw.call (m := 29) (as := [.inr (some (0, 0)), .inr (some (2, a1)), .inr (some (2, a2))]) (nx := 51) (L' := [some (.inr (some (0, 0))), some (.inr (some (2, a1))), some (.inr (some (2, a2))), some (.inr (some (2, k54)))]) (st' := []) rfl ?_
          show xw _ _ _ [some (.inr (some (0, 0))), some (.inr (some (2, a1))), some (.inr (some (2, a2)))] [] _ _
          refine xw.s (pc' := 1) (st' := [.inr (some (2, a2))]) rfl ?_
          refine xw.fi (c := 2) (j := 8) (ty := 0) (nx := 4) (v := (xm_i S 2 a2 8)) rfl rfl rfl ?_
          refine xw.s (pc' := 5) (st' := [.inl (1 : Int32), .inl (xm_i S 2 a2 8)]) rfl ?_
          refine xw.bf (cd := .ne) (x := (xm_i S 2 a2 8)) (y := (1 : Int32)) 24 8 (st' := []) rfl (y_cne _ _) (fun z => z c53) ?_
          refine xw.s (pc' := 9) (st' := [.inr (some (0, 0))]) rfl ?_
          refine xw.s (pc' := 10) (st' := [.inr (some (2, a1)), .inr (some (0, 0))]) rfl ?_
          refine xw.s (pc' := 11) (st' := [.inr (some (2, a2)), .inr (some (2, a1)), .inr (some (0, 0))]) rfl ?_
          refine xw.fi (c := 2) (j := 9) (ty := 0) (nx := 14) (v := (xm_i S 2 a2 9)) rfl rfl rfl ?_
          refine xw.s (pc' := 15) (st' := [.inr (some (2, a2)), .inl (xm_i S 2 a2 9), .inr (some (2, a1)), .inr (some (0, 0))]) rfl ?_
          refine xw.fi (c := 2) (j := 10) (ty := 1) (nx := 18) (v := (xm_i S 2 a2 10)) rfl rfl rfl ?_
          refine xw.call (m := 30) (as := [.inr (some (0, 0)), .inr (some (2, a1)), .inl (xm_i S 2 a2 9), .inl (xm_i S 2 a2 10)]) (nx := 21) (L' := [some (.inr (some (0, 0))), some (.inr (some (2, a1))), some (.inr (some (2, a2)))]) (st' := []) rfl (xc.mono h ?_)
          rintro r S68 ⟨rfl, hC69, h⟩
          show xw _ _ 21 [some (.inr (some (0, 0))), some (.inr (some (2, a1))), some (.inr (some (2, a2)))] [] _ _
          refine xw.s (pc' := 33) (st' := []) rfl ?_
          refine xw.ret (r := none) rfl ?_
          show xw _ _ 51 [some (.inr (some (0, 0))), some (.inr (some (2, a1))), some (.inr (some (2, a2))), some (.inr (some (2, k54)))] [] S68 _
          refine xw.s (pc' := 103) (st' := []) rfl ?_
          exact xw.ret (r := none) rfl h
    · skip
      refine xw.s (pc' := 55) (st' := [.inr (xo 2 t1)]) rfl ?_
      refine xw.nul (o := t1) (t := 86) (nx := 58) rfl rfl ?_
      rcases t1 with _ | k70
      · replace h := h.1 rfl
        show xw _ _ 86 [some (.inr (some (0, 0))), some (.inr (some (2, a1))), some (.inr (some (2, a2))), some (.inr none)] [] _ _
        refine xw.s (pc' := 87) (st' := [.inr none]) rfl ?_
        refine xw.s (pc' := 97) (st' := []) rfl ?_
        refine xw.s (pc' := 98) (st' := [.inr (some (0, 0))]) rfl ?_
        refine xw.s (pc' := 99) (st' := [.inr (some (2, a1)), .inr (some (0, 0))]) rfl ?_
        refine xw.s (pc' := 100) (st' := [.inr (some (2, a2)), .inr (some (2, a1)), .inr (some (0, 0))]) rfl ?_
        refine xw.call (m := 29) (as := [.inr (some (0, 0)), .inr (some (2, a1)), .inr (some (2, a2))]) (nx := 103) (L' := [some (.inr (some (0, 0))), some (.inr (some (2, a1))), some (.inr (some (2, a2))), some (.inr none)]) (st' := []) rfl ?_
        show xw _ _ _ [some (.inr (some (0, 0))), some (.inr (some (2, a1))), some (.inr (some (2, a2)))] [] _ _
        refine xw.s (pc' := 1) (st' := [.inr (some (2, a2))]) rfl ?_
        refine xw.fi (c := 2) (j := 8) (ty := 0) (nx := 4) (v := (xm_i S 2 a2 8)) rfl rfl rfl ?_
        refine xw.s (pc' := 5) (st' := [.inl (1 : Int32), .inl (xm_i S 2 a2 8)]) rfl ?_
        refine xw.bt (cd := .ne) (x := (xm_i S 2 a2 8)) (y := (1 : Int32)) 24 8 (st' := []) rfl (y_cne _ _) c53 ?_
        refine xw.s (pc' := 25) (st' := [.inr (some (0, 0))]) rfl ?_
        refine xw.s (pc' := 26) (st' := [.inr (some (2, a1)), .inr (some (0, 0))]) rfl ?_
        refine xw.s (pc' := 27) (st' := [.inr (some (2, a2)), .inr (some (2, a1)), .inr (some (0, 0))]) rfl ?_
        obtain ⟨t71, q72⟩ : ∃ t, (xm_r S 2 a2 11) = t := ⟨_, rfl⟩
        replace h := h t71 q72
        refine xw.fr (c := 2) (j := 11) (e := 4) (nx := 30) (t := t71) rfl rfl q72 ?_
        show xw _ _ _ [some (.inr (some (0, 0))), some (.inr (some (2, a1))), some (.inr (some (2, a2)))] [.inr (xo 4 t71), .inr (some (2, a1)), .inr (some (0, 0))] _ _
        refine xw.call (m := 22) (as := [.inr (some (0, 0)), .inr (some (2, a1)), .inr (xo 4 t71)]) (nx := 33) (L' := [some (.inr (some (0, 0))), some (.inr (some (2, a1))), some (.inr (some (2, a2)))]) (st' := []) rfl (xc.mono h ?_)
        rintro r S73 ⟨rfl, hC74, h⟩
        show xw _ _ 33 [some (.inr (some (0, 0))), some (.inr (some (2, a1))), some (.inr (some (2, a2)))] [] _ _
        refine xw.ret (r := none) rfl ?_
        show xw _ _ 103 [some (.inr (some (0, 0))), some (.inr (some (2, a1))), some (.inr (some (2, a2))), some (.inr none)] [] S73 _
        exact xw.ret (r := none) rfl h
      · replace h := h.2 k70 rfl
        show xw _ _ 58 [some (.inr (some (0, 0))), some (.inr (some (2, a1))), some (.inr (some (2, a2))), some (.inr (some (2, k70)))] [] _ _
        refine xw.s (pc' := 59) (st' := [.inr (some (2, k70))]) rfl ?_
        refine xw.fi (c := 2) (j := 8) (ty := 0) (nx := 62) (v := (xm_i S 2 k70 8)) rfl rfl rfl ?_
        refine xw.s (pc' := 63) (st' := [.inl (2 : Int32), .inl (xm_i S 2 k70 8)]) rfl ?_
        refine xw.bn (c := (xm_i S 2 k70 8) = (2 : Int32)) (cd := .ne) (x := (xm_i S 2 k70 8)) (y := (2 : Int32)) 86 66 (st' := []) rfl (y_cne _ _) h (fun c75 h => ?_) (fun c75 h => ?_)
        · skip
          refine xw.s (pc' := 67) (st' := [.inr (some (2, a2))]) rfl ?_
          obtain ⟨t76, q77⟩ : ∃ t, (xm_r S 2 a2 11) = t := ⟨_, rfl⟩
          replace h := h t76 q77
          refine xw.fr (c := 2) (j := 11) (e := 4) (nx := 70) (t := t76) rfl rfl q77 ?_
          show xw _ _ _ [some (.inr (some (0, 0))), some (.inr (some (2, a1))), some (.inr (some (2, a2))), some (.inr (some (2, k70)))] [.inr (xo 4 t76)] _ _
          refine xw.s (pc' := 71) (st' := [.inr (some (2, k70)), .inr (xo 4 t76)]) rfl ?_
          obtain ⟨t78, q79⟩ : ∃ t, (xm_r S 2 k70 11) = t := ⟨_, rfl⟩
          replace h := h t78 q79
          refine xw.fr (c := 2) (j := 11) (e := 4) (nx := 74) (t := t78) rfl rfl q79 ?_
          show xw _ _ _ [some (.inr (some (0, 0))), some (.inr (some (2, a1))), some (.inr (some (2, a2))), some (.inr (some (2, k70)))] [.inr (xo 4 t78), .inr (xo 4 t76)] _ _
          refine xw.call (m := 32) (as := [.inr (xo 4 t76), .inr (xo 4 t78)]) (nx := 77) (L' := [some (.inr (some (0, 0))), some (.inr (some (2, a1))), some (.inr (some (2, a2))), some (.inr (some (2, k70)))]) (st' := []) rfl ?_
          show xw _ _ _ [some (.inr (xo 4 t76)), some (.inr (xo 4 t78))] [] _ _
          refine xw.s (pc' := 1) (st' := [.inr (xo 4 t76)]) rfl ?_
          refine xw.nul (o := t76) (t := 21) (nx := 4) rfl rfl ?_
          rcases t76 with _ | k80
          · replace h := h.1 rfl
            show xw _ _ 21 [some (.inr none), some (.inr (xo 4 t78))] [] _ _
            refine xw.ret (r := none) rfl ?_
            show xw _ _ 77 [some (.inr (some (0, 0))), some (.inr (some (2, a1))), some (.inr (some (2, a2))), some (.inr (some (2, k70)))] [] S _
            refine xw.s (pc' := 78) (st' := [.inr (some (0, 0))]) rfl ?_
            refine xw.s (pc' := 79) (st' := [.inr (some (2, a1)), .inr (some (0, 0))]) rfl ?_
            refine xw.s (pc' := 80) (st' := [.inr (some (2, k70)), .inr (some (2, a1)), .inr (some (0, 0))]) rfl ?_
            refine xw.call (m := 29) (as := [.inr (some (0, 0)), .inr (some (2, a1)), .inr (some (2, k70))]) (nx := 83) (L' := [some (.inr (some (0, 0))), some (.inr (some (2, a1))), some (.inr (some (2, a2))), some (.inr (some (2, k70)))]) (st' := []) rfl ?_
            show xw _ _ _ [some (.inr (some (0, 0))), some (.inr (some (2, a1))), some (.inr (some (2, k70)))] [] _ _
            refine xw.s (pc' := 1) (st' := [.inr (some (2, k70))]) rfl ?_
            refine xw.fi (c := 2) (j := 8) (ty := 0) (nx := 4) (v := (xm_i S 2 k70 8)) rfl rfl rfl ?_
            refine xw.s (pc' := 5) (st' := [.inl (1 : Int32), .inl (xm_i S 2 k70 8)]) rfl ?_
            refine xw.bt (cd := .ne) (x := (xm_i S 2 k70 8)) (y := (1 : Int32)) 24 8 (st' := []) rfl (y_cne _ _) (fun z => absurd (c75.symm.trans z) (by decide)) ?_
            refine xw.s (pc' := 25) (st' := [.inr (some (0, 0))]) rfl ?_
            refine xw.s (pc' := 26) (st' := [.inr (some (2, a1)), .inr (some (0, 0))]) rfl ?_
            refine xw.s (pc' := 27) (st' := [.inr (some (2, k70)), .inr (some (2, a1)), .inr (some (0, 0))]) rfl ?_
            refine xw.fr (c := 2) (j := 11) (e := 4) (nx := 30) (t := t78) rfl rfl q79 ?_
            show xw _ _ _ [some (.inr (some (0, 0))), some (.inr (some (2, a1))), some (.inr (some (2, k70)))] [.inr (xo 4 t78), .inr (some (2, a1)), .inr (some (0, 0))] _ _
            refine xw.call (m := 22) (as := [.inr (some (0, 0)), .inr (some (2, a1)), .inr (xo 4 t78)]) (nx := 33) (L' := [some (.inr (some (0, 0))), some (.inr (some (2, a1))), some (.inr (some (2, k70)))]) (st' := []) rfl (xc.mono h ?_)
            rintro r S81 ⟨rfl, hC82, h⟩
            show xw _ _ 33 [some (.inr (some (0, 0))), some (.inr (some (2, a1))), some (.inr (some (2, k70)))] [] _ _
            refine xw.ret (r := none) rfl ?_
            show xw _ _ 83 [some (.inr (some (0, 0))), some (.inr (some (2, a1))), some (.inr (some (2, a2))), some (.inr (some (2, k70)))] [] S81 _
            refine xw.s (pc' := 103) (st' := []) rfl ?_
            exact xw.ret (r := none) rfl h
          · replace h := h.2 k80 rfl
            show xw _ _ 4 [some (.inr (some (4, k80))), some (.inr (xo 4 t78))] [] _ _
            refine xw.s (pc' := 5) (st' := [.inr (some (4, k80))]) rfl ?_
            refine xw.s (pc' := 6) (st' := [.inr (xo 4 t78), .inr (some (4, k80))]) rfl ?_
            refine xw.ae (c := 4) (a := (some k80)) (b := t78) (cn := (some k80) = t78) (t := 21) (nx := 9) rfl rfl (by decide) Iff.rfl h (fun c83 h => ?_) (fun c83 h => ?_)
            · skip
              refine xw.ret (r := none) rfl ?_
              show xw _ _ 77 [some (.inr (some (0, 0))), some (.inr (some (2, a1))), some (.inr (some (2, a2))), some (.inr (some (2, k70)))] [] S _
              refine xw.s (pc' := 78) (st' := [.inr (some (0, 0))]) rfl ?_
              refine xw.s (pc' := 79) (st' := [.inr (some (2, a1)), .inr (some (0, 0))]) rfl ?_
              refine xw.s (pc' := 80) (st' := [.inr (some (2, k70)), .inr (some (2, a1)), .inr (some (0, 0))]) rfl ?_
              refine xw.call (m := 29) (as := [.inr (some (0, 0)), .inr (some (2, a1)), .inr (some (2, k70))]) (nx := 83) (L' := [some (.inr (some (0, 0))), some (.inr (some (2, a1))), some (.inr (some (2, a2))), some (.inr (some (2, k70)))]) (st' := []) rfl ?_
              show xw _ _ _ [some (.inr (some (0, 0))), some (.inr (some (2, a1))), some (.inr (some (2, k70)))] [] _ _
              refine xw.s (pc' := 1) (st' := [.inr (some (2, k70))]) rfl ?_
              refine xw.fi (c := 2) (j := 8) (ty := 0) (nx := 4) (v := (xm_i S 2 k70 8)) rfl rfl rfl ?_
              refine xw.s (pc' := 5) (st' := [.inl (1 : Int32), .inl (xm_i S 2 k70 8)]) rfl ?_
              refine xw.bt (cd := .ne) (x := (xm_i S 2 k70 8)) (y := (1 : Int32)) 24 8 (st' := []) rfl (y_cne _ _) (fun z => absurd (c75.symm.trans z) (by decide)) ?_
              refine xw.s (pc' := 25) (st' := [.inr (some (0, 0))]) rfl ?_
              refine xw.s (pc' := 26) (st' := [.inr (some (2, a1)), .inr (some (0, 0))]) rfl ?_
              refine xw.s (pc' := 27) (st' := [.inr (some (2, k70)), .inr (some (2, a1)), .inr (some (0, 0))]) rfl ?_
              refine xw.fr (c := 2) (j := 11) (e := 4) (nx := 30) (t := t78) rfl rfl q79 ?_
              show xw _ _ _ [some (.inr (some (0, 0))), some (.inr (some (2, a1))), some (.inr (some (2, k70)))] [.inr (xo 4 t78), .inr (some (2, a1)), .inr (some (0, 0))] _ _
              refine xw.call (m := 22) (as := [.inr (some (0, 0)), .inr (some (2, a1)), .inr (xo 4 t78)]) (nx := 33) (L' := [some (.inr (some (0, 0))), some (.inr (some (2, a1))), some (.inr (some (2, k70)))]) (st' := []) rfl (xc.mono h ?_)
              rintro r S84 ⟨rfl, hC85, h⟩
              show xw _ _ 33 [some (.inr (some (0, 0))), some (.inr (some (2, a1))), some (.inr (some (2, k70)))] [] _ _
              refine xw.ret (r := none) rfl ?_
              show xw _ _ 83 [some (.inr (some (0, 0))), some (.inr (some (2, a1))), some (.inr (some (2, a2))), some (.inr (some (2, k70)))] [] S84 _
              refine xw.s (pc' := 103) (st' := []) rfl ?_
              exact xw.ret (r := none) rfl h
            · skip
              refine xw.s (pc' := 10) (st' := [.inr (some (4, k80))]) rfl ?_
              obtain ⟨t86, q87⟩ : ∃ t, (xm_r S 4 k80 6) = t := ⟨_, rfl⟩
              replace h := h t86 q87
              refine xw.fr (c := 4) (j := 6) (e := 4) (nx := 13) (t := t86) rfl rfl q87 ?_
              show xw _ _ _ [some (.inr (some (4, k80))), some (.inr (xo 4 t78))] [.inr (xo 4 t86)] _ _
              refine xw.nnul (o := t86) (t := 21) (nx := 16) rfl rfl ?_
              rcases t86 with _ | k88
              · replace h := h.1 rfl
                show xw _ _ 16 [some (.inr (some (4, k80))), some (.inr (xo 4 t78))] [] _ _
                refine xw.s (pc' := 17) (st' := [.inr (some (4, k80))]) rfl ?_
                refine xw.s (pc' := 18) (st' := [.inr (xo 4 t78), .inr (some (4, k80))]) rfl ?_
                refine xw.fq (c := 4) (j := 6) (e := 4) (nx := 21) (t := t78) rfl rfl ?_
                obtain ⟨S89, e90⟩ : ∃ s, s = xm_sr S 4 k80 6 t78 := ⟨_, rfl⟩
                rw [← e90]
                replace h := h S89 e90
                refine xw.ret (r := none) rfl ?_
                show xw _ _ 77 [some (.inr (some (0, 0))), some (.inr (some (2, a1))), some (.inr (some (2, a2))), some (.inr (some (2, k70)))] [] S89 _
                refine xw.s (pc' := 78) (st' := [.inr (some (0, 0))]) rfl ?_
                refine xw.s (pc' := 79) (st' := [.inr (some (2, a1)), .inr (some (0, 0))]) rfl ?_
                refine xw.s (pc' := 80) (st' := [.inr (some (2, k70)), .inr (some (2, a1)), .inr (some (0, 0))]) rfl ?_
                refine xw.call (m := 29) (as := [.inr (some (0, 0)), .inr (some (2, a1)), .inr (some (2, k70))]) (nx := 83) (L' := [some (.inr (some (0, 0))), some (.inr (some (2, a1))), some (.inr (some (2, a2))), some (.inr (some (2, k70)))]) (st' := []) rfl ?_
                show xw _ _ _ [some (.inr (some (0, 0))), some (.inr (some (2, a1))), some (.inr (some (2, k70)))] [] _ _
                refine xw.s (pc' := 1) (st' := [.inr (some (2, k70))]) rfl ?_
                refine xw.fi (c := 2) (j := 8) (ty := 0) (nx := 4) (v := (xm_i S 2 k70 8)) rfl rfl ((congrArg (fun s => xm_i s 2 k70 8) e90).trans rfl) ?_
                refine xw.s (pc' := 5) (st' := [.inl (1 : Int32), .inl (xm_i S 2 k70 8)]) rfl ?_
                refine xw.bt (cd := .ne) (x := (xm_i S 2 k70 8)) (y := (1 : Int32)) 24 8 (st' := []) rfl (y_cne _ _) (fun z => absurd (c75.symm.trans z) (by decide)) ?_
                refine xw.s (pc' := 25) (st' := [.inr (some (0, 0))]) rfl ?_
                refine xw.s (pc' := 26) (st' := [.inr (some (2, a1)), .inr (some (0, 0))]) rfl ?_
                refine xw.s (pc' := 27) (st' := [.inr (some (2, k70)), .inr (some (2, a1)), .inr (some (0, 0))]) rfl ?_
                refine xw.fr (c := 2) (j := 11) (e := 4) (nx := 30) (t := t78) rfl rfl (((congrArg (fun s => xm_r s 2 k70 11) e90).trans (xr_sr (by decide))).trans q79) ?_
                show xw _ _ _ [some (.inr (some (0, 0))), some (.inr (some (2, a1))), some (.inr (some (2, k70)))] [.inr (xo 4 t78), .inr (some (2, a1)), .inr (some (0, 0))] _ _
                refine xw.call (m := 22) (as := [.inr (some (0, 0)), .inr (some (2, a1)), .inr (xo 4 t78)]) (nx := 33) (L' := [some (.inr (some (0, 0))), some (.inr (some (2, a1))), some (.inr (some (2, k70)))]) (st' := []) rfl (xc.mono h ?_)
                rintro r S91 ⟨rfl, hC92, h⟩
                show xw _ _ 33 [some (.inr (some (0, 0))), some (.inr (some (2, a1))), some (.inr (some (2, k70)))] [] _ _
                refine xw.ret (r := none) rfl ?_
                show xw _ _ 83 [some (.inr (some (0, 0))), some (.inr (some (2, a1))), some (.inr (some (2, a2))), some (.inr (some (2, k70)))] [] S91 _
                refine xw.s (pc' := 103) (st' := []) rfl ?_
                exact xw.ret (r := none) rfl h
              · replace h := h.2 k88 rfl
                show xw _ _ 21 [some (.inr (some (4, k80))), some (.inr (xo 4 t78))] [] _ _
                refine xw.ret (r := none) rfl ?_
                show xw _ _ 77 [some (.inr (some (0, 0))), some (.inr (some (2, a1))), some (.inr (some (2, a2))), some (.inr (some (2, k70)))] [] S _
                refine xw.s (pc' := 78) (st' := [.inr (some (0, 0))]) rfl ?_
                refine xw.s (pc' := 79) (st' := [.inr (some (2, a1)), .inr (some (0, 0))]) rfl ?_
                refine xw.s (pc' := 80) (st' := [.inr (some (2, k70)), .inr (some (2, a1)), .inr (some (0, 0))]) rfl ?_
                refine xw.call (m := 29) (as := [.inr (some (0, 0)), .inr (some (2, a1)), .inr (some (2, k70))]) (nx := 83) (L' := [some (.inr (some (0, 0))), some (.inr (some (2, a1))), some (.inr (some (2, a2))), some (.inr (some (2, k70)))]) (st' := []) rfl ?_
                show xw _ _ _ [some (.inr (some (0, 0))), some (.inr (some (2, a1))), some (.inr (some (2, k70)))] [] _ _
                refine xw.s (pc' := 1) (st' := [.inr (some (2, k70))]) rfl ?_
                refine xw.fi (c := 2) (j := 8) (ty := 0) (nx := 4) (v := (xm_i S 2 k70 8)) rfl rfl rfl ?_
                refine xw.s (pc' := 5) (st' := [.inl (1 : Int32), .inl (xm_i S 2 k70 8)]) rfl ?_
                refine xw.bt (cd := .ne) (x := (xm_i S 2 k70 8)) (y := (1 : Int32)) 24 8 (st' := []) rfl (y_cne _ _) (fun z => absurd (c75.symm.trans z) (by decide)) ?_
                refine xw.s (pc' := 25) (st' := [.inr (some (0, 0))]) rfl ?_
                refine xw.s (pc' := 26) (st' := [.inr (some (2, a1)), .inr (some (0, 0))]) rfl ?_
                refine xw.s (pc' := 27) (st' := [.inr (some (2, k70)), .inr (some (2, a1)), .inr (some (0, 0))]) rfl ?_
                refine xw.fr (c := 2) (j := 11) (e := 4) (nx := 30) (t := t78) rfl rfl q79 ?_
                show xw _ _ _ [some (.inr (some (0, 0))), some (.inr (some (2, a1))), some (.inr (some (2, k70)))] [.inr (xo 4 t78), .inr (some (2, a1)), .inr (some (0, 0))] _ _
                refine xw.call (m := 22) (as := [.inr (some (0, 0)), .inr (some (2, a1)), .inr (xo 4 t78)]) (nx := 33) (L' := [some (.inr (some (0, 0))), some (.inr (some (2, a1))), some (.inr (some (2, k70)))]) (st' := []) rfl (xc.mono h ?_)
                rintro r S93 ⟨rfl, hC94, h⟩
                show xw _ _ 33 [some (.inr (some (0, 0))), some (.inr (some (2, a1))), some (.inr (some (2, k70)))] [] _ _
                refine xw.ret (r := none) rfl ?_
                show xw _ _ 83 [some (.inr (some (0, 0))), some (.inr (some (2, a1))), some (.inr (some (2, a2))), some (.inr (some (2, k70)))] [] S93 _
                refine xw.s (pc' := 103) (st' := []) rfl ?_
                exact xw.ret (r := none) rfl h
        · skip
          refine xw.s (pc' := 87) (st' := [.inr (some (2, k70))]) rfl ?_
          refine xw.s (pc' := 90) (st' := []) rfl ?_
          refine xw.s (pc' := 91) (st' := [.inr (some (2, k70))]) rfl ?_
          refine xw.fi (c := 2) (j := 8) (ty := 0) (nx := 94) (v := (xm_i S 2 k70 8)) rfl rfl rfl ?_
          refine xw.b (c := (xm_i S 2 k70 8) = (0 : Int32)) (cd := .eq) (x := (xm_i S 2 k70 8)) (y := (0 : Int32)) 103 97 (st' := []) rfl (y_ceq _ _) h (fun c95 h => ?_) (fun c95 h => ?_)
          · skip
            exact xw.ret (r := none) rfl h
          · skip
            refine xw.s (pc' := 98) (st' := [.inr (some (0, 0))]) rfl ?_
            refine xw.s (pc' := 99) (st' := [.inr (some (2, a1)), .inr (some (0, 0))]) rfl ?_
            refine xw.s (pc' := 100) (st' := [.inr (some (2, a2)), .inr (some (2, a1)), .inr (some (0, 0))]) rfl ?_
            refine xw.call (m := 29) (as := [.inr (some (0, 0)), .inr (some (2, a1)), .inr (some (2, a2))]) (nx := 103) (L' := [some (.inr (some (0, 0))), some (.inr (some (2, a1))), some (.inr (some (2, a2))), some (.inr (some (2, k70)))]) (st' := []) rfl ?_
            show xw _ _ _ [some (.inr (some (0, 0))), some (.inr (some (2, a1))), some (.inr (some (2, a2)))] [] _ _
            refine xw.s (pc' := 1) (st' := [.inr (some (2, a2))]) rfl ?_
            refine xw.fi (c := 2) (j := 8) (ty := 0) (nx := 4) (v := (xm_i S 2 a2 8)) rfl rfl rfl ?_
            refine xw.s (pc' := 5) (st' := [.inl (1 : Int32), .inl (xm_i S 2 a2 8)]) rfl ?_
            refine xw.bt (cd := .ne) (x := (xm_i S 2 a2 8)) (y := (1 : Int32)) 24 8 (st' := []) rfl (y_cne _ _) c53 ?_
            refine xw.s (pc' := 25) (st' := [.inr (some (0, 0))]) rfl ?_
            refine xw.s (pc' := 26) (st' := [.inr (some (2, a1)), .inr (some (0, 0))]) rfl ?_
            refine xw.s (pc' := 27) (st' := [.inr (some (2, a2)), .inr (some (2, a1)), .inr (some (0, 0))]) rfl ?_
            obtain ⟨t96, q97⟩ : ∃ t, (xm_r S 2 a2 11) = t := ⟨_, rfl⟩
            replace h := h t96 q97
            refine xw.fr (c := 2) (j := 11) (e := 4) (nx := 30) (t := t96) rfl rfl q97 ?_
            show xw _ _ _ [some (.inr (some (0, 0))), some (.inr (some (2, a1))), some (.inr (some (2, a2)))] [.inr (xo 4 t96), .inr (some (2, a1)), .inr (some (0, 0))] _ _
            refine xw.call (m := 22) (as := [.inr (some (0, 0)), .inr (some (2, a1)), .inr (xo 4 t96)]) (nx := 33) (L' := [some (.inr (some (0, 0))), some (.inr (some (2, a1))), some (.inr (some (2, a2)))]) (st' := []) rfl (xc.mono h ?_)
            rintro r S98 ⟨rfl, hC99, h⟩
            show xw _ _ 33 [some (.inr (some (0, 0))), some (.inr (some (2, a1))), some (.inr (some (2, a2)))] [] _ _
            refine xw.ret (r := none) rfl ?_
            show xw _ _ 103 [some (.inr (some (0, 0))), some (.inr (some (2, a1))), some (.inr (some (2, a2))), some (.inr (some (2, k70)))] [] S98 _
            exact xw.ret (r := none) rfl h
/-- takeBack -/
theorem cw_takeBack {d : Nat} {a1 : Nat} {S : xm_S} {Q : Option xm_V → xm_S → Prop} (hC : xk_C S) (h : ∀ S1, S1 = xm_si S 0 0 15 ((xm_i S 0 0 15) + (1 : Int32)) → (xw (d + 1) 34 29 [some (.inr (some (0, 0))), some (.inr (some (2, a1))), some (.inl ((xm_i S 0 0 15) + (1 : Int32))), some (.inl (0 : Int32)), some (.inl (nI (xm_n S 1 7))), some (.inl (0 : Int32)), none, none] [] S1 Q)) : xc (d + 1) 34 [.inr (some (0, 0)), .inr (some (2, a1))] S Q := by
  show xw _ _ _ [some (.inr (some (0, 0))), some (.inr (some (2, a1))), none, none, none, none, none, none] _ _ _
  refine xw.s (pc' := 1) (st' := [.inr (some (0, 0))]) rfl ?_
  refine xw.s (pc' := 2) (st' := [.inr (some (0, 0)), .inr (some (0, 0))]) rfl ?_
  refine xw.fi (c := 0) (j := 15) (ty := 0) (nx := 5) (v := (xm_i S 0 0 15)) rfl rfl rfl ?_
  refine xw.s (pc' := 6) (st' := [.inl (1 : Int32), .inl (xm_i S 0 0 15), .inr (some (0, 0))]) rfl ?_
  refine xw.s (pc' := 7) (st' := [.inl ((xm_i S 0 0 15) + (1 : Int32)), .inr (some (0, 0))]) rfl ?_
  refine xw.fp (c := 0) (j := 15) (ty := 0) (nx := 10) rfl rfl (Or.inl rfl) ?_
  obtain ⟨S1, e2⟩ : ∃ s, s = xm_si S 0 0 15 ((xm_i S 0 0 15) + (1 : Int32)) := ⟨_, rfl⟩
  rw [← e2]
  replace h := h S1 e2
  refine xw.s (pc' := 11) (st' := [.inr (some (0, 0))]) rfl ?_
  refine xw.fi (c := 0) (j := 15) (ty := 0) (nx := 14) (v := ((xm_i S 0 0 15) + (1 : Int32))) rfl rfl ((congrArg (fun s => xm_i s 0 0 15) e2).trans xi_same) ?_
  refine xw.s (pc' := 15) (st' := []) (L' := [some (.inr (some (0, 0))), some (.inr (some (2, a1))), some (.inl ((xm_i S 0 0 15) + (1 : Int32))), none, none, none, none, none]) rfl ?_
  refine xw.s (pc' := 16) (st' := [.inl (0 : Int32)]) rfl ?_
  refine xw.s (pc' := 17) (st' := []) (L' := [some (.inr (some (0, 0))), some (.inr (some (2, a1))), some (.inl ((xm_i S 0 0 15) + (1 : Int32))), some (.inl (0 : Int32)), none, none, none, none]) rfl ?_
  refine xw.s (pc' := 18) (st' := [.inr (some (0, 0))]) rfl ?_
  refine xw.fr (c := 0) (j := 7) (e := 12) (nx := 21) (t := (some 7)) rfl rfl ((congrArg (fun s => xm_r s 0 0 7) e2).trans (hC 7 (by decide))) ?_
  show xw _ _ _ [some (.inr (some (0, 0))), some (.inr (some (2, a1))), some (.inl ((xm_i S 0 0 15) + (1 : Int32))), some (.inl (0 : Int32)), none, none, none, none] [.inr (some (12, 7))] _ _
  refine xw.lsz (nx := 24) (n := (xm_n S 1 7)) rfl (Nat.le_of_ble_eq_true rfl) ((congrArg (fun s => xm_n s 1 7) e2).trans rfl) ?_
  refine xw.s (pc' := 26) (st' := []) (L' := [some (.inr (some (0, 0))), some (.inr (some (2, a1))), some (.inl ((xm_i S 0 0 15) + (1 : Int32))), some (.inl (0 : Int32)), some (.inl (nI (xm_n S 1 7))), none, none, none]) rfl ?_
  refine xw.s (pc' := 27) (st' := [.inl (0 : Int32)]) rfl ?_
  refine xw.s (pc' := 29) (st' := []) (L' := [some (.inr (some (0, 0))), some (.inr (some (2, a1))), some (.inl ((xm_i S 0 0 15) + (1 : Int32))), some (.inl (0 : Int32)), some (.inl (nI (xm_n S 1 7))), some (.inl (0 : Int32)), none, none]) rfl ?_
  exact h
theorem cw_takeBack_29 {d : Nat} {l1 : Nat} {l2 : Int32} {l3 : Int32} {l4 : Int32} {l5 : Int32} {u6 : Option xm_V} {u7 : Option xm_V} {S : xm_S} {Q : Option xm_V → xm_S → Prop} (hC : xk_C S) (h : (l4 ≤ l5 → xw (d + 1) 34 129 [some (.inr (some (0, 0))), some (.inr (some (2, l1))), some (.inl l2), some (.inl l3), some (.inl l4), some (.inl (0 : Int32)), u6, u7] [] S Q) ∧ (¬ l4 ≤ l5 → y_in l5 (xm_n S 1 7) ∧ (∃ k3, (xm_l S 7 (y_ix l5)) = (2, k3) ∧ ((k3 = l1 → ((xm_i S 2 k3 8) = (0 : Int32) → ∀ S7, S7 = xm_si S 2 k3 8 (3 : Int32) → (∀ S9, S9 = xm_si S7 2 k3 7 (xm_i S 0 0 13) → (∀ S11, S11 = xm_si S9 2 k3 19 l2 → (xw (d + 1) 34 29 [some (.inr (some (0, 0))), some (.inr (some (2, l1))), some (.inl l2), some (.inl (l3 + (1 : Int32))), some (.inl l4), some (.inl (l5 + (1 : Int32))), some (.inr (some (2, k3))), some (.inl (1 : Int32))] [] S11 Q)))) ∧ (¬ (xm_i S 2 k3 8) = (0 : Int32) → xw (d + 1) 34 29 [some (.inr (some (0, 0))), some (.inr (some (2, l1))), some (.inl l2), some (.inl l3), some (.inl l4), some (.inl (l5 + (1 : Int32))), some (.inr (some (2, k3))), some (.inl (1 : Int32))] [] S Q)) ∧ (¬ k3 = l1 → ∀ t13, (xm_r S 2 k3 2) = t13 → ((t13 = none → xw (d + 1) 34 29 [some (.inr (some (0, 0))), some (.inr (some (2, l1))), some (.inl l2), some (.inl l3), some (.inl l4), some (.inl (l5 + (1 : Int32))), some (.inr (some (2, k3))), some (.inl (0 : Int32))] [] S Q) ∧ (∀ k15, t13 = some k15 → ((xm_i S 2 k15 19) = l2 → ((xm_i S 2 k3 8) = (0 : Int32) → ∀ S18, S18 = xm_si S 2 k3 8 (3 : Int32) → (∀ S20, S20 = xm_si S18 2 k3 7 (xm_i S 0 0 13) → (∀ S22, S22 = xm_si S20 2 k3 19 l2 → (xw (d + 1) 34 29 [some (.inr (some (0, 0))), some (.inr (some (2, l1))), some (.inl l2), some (.inl (l3 + (1 : Int32))), some (.inl l4), some (.inl (l5 + (1 : Int32))), some (.inr (some (2, k3))), some (.inl (1 : Int32))] [] S22 Q)))) ∧ (¬ (xm_i S 2 k3 8) = (0 : Int32) → xw (d + 1) 34 29 [some (.inr (some (0, 0))), some (.inr (some (2, l1))), some (.inl l2), some (.inl l3), some (.inl l4), some (.inl (l5 + (1 : Int32))), some (.inr (some (2, k3))), some (.inl (1 : Int32))] [] S Q)) ∧ (¬ (xm_i S 2 k15 19) = l2 → xw (d + 1) 34 29 [some (.inr (some (0, 0))), some (.inr (some (2, l1))), some (.inl l2), some (.inl l3), some (.inl l4), some (.inl (l5 + (1 : Int32))), some (.inr (some (2, k3))), some (.inl (0 : Int32))] [] S Q)))))))) : xw (d + 1) 34 29 [some (.inr (some (0, 0))), some (.inr (some (2, l1))), some (.inl l2), some (.inl l3), some (.inl l4), some (.inl l5), u6, u7] [] S Q := by
  refine xw.s (pc' := 31) (st' := [.inl l5]) rfl ?_
  refine xw.s (pc' := 33) (st' := [.inl l4, .inl l5]) rfl ?_
  refine xw.b (c := l4 ≤ l5) (cd := .ge) (x := l5) (y := l4) 126 36 (st' := []) rfl (y_cge _ _) h (fun c1 h => ?_) (fun c1 h => ?_)
  · skip
    refine xw.s (pc' := 127) (st' := [.inl (0 : Int32)]) rfl ?_
    refine xw.s (pc' := 129) (st' := []) (L' := [some (.inr (some (0, 0))), some (.inr (some (2, l1))), some (.inl l2), some (.inl l3), some (.inl l4), some (.inl (0 : Int32)), u6, u7]) rfl ?_
    exact h
  · skip
    refine xw.s (pc' := 37) (st' := [.inr (some (0, 0))]) rfl ?_
    refine xw.fr (c := 0) (j := 7) (e := 12) (nx := 40) (t := (some 7)) rfl rfl (hC 7 (by decide)) ?_
    show xw _ _ _ [some (.inr (some (0, 0))), some (.inr (some (2, l1))), some (.inl l2), some (.inl l3), some (.inl l4), some (.inl l5), u6, u7] [.inr (some (12, 7))] _ _
    refine xw.s (pc' := 42) (st' := [.inl l5, .inr (some (12, 7))]) rfl ?_
    obtain ⟨z2, h⟩ := h
    obtain ⟨k3, q4, h⟩ := h
    refine xw.get (nx := 45) (p := (2, k3)) rfl (Nat.le_of_ble_eq_true rfl) z2 q4 ?_
    refine xw.s (pc' := 48) (st' := [.inr (some (2, k3))]) rfl ?_
    refine xw.s (pc' := 50) (st' := []) (L' := [some (.inr (some (0, 0))), some (.inr (some (2, l1))), some (.inl l2), some (.inl l3), some (.inl l4), some (.inl l5), some (.inr (some (2, k3))), u7]) rfl ?_
    refine xw.s (pc' := 52) (st' := [.inr (some (2, k3))]) rfl ?_
    refine xw.s (pc' := 53) (st' := [.inr (some (2, l1)), .inr (some (2, k3))]) rfl ?_
    refine xw.ae (c := 2) (a := (some k3)) (b := (some l1)) (cn := k3 = l1) (t := 76) (nx := 56) rfl rfl (by decide) ⟨fun z => Option.some.inj z, fun z => congrArg some z⟩ h (fun c5 h => ?_) (fun c5 h => ?_)
    · skip
      refine xw.s (pc' := 77) (st' := [.inl (1 : Int32)]) rfl ?_
      refine xw.s (pc' := 81) (st' := [.inl (1 : Int32)]) rfl ?_
      refine xw.s (pc' := 83) (st' := []) (L' := [some (.inr (some (0, 0))), some (.inr (some (2, l1))), some (.inl l2), some (.inl l3), some (.inl l4), some (.inl l5), some (.inr (some (2, k3))), some (.inl (1 : Int32))]) rfl ?_
      refine xw.s (pc' := 85) (st' := [.inl (1 : Int32)]) rfl ?_
      refine xw.bf (cd := .eq) (x := (1 : Int32)) (y := (0 : Int32)) 120 88 (st' := []) rfl (y_ceq _ _) (by decide) ?_
      refine xw.s (pc' := 90) (st' := [.inr (some (2, k3))]) rfl ?_
      refine xw.fi (c := 2) (j := 8) (ty := 0) (nx := 93) (v := (xm_i S 2 k3 8)) rfl rfl rfl ?_
      refine xw.bn (c := (xm_i S 2 k3 8) = (0 : Int32)) (cd := .ne) (x := (xm_i S 2 k3 8)) (y := (0 : Int32)) 120 96 (st' := []) rfl (y_cne _ _) h (fun c6 h => ?_) (fun c6 h => ?_)
      · skip
        refine xw.s (pc' := 98) (st' := [.inr (some (2, k3))]) rfl ?_
        refine xw.s (pc' := 99) (st' := [.inl (3 : Int32), .inr (some (2, k3))]) rfl ?_
        refine xw.fp (c := 2) (j := 8) (ty := 0) (nx := 102) rfl rfl (Or.inl rfl) ?_
        obtain ⟨S7, e8⟩ : ∃ s, s = xm_si S 2 k3 8 (3 : Int32) := ⟨_, rfl⟩
        rw [← e8]
        replace h := h S7 e8
        refine xw.s (pc' := 104) (st' := [.inr (some (2, k3))]) rfl ?_
        refine xw.s (pc' := 105) (st' := [.inr (some (0, 0)), .inr (some (2, k3))]) rfl ?_
        refine xw.fi (c := 0) (j := 13) (ty := 0) (nx := 108) (v := (xm_i S 0 0 13)) rfl rfl ((congrArg (fun s => xm_i s 0 0 13) e8).trans (xi_si (by decide))) ?_
        refine xw.fp (c := 2) (j := 7) (ty := 0) (nx := 111) rfl rfl (Or.inl rfl) ?_
        obtain ⟨S9, e10⟩ : ∃ s, s = xm_si S7 2 k3 7 (xm_i S 0 0 13) := ⟨_, rfl⟩
        rw [← e10]
        replace h := h S9 e10
        refine xw.s (pc' := 113) (st' := [.inr (some (2, k3))]) rfl ?_
        refine xw.s (pc' := 114) (st' := [.inl l2, .inr (some (2, k3))]) rfl ?_
        refine xw.fp (c := 2) (j := 19) (ty := 0) (nx := 117) rfl rfl (Or.inl rfl) ?_
        obtain ⟨S11, e12⟩ : ∃ s, s = xm_si S9 2 k3 19 l2 := ⟨_, rfl⟩
        rw [← e12]
        replace h := h S11 e12
        refine xw.s (pc' := 120) (st' := []) (L' := [some (.inr (some (0, 0))), some (.inr (some (2, l1))), some (.inl l2), some (.inl (l3 + (1 : Int32))), some (.inl l4), some (.inl l5), some (.inr (some (2, k3))), some (.inl (1 : Int32))]) rfl ?_
        refine xw.s (pc' := 123) (st' := []) (L' := [some (.inr (some (0, 0))), some (.inr (some (2, l1))), some (.inl l2), some (.inl (l3 + (1 : Int32))), some (.inl l4), some (.inl (l5 + (1 : Int32))), some (.inr (some (2, k3))), some (.inl (1 : Int32))]) rfl ?_
        refine xw.s (pc' := 29) (st' := []) rfl ?_
        exact h
      · skip
        refine xw.s (pc' := 123) (st' := []) (L' := [some (.inr (some (0, 0))), some (.inr (some (2, l1))), some (.inl l2), some (.inl l3), some (.inl l4), some (.inl (l5 + (1 : Int32))), some (.inr (some (2, k3))), some (.inl (1 : Int32))]) rfl ?_
        refine xw.s (pc' := 29) (st' := []) rfl ?_
        exact h
    · skip
      refine xw.s (pc' := 58) (st' := [.inr (some (2, k3))]) rfl ?_
      obtain ⟨t13, q14⟩ : ∃ t, (xm_r S 2 k3 2) = t := ⟨_, rfl⟩
      replace h := h t13 q14
      refine xw.fr (c := 2) (j := 2) (e := 2) (nx := 61) (t := t13) rfl rfl q14 ?_
      show xw _ _ _ [some (.inr (some (0, 0))), some (.inr (some (2, l1))), some (.inl l2), some (.inl l3), some (.inl l4), some (.inl l5), some (.inr (some (2, k3))), u7] [.inr (xo 2 t13)] _ _
      refine xw.nul (o := t13) (t := 80) (nx := 64) rfl rfl ?_
      rcases t13 with _ | k15
      · replace h := h.1 rfl
        show xw _ _ 80 [some (.inr (some (0, 0))), some (.inr (some (2, l1))), some (.inl l2), some (.inl l3), some (.inl l4), some (.inl l5), some (.inr (some (2, k3))), u7] [] _ _
        refine xw.s (pc' := 81) (st' := [.inl (0 : Int32)]) rfl ?_
        refine xw.s (pc' := 83) (st' := []) (L' := [some (.inr (some (0, 0))), some (.inr (some (2, l1))), some (.inl l2), some (.inl l3), some (.inl l4), some (.inl l5), some (.inr (some (2, k3))), some (.inl (0 : Int32))]) rfl ?_
        refine xw.s (pc' := 85) (st' := [.inl (0 : Int32)]) rfl ?_
        refine xw.bt (cd := .eq) (x := (0 : Int32)) (y := (0 : Int32)) 120 88 (st' := []) rfl (y_ceq _ _) (by decide) ?_
        refine xw.s (pc' := 123) (st' := []) (L' := [some (.inr (some (0, 0))), some (.inr (some (2, l1))), some (.inl l2), some (.inl l3), some (.inl l4), some (.inl (l5 + (1 : Int32))), some (.inr (some (2, k3))), some (.inl (0 : Int32))]) rfl ?_
        refine xw.s (pc' := 29) (st' := []) rfl ?_
        exact h
      · replace h := h.2 k15 rfl
        show xw _ _ 64 [some (.inr (some (0, 0))), some (.inr (some (2, l1))), some (.inl l2), some (.inl l3), some (.inl l4), some (.inl l5), some (.inr (some (2, k3))), u7] [] _ _
        refine xw.s (pc' := 66) (st' := [.inr (some (2, k3))]) rfl ?_
        refine xw.fr (c := 2) (j := 2) (e := 2) (nx := 69) (t := (some k15)) rfl rfl q14 ?_
        show xw _ _ _ [some (.inr (some (0, 0))), some (.inr (some (2, l1))), some (.inl l2), some (.inl l3), some (.inl l4), some (.inl l5), some (.inr (some (2, k3))), u7] [.inr (some (2, k15))] _ _
        refine xw.fi (c := 2) (j := 19) (ty := 0) (nx := 72) (v := (xm_i S 2 k15 19)) rfl rfl rfl ?_
        refine xw.s (pc' := 73) (st' := [.inl l2, .inl (xm_i S 2 k15 19)]) rfl ?_
        refine xw.bn (c := (xm_i S 2 k15 19) = l2) (cd := .ne) (x := (xm_i S 2 k15 19)) (y := l2) 80 76 (st' := []) rfl (y_cne _ _) h (fun c16 h => ?_) (fun c16 h => ?_)
        · skip
          refine xw.s (pc' := 77) (st' := [.inl (1 : Int32)]) rfl ?_
          refine xw.s (pc' := 81) (st' := [.inl (1 : Int32)]) rfl ?_
          refine xw.s (pc' := 83) (st' := []) (L' := [some (.inr (some (0, 0))), some (.inr (some (2, l1))), some (.inl l2), some (.inl l3), some (.inl l4), some (.inl l5), some (.inr (some (2, k3))), some (.inl (1 : Int32))]) rfl ?_
          refine xw.s (pc' := 85) (st' := [.inl (1 : Int32)]) rfl ?_
          refine xw.bf (cd := .eq) (x := (1 : Int32)) (y := (0 : Int32)) 120 88 (st' := []) rfl (y_ceq _ _) (by decide) ?_
          refine xw.s (pc' := 90) (st' := [.inr (some (2, k3))]) rfl ?_
          refine xw.fi (c := 2) (j := 8) (ty := 0) (nx := 93) (v := (xm_i S 2 k3 8)) rfl rfl rfl ?_
          refine xw.bn (c := (xm_i S 2 k3 8) = (0 : Int32)) (cd := .ne) (x := (xm_i S 2 k3 8)) (y := (0 : Int32)) 120 96 (st' := []) rfl (y_cne _ _) h (fun c17 h => ?_) (fun c17 h => ?_)
          · skip
            refine xw.s (pc' := 98) (st' := [.inr (some (2, k3))]) rfl ?_
            refine xw.s (pc' := 99) (st' := [.inl (3 : Int32), .inr (some (2, k3))]) rfl ?_
            refine xw.fp (c := 2) (j := 8) (ty := 0) (nx := 102) rfl rfl (Or.inl rfl) ?_
            obtain ⟨S18, e19⟩ : ∃ s, s = xm_si S 2 k3 8 (3 : Int32) := ⟨_, rfl⟩
            rw [← e19]
            replace h := h S18 e19
            refine xw.s (pc' := 104) (st' := [.inr (some (2, k3))]) rfl ?_
            refine xw.s (pc' := 105) (st' := [.inr (some (0, 0)), .inr (some (2, k3))]) rfl ?_
            refine xw.fi (c := 0) (j := 13) (ty := 0) (nx := 108) (v := (xm_i S 0 0 13)) rfl rfl ((congrArg (fun s => xm_i s 0 0 13) e19).trans (xi_si (by decide))) ?_
            refine xw.fp (c := 2) (j := 7) (ty := 0) (nx := 111) rfl rfl (Or.inl rfl) ?_
            obtain ⟨S20, e21⟩ : ∃ s, s = xm_si S18 2 k3 7 (xm_i S 0 0 13) := ⟨_, rfl⟩
            rw [← e21]
            replace h := h S20 e21
            refine xw.s (pc' := 113) (st' := [.inr (some (2, k3))]) rfl ?_
            refine xw.s (pc' := 114) (st' := [.inl l2, .inr (some (2, k3))]) rfl ?_
            refine xw.fp (c := 2) (j := 19) (ty := 0) (nx := 117) rfl rfl (Or.inl rfl) ?_
            obtain ⟨S22, e23⟩ : ∃ s, s = xm_si S20 2 k3 19 l2 := ⟨_, rfl⟩
            rw [← e23]
            replace h := h S22 e23
            refine xw.s (pc' := 120) (st' := []) (L' := [some (.inr (some (0, 0))), some (.inr (some (2, l1))), some (.inl l2), some (.inl (l3 + (1 : Int32))), some (.inl l4), some (.inl l5), some (.inr (some (2, k3))), some (.inl (1 : Int32))]) rfl ?_
            refine xw.s (pc' := 123) (st' := []) (L' := [some (.inr (some (0, 0))), some (.inr (some (2, l1))), some (.inl l2), some (.inl (l3 + (1 : Int32))), some (.inl l4), some (.inl (l5 + (1 : Int32))), some (.inr (some (2, k3))), some (.inl (1 : Int32))]) rfl ?_
            refine xw.s (pc' := 29) (st' := []) rfl ?_
            exact h
          · skip
            refine xw.s (pc' := 123) (st' := []) (L' := [some (.inr (some (0, 0))), some (.inr (some (2, l1))), some (.inl l2), some (.inl l3), some (.inl l4), some (.inl (l5 + (1 : Int32))), some (.inr (some (2, k3))), some (.inl (1 : Int32))]) rfl ?_
            refine xw.s (pc' := 29) (st' := []) rfl ?_
            exact h
        · skip
          refine xw.s (pc' := 81) (st' := [.inl (0 : Int32)]) rfl ?_
          refine xw.s (pc' := 83) (st' := []) (L' := [some (.inr (some (0, 0))), some (.inr (some (2, l1))), some (.inl l2), some (.inl l3), some (.inl l4), some (.inl l5), some (.inr (some (2, k3))), some (.inl (0 : Int32))]) rfl ?_
          refine xw.s (pc' := 85) (st' := [.inl (0 : Int32)]) rfl ?_
          refine xw.bt (cd := .eq) (x := (0 : Int32)) (y := (0 : Int32)) 120 88 (st' := []) rfl (y_ceq _ _) (by decide) ?_
          refine xw.s (pc' := 123) (st' := []) (L' := [some (.inr (some (0, 0))), some (.inr (some (2, l1))), some (.inl l2), some (.inl l3), some (.inl l4), some (.inl (l5 + (1 : Int32))), some (.inr (some (2, k3))), some (.inl (0 : Int32))]) rfl ?_
          refine xw.s (pc' := 29) (st' := []) rfl ?_
          exact h
theorem cw_takeBack_129 {d : Nat} {l1 : Nat} {l2 : Int32} {l3 : Int32} {l4 : Int32} {l5 : Int32} {u6 : Option xm_V} {u7 : Option xm_V} {S : xm_S} {Q : Option xm_V → xm_S → Prop} (hC : xk_C S) (h : (l4 ≤ l5 → Q (some (.inl l3)) S) ∧ (¬ l4 ≤ l5 → ((nI (xm_n S 1 7)) ≤ l5 → Q (some (.inl l3)) S) ∧ (¬ (nI (xm_n S 1 7)) ≤ l5 → y_in l5 (xm_n S 1 7) ∧ (∃ k4, (xm_l S 7 (y_ix l5)) = (2, k4) ∧ (((xm_i S 2 k4 19) = l2 → y_in l5 (xm_n S 1 7) ∧ (xc d 35 [.inr (some (0, 0)), .inr (some (2, k4))] S (fun r S8 => r = none ∧ xk_C S8 ∧ (xw (d + 1) 34 129 [some (.inr (some (0, 0))), some (.inr (some (2, l1))), some (.inl l2), some (.inl l3), some (.inl l4), some (.inl (l5 + (1 : Int32))), u6, u7] [] S8 Q)))) ∧ (¬ (xm_i S 2 k4 19) = l2 → xw (d + 1) 34 129 [some (.inr (some (0, 0))), some (.inr (some (2, l1))), some (.inl l2), some (.inl l3), some (.inl l4), some (.inl (l5 + (1 : Int32))), u6, u7] [] S Q)))))) : xw (d + 1) 34 129 [some (.inr (some (0, 0))), some (.inr (some (2, l1))), some (.inl l2), some (.inl l3), some (.inl l4), some (.inl l5), u6, u7] [] S Q := by
  refine xw.s (pc' := 131) (st' := [.inl l5]) rfl ?_
  refine xw.s (pc' := 133) (st' := [.inl l4, .inl l5]) rfl ?_
  refine xw.b (c := l4 ≤ l5) (cd := .ge) (x := l5) (y := l4) 189 136 (st' := []) rfl (y_cge _ _) h (fun c1 h => ?_) (fun c1 h => ?_)
  · skip
    refine xw.s (pc' := 190) (st' := [.inl l3]) rfl ?_
    exact xw.ret (r := (some (.inl l3))) rfl h
  · skip
    refine xw.s (pc' := 138) (st' := [.inl l5]) rfl ?_
    refine xw.s (pc' := 139) (st' := [.inr (some (0, 0)), .inl l5]) rfl ?_
    refine xw.fr (c := 0) (j := 7) (e := 12) (nx := 142) (t := (some 7)) rfl rfl (hC 7 (by decide)) ?_
    show xw _ _ _ [some (.inr (some (0, 0))), some (.inr (some (2, l1))), some (.inl l2), some (.inl l3), some (.inl l4), some (.inl l5), u6, u7] [.inr (some (12, 7)), .inl l5] _ _
    refine xw.lsz (nx := 145) (n := (xm_n S 1 7)) rfl (Nat.le_of_ble_eq_true rfl) rfl ?_
    refine xw.b (c := (nI (xm_n S 1 7)) ≤ l5) (cd := .ge) (x := l5) (y := (nI (xm_n S 1 7))) 189 148 (st' := []) rfl (y_cge _ _) h (fun c2 h => ?_) (fun c2 h => ?_)
    · skip
      refine xw.s (pc' := 190) (st' := [.inl l3]) rfl ?_
      exact xw.ret (r := (some (.inl l3))) rfl h
    · skip
      refine xw.s (pc' := 149) (st' := [.inr (some (0, 0))]) rfl ?_
      refine xw.fr (c := 0) (j := 7) (e := 12) (nx := 152) (t := (some 7)) rfl rfl (hC 7 (by decide)) ?_
      show xw _ _ _ [some (.inr (some (0, 0))), some (.inr (some (2, l1))), some (.inl l2), some (.inl l3), some (.inl l4), some (.inl l5), u6, u7] [.inr (some (12, 7))] _ _
      refine xw.s (pc' := 154) (st' := [.inl l5, .inr (some (12, 7))]) rfl ?_
      obtain ⟨z3, h⟩ := h
      obtain ⟨k4, q5, h⟩ := h
      refine xw.get (nx := 157) (p := (2, k4)) rfl (Nat.le_of_ble_eq_true rfl) z3 q5 ?_
      refine xw.s (pc' := 160) (st' := [.inr (some (2, k4))]) rfl ?_
      refine xw.fi (c := 2) (j := 19) (ty := 0) (nx := 163) (v := (xm_i S 2 k4 19)) rfl rfl rfl ?_
      refine xw.s (pc' := 164) (st' := [.inl l2, .inl (xm_i S 2 k4 19)]) rfl ?_
      refine xw.bn (c := (xm_i S 2 k4 19) = l2) (cd := .ne) (x := (xm_i S 2 k4 19)) (y := l2) 183 167 (st' := []) rfl (y_cne _ _) h (fun c6 h => ?_) (fun c6 h => ?_)
      · skip
        refine xw.s (pc' := 168) (st' := [.inr (some (0, 0))]) rfl ?_
        refine xw.s (pc' := 169) (st' := [.inr (some (0, 0)), .inr (some (0, 0))]) rfl ?_
        refine xw.fr (c := 0) (j := 7) (e := 12) (nx := 172) (t := (some 7)) rfl rfl (hC 7 (by decide)) ?_
        show xw _ _ _ [some (.inr (some (0, 0))), some (.inr (some (2, l1))), some (.inl l2), some (.inl l3), some (.inl l4), some (.inl l5), u6, u7] [.inr (some (12, 7)), .inr (some (0, 0))] _ _
        refine xw.s (pc' := 174) (st' := [.inl l5, .inr (some (12, 7)), .inr (some (0, 0))]) rfl ?_
        obtain ⟨z7, h⟩ := h
        refine xw.get (nx := 177) (p := (2, k4)) rfl (Nat.le_of_ble_eq_true rfl) z7 q5 ?_
        refine xw.s (pc' := 180) (st' := [.inr (some (2, k4)), .inr (some (0, 0))]) rfl ?_
        refine xw.call (m := 35) (as := [.inr (some (0, 0)), .inr (some (2, k4))]) (nx := 183) (L' := [some (.inr (some (0, 0))), some (.inr (some (2, l1))), some (.inl l2), some (.inl l3), some (.inl l4), some (.inl l5), u6, u7]) (st' := []) rfl (xc.mono h ?_)
        rintro r S8 ⟨rfl, hC9, h⟩
        show xw _ _ 183 [some (.inr (some (0, 0))), some (.inr (some (2, l1))), some (.inl l2), some (.inl l3), some (.inl l4), some (.inl l5), u6, u7] [] _ _
        refine xw.s (pc' := 186) (st' := []) (L' := [some (.inr (some (0, 0))), some (.inr (some (2, l1))), some (.inl l2), some (.inl l3), some (.inl l4), some (.inl (l5 + (1 : Int32))), u6, u7]) rfl ?_
        refine xw.s (pc' := 129) (st' := []) rfl ?_
        exact h
      · skip
        refine xw.s (pc' := 186) (st' := []) (L' := [some (.inr (some (0, 0))), some (.inr (some (2, l1))), some (.inl l2), some (.inl l3), some (.inl l4), some (.inl (l5 + (1 : Int32))), u6, u7]) rfl ?_
        refine xw.s (pc' := 129) (st' := []) rfl ?_
        exact h
/-- release -/
theorem cw_release {d : Nat} {a1 : Nat} {S : xm_S} {Q : Option xm_V → xm_S → Prop} (hC : xk_C S) (h : ∀ t1, (xm_r S 2 a1 4) = t1 → ((t1 = none → Q none S) ∧ (∀ k3, t1 = some k3 → ∀ t4, (xm_r S 5 k3 9) = t4 → ((t4 = some a1 → ∀ S7, S7 = xm_sr S 5 k3 9 none → (∀ S9, S9 = xm_si S7 5 k3 6 (1 : Int32) → (∀ S11, S11 = xm_si S9 5 k3 8 ((xm_i S 0 0 13) + (0 : Int32)) → (Q none S11)))) ∧ (¬ t4 = some a1 → ((xm_i S 5 k3 1) = (1 : Int32) → ((xm_i S 2 a1 13) = (1 : Int32) → xc d 99 [.inr (some (5, k3)), .inr (some (2, a1))] S (fun r S15 => r = none ∧ xk_C S15 ∧ (Q none S15))) ∧ (¬ (xm_i S 2 a1 13) = (1 : Int32) → ∀ S17, S17 = xm_si S 5 k3 10 ((xm_i S 5 k3 10) - (1 : Int32)) → (Q none S17))) ∧ (¬ (xm_i S 5 k3 1) = (1 : Int32) → ((xm_i S 2 a1 14) = (0 : Int32) → Q none S) ∧ (¬ (xm_i S 2 a1 14) = (0 : Int32) → xc d 36 [.inr (some (0, 0)), .inr (some (2, a1))] S (fun r S20 => r = none ∧ xk_C S20 ∧ (Q none S20))))))))) : xc (d + 1) 35 [.inr (some (0, 0)), .inr (some (2, a1))] S Q := by
  show xw _ _ _ [some (.inr (some (0, 0))), some (.inr (some (2, a1))), none] _ _ _
  refine xw.s (pc' := 1) (st' := [.inr (some (2, a1))]) rfl ?_
  obtain ⟨t1, q2⟩ : ∃ t, (xm_r S 2 a1 4) = t := ⟨_, rfl⟩
  replace h := h t1 q2
  refine xw.fr (c := 2) (j := 4) (e := 5) (nx := 4) (t := t1) rfl rfl q2 ?_
  show xw _ _ _ [some (.inr (some (0, 0))), some (.inr (some (2, a1))), none] [.inr (xo 5 t1)] _ _
  refine xw.s (pc' := 5) (st' := []) (L' := [some (.inr (some (0, 0))), some (.inr (some (2, a1))), some (.inr (xo 5 t1))]) rfl ?_
  refine xw.s (pc' := 6) (st' := [.inr (xo 5 t1)]) rfl ?_
  refine xw.nnul (o := t1) (t := 10) (nx := 9) rfl rfl ?_
  rcases t1 with _ | k3
  · replace h := h.1 rfl
    show xw _ _ 9 [some (.inr (some (0, 0))), some (.inr (some (2, a1))), some (.inr none)] [] _ _
    exact xw.ret (r := none) rfl h
  · replace h := h.2 k3 rfl
    show xw _ _ 10 [some (.inr (some (0, 0))), some (.inr (some (2, a1))), some (.inr (some (5, k3)))] [] _ _
    refine xw.s (pc' := 11) (st' := [.inr (some (5, k3))]) rfl ?_
    obtain ⟨t4, q5⟩ : ∃ t, (xm_r S 5 k3 9) = t := ⟨_, rfl⟩
    replace h := h t4 q5
    refine xw.fr (c := 5) (j := 9) (e := 2) (nx := 14) (t := t4) rfl rfl q5 ?_
    show xw _ _ _ [some (.inr (some (0, 0))), some (.inr (some (2, a1))), some (.inr (some (5, k3)))] [.inr (xo 2 t4)] _ _
    refine xw.s (pc' := 15) (st' := [.inr (some (2, a1)), .inr (xo 2 t4)]) rfl ?_
    refine xw.an (c := 2) (a := t4) (b := (some a1)) (cn := t4 = some a1) (t := 32) (nx := 18) rfl rfl (by decide) Iff.rfl h (fun c6 h => ?_) (fun c6 h => ?_)
    · skip
      refine xw.s (pc' := 19) (st' := [.inr (some (5, k3))]) rfl ?_
      refine xw.s (pc' := 20) (st' := [.inr none, .inr (some (5, k3))]) rfl ?_
      refine xw.fq (c := 5) (j := 9) (e := 2) (nx := 23) (t := none) rfl rfl ?_
      obtain ⟨S7, e8⟩ : ∃ s, s = xm_sr S 5 k3 9 none := ⟨_, rfl⟩
      rw [← e8]
      replace h := h S7 e8
      refine xw.s (pc' := 24) (st' := [.inr (some (0, 0))]) rfl ?_
      refine xw.s (pc' := 25) (st' := [.inr (some (5, k3)), .inr (some (0, 0))]) rfl ?_
      refine xw.s (pc' := 26) (st' := [.inl (0 : Int32), .inr (some (5, k3)), .inr (some (0, 0))]) rfl ?_
      refine xw.call (m := 28) (as := [.inr (some (0, 0)), .inr (some (5, k3)), .inl (0 : Int32)]) (nx := 29) (L' := [some (.inr (some (0, 0))), some (.inr (some (2, a1))), some (.inr (some (5, k3)))]) (st' := []) rfl ?_
      show xw _ _ _ [some (.inr (some (0, 0))), some (.inr (some (5, k3))), some (.inl (0 : Int32))] [] _ _
      refine xw.s (pc' := 1) (st' := [.inr (some (5, k3))]) rfl ?_
      refine xw.s (pc' := 2) (st' := [.inl (1 : Int32), .inr (some (5, k3))]) rfl ?_
      refine xw.fp (c := 5) (j := 6) (ty := 0) (nx := 5) rfl rfl (Or.inl rfl) ?_
      obtain ⟨S9, e10⟩ : ∃ s, s = xm_si S7 5 k3 6 (1 : Int32) := ⟨_, rfl⟩
      rw [← e10]
      replace h := h S9 e10
      refine xw.s (pc' := 6) (st' := [.inr (some (5, k3))]) rfl ?_
      refine xw.s (pc' := 7) (st' := [.inr (some (0, 0)), .inr (some (5, k3))]) rfl ?_
      refine xw.fi (c := 0) (j := 13) (ty := 0) (nx := 10) (v := (xm_i S 0 0 13)) rfl rfl ((congrArg (fun s => xm_i s 0 0 13) e10).trans ((xi_si (by decide)).trans ((congrArg (fun s => xm_i s 0 0 13) e8).trans rfl))) ?_
      refine xw.s (pc' := 11) (st' := [.inl (0 : Int32), .inl (xm_i S 0 0 13), .inr (some (5, k3))]) rfl ?_
      refine xw.s (pc' := 12) (st' := [.inl ((xm_i S 0 0 13) + (0 : Int32)), .inr (some (5, k3))]) rfl ?_
      refine xw.fp (c := 5) (j := 8) (ty := 0) (nx := 15) rfl rfl (Or.inl rfl) ?_
      obtain ⟨S11, e12⟩ : ∃ s, s = xm_si S9 5 k3 8 ((xm_i S 0 0 13) + (0 : Int32)) := ⟨_, rfl⟩
      rw [← e12]
      replace h := h S11 e12
      refine xw.ret (r := none) rfl ?_
      show xw _ _ 29 [some (.inr (some (0, 0))), some (.inr (some (2, a1))), some (.inr (some (5, k3)))] [] S11 _
      refine xw.s (pc' := 89) (st' := []) rfl ?_
      exact xw.ret (r := none) rfl h
    · skip
      refine xw.s (pc' := 33) (st' := [.inr (some (5, k3))]) rfl ?_
      refine xw.fi (c := 5) (j := 1) (ty := 0) (nx := 36) (v := (xm_i S 5 k3 1)) rfl rfl rfl ?_
      refine xw.s (pc' := 37) (st' := [.inl (1 : Int32), .inl (xm_i S 5 k3 1)]) rfl ?_
      refine xw.bn (c := (xm_i S 5 k3 1) = (1 : Int32)) (cd := .ne) (x := (xm_i S 5 k3 1)) (y := (1 : Int32)) 56 40 (st' := []) rfl (y_cne _ _) h (fun c13 h => ?_) (fun c13 h => ?_)
      · skip
        refine xw.s (pc' := 41) (st' := [.inr (some (2, a1))]) rfl ?_
        refine xw.fi (c := 2) (j := 13) (ty := 0) (nx := 44) (v := (xm_i S 2 a1 13)) rfl rfl rfl ?_
        refine xw.s (pc' := 45) (st' := [.inl (1 : Int32), .inl (xm_i S 2 a1 13)]) rfl ?_
        refine xw.bn (c := (xm_i S 2 a1 13) = (1 : Int32)) (cd := .ne) (x := (xm_i S 2 a1 13)) (y := (1 : Int32)) 56 48 (st' := []) rfl (y_cne _ _) h (fun c14 h => ?_) (fun c14 h => ?_)
        · skip
          refine xw.s (pc' := 49) (st' := [.inr (some (5, k3))]) rfl ?_
          refine xw.s (pc' := 50) (st' := [.inr (some (2, a1)), .inr (some (5, k3))]) rfl ?_
          refine xw.call (m := 99) (as := [.inr (some (5, k3)), .inr (some (2, a1))]) (nx := 53) (L' := [some (.inr (some (0, 0))), some (.inr (some (2, a1))), some (.inr (some (5, k3)))]) (st' := []) rfl (xc.mono h ?_)
          rintro r S15 ⟨rfl, hC16, h⟩
          show xw _ _ 53 [some (.inr (some (0, 0))), some (.inr (some (2, a1))), some (.inr (some (5, k3)))] [] _ _
          refine xw.s (pc' := 89) (st' := []) rfl ?_
          exact xw.ret (r := none) rfl h
        · skip
          refine xw.s (pc' := 57) (st' := [.inr (some (5, k3))]) rfl ?_
          refine xw.fi (c := 5) (j := 1) (ty := 0) (nx := 60) (v := (xm_i S 5 k3 1)) rfl rfl rfl ?_
          refine xw.s (pc' := 61) (st' := [.inl (1 : Int32), .inl (xm_i S 5 k3 1)]) rfl ?_
          refine xw.bf (cd := .ne) (x := (xm_i S 5 k3 1)) (y := (1 : Int32)) 77 64 (st' := []) rfl (y_cne _ _) (fun z => z c13) ?_
          refine xw.s (pc' := 65) (st' := [.inr (some (5, k3))]) rfl ?_
          refine xw.s (pc' := 66) (st' := [.inr (some (5, k3)), .inr (some (5, k3))]) rfl ?_
          refine xw.fi (c := 5) (j := 10) (ty := 0) (nx := 69) (v := (xm_i S 5 k3 10)) rfl rfl rfl ?_
          refine xw.s (pc' := 70) (st' := [.inl (1 : Int32), .inl (xm_i S 5 k3 10), .inr (some (5, k3))]) rfl ?_
          refine xw.s (pc' := 71) (st' := [.inl ((xm_i S 5 k3 10) - (1 : Int32)), .inr (some (5, k3))]) rfl ?_
          refine xw.fp (c := 5) (j := 10) (ty := 0) (nx := 74) rfl rfl (Or.inl rfl) ?_
          obtain ⟨S17, e18⟩ : ∃ s, s = xm_si S 5 k3 10 ((xm_i S 5 k3 10) - (1 : Int32)) := ⟨_, rfl⟩
          rw [← e18]
          replace h := h S17 e18
          refine xw.s (pc' := 89) (st' := []) rfl ?_
          exact xw.ret (r := none) rfl h
      · skip
        refine xw.s (pc' := 57) (st' := [.inr (some (5, k3))]) rfl ?_
        refine xw.fi (c := 5) (j := 1) (ty := 0) (nx := 60) (v := (xm_i S 5 k3 1)) rfl rfl rfl ?_
        refine xw.s (pc' := 61) (st' := [.inl (1 : Int32), .inl (xm_i S 5 k3 1)]) rfl ?_
        refine xw.bt (cd := .ne) (x := (xm_i S 5 k3 1)) (y := (1 : Int32)) 77 64 (st' := []) rfl (y_cne _ _) c13 ?_
        refine xw.s (pc' := 78) (st' := [.inr (some (2, a1))]) rfl ?_
        refine xw.fi (c := 2) (j := 14) (ty := 1) (nx := 81) (v := (xm_i S 2 a1 14)) rfl rfl rfl ?_
        refine xw.b (c := (xm_i S 2 a1 14) = (0 : Int32)) (cd := .eq) (x := (xm_i S 2 a1 14)) (y := (0 : Int32)) 89 84 (st' := []) rfl (y_ceq _ _) h (fun c19 h => ?_) (fun c19 h => ?_)
        · skip
          exact xw.ret (r := none) rfl h
        · skip
          refine xw.s (pc' := 85) (st' := [.inr (some (0, 0))]) rfl ?_
          refine xw.s (pc' := 86) (st' := [.inr (some (2, a1)), .inr (some (0, 0))]) rfl ?_
          refine xw.call (m := 36) (as := [.inr (some (0, 0)), .inr (some (2, a1))]) (nx := 89) (L' := [some (.inr (some (0, 0))), some (.inr (some (2, a1))), some (.inr (some (5, k3)))]) (st' := []) rfl (xc.mono h ?_)
          rintro r S20 ⟨rfl, hC21, h⟩
          show xw _ _ 89 [some (.inr (some (0, 0))), some (.inr (some (2, a1))), some (.inr (some (5, k3)))] [] _ _
          exact xw.ret (r := none) rfl h
/-- endJoined -/
theorem cw_endJoined {d : Nat} {a1 : Nat} {S : xm_S} {Q : Option xm_V → xm_S → Prop} (hC : xk_C S) (h : xw (d + 2) 36 10 [some (.inr (some (0, 0))), some (.inr (some (2, a1))), some (.inl (nI (xm_n S 1 7))), some (.inl (0 : Int32)), none] [] S Q) : xc (d + 2) 36 [.inr (some (0, 0)), .inr (some (2, a1))] S Q := by
  show xw _ _ _ [some (.inr (some (0, 0))), some (.inr (some (2, a1))), none, none, none] _ _ _
  refine xw.s (pc' := 1) (st' := [.inr (some (0, 0))]) rfl ?_
  refine xw.fr (c := 0) (j := 7) (e := 12) (nx := 4) (t := (some 7)) rfl rfl (hC 7 (by decide)) ?_
  show xw _ _ _ [some (.inr (some (0, 0))), some (.inr (some (2, a1))), none, none, none] [.inr (some (12, 7))] _ _
  refine xw.lsz (nx := 7) (n := (xm_n S 1 7)) rfl (Nat.le_of_ble_eq_true rfl) rfl ?_
  refine xw.s (pc' := 8) (st' := []) (L' := [some (.inr (some (0, 0))), some (.inr (some (2, a1))), some (.inl (nI (xm_n S 1 7))), none, none]) rfl ?_
  refine xw.s (pc' := 9) (st' := [.inl (0 : Int32)]) rfl ?_
  refine xw.s (pc' := 10) (st' := []) (L' := [some (.inr (some (0, 0))), some (.inr (some (2, a1))), some (.inl (nI (xm_n S 1 7))), some (.inl (0 : Int32)), none]) rfl ?_
  exact h
theorem cw_endJoined_10 {d : Nat} {l1 : Nat} {l2 : Int32} {l3 : Int32} {u4 : Option xm_V} {S : xm_S} {Q : Option xm_V → xm_S → Prop} (hC : xk_C S) (h : (l2 ≤ l3 → Q none S) ∧ (¬ l2 ≤ l3 → ((nI (xm_n S 1 7)) ≤ l3 → Q none S) ∧ (¬ (nI (xm_n S 1 7)) ≤ l3 → y_in l3 (xm_n S 1 7) ∧ (∃ k4, (xm_l S 7 (y_ix l3)) = (2, k4) ∧ (∀ t6, (xm_r S 2 k4 15) = t6 → ((t6 = some l1 → ((xm_i S 2 k4 8) = (0 : Int32) → ((xm_i S 2 l1 8) = (3 : Int32) → ∀ t11, (xm_r S 2 k4 4) = t11 → (xc (d + 1) 21 [.inr (some (0, 0)), .inl (13 : Int32), .inr (xo 5 t11), .inr none] S (fun r S13 => ∃ t15 : Option Nat, r = some (.inr (xo 4 t15)) ∧ xk_C S13 ∧ (xc (d + 1) 22 [.inr (some (0, 0)), .inr (some (2, k4)), .inr (xo 4 t15)] S13 (fun r S16 => r = none ∧ xk_C S16 ∧ (xw (d + 2) 36 10 [some (.inr (some (0, 0))), some (.inr (some (2, l1))), some (.inl l2), some (.inl (l3 + (1 : Int32))), some (.inr (some (2, k4)))] [] S16 Q)))))) ∧ (¬ (xm_i S 2 l1 8) = (3 : Int32) → ((xm_i S 2 l1 8) = (1 : Int32) → xc d 30 [.inr (some (0, 0)), .inr (some (2, k4)), .inl (xm_i S 2 l1 9), .inl (xm_i S 2 l1 10)] S (fun r S19 => r = none ∧ xk_C S19 ∧ (xw (d + 2) 36 10 [some (.inr (some (0, 0))), some (.inr (some (2, l1))), some (.inl l2), some (.inl (l3 + (1 : Int32))), some (.inr (some (2, k4)))] [] S19 Q))) ∧ (¬ (xm_i S 2 l1 8) = (1 : Int32) → ∀ t21, (xm_r S 2 l1 11) = t21 → (xc d 22 [.inr (some (0, 0)), .inr (some (2, k4)), .inr (xo 4 t21)] S (fun r S23 => r = none ∧ xk_C S23 ∧ (xw (d + 2) 36 10 [some (.inr (some (0, 0))), some (.inr (some (2, l1))), some (.inl l2), some (.inl (l3 + (1 : Int32))), some (.inr (some (2, k4)))] [] S23 Q)))))) ∧ (¬ (xm_i S 2 k4 8) = (0 : Int32) → xw (d + 2) 36 10 [some (.inr (some (0, 0))), some (.inr (some (2, l1))), some (.inl l2), some (.inl (l3 + (1 : Int32))), some (.inr (some (2, k4)))] [] S Q)) ∧ (¬ t6 = some l1 → xw (d + 2) 36 10 [some (.inr (some (0, 0))), some (.inr (some (2, l1))), some (.inl l2), some (.inl (l3 + (1 : Int32))), some (.inr (some (2, k4)))] [] S Q))))))) : xw (d + 2) 36 10 [some (.inr (some (0, 0))), some (.inr (some (2, l1))), some (.inl l2), some (.inl l3), u4] [] S Q := by
  refine xw.s (pc' := 11) (st' := [.inl l3]) rfl ?_
  refine xw.s (pc' := 12) (st' := [.inl l2, .inl l3]) rfl ?_
  refine xw.b (c := l2 ≤ l3) (cd := .ge) (x := l3) (y := l2) 93 15 (st' := []) rfl (y_cge _ _) h (fun c1 h => ?_) (fun c1 h => ?_)
  · skip
    exact xw.ret (r := none) rfl h
  · skip
    refine xw.s (pc' := 16) (st' := [.inl l3]) rfl ?_
    refine xw.s (pc' := 17) (st' := [.inr (some (0, 0)), .inl l3]) rfl ?_
    refine xw.fr (c := 0) (j := 7) (e := 12) (nx := 20) (t := (some 7)) rfl rfl (hC 7 (by decide)) ?_
    show xw _ _ _ [some (.inr (some (0, 0))), some (.inr (some (2, l1))), some (.inl l2), some (.inl l3), u4] [.inr (some (12, 7)), .inl l3] _ _
    refine xw.lsz (nx := 23) (n := (xm_n S 1 7)) rfl (Nat.le_of_ble_eq_true rfl) rfl ?_
    refine xw.b (c := (nI (xm_n S 1 7)) ≤ l3) (cd := .ge) (x := l3) (y := (nI (xm_n S 1 7))) 93 26 (st' := []) rfl (y_cge _ _) h (fun c2 h => ?_) (fun c2 h => ?_)
    · skip
      exact xw.ret (r := none) rfl h
    · skip
      refine xw.s (pc' := 27) (st' := [.inr (some (0, 0))]) rfl ?_
      refine xw.fr (c := 0) (j := 7) (e := 12) (nx := 30) (t := (some 7)) rfl rfl (hC 7 (by decide)) ?_
      show xw _ _ _ [some (.inr (some (0, 0))), some (.inr (some (2, l1))), some (.inl l2), some (.inl l3), u4] [.inr (some (12, 7))] _ _
      refine xw.s (pc' := 31) (st' := [.inl l3, .inr (some (12, 7))]) rfl ?_
      obtain ⟨z3, h⟩ := h
      obtain ⟨k4, q5, h⟩ := h
      refine xw.get (nx := 34) (p := (2, k4)) rfl (Nat.le_of_ble_eq_true rfl) z3 q5 ?_
      refine xw.s (pc' := 37) (st' := [.inr (some (2, k4))]) rfl ?_
      refine xw.s (pc' := 39) (st' := []) (L' := [some (.inr (some (0, 0))), some (.inr (some (2, l1))), some (.inl l2), some (.inl l3), some (.inr (some (2, k4)))]) rfl ?_
      refine xw.s (pc' := 41) (st' := [.inr (some (2, k4))]) rfl ?_
      refine xw.s (pc' := 42) (st' := [.inr (some (2, l1)), .inr (some (2, k4))]) rfl ?_
      refine xw.call (m := 94) (as := [.inr (some (2, k4)), .inr (some (2, l1))]) (nx := 45) (L' := [some (.inr (some (0, 0))), some (.inr (some (2, l1))), some (.inl l2), some (.inl l3), some (.inr (some (2, k4)))]) (st' := []) rfl ?_
      show xw _ _ _ [some (.inr (some (2, k4))), some (.inr (some (2, l1)))] [] _ _
      refine xw.s (pc' := 1) (st' := [.inr (some (2, k4))]) rfl ?_
      obtain ⟨t6, q7⟩ : ∃ t, (xm_r S 2 k4 15) = t := ⟨_, rfl⟩
      replace h := h t6 q7
      refine xw.fr (c := 2) (j := 15) (e := 2) (nx := 4) (t := t6) rfl rfl q7 ?_
      show xw _ _ _ [some (.inr (some (2, k4))), some (.inr (some (2, l1)))] [.inr (xo 2 t6)] _ _
      refine xw.s (pc' := 5) (st' := [.inr (some (2, l1)), .inr (xo 2 t6)]) rfl ?_
      refine xw.an (c := 2) (a := t6) (b := (some l1)) (cn := t6 = some l1) (t := 19) (nx := 8) rfl rfl (by decide) Iff.rfl h (fun c8 h => ?_) (fun c8 h => ?_)
      · skip
        refine xw.s (pc' := 9) (st' := [.inr (some (2, k4))]) rfl ?_
        refine xw.fi (c := 2) (j := 8) (ty := 0) (nx := 12) (v := (xm_i S 2 k4 8)) rfl rfl rfl ?_
        refine xw.bn (c := (xm_i S 2 k4 8) = (0 : Int32)) (cd := .ne) (x := (xm_i S 2 k4 8)) (y := (0 : Int32)) 19 15 (st' := []) rfl (y_cne _ _) h (fun c9 h => ?_) (fun c9 h => ?_)
        · skip
          refine xw.s (pc' := 16) (st' := [.inl (1 : Int32)]) rfl ?_
          refine xw.s (pc' := 20) (st' := [.inl (1 : Int32)]) rfl ?_
          refine xw.retz (nx := 21) rfl (Or.inr rfl) ?_
          show xw _ _ 45 [some (.inr (some (0, 0))), some (.inr (some (2, l1))), some (.inl l2), some (.inl l3), some (.inr (some (2, k4)))] [.inl (1 : Int32)] S _
          refine xw.bt (cd := .ne) (x := (1 : Int32)) (y := (0 : Int32)) 51 48 (st' := []) rfl (y_cne _ _) (by decide) ?_
          refine xw.s (pc' := 52) (st' := [.inr (some (2, l1))]) rfl ?_
          refine xw.fi (c := 2) (j := 8) (ty := 0) (nx := 55) (v := (xm_i S 2 l1 8)) rfl rfl rfl ?_
          refine xw.s (pc' := 56) (st' := [.inl (3 : Int32), .inl (xm_i S 2 l1 8)]) rfl ?_
          refine xw.bn (c := (xm_i S 2 l1 8) = (3 : Int32)) (cd := .ne) (x := (xm_i S 2 l1 8)) (y := (3 : Int32)) 80 59 (st' := []) rfl (y_cne _ _) h (fun c10 h => ?_) (fun c10 h => ?_)
          · skip
            refine xw.s (pc' := 60) (st' := [.inr (some (0, 0))]) rfl ?_
            refine xw.s (pc' := 62) (st' := [.inr (some (2, k4)), .inr (some (0, 0))]) rfl ?_
            refine xw.s (pc' := 63) (st' := [.inr (some (0, 0)), .inr (some (2, k4)), .inr (some (0, 0))]) rfl ?_
            refine xw.s (pc' := 65) (st' := [.inl (13 : Int32), .inr (some (0, 0)), .inr (some (2, k4)), .inr (some (0, 0))]) rfl ?_
            refine xw.s (pc' := 67) (st' := [.inr (some (2, k4)), .inl (13 : Int32), .inr (some (0, 0)), .inr (some (2, k4)), .inr (some (0, 0))]) rfl ?_
            obtain ⟨t11, q12⟩ : ∃ t, (xm_r S 2 k4 4) = t := ⟨_, rfl⟩
            replace h := h t11 q12
            refine xw.fr (c := 2) (j := 4) (e := 5) (nx := 70) (t := t11) rfl rfl q12 ?_
            show xw _ _ _ [some (.inr (some (0, 0))), some (.inr (some (2, l1))), some (.inl l2), some (.inl l3), some (.inr (some (2, k4)))] [.inr (xo 5 t11), .inl (13 : Int32), .inr (some (0, 0)), .inr (some (2, k4)), .inr (some (0, 0))] _ _
            refine xw.s (pc' := 71) (st' := [.inr none, .inr (xo 5 t11), .inl (13 : Int32), .inr (some (0, 0)), .inr (some (2, k4)), .inr (some (0, 0))]) rfl ?_
            refine xw.call (m := 21) (as := [.inr (some (0, 0)), .inl (13 : Int32), .inr (xo 5 t11), .inr none]) (nx := 74) (L' := [some (.inr (some (0, 0))), some (.inr (some (2, l1))), some (.inl l2), some (.inl l3), some (.inr (some (2, k4)))]) (st' := [.inr (some (2, k4)), .inr (some (0, 0))]) rfl (xc.mono h ?_)
            rintro r S13 ⟨t15, rfl, hC14, h⟩
            show xw _ _ 74 [some (.inr (some (0, 0))), some (.inr (some (2, l1))), some (.inl l2), some (.inl l3), some (.inr (some (2, k4)))] [.inr (xo 4 t15), .inr (some (2, k4)), .inr (some (0, 0))] _ _
            refine xw.call (m := 22) (as := [.inr (some (0, 0)), .inr (some (2, k4)), .inr (xo 4 t15)]) (nx := 77) (L' := [some (.inr (some (0, 0))), some (.inr (some (2, l1))), some (.inl l2), some (.inl l3), some (.inr (some (2, k4)))]) (st' := []) rfl (xc.mono h ?_)
            rintro r S16 ⟨rfl, hC17, h⟩
            show xw _ _ 77 [some (.inr (some (0, 0))), some (.inr (some (2, l1))), some (.inl l2), some (.inl l3), some (.inr (some (2, k4)))] [] _ _
            refine xw.s (pc' := 87) (st' := []) rfl ?_
            refine xw.s (pc' := 90) (st' := []) (L' := [some (.inr (some (0, 0))), some (.inr (some (2, l1))), some (.inl l2), some (.inl (l3 + (1 : Int32))), some (.inr (some (2, k4)))]) rfl ?_
            refine xw.s (pc' := 10) (st' := []) rfl ?_
            exact h
          · skip
            refine xw.s (pc' := 81) (st' := [.inr (some (0, 0))]) rfl ?_
            refine xw.s (pc' := 83) (st' := [.inr (some (2, k4)), .inr (some (0, 0))]) rfl ?_
            refine xw.s (pc' := 84) (st' := [.inr (some (2, l1)), .inr (some (2, k4)), .inr (some (0, 0))]) rfl ?_
            refine xw.call (m := 29) (as := [.inr (some (0, 0)), .inr (some (2, k4)), .inr (some (2, l1))]) (nx := 87) (L' := [some (.inr (some (0, 0))), some (.inr (some (2, l1))), some (.inl l2), some (.inl l3), some (.inr (some (2, k4)))]) (st' := []) rfl ?_
            show xw _ _ _ [some (.inr (some (0, 0))), some (.inr (some (2, k4))), some (.inr (some (2, l1)))] [] _ _
            refine xw.s (pc' := 1) (st' := [.inr (some (2, l1))]) rfl ?_
            refine xw.fi (c := 2) (j := 8) (ty := 0) (nx := 4) (v := (xm_i S 2 l1 8)) rfl rfl rfl ?_
            refine xw.s (pc' := 5) (st' := [.inl (1 : Int32), .inl (xm_i S 2 l1 8)]) rfl ?_
            refine xw.bn (c := (xm_i S 2 l1 8) = (1 : Int32)) (cd := .ne) (x := (xm_i S 2 l1 8)) (y := (1 : Int32)) 24 8 (st' := []) rfl (y_cne _ _) h (fun c18 h => ?_) (fun c18 h => ?_)
            · skip
              refine xw.s (pc' := 9) (st' := [.inr (some (0, 0))]) rfl ?_
              refine xw.s (pc' := 10) (st' := [.inr (some (2, k4)), .inr (some (0, 0))]) rfl ?_
              refine xw.s (pc' := 11) (st' := [.inr (some (2, l1)), .inr (some (2, k4)), .inr (some (0, 0))]) rfl ?_
              refine xw.fi (c := 2) (j := 9) (ty := 0) (nx := 14) (v := (xm_i S 2 l1 9)) rfl rfl rfl ?_
              refine xw.s (pc' := 15) (st' := [.inr (some (2, l1)), .inl (xm_i S 2 l1 9), .inr (some (2, k4)), .inr (some (0, 0))]) rfl ?_
              refine xw.fi (c := 2) (j := 10) (ty := 1) (nx := 18) (v := (xm_i S 2 l1 10)) rfl rfl rfl ?_
              refine xw.call (m := 30) (as := [.inr (some (0, 0)), .inr (some (2, k4)), .inl (xm_i S 2 l1 9), .inl (xm_i S 2 l1 10)]) (nx := 21) (L' := [some (.inr (some (0, 0))), some (.inr (some (2, k4))), some (.inr (some (2, l1)))]) (st' := []) rfl (xc.mono h ?_)
              rintro r S19 ⟨rfl, hC20, h⟩
              show xw _ _ 21 [some (.inr (some (0, 0))), some (.inr (some (2, k4))), some (.inr (some (2, l1)))] [] _ _
              refine xw.s (pc' := 33) (st' := []) rfl ?_
              refine xw.ret (r := none) rfl ?_
              show xw _ _ 87 [some (.inr (some (0, 0))), some (.inr (some (2, l1))), some (.inl l2), some (.inl l3), some (.inr (some (2, k4)))] [] S19 _
              refine xw.s (pc' := 90) (st' := []) (L' := [some (.inr (some (0, 0))), some (.inr (some (2, l1))), some (.inl l2), some (.inl (l3 + (1 : Int32))), some (.inr (some (2, k4)))]) rfl ?_
              refine xw.s (pc' := 10) (st' := []) rfl ?_
              exact h
            · skip
              refine xw.s (pc' := 25) (st' := [.inr (some (0, 0))]) rfl ?_
              refine xw.s (pc' := 26) (st' := [.inr (some (2, k4)), .inr (some (0, 0))]) rfl ?_
              refine xw.s (pc' := 27) (st' := [.inr (some (2, l1)), .inr (some (2, k4)), .inr (some (0, 0))]) rfl ?_
              obtain ⟨t21, q22⟩ : ∃ t, (xm_r S 2 l1 11) = t := ⟨_, rfl⟩
              replace h := h t21 q22
              refine xw.fr (c := 2) (j := 11) (e := 4) (nx := 30) (t := t21) rfl rfl q22 ?_
              show xw _ _ _ [some (.inr (some (0, 0))), some (.inr (some (2, k4))), some (.inr (some (2, l1)))] [.inr (xo 4 t21), .inr (some (2, k4)), .inr (some (0, 0))] _ _
              refine xw.call (m := 22) (as := [.inr (some (0, 0)), .inr (some (2, k4)), .inr (xo 4 t21)]) (nx := 33) (L' := [some (.inr (some (0, 0))), some (.inr (some (2, k4))), some (.inr (some (2, l1)))]) (st' := []) rfl (xc.mono h ?_)
              rintro r S23 ⟨rfl, hC24, h⟩
              show xw _ _ 33 [some (.inr (some (0, 0))), some (.inr (some (2, k4))), some (.inr (some (2, l1)))] [] _ _
              refine xw.ret (r := none) rfl ?_
              show xw _ _ 87 [some (.inr (some (0, 0))), some (.inr (some (2, l1))), some (.inl l2), some (.inl l3), some (.inr (some (2, k4)))] [] S23 _
              refine xw.s (pc' := 90) (st' := []) (L' := [some (.inr (some (0, 0))), some (.inr (some (2, l1))), some (.inl l2), some (.inl (l3 + (1 : Int32))), some (.inr (some (2, k4)))]) rfl ?_
              refine xw.s (pc' := 10) (st' := []) rfl ?_
              exact h
        · skip
          refine xw.s (pc' := 20) (st' := [.inl (0 : Int32)]) rfl ?_
          refine xw.retz (nx := 21) rfl (Or.inl rfl) ?_
          show xw _ _ 45 [some (.inr (some (0, 0))), some (.inr (some (2, l1))), some (.inl l2), some (.inl l3), some (.inr (some (2, k4)))] [.inl (0 : Int32)] S _
          refine xw.bf (cd := .ne) (x := (0 : Int32)) (y := (0 : Int32)) 51 48 (st' := []) rfl (y_cne _ _) (by decide) ?_
          refine xw.s (pc' := 87) (st' := []) rfl ?_
          refine xw.s (pc' := 90) (st' := []) (L' := [some (.inr (some (0, 0))), some (.inr (some (2, l1))), some (.inl l2), some (.inl (l3 + (1 : Int32))), some (.inr (some (2, k4)))]) rfl ?_
          refine xw.s (pc' := 10) (st' := []) rfl ?_
          exact h
      · skip
        refine xw.s (pc' := 20) (st' := [.inl (0 : Int32)]) rfl ?_
        refine xw.retz (nx := 21) rfl (Or.inl rfl) ?_
        show xw _ _ 45 [some (.inr (some (0, 0))), some (.inr (some (2, l1))), some (.inl l2), some (.inl l3), some (.inr (some (2, k4)))] [.inl (0 : Int32)] S _
        refine xw.bf (cd := .ne) (x := (0 : Int32)) (y := (0 : Int32)) 51 48 (st' := []) rfl (y_cne _ _) (by decide) ?_
        refine xw.s (pc' := 87) (st' := []) rfl ?_
        refine xw.s (pc' := 90) (st' := []) (L' := [some (.inr (some (0, 0))), some (.inr (some (2, l1))), some (.inl l2), some (.inl (l3 + (1 : Int32))), some (.inr (some (2, k4)))]) rfl ?_
        refine xw.s (pc' := 10) (st' := []) rfl ?_
        exact h
/-- tellFallback -/
theorem cw_tellFallback {d : Nat} {a1 : Nat} {a2 : Nat} {a3 : Nat} {S : xm_S} {Q : Option xm_V → xm_S → Prop} (hC : xk_C S) (h : ∀ t1, (xm_r S 2 a3 18) = t1 → (((xm_i S 5 a1 3) < (0 : Int32) → (t1 = none → ∀ t5, (xm_r S 2 a3 11) = t5 → ((t5 = none → ((xm_i S 2 a3 8) = (1 : Int32) → xc d 30 [.inr (some (0, 0)), .inr (some (2, a2)), .inl (xm_i S 2 a3 9), .inl (xm_i S 2 a3 10)] S (fun r S9 => r = none ∧ xk_C S9 ∧ (Q none S9))) ∧ (¬ (xm_i S 2 a3 8) = (1 : Int32) → xc d 22 [.inr (some (0, 0)), .inr (some (2, a2)), .inr none] S (fun r S11 => r = none ∧ xk_C S11 ∧ (Q none S11)))) ∧ (∀ k7, t5 = some k7 → xc d 27 [.inl (xm_i S 4 k7 1), .inl (xm_i S 5 a1 5)] S (fun r S13 => ∃ x15 : Int32, r = some (.inl x15) ∧ xk_C S13 ∧ ((x15 = (0 : Int32) → ((xm_i S13 2 a3 8) = (1 : Int32) → xc d 30 [.inr (some (0, 0)), .inr (some (2, a2)), .inl (xm_i S13 2 a3 9), .inl (xm_i S13 2 a3 10)] S13 (fun r S18 => r = none ∧ xk_C S18 ∧ (Q none S18))) ∧ (¬ (xm_i S13 2 a3 8) = (1 : Int32) → ∀ t20, (xm_r S13 2 a3 11) = t20 → (xc d 22 [.inr (some (0, 0)), .inr (some (2, a2)), .inr (xo 4 t20)] S13 (fun r S22 => r = none ∧ xk_C S22 ∧ (Q none S22))))) ∧ (¬ x15 = (0 : Int32) → ((xm_i S13 5 a1 2) = (0 : Int32) → xc (d + 1) 30 [.inr (some (0, 0)), .inr (some (2, a2)), .inl (xm_i S13 5 a1 3), .inl (1 : Int32)] S13 (fun r S25 => r = none ∧ xk_C S25 ∧ (Q none S25))) ∧ (¬ (xm_i S13 5 a1 2) = (0 : Int32) → Q none S13))))))) ∧ (∀ k4, t1 = some k4 → xc (d + 1) 38 [.inr (some (0, 0)), .inr (some (2, a2)), .inr (some (2, a3)), .inr (some (2, k4))] S (fun r S27 => r = none ∧ xk_C S27 ∧ (Q none S27)))) ∧ (¬ (xm_i S 5 a1 3) < (0 : Int32) → ((nI (xm_n S 1 0)) ≤ (xm_i S 5 a1 3) → (t1 = none → ∀ t31, (xm_r S 2 a3 11) = t31 → ((t31 = none → ((xm_i S 2 a3 8) = (1 : Int32) → xc d 30 [.inr (some (0, 0)), .inr (some (2, a2)), .inl (xm_i S 2 a3 9), .inl (xm_i S 2 a3 10)] S (fun r S35 => r = none ∧ xk_C S35 ∧ (Q none S35))) ∧ (¬ (xm_i S 2 a3 8) = (1 : Int32) → xc d 22 [.inr (some (0, 0)), .inr (some (2, a2)), .inr none] S (fun r S37 => r = none ∧ xk_C S37 ∧ (Q none S37)))) ∧ (∀ k33, t31 = some k33 → xc d 27 [.inl (xm_i S 4 k33 1), .inl (xm_i S 5 a1 5)] S (fun r S39 => ∃ x41 : Int32, r = some (.inl x41) ∧ xk_C S39 ∧ ((x41 = (0 : Int32) → ((xm_i S39 2 a3 8) = (1 : Int32) → xc d 30 [.inr (some (0, 0)), .inr (some (2, a2)), .inl (xm_i S39 2 a3 9), .inl (xm_i S39 2 a3 10)] S39 (fun r S44 => r = none ∧ xk_C S44 ∧ (Q none S44))) ∧ (¬ (xm_i S39 2 a3 8) = (1 : Int32) → ∀ t46, (xm_r S39 2 a3 11) = t46 → (xc d 22 [.inr (some (0, 0)), .inr (some (2, a2)), .inr (xo 4 t46)] S39 (fun r S48 => r = none ∧ xk_C S48 ∧ (Q none S48))))) ∧ (¬ x41 = (0 : Int32) → ((xm_i S39 5 a1 2) = (0 : Int32) → xc (d + 1) 30 [.inr (some (0, 0)), .inr (some (2, a2)), .inl (xm_i S39 5 a1 3), .inl (1 : Int32)] S39 (fun r S51 => r = none ∧ xk_C S51 ∧ (Q none S51))) ∧ (¬ (xm_i S39 5 a1 2) = (0 : Int32) → Q none S39))))))) ∧ (∀ k30, t1 = some k30 → xc (d + 1) 38 [.inr (some (0, 0)), .inr (some (2, a2)), .inr (some (2, a3)), .inr (some (2, k30))] S (fun r S53 => r = none ∧ xk_C S53 ∧ (Q none S53)))) ∧ (¬ (nI (xm_n S 1 0)) ≤ (xm_i S 5 a1 3) → y_in (xm_i S 5 a1 3) (xm_n S 1 0) ∧ (∃ k56, (xm_l S 0 (y_ix (xm_i S 5 a1 3))) = (9, k56) ∧ ((t1 = none → ∀ t59, (xm_r S 2 a3 11) = t59 → ((t59 = none → ((xm_i S 2 a3 8) = (1 : Int32) → xc d 30 [.inr (some (0, 0)), .inr (some (2, a2)), .inl (xm_i S 2 a3 9), .inl (xm_i S 2 a3 10)] S (fun r S63 => r = none ∧ xk_C S63 ∧ (Q none S63))) ∧ (¬ (xm_i S 2 a3 8) = (1 : Int32) → xc d 22 [.inr (some (0, 0)), .inr (some (2, a2)), .inr none] S (fun r S65 => r = none ∧ xk_C S65 ∧ (Q none S65)))) ∧ (∀ k61, t59 = some k61 → xc d 27 [.inl (xm_i S 4 k61 1), .inl (xm_i S 5 a1 5)] S (fun r S67 => ∃ x69 : Int32, r = some (.inl x69) ∧ xk_C S67 ∧ ((x69 = (0 : Int32) → ((xm_i S67 2 a3 8) = (1 : Int32) → xc d 30 [.inr (some (0, 0)), .inr (some (2, a2)), .inl (xm_i S67 2 a3 9), .inl (xm_i S67 2 a3 10)] S67 (fun r S72 => r = none ∧ xk_C S72 ∧ (Q none S72))) ∧ (¬ (xm_i S67 2 a3 8) = (1 : Int32) → ∀ t74, (xm_r S67 2 a3 11) = t74 → (xc d 22 [.inr (some (0, 0)), .inr (some (2, a2)), .inr (xo 4 t74)] S67 (fun r S76 => r = none ∧ xk_C S76 ∧ (Q none S76))))) ∧ (¬ x69 = (0 : Int32) → ((xm_i S67 5 a1 2) = (0 : Int32) → xc (d + 1) 30 [.inr (some (0, 0)), .inr (some (2, a2)), .inl (xm_i S67 5 a1 3), .inl (1 : Int32)] S67 (fun r S79 => r = none ∧ xk_C S79 ∧ (Q none S79))) ∧ (¬ (xm_i S67 5 a1 2) = (0 : Int32) → ∀ t81, (xm_r S67 2 a2 1) = t81 → (xc (d + 1) 17 [.inr (some (0, 0)), .inr (xo 6 t81), .inr (some (2, a2)), .inr none] S67 (fun r S83 => ∃ t85 : Option Nat, r = some (.inr (xo 2 t85)) ∧ xk_C S83 ∧ (xc (d + 1) 18 [.inr (some (0, 0)), .inr (xo 2 t85), .inr (some (9, k56))] S83 (fun r S86 => r = none ∧ xk_C S86 ∧ (Q none S86)))))))))))) ∧ (∀ k58, t1 = some k58 → xc (d + 1) 38 [.inr (some (0, 0)), .inr (some (2, a2)), .inr (some (2, a3)), .inr (some (2, k58))] S (fun r S88 => r = none ∧ xk_C S88 ∧ (Q none S88))))))))) : xc (d + 2) 37 [.inr (some (0, 0)), .inr (some (5, a1)), .inr (some (2, a2)), .inr (some (2, a3))] S Q := by
  show xw _ _ _ [some (.inr (some (0, 0))), some (.inr (some (5, a1))), some (.inr (some (2, a2))), some (.inr (some (2, a3))), none, none] _ _ _
  refine xw.s (pc' := 1) (st' := [.inr (some (2, a3))]) rfl ?_
  obtain ⟨t1, q2⟩ : ∃ t, (xm_r S 2 a3 18) = t := ⟨_, rfl⟩
  replace h := h t1 q2
  refine xw.fr (c := 2) (j := 18) (e := 2) (nx := 4) (t := t1) rfl rfl q2 ?_
  show xw _ _ _ [some (.inr (some (0, 0))), some (.inr (some (5, a1))), some (.inr (some (2, a2))), some (.inr (some (2, a3))), none, none] [.inr (xo 2 t1)] _ _
  refine xw.s (pc' := 6) (st' := []) (L' := [some (.inr (some (0, 0))), some (.inr (some (5, a1))), some (.inr (some (2, a2))), some (.inr (some (2, a3))), some (.inr (xo 2 t1)), none]) rfl ?_
  refine xw.s (pc' := 7) (st' := [.inr (some (0, 0))]) rfl ?_
  refine xw.s (pc' := 8) (st' := [.inr (some (5, a1)), .inr (some (0, 0))]) rfl ?_
  refine xw.fi (c := 5) (j := 3) (ty := 0) (nx := 11) (v := (xm_i S 5 a1 3)) rfl rfl rfl ?_
  refine xw.call (m := 4) (as := [.inr (some (0, 0)), .inl (xm_i S 5 a1 3)]) (nx := 14) (L' := [some (.inr (some (0, 0))), some (.inr (some (5, a1))), some (.inr (some (2, a2))), some (.inr (some (2, a3))), some (.inr (xo 2 t1)), none]) (st' := []) rfl ?_
  show xw _ _ _ [some (.inr (some (0, 0))), some (.inl (xm_i S 5 a1 3))] [] _ _
  refine xw.s (pc' := 1) (st' := [.inl (xm_i S 5 a1 3)]) rfl ?_
  refine xw.b (c := (xm_i S 5 a1 3) < (0 : Int32)) (cd := .lt) (x := (xm_i S 5 a1 3)) (y := (0 : Int32)) 29 4 (st' := []) rfl (y_clt _ _) h (fun c3 h => ?_) (fun c3 h => ?_)
  · skip
    refine xw.s (pc' := 30) (st' := [.inr none]) rfl ?_
    refine xw.ret (r := some (.inr none)) rfl ?_
    show xw _ _ 14 [some (.inr (some (0, 0))), some (.inr (some (5, a1))), some (.inr (some (2, a2))), some (.inr (some (2, a3))), some (.inr (xo 2 t1)), none] [.inr none] S _
    refine xw.s (pc' := 16) (st' := []) (L' := [some (.inr (some (0, 0))), some (.inr (some (5, a1))), some (.inr (some (2, a2))), some (.inr (some (2, a3))), some (.inr (xo 2 t1)), some (.inr none)]) rfl ?_
    refine xw.s (pc' := 18) (st' := [.inr (xo 2 t1)]) rfl ?_
    refine xw.nul (o := t1) (t := 32) (nx := 21) rfl rfl ?_
    rcases t1 with _ | k4
    · replace h := h.1 rfl
      show xw _ _ 32 [some (.inr (some (0, 0))), some (.inr (some (5, a1))), some (.inr (some (2, a2))), some (.inr (some (2, a3))), some (.inr none), some (.inr none)] [] _ _
      refine xw.s (pc' := 33) (st' := [.inr (some (5, a1))]) rfl ?_
      refine xw.s (pc' := 34) (st' := [.inr (some (2, a3)), .inr (some (5, a1))]) rfl ?_
      obtain ⟨t5, q6⟩ : ∃ t, (xm_r S 2 a3 11) = t := ⟨_, rfl⟩
      replace h := h t5 q6
      refine xw.fr (c := 2) (j := 11) (e := 4) (nx := 37) (t := t5) rfl rfl q6 ?_
      show xw _ _ _ [some (.inr (some (0, 0))), some (.inr (some (5, a1))), some (.inr (some (2, a2))), some (.inr (some (2, a3))), some (.inr none), some (.inr none)] [.inr (xo 4 t5), .inr (some (5, a1))] _ _
      refine xw.call (m := 26) (as := [.inr (some (5, a1)), .inr (xo 4 t5)]) (nx := 40) (L' := [some (.inr (some (0, 0))), some (.inr (some (5, a1))), some (.inr (some (2, a2))), some (.inr (some (2, a3))), some (.inr none), some (.inr none)]) (st' := []) rfl ?_
      show xw _ _ _ [some (.inr (some (5, a1))), some (.inr (xo 4 t5))] [] _ _
      refine xw.s (pc' := 1) (st' := [.inr (xo 4 t5)]) rfl ?_
      refine xw.nul (o := t5) (t := 22) (nx := 4) rfl rfl ?_
      rcases t5 with _ | k7
      · replace h := h.1 rfl
        show xw _ _ 22 [some (.inr (some (5, a1))), some (.inr none)] [] _ _
        refine xw.s (pc' := 23) (st' := [.inl (0 : Int32)]) rfl ?_
        refine xw.retz (nx := 24) rfl (Or.inl rfl) ?_
        show xw _ _ 40 [some (.inr (some (0, 0))), some (.inr (some (5, a1))), some (.inr (some (2, a2))), some (.inr (some (2, a3))), some (.inr none), some (.inr none)] [.inl (0 : Int32)] S _
        refine xw.bf (cd := .ne) (x := (0 : Int32)) (y := (0 : Int32)) 52 43 (st' := []) rfl (y_cne _ _) (by decide) ?_
        refine xw.s (pc' := 44) (st' := [.inr (some (0, 0))]) rfl ?_
        refine xw.s (pc' := 45) (st' := [.inr (some (2, a2)), .inr (some (0, 0))]) rfl ?_
        refine xw.s (pc' := 46) (st' := [.inr (some (2, a3)), .inr (some (2, a2)), .inr (some (0, 0))]) rfl ?_
        refine xw.call (m := 29) (as := [.inr (some (0, 0)), .inr (some (2, a2)), .inr (some (2, a3))]) (nx := 49) (L' := [some (.inr (some (0, 0))), some (.inr (some (5, a1))), some (.inr (some (2, a2))), some (.inr (some (2, a3))), some (.inr none), some (.inr none)]) (st' := []) rfl ?_
        show xw _ _ _ [some (.inr (some (0, 0))), some (.inr (some (2, a2))), some (.inr (some (2, a3)))] [] _ _
        refine xw.s (pc' := 1) (st' := [.inr (some (2, a3))]) rfl ?_
        refine xw.fi (c := 2) (j := 8) (ty := 0) (nx := 4) (v := (xm_i S 2 a3 8)) rfl rfl rfl ?_
        refine xw.s (pc' := 5) (st' := [.inl (1 : Int32), .inl (xm_i S 2 a3 8)]) rfl ?_
        refine xw.bn (c := (xm_i S 2 a3 8) = (1 : Int32)) (cd := .ne) (x := (xm_i S 2 a3 8)) (y := (1 : Int32)) 24 8 (st' := []) rfl (y_cne _ _) h (fun c8 h => ?_) (fun c8 h => ?_)
        · skip
          refine xw.s (pc' := 9) (st' := [.inr (some (0, 0))]) rfl ?_
          refine xw.s (pc' := 10) (st' := [.inr (some (2, a2)), .inr (some (0, 0))]) rfl ?_
          refine xw.s (pc' := 11) (st' := [.inr (some (2, a3)), .inr (some (2, a2)), .inr (some (0, 0))]) rfl ?_
          refine xw.fi (c := 2) (j := 9) (ty := 0) (nx := 14) (v := (xm_i S 2 a3 9)) rfl rfl rfl ?_
          refine xw.s (pc' := 15) (st' := [.inr (some (2, a3)), .inl (xm_i S 2 a3 9), .inr (some (2, a2)), .inr (some (0, 0))]) rfl ?_
          refine xw.fi (c := 2) (j := 10) (ty := 1) (nx := 18) (v := (xm_i S 2 a3 10)) rfl rfl rfl ?_
          refine xw.call (m := 30) (as := [.inr (some (0, 0)), .inr (some (2, a2)), .inl (xm_i S 2 a3 9), .inl (xm_i S 2 a3 10)]) (nx := 21) (L' := [some (.inr (some (0, 0))), some (.inr (some (2, a2))), some (.inr (some (2, a3)))]) (st' := []) rfl (xc.mono h ?_)
          rintro r S9 ⟨rfl, hC10, h⟩
          show xw _ _ 21 [some (.inr (some (0, 0))), some (.inr (some (2, a2))), some (.inr (some (2, a3)))] [] _ _
          refine xw.s (pc' := 33) (st' := []) rfl ?_
          refine xw.ret (r := none) rfl ?_
          show xw _ _ 49 [some (.inr (some (0, 0))), some (.inr (some (5, a1))), some (.inr (some (2, a2))), some (.inr (some (2, a3))), some (.inr none), some (.inr none)] [] S9 _
          refine xw.s (pc' := 93) (st' := []) rfl ?_
          exact xw.ret (r := none) rfl h
        · skip
          refine xw.s (pc' := 25) (st' := [.inr (some (0, 0))]) rfl ?_
          refine xw.s (pc' := 26) (st' := [.inr (some (2, a2)), .inr (some (0, 0))]) rfl ?_
          refine xw.s (pc' := 27) (st' := [.inr (some (2, a3)), .inr (some (2, a2)), .inr (some (0, 0))]) rfl ?_
          refine xw.fr (c := 2) (j := 11) (e := 4) (nx := 30) (t := none) rfl rfl q6 ?_
          show xw _ _ _ [some (.inr (some (0, 0))), some (.inr (some (2, a2))), some (.inr (some (2, a3)))] [.inr none, .inr (some (2, a2)), .inr (some (0, 0))] _ _
          refine xw.call (m := 22) (as := [.inr (some (0, 0)), .inr (some (2, a2)), .inr none]) (nx := 33) (L' := [some (.inr (some (0, 0))), some (.inr (some (2, a2))), some (.inr (some (2, a3)))]) (st' := []) rfl (xc.mono h ?_)
          rintro r S11 ⟨rfl, hC12, h⟩
          show xw _ _ 33 [some (.inr (some (0, 0))), some (.inr (some (2, a2))), some (.inr (some (2, a3)))] [] _ _
          refine xw.ret (r := none) rfl ?_
          show xw _ _ 49 [some (.inr (some (0, 0))), some (.inr (some (5, a1))), some (.inr (some (2, a2))), some (.inr (some (2, a3))), some (.inr none), some (.inr none)] [] S11 _
          refine xw.s (pc' := 93) (st' := []) rfl ?_
          exact xw.ret (r := none) rfl h
      · replace h := h.2 k7 rfl
        show xw _ _ 4 [some (.inr (some (5, a1))), some (.inr (some (4, k7)))] [] _ _
        refine xw.s (pc' := 5) (st' := [.inr (some (4, k7))]) rfl ?_
        refine xw.fi (c := 4) (j := 1) (ty := 0) (nx := 8) (v := (xm_i S 4 k7 1)) rfl rfl rfl ?_
        refine xw.s (pc' := 9) (st' := [.inr (some (5, a1)), .inl (xm_i S 4 k7 1)]) rfl ?_
        refine xw.fi (c := 5) (j := 5) (ty := 0) (nx := 12) (v := (xm_i S 5 a1 5)) rfl rfl rfl ?_
        refine xw.call (m := 27) (as := [.inl (xm_i S 4 k7 1), .inl (xm_i S 5 a1 5)]) (nx := 15) (L' := [some (.inr (some (5, a1))), some (.inr (some (4, k7)))]) (st' := []) rfl (xc.mono h ?_)
        rintro r S13 ⟨x15, rfl, hC14, h⟩
        show xw _ _ 15 [some (.inr (some (5, a1))), some (.inr (some (4, k7)))] [.inl x15] _ _
        refine xw.b (c := x15 = (0 : Int32)) (cd := .eq) (x := x15) (y := (0 : Int32)) 22 18 (st' := []) rfl (y_ceq _ _) h (fun c16 h => ?_) (fun c16 h => ?_)
        · skip
          refine xw.s (pc' := 23) (st' := [.inl (0 : Int32)]) rfl ?_
          refine xw.retz (nx := 24) rfl (Or.inl rfl) ?_
          show xw _ _ 40 [some (.inr (some (0, 0))), some (.inr (some (5, a1))), some (.inr (some (2, a2))), some (.inr (some (2, a3))), some (.inr none), some (.inr none)] [.inl (0 : Int32)] S13 _
          refine xw.bf (cd := .ne) (x := (0 : Int32)) (y := (0 : Int32)) 52 43 (st' := []) rfl (y_cne _ _) (by decide) ?_
          refine xw.s (pc' := 44) (st' := [.inr (some (0, 0))]) rfl ?_
          refine xw.s (pc' := 45) (st' := [.inr (some (2, a2)), .inr (some (0, 0))]) rfl ?_
          refine xw.s (pc' := 46) (st' := [.inr (some (2, a3)), .inr (some (2, a2)), .inr (some (0, 0))]) rfl ?_
          refine xw.call (m := 29) (as := [.inr (some (0, 0)), .inr (some (2, a2)), .inr (some (2, a3))]) (nx := 49) (L' := [some (.inr (some (0, 0))), some (.inr (some (5, a1))), some (.inr (some (2, a2))), some (.inr (some (2, a3))), some (.inr none), some (.inr none)]) (st' := []) rfl ?_
          show xw _ _ _ [some (.inr (some (0, 0))), some (.inr (some (2, a2))), some (.inr (some (2, a3)))] [] _ _
          refine xw.s (pc' := 1) (st' := [.inr (some (2, a3))]) rfl ?_
          refine xw.fi (c := 2) (j := 8) (ty := 0) (nx := 4) (v := (xm_i S13 2 a3 8)) rfl rfl rfl ?_
          refine xw.s (pc' := 5) (st' := [.inl (1 : Int32), .inl (xm_i S13 2 a3 8)]) rfl ?_
          refine xw.bn (c := (xm_i S13 2 a3 8) = (1 : Int32)) (cd := .ne) (x := (xm_i S13 2 a3 8)) (y := (1 : Int32)) 24 8 (st' := []) rfl (y_cne _ _) h (fun c17 h => ?_) (fun c17 h => ?_)
          · skip
            refine xw.s (pc' := 9) (st' := [.inr (some (0, 0))]) rfl ?_
            refine xw.s (pc' := 10) (st' := [.inr (some (2, a2)), .inr (some (0, 0))]) rfl ?_
            refine xw.s (pc' := 11) (st' := [.inr (some (2, a3)), .inr (some (2, a2)), .inr (some (0, 0))]) rfl ?_
            refine xw.fi (c := 2) (j := 9) (ty := 0) (nx := 14) (v := (xm_i S13 2 a3 9)) rfl rfl rfl ?_
            refine xw.s (pc' := 15) (st' := [.inr (some (2, a3)), .inl (xm_i S13 2 a3 9), .inr (some (2, a2)), .inr (some (0, 0))]) rfl ?_
            refine xw.fi (c := 2) (j := 10) (ty := 1) (nx := 18) (v := (xm_i S13 2 a3 10)) rfl rfl rfl ?_
            refine xw.call (m := 30) (as := [.inr (some (0, 0)), .inr (some (2, a2)), .inl (xm_i S13 2 a3 9), .inl (xm_i S13 2 a3 10)]) (nx := 21) (L' := [some (.inr (some (0, 0))), some (.inr (some (2, a2))), some (.inr (some (2, a3)))]) (st' := []) rfl (xc.mono h ?_)
            rintro r S18 ⟨rfl, hC19, h⟩
            show xw _ _ 21 [some (.inr (some (0, 0))), some (.inr (some (2, a2))), some (.inr (some (2, a3)))] [] _ _
            refine xw.s (pc' := 33) (st' := []) rfl ?_
            refine xw.ret (r := none) rfl ?_
            show xw _ _ 49 [some (.inr (some (0, 0))), some (.inr (some (5, a1))), some (.inr (some (2, a2))), some (.inr (some (2, a3))), some (.inr none), some (.inr none)] [] S18 _
            refine xw.s (pc' := 93) (st' := []) rfl ?_
            exact xw.ret (r := none) rfl h
          · skip
            refine xw.s (pc' := 25) (st' := [.inr (some (0, 0))]) rfl ?_
            refine xw.s (pc' := 26) (st' := [.inr (some (2, a2)), .inr (some (0, 0))]) rfl ?_
            refine xw.s (pc' := 27) (st' := [.inr (some (2, a3)), .inr (some (2, a2)), .inr (some (0, 0))]) rfl ?_
            obtain ⟨t20, q21⟩ : ∃ t, (xm_r S13 2 a3 11) = t := ⟨_, rfl⟩
            replace h := h t20 q21
            refine xw.fr (c := 2) (j := 11) (e := 4) (nx := 30) (t := t20) rfl rfl q21 ?_
            show xw _ _ _ [some (.inr (some (0, 0))), some (.inr (some (2, a2))), some (.inr (some (2, a3)))] [.inr (xo 4 t20), .inr (some (2, a2)), .inr (some (0, 0))] _ _
            refine xw.call (m := 22) (as := [.inr (some (0, 0)), .inr (some (2, a2)), .inr (xo 4 t20)]) (nx := 33) (L' := [some (.inr (some (0, 0))), some (.inr (some (2, a2))), some (.inr (some (2, a3)))]) (st' := []) rfl (xc.mono h ?_)
            rintro r S22 ⟨rfl, hC23, h⟩
            show xw _ _ 33 [some (.inr (some (0, 0))), some (.inr (some (2, a2))), some (.inr (some (2, a3)))] [] _ _
            refine xw.ret (r := none) rfl ?_
            show xw _ _ 49 [some (.inr (some (0, 0))), some (.inr (some (5, a1))), some (.inr (some (2, a2))), some (.inr (some (2, a3))), some (.inr none), some (.inr none)] [] S22 _
            refine xw.s (pc' := 93) (st' := []) rfl ?_
            exact xw.ret (r := none) rfl h
        · skip
          refine xw.s (pc' := 19) (st' := [.inl (1 : Int32)]) rfl ?_
          refine xw.s (pc' := 23) (st' := [.inl (1 : Int32)]) rfl ?_
          refine xw.retz (nx := 24) rfl (Or.inr rfl) ?_
          show xw _ _ 40 [some (.inr (some (0, 0))), some (.inr (some (5, a1))), some (.inr (some (2, a2))), some (.inr (some (2, a3))), some (.inr none), some (.inr none)] [.inl (1 : Int32)] S13 _
          refine xw.bt (cd := .ne) (x := (1 : Int32)) (y := (0 : Int32)) 52 43 (st' := []) rfl (y_cne _ _) (by decide) ?_
          refine xw.s (pc' := 53) (st' := [.inr (some (5, a1))]) rfl ?_
          refine xw.fi (c := 5) (j := 2) (ty := 0) (nx := 56) (v := (xm_i S13 5 a1 2)) rfl rfl rfl ?_
          refine xw.bn (c := (xm_i S13 5 a1 2) = (0 : Int32)) (cd := .ne) (x := (xm_i S13 5 a1 2)) (y := (0 : Int32)) 72 59 (st' := []) rfl (y_cne _ _) h (fun c24 h => ?_) (fun c24 h => ?_)
          · skip
            refine xw.s (pc' := 60) (st' := [.inr (some (0, 0))]) rfl ?_
            refine xw.s (pc' := 61) (st' := [.inr (some (2, a2)), .inr (some (0, 0))]) rfl ?_
            refine xw.s (pc' := 62) (st' := [.inr (some (5, a1)), .inr (some (2, a2)), .inr (some (0, 0))]) rfl ?_
            refine xw.fi (c := 5) (j := 3) (ty := 0) (nx := 65) (v := (xm_i S13 5 a1 3)) rfl rfl rfl ?_
            refine xw.s (pc' := 66) (st' := [.inl (1 : Int32), .inl (xm_i S13 5 a1 3), .inr (some (2, a2)), .inr (some (0, 0))]) rfl ?_
            refine xw.call (m := 30) (as := [.inr (some (0, 0)), .inr (some (2, a2)), .inl (xm_i S13 5 a1 3), .inl (1 : Int32)]) (nx := 69) (L' := [some (.inr (some (0, 0))), some (.inr (some (5, a1))), some (.inr (some (2, a2))), some (.inr (some (2, a3))), some (.inr none), some (.inr none)]) (st' := []) rfl (xc.mono h ?_)
            rintro r S25 ⟨rfl, hC26, h⟩
            show xw _ _ 69 [some (.inr (some (0, 0))), some (.inr (some (5, a1))), some (.inr (some (2, a2))), some (.inr (some (2, a3))), some (.inr none), some (.inr none)] [] _ _
            refine xw.s (pc' := 93) (st' := []) rfl ?_
            exact xw.ret (r := none) rfl h
          · skip
            refine xw.s (pc' := 74) (st' := [.inr none]) rfl ?_
            refine xw.s (pc' := 93) (st' := []) rfl ?_
            exact xw.ret (r := none) rfl h
    · replace h := h.2 k4 rfl
      show xw _ _ 21 [some (.inr (some (0, 0))), some (.inr (some (5, a1))), some (.inr (some (2, a2))), some (.inr (some (2, a3))), some (.inr (some (2, k4))), some (.inr none)] [] _ _
      refine xw.s (pc' := 22) (st' := [.inr (some (0, 0))]) rfl ?_
      refine xw.s (pc' := 23) (st' := [.inr (some (2, a2)), .inr (some (0, 0))]) rfl ?_
      refine xw.s (pc' := 24) (st' := [.inr (some (2, a3)), .inr (some (2, a2)), .inr (some (0, 0))]) rfl ?_
      refine xw.s (pc' := 26) (st' := [.inr (some (2, k4)), .inr (some (2, a3)), .inr (some (2, a2)), .inr (some (0, 0))]) rfl ?_
      refine xw.call (m := 38) (as := [.inr (some (0, 0)), .inr (some (2, a2)), .inr (some (2, a3)), .inr (some (2, k4))]) (nx := 29) (L' := [some (.inr (some (0, 0))), some (.inr (some (5, a1))), some (.inr (some (2, a2))), some (.inr (some (2, a3))), some (.inr (some (2, k4))), some (.inr none)]) (st' := []) rfl (xc.mono h ?_)
      rintro r S27 ⟨rfl, hC28, h⟩
      show xw _ _ 29 [some (.inr (some (0, 0))), some (.inr (some (5, a1))), some (.inr (some (2, a2))), some (.inr (some (2, a3))), some (.inr (some (2, k4))), some (.inr none)] [] _ _
      refine xw.s (pc' := 93) (st' := []) rfl ?_
      exact xw.ret (r := none) rfl h
  · skip
    refine xw.s (pc' := 5) (st' := [.inl (xm_i S 5 a1 3)]) rfl ?_
    refine xw.s (pc' := 6) (st' := [.inr (some (0, 0)), .inl (xm_i S 5 a1 3)]) rfl ?_
    refine xw.fr (c := 0) (j := 0) (e := 12) (nx := 9) (t := (some 0)) rfl rfl (hC 0 (by decide)) ?_
    show xw _ _ _ [some (.inr (some (0, 0))), some (.inl (xm_i S 5 a1 3))] [.inr (some (12, 0)), .inl (xm_i S 5 a1 3)] _ _
    refine xw.lsz (nx := 12) (n := (xm_n S 1 0)) rfl (Nat.le_of_ble_eq_true rfl) rfl ?_
    refine xw.b (c := (nI (xm_n S 1 0)) ≤ (xm_i S 5 a1 3)) (cd := .ge) (x := (xm_i S 5 a1 3)) (y := (nI (xm_n S 1 0))) 29 15 (st' := []) rfl (y_cge _ _) h (fun c29 h => ?_) (fun c29 h => ?_)
    · skip
      refine xw.s (pc' := 30) (st' := [.inr none]) rfl ?_
      refine xw.ret (r := some (.inr none)) rfl ?_
      show xw _ _ 14 [some (.inr (some (0, 0))), some (.inr (some (5, a1))), some (.inr (some (2, a2))), some (.inr (some (2, a3))), some (.inr (xo 2 t1)), none] [.inr none] S _
      refine xw.s (pc' := 16) (st' := []) (L' := [some (.inr (some (0, 0))), some (.inr (some (5, a1))), some (.inr (some (2, a2))), some (.inr (some (2, a3))), some (.inr (xo 2 t1)), some (.inr none)]) rfl ?_
      refine xw.s (pc' := 18) (st' := [.inr (xo 2 t1)]) rfl ?_
      refine xw.nul (o := t1) (t := 32) (nx := 21) rfl rfl ?_
      rcases t1 with _ | k30
      · replace h := h.1 rfl
        show xw _ _ 32 [some (.inr (some (0, 0))), some (.inr (some (5, a1))), some (.inr (some (2, a2))), some (.inr (some (2, a3))), some (.inr none), some (.inr none)] [] _ _
        refine xw.s (pc' := 33) (st' := [.inr (some (5, a1))]) rfl ?_
        refine xw.s (pc' := 34) (st' := [.inr (some (2, a3)), .inr (some (5, a1))]) rfl ?_
        obtain ⟨t31, q32⟩ : ∃ t, (xm_r S 2 a3 11) = t := ⟨_, rfl⟩
        replace h := h t31 q32
        refine xw.fr (c := 2) (j := 11) (e := 4) (nx := 37) (t := t31) rfl rfl q32 ?_
        show xw _ _ _ [some (.inr (some (0, 0))), some (.inr (some (5, a1))), some (.inr (some (2, a2))), some (.inr (some (2, a3))), some (.inr none), some (.inr none)] [.inr (xo 4 t31), .inr (some (5, a1))] _ _
        refine xw.call (m := 26) (as := [.inr (some (5, a1)), .inr (xo 4 t31)]) (nx := 40) (L' := [some (.inr (some (0, 0))), some (.inr (some (5, a1))), some (.inr (some (2, a2))), some (.inr (some (2, a3))), some (.inr none), some (.inr none)]) (st' := []) rfl ?_
        show xw _ _ _ [some (.inr (some (5, a1))), some (.inr (xo 4 t31))] [] _ _
        refine xw.s (pc' := 1) (st' := [.inr (xo 4 t31)]) rfl ?_
        refine xw.nul (o := t31) (t := 22) (nx := 4) rfl rfl ?_
        rcases t31 with _ | k33
        · replace h := h.1 rfl
          show xw _ _ 22 [some (.inr (some (5, a1))), some (.inr none)] [] _ _
          refine xw.s (pc' := 23) (st' := [.inl (0 : Int32)]) rfl ?_
          refine xw.retz (nx := 24) rfl (Or.inl rfl) ?_
          show xw _ _ 40 [some (.inr (some (0, 0))), some (.inr (some (5, a1))), some (.inr (some (2, a2))), some (.inr (some (2, a3))), some (.inr none), some (.inr none)] [.inl (0 : Int32)] S _
          refine xw.bf (cd := .ne) (x := (0 : Int32)) (y := (0 : Int32)) 52 43 (st' := []) rfl (y_cne _ _) (by decide) ?_
          refine xw.s (pc' := 44) (st' := [.inr (some (0, 0))]) rfl ?_
          refine xw.s (pc' := 45) (st' := [.inr (some (2, a2)), .inr (some (0, 0))]) rfl ?_
          refine xw.s (pc' := 46) (st' := [.inr (some (2, a3)), .inr (some (2, a2)), .inr (some (0, 0))]) rfl ?_
          refine xw.call (m := 29) (as := [.inr (some (0, 0)), .inr (some (2, a2)), .inr (some (2, a3))]) (nx := 49) (L' := [some (.inr (some (0, 0))), some (.inr (some (5, a1))), some (.inr (some (2, a2))), some (.inr (some (2, a3))), some (.inr none), some (.inr none)]) (st' := []) rfl ?_
          show xw _ _ _ [some (.inr (some (0, 0))), some (.inr (some (2, a2))), some (.inr (some (2, a3)))] [] _ _
          refine xw.s (pc' := 1) (st' := [.inr (some (2, a3))]) rfl ?_
          refine xw.fi (c := 2) (j := 8) (ty := 0) (nx := 4) (v := (xm_i S 2 a3 8)) rfl rfl rfl ?_
          refine xw.s (pc' := 5) (st' := [.inl (1 : Int32), .inl (xm_i S 2 a3 8)]) rfl ?_
          refine xw.bn (c := (xm_i S 2 a3 8) = (1 : Int32)) (cd := .ne) (x := (xm_i S 2 a3 8)) (y := (1 : Int32)) 24 8 (st' := []) rfl (y_cne _ _) h (fun c34 h => ?_) (fun c34 h => ?_)
          · skip
            refine xw.s (pc' := 9) (st' := [.inr (some (0, 0))]) rfl ?_
            refine xw.s (pc' := 10) (st' := [.inr (some (2, a2)), .inr (some (0, 0))]) rfl ?_
            refine xw.s (pc' := 11) (st' := [.inr (some (2, a3)), .inr (some (2, a2)), .inr (some (0, 0))]) rfl ?_
            refine xw.fi (c := 2) (j := 9) (ty := 0) (nx := 14) (v := (xm_i S 2 a3 9)) rfl rfl rfl ?_
            refine xw.s (pc' := 15) (st' := [.inr (some (2, a3)), .inl (xm_i S 2 a3 9), .inr (some (2, a2)), .inr (some (0, 0))]) rfl ?_
            refine xw.fi (c := 2) (j := 10) (ty := 1) (nx := 18) (v := (xm_i S 2 a3 10)) rfl rfl rfl ?_
            refine xw.call (m := 30) (as := [.inr (some (0, 0)), .inr (some (2, a2)), .inl (xm_i S 2 a3 9), .inl (xm_i S 2 a3 10)]) (nx := 21) (L' := [some (.inr (some (0, 0))), some (.inr (some (2, a2))), some (.inr (some (2, a3)))]) (st' := []) rfl (xc.mono h ?_)
            rintro r S35 ⟨rfl, hC36, h⟩
            show xw _ _ 21 [some (.inr (some (0, 0))), some (.inr (some (2, a2))), some (.inr (some (2, a3)))] [] _ _
            refine xw.s (pc' := 33) (st' := []) rfl ?_
            refine xw.ret (r := none) rfl ?_
            show xw _ _ 49 [some (.inr (some (0, 0))), some (.inr (some (5, a1))), some (.inr (some (2, a2))), some (.inr (some (2, a3))), some (.inr none), some (.inr none)] [] S35 _
            refine xw.s (pc' := 93) (st' := []) rfl ?_
            exact xw.ret (r := none) rfl h
          · skip
            refine xw.s (pc' := 25) (st' := [.inr (some (0, 0))]) rfl ?_
            refine xw.s (pc' := 26) (st' := [.inr (some (2, a2)), .inr (some (0, 0))]) rfl ?_
            refine xw.s (pc' := 27) (st' := [.inr (some (2, a3)), .inr (some (2, a2)), .inr (some (0, 0))]) rfl ?_
            refine xw.fr (c := 2) (j := 11) (e := 4) (nx := 30) (t := none) rfl rfl q32 ?_
            show xw _ _ _ [some (.inr (some (0, 0))), some (.inr (some (2, a2))), some (.inr (some (2, a3)))] [.inr none, .inr (some (2, a2)), .inr (some (0, 0))] _ _
            refine xw.call (m := 22) (as := [.inr (some (0, 0)), .inr (some (2, a2)), .inr none]) (nx := 33) (L' := [some (.inr (some (0, 0))), some (.inr (some (2, a2))), some (.inr (some (2, a3)))]) (st' := []) rfl (xc.mono h ?_)
            rintro r S37 ⟨rfl, hC38, h⟩
            show xw _ _ 33 [some (.inr (some (0, 0))), some (.inr (some (2, a2))), some (.inr (some (2, a3)))] [] _ _
            refine xw.ret (r := none) rfl ?_
            show xw _ _ 49 [some (.inr (some (0, 0))), some (.inr (some (5, a1))), some (.inr (some (2, a2))), some (.inr (some (2, a3))), some (.inr none), some (.inr none)] [] S37 _
            refine xw.s (pc' := 93) (st' := []) rfl ?_
            exact xw.ret (r := none) rfl h
        · replace h := h.2 k33 rfl
          show xw _ _ 4 [some (.inr (some (5, a1))), some (.inr (some (4, k33)))] [] _ _
          refine xw.s (pc' := 5) (st' := [.inr (some (4, k33))]) rfl ?_
          refine xw.fi (c := 4) (j := 1) (ty := 0) (nx := 8) (v := (xm_i S 4 k33 1)) rfl rfl rfl ?_
          refine xw.s (pc' := 9) (st' := [.inr (some (5, a1)), .inl (xm_i S 4 k33 1)]) rfl ?_
          refine xw.fi (c := 5) (j := 5) (ty := 0) (nx := 12) (v := (xm_i S 5 a1 5)) rfl rfl rfl ?_
          refine xw.call (m := 27) (as := [.inl (xm_i S 4 k33 1), .inl (xm_i S 5 a1 5)]) (nx := 15) (L' := [some (.inr (some (5, a1))), some (.inr (some (4, k33)))]) (st' := []) rfl (xc.mono h ?_)
          rintro r S39 ⟨x41, rfl, hC40, h⟩
          show xw _ _ 15 [some (.inr (some (5, a1))), some (.inr (some (4, k33)))] [.inl x41] _ _
          refine xw.b (c := x41 = (0 : Int32)) (cd := .eq) (x := x41) (y := (0 : Int32)) 22 18 (st' := []) rfl (y_ceq _ _) h (fun c42 h => ?_) (fun c42 h => ?_)
          · skip
            refine xw.s (pc' := 23) (st' := [.inl (0 : Int32)]) rfl ?_
            refine xw.retz (nx := 24) rfl (Or.inl rfl) ?_
            show xw _ _ 40 [some (.inr (some (0, 0))), some (.inr (some (5, a1))), some (.inr (some (2, a2))), some (.inr (some (2, a3))), some (.inr none), some (.inr none)] [.inl (0 : Int32)] S39 _
            refine xw.bf (cd := .ne) (x := (0 : Int32)) (y := (0 : Int32)) 52 43 (st' := []) rfl (y_cne _ _) (by decide) ?_
            refine xw.s (pc' := 44) (st' := [.inr (some (0, 0))]) rfl ?_
            refine xw.s (pc' := 45) (st' := [.inr (some (2, a2)), .inr (some (0, 0))]) rfl ?_
            refine xw.s (pc' := 46) (st' := [.inr (some (2, a3)), .inr (some (2, a2)), .inr (some (0, 0))]) rfl ?_
            refine xw.call (m := 29) (as := [.inr (some (0, 0)), .inr (some (2, a2)), .inr (some (2, a3))]) (nx := 49) (L' := [some (.inr (some (0, 0))), some (.inr (some (5, a1))), some (.inr (some (2, a2))), some (.inr (some (2, a3))), some (.inr none), some (.inr none)]) (st' := []) rfl ?_
            show xw _ _ _ [some (.inr (some (0, 0))), some (.inr (some (2, a2))), some (.inr (some (2, a3)))] [] _ _
            refine xw.s (pc' := 1) (st' := [.inr (some (2, a3))]) rfl ?_
            refine xw.fi (c := 2) (j := 8) (ty := 0) (nx := 4) (v := (xm_i S39 2 a3 8)) rfl rfl rfl ?_
            refine xw.s (pc' := 5) (st' := [.inl (1 : Int32), .inl (xm_i S39 2 a3 8)]) rfl ?_
            refine xw.bn (c := (xm_i S39 2 a3 8) = (1 : Int32)) (cd := .ne) (x := (xm_i S39 2 a3 8)) (y := (1 : Int32)) 24 8 (st' := []) rfl (y_cne _ _) h (fun c43 h => ?_) (fun c43 h => ?_)
            · skip
              refine xw.s (pc' := 9) (st' := [.inr (some (0, 0))]) rfl ?_
              refine xw.s (pc' := 10) (st' := [.inr (some (2, a2)), .inr (some (0, 0))]) rfl ?_
              refine xw.s (pc' := 11) (st' := [.inr (some (2, a3)), .inr (some (2, a2)), .inr (some (0, 0))]) rfl ?_
              refine xw.fi (c := 2) (j := 9) (ty := 0) (nx := 14) (v := (xm_i S39 2 a3 9)) rfl rfl rfl ?_
              refine xw.s (pc' := 15) (st' := [.inr (some (2, a3)), .inl (xm_i S39 2 a3 9), .inr (some (2, a2)), .inr (some (0, 0))]) rfl ?_
              refine xw.fi (c := 2) (j := 10) (ty := 1) (nx := 18) (v := (xm_i S39 2 a3 10)) rfl rfl rfl ?_
              refine xw.call (m := 30) (as := [.inr (some (0, 0)), .inr (some (2, a2)), .inl (xm_i S39 2 a3 9), .inl (xm_i S39 2 a3 10)]) (nx := 21) (L' := [some (.inr (some (0, 0))), some (.inr (some (2, a2))), some (.inr (some (2, a3)))]) (st' := []) rfl (xc.mono h ?_)
              rintro r S44 ⟨rfl, hC45, h⟩
              show xw _ _ 21 [some (.inr (some (0, 0))), some (.inr (some (2, a2))), some (.inr (some (2, a3)))] [] _ _
              refine xw.s (pc' := 33) (st' := []) rfl ?_
              refine xw.ret (r := none) rfl ?_
              show xw _ _ 49 [some (.inr (some (0, 0))), some (.inr (some (5, a1))), some (.inr (some (2, a2))), some (.inr (some (2, a3))), some (.inr none), some (.inr none)] [] S44 _
              refine xw.s (pc' := 93) (st' := []) rfl ?_
              exact xw.ret (r := none) rfl h
            · skip
              refine xw.s (pc' := 25) (st' := [.inr (some (0, 0))]) rfl ?_
              refine xw.s (pc' := 26) (st' := [.inr (some (2, a2)), .inr (some (0, 0))]) rfl ?_
              refine xw.s (pc' := 27) (st' := [.inr (some (2, a3)), .inr (some (2, a2)), .inr (some (0, 0))]) rfl ?_
              obtain ⟨t46, q47⟩ : ∃ t, (xm_r S39 2 a3 11) = t := ⟨_, rfl⟩
              replace h := h t46 q47
              refine xw.fr (c := 2) (j := 11) (e := 4) (nx := 30) (t := t46) rfl rfl q47 ?_
              show xw _ _ _ [some (.inr (some (0, 0))), some (.inr (some (2, a2))), some (.inr (some (2, a3)))] [.inr (xo 4 t46), .inr (some (2, a2)), .inr (some (0, 0))] _ _
              refine xw.call (m := 22) (as := [.inr (some (0, 0)), .inr (some (2, a2)), .inr (xo 4 t46)]) (nx := 33) (L' := [some (.inr (some (0, 0))), some (.inr (some (2, a2))), some (.inr (some (2, a3)))]) (st' := []) rfl (xc.mono h ?_)
              rintro r S48 ⟨rfl, hC49, h⟩
              show xw _ _ 33 [some (.inr (some (0, 0))), some (.inr (some (2, a2))), some (.inr (some (2, a3)))] [] _ _
              refine xw.ret (r := none) rfl ?_
              show xw _ _ 49 [some (.inr (some (0, 0))), some (.inr (some (5, a1))), some (.inr (some (2, a2))), some (.inr (some (2, a3))), some (.inr none), some (.inr none)] [] S48 _
              refine xw.s (pc' := 93) (st' := []) rfl ?_
              exact xw.ret (r := none) rfl h
          · skip
            refine xw.s (pc' := 19) (st' := [.inl (1 : Int32)]) rfl ?_
            refine xw.s (pc' := 23) (st' := [.inl (1 : Int32)]) rfl ?_
            refine xw.retz (nx := 24) rfl (Or.inr rfl) ?_
            show xw _ _ 40 [some (.inr (some (0, 0))), some (.inr (some (5, a1))), some (.inr (some (2, a2))), some (.inr (some (2, a3))), some (.inr none), some (.inr none)] [.inl (1 : Int32)] S39 _
            refine xw.bt (cd := .ne) (x := (1 : Int32)) (y := (0 : Int32)) 52 43 (st' := []) rfl (y_cne _ _) (by decide) ?_
            refine xw.s (pc' := 53) (st' := [.inr (some (5, a1))]) rfl ?_
            refine xw.fi (c := 5) (j := 2) (ty := 0) (nx := 56) (v := (xm_i S39 5 a1 2)) rfl rfl rfl ?_
            refine xw.bn (c := (xm_i S39 5 a1 2) = (0 : Int32)) (cd := .ne) (x := (xm_i S39 5 a1 2)) (y := (0 : Int32)) 72 59 (st' := []) rfl (y_cne _ _) h (fun c50 h => ?_) (fun c50 h => ?_)
            · skip
              refine xw.s (pc' := 60) (st' := [.inr (some (0, 0))]) rfl ?_
              refine xw.s (pc' := 61) (st' := [.inr (some (2, a2)), .inr (some (0, 0))]) rfl ?_
              refine xw.s (pc' := 62) (st' := [.inr (some (5, a1)), .inr (some (2, a2)), .inr (some (0, 0))]) rfl ?_
              refine xw.fi (c := 5) (j := 3) (ty := 0) (nx := 65) (v := (xm_i S39 5 a1 3)) rfl rfl rfl ?_
              refine xw.s (pc' := 66) (st' := [.inl (1 : Int32), .inl (xm_i S39 5 a1 3), .inr (some (2, a2)), .inr (some (0, 0))]) rfl ?_
              refine xw.call (m := 30) (as := [.inr (some (0, 0)), .inr (some (2, a2)), .inl (xm_i S39 5 a1 3), .inl (1 : Int32)]) (nx := 69) (L' := [some (.inr (some (0, 0))), some (.inr (some (5, a1))), some (.inr (some (2, a2))), some (.inr (some (2, a3))), some (.inr none), some (.inr none)]) (st' := []) rfl (xc.mono h ?_)
              rintro r S51 ⟨rfl, hC52, h⟩
              show xw _ _ 69 [some (.inr (some (0, 0))), some (.inr (some (5, a1))), some (.inr (some (2, a2))), some (.inr (some (2, a3))), some (.inr none), some (.inr none)] [] _ _
              refine xw.s (pc' := 93) (st' := []) rfl ?_
              exact xw.ret (r := none) rfl h
            · skip
              refine xw.s (pc' := 74) (st' := [.inr none]) rfl ?_
              refine xw.s (pc' := 93) (st' := []) rfl ?_
              exact xw.ret (r := none) rfl h
      · replace h := h.2 k30 rfl
        show xw _ _ 21 [some (.inr (some (0, 0))), some (.inr (some (5, a1))), some (.inr (some (2, a2))), some (.inr (some (2, a3))), some (.inr (some (2, k30))), some (.inr none)] [] _ _
        refine xw.s (pc' := 22) (st' := [.inr (some (0, 0))]) rfl ?_
        refine xw.s (pc' := 23) (st' := [.inr (some (2, a2)), .inr (some (0, 0))]) rfl ?_
        refine xw.s (pc' := 24) (st' := [.inr (some (2, a3)), .inr (some (2, a2)), .inr (some (0, 0))]) rfl ?_
        refine xw.s (pc' := 26) (st' := [.inr (some (2, k30)), .inr (some (2, a3)), .inr (some (2, a2)), .inr (some (0, 0))]) rfl ?_
        refine xw.call (m := 38) (as := [.inr (some (0, 0)), .inr (some (2, a2)), .inr (some (2, a3)), .inr (some (2, k30))]) (nx := 29) (L' := [some (.inr (some (0, 0))), some (.inr (some (5, a1))), some (.inr (some (2, a2))), some (.inr (some (2, a3))), some (.inr (some (2, k30))), some (.inr none)]) (st' := []) rfl (xc.mono h ?_)
        rintro r S53 ⟨rfl, hC54, h⟩
        show xw _ _ 29 [some (.inr (some (0, 0))), some (.inr (some (5, a1))), some (.inr (some (2, a2))), some (.inr (some (2, a3))), some (.inr (some (2, k30))), some (.inr none)] [] _ _
        refine xw.s (pc' := 93) (st' := []) rfl ?_
        exact xw.ret (r := none) rfl h
    · skip
      refine xw.s (pc' := 16) (st' := [.inr (some (0, 0))]) rfl ?_
      refine xw.fr (c := 0) (j := 0) (e := 12) (nx := 19) (t := (some 0)) rfl rfl (hC 0 (by decide)) ?_
      show xw _ _ _ [some (.inr (some (0, 0))), some (.inl (xm_i S 5 a1 3))] [.inr (some (12, 0))] _ _
      refine xw.s (pc' := 20) (st' := [.inl (xm_i S 5 a1 3), .inr (some (12, 0))]) rfl ?_
      obtain ⟨z55, h⟩ := h
      obtain ⟨k56, q57, h⟩ := h
      refine xw.get (nx := 23) (p := (9, k56)) rfl (Nat.le_of_ble_eq_true rfl) z55 q57 ?_
      refine xw.s (pc' := 26) (st' := [.inr (some (9, k56))]) rfl ?_
      refine xw.s (pc' := 30) (st' := [.inr (some (9, k56))]) rfl ?_
      refine xw.ret (r := some (.inr (some (9, k56)))) rfl ?_
      show xw _ _ 14 [some (.inr (some (0, 0))), some (.inr (some (5, a1))), some (.inr (some (2, a2))), some (.inr (some (2, a3))), some (.inr (xo 2 t1)), none] [.inr (some (9, k56))] S _
      refine xw.s (pc' := 16) (st' := []) (L' := [some (.inr (some (0, 0))), some (.inr (some (5, a1))), some (.inr (some (2, a2))), some (.inr (some (2, a3))), some (.inr (xo 2 t1)), some (.inr (some (9, k56)))]) rfl ?_
      refine xw.s (pc' := 18) (st' := [.inr (xo 2 t1)]) rfl ?_
      refine xw.nul (o := t1) (t := 32) (nx := 21) rfl rfl ?_
      rcases t1 with _ | k58
      · replace h := h.1 rfl
        show xw _ _ 32 [some (.inr (some (0, 0))), some (.inr (some (5, a1))), some (.inr (some (2, a2))), some (.inr (some (2, a3))), some (.inr none), some (.inr (some (9, k56)))] [] _ _
        refine xw.s (pc' := 33) (st' := [.inr (some (5, a1))]) rfl ?_
        refine xw.s (pc' := 34) (st' := [.inr (some (2, a3)), .inr (some (5, a1))]) rfl ?_
        obtain ⟨t59, q60⟩ : ∃ t, (xm_r S 2 a3 11) = t := ⟨_, rfl⟩
        replace h := h t59 q60
        refine xw.fr (c := 2) (j := 11) (e := 4) (nx := 37) (t := t59) rfl rfl q60 ?_
        show xw _ _ _ [some (.inr (some (0, 0))), some (.inr (some (5, a1))), some (.inr (some (2, a2))), some (.inr (some (2, a3))), some (.inr none), some (.inr (some (9, k56)))] [.inr (xo 4 t59), .inr (some (5, a1))] _ _
        refine xw.call (m := 26) (as := [.inr (some (5, a1)), .inr (xo 4 t59)]) (nx := 40) (L' := [some (.inr (some (0, 0))), some (.inr (some (5, a1))), some (.inr (some (2, a2))), some (.inr (some (2, a3))), some (.inr none), some (.inr (some (9, k56)))]) (st' := []) rfl ?_
        show xw _ _ _ [some (.inr (some (5, a1))), some (.inr (xo 4 t59))] [] _ _
        refine xw.s (pc' := 1) (st' := [.inr (xo 4 t59)]) rfl ?_
        refine xw.nul (o := t59) (t := 22) (nx := 4) rfl rfl ?_
        rcases t59 with _ | k61
        · replace h := h.1 rfl
          show xw _ _ 22 [some (.inr (some (5, a1))), some (.inr none)] [] _ _
          refine xw.s (pc' := 23) (st' := [.inl (0 : Int32)]) rfl ?_
          refine xw.retz (nx := 24) rfl (Or.inl rfl) ?_
          show xw _ _ 40 [some (.inr (some (0, 0))), some (.inr (some (5, a1))), some (.inr (some (2, a2))), some (.inr (some (2, a3))), some (.inr none), some (.inr (some (9, k56)))] [.inl (0 : Int32)] S _
          refine xw.bf (cd := .ne) (x := (0 : Int32)) (y := (0 : Int32)) 52 43 (st' := []) rfl (y_cne _ _) (by decide) ?_
          refine xw.s (pc' := 44) (st' := [.inr (some (0, 0))]) rfl ?_
          refine xw.s (pc' := 45) (st' := [.inr (some (2, a2)), .inr (some (0, 0))]) rfl ?_
          refine xw.s (pc' := 46) (st' := [.inr (some (2, a3)), .inr (some (2, a2)), .inr (some (0, 0))]) rfl ?_
          refine xw.call (m := 29) (as := [.inr (some (0, 0)), .inr (some (2, a2)), .inr (some (2, a3))]) (nx := 49) (L' := [some (.inr (some (0, 0))), some (.inr (some (5, a1))), some (.inr (some (2, a2))), some (.inr (some (2, a3))), some (.inr none), some (.inr (some (9, k56)))]) (st' := []) rfl ?_
          show xw _ _ _ [some (.inr (some (0, 0))), some (.inr (some (2, a2))), some (.inr (some (2, a3)))] [] _ _
          refine xw.s (pc' := 1) (st' := [.inr (some (2, a3))]) rfl ?_
          refine xw.fi (c := 2) (j := 8) (ty := 0) (nx := 4) (v := (xm_i S 2 a3 8)) rfl rfl rfl ?_
          refine xw.s (pc' := 5) (st' := [.inl (1 : Int32), .inl (xm_i S 2 a3 8)]) rfl ?_
          refine xw.bn (c := (xm_i S 2 a3 8) = (1 : Int32)) (cd := .ne) (x := (xm_i S 2 a3 8)) (y := (1 : Int32)) 24 8 (st' := []) rfl (y_cne _ _) h (fun c62 h => ?_) (fun c62 h => ?_)
          · skip
            refine xw.s (pc' := 9) (st' := [.inr (some (0, 0))]) rfl ?_
            refine xw.s (pc' := 10) (st' := [.inr (some (2, a2)), .inr (some (0, 0))]) rfl ?_
            refine xw.s (pc' := 11) (st' := [.inr (some (2, a3)), .inr (some (2, a2)), .inr (some (0, 0))]) rfl ?_
            refine xw.fi (c := 2) (j := 9) (ty := 0) (nx := 14) (v := (xm_i S 2 a3 9)) rfl rfl rfl ?_
            refine xw.s (pc' := 15) (st' := [.inr (some (2, a3)), .inl (xm_i S 2 a3 9), .inr (some (2, a2)), .inr (some (0, 0))]) rfl ?_
            refine xw.fi (c := 2) (j := 10) (ty := 1) (nx := 18) (v := (xm_i S 2 a3 10)) rfl rfl rfl ?_
            refine xw.call (m := 30) (as := [.inr (some (0, 0)), .inr (some (2, a2)), .inl (xm_i S 2 a3 9), .inl (xm_i S 2 a3 10)]) (nx := 21) (L' := [some (.inr (some (0, 0))), some (.inr (some (2, a2))), some (.inr (some (2, a3)))]) (st' := []) rfl (xc.mono h ?_)
            rintro r S63 ⟨rfl, hC64, h⟩
            show xw _ _ 21 [some (.inr (some (0, 0))), some (.inr (some (2, a2))), some (.inr (some (2, a3)))] [] _ _
            refine xw.s (pc' := 33) (st' := []) rfl ?_
            refine xw.ret (r := none) rfl ?_
            show xw _ _ 49 [some (.inr (some (0, 0))), some (.inr (some (5, a1))), some (.inr (some (2, a2))), some (.inr (some (2, a3))), some (.inr none), some (.inr (some (9, k56)))] [] S63 _
            refine xw.s (pc' := 93) (st' := []) rfl ?_
            exact xw.ret (r := none) rfl h
          · skip
            refine xw.s (pc' := 25) (st' := [.inr (some (0, 0))]) rfl ?_
            refine xw.s (pc' := 26) (st' := [.inr (some (2, a2)), .inr (some (0, 0))]) rfl ?_
            refine xw.s (pc' := 27) (st' := [.inr (some (2, a3)), .inr (some (2, a2)), .inr (some (0, 0))]) rfl ?_
            refine xw.fr (c := 2) (j := 11) (e := 4) (nx := 30) (t := none) rfl rfl q60 ?_
            show xw _ _ _ [some (.inr (some (0, 0))), some (.inr (some (2, a2))), some (.inr (some (2, a3)))] [.inr none, .inr (some (2, a2)), .inr (some (0, 0))] _ _
            refine xw.call (m := 22) (as := [.inr (some (0, 0)), .inr (some (2, a2)), .inr none]) (nx := 33) (L' := [some (.inr (some (0, 0))), some (.inr (some (2, a2))), some (.inr (some (2, a3)))]) (st' := []) rfl (xc.mono h ?_)
            rintro r S65 ⟨rfl, hC66, h⟩
            show xw _ _ 33 [some (.inr (some (0, 0))), some (.inr (some (2, a2))), some (.inr (some (2, a3)))] [] _ _
            refine xw.ret (r := none) rfl ?_
            show xw _ _ 49 [some (.inr (some (0, 0))), some (.inr (some (5, a1))), some (.inr (some (2, a2))), some (.inr (some (2, a3))), some (.inr none), some (.inr (some (9, k56)))] [] S65 _
            refine xw.s (pc' := 93) (st' := []) rfl ?_
            exact xw.ret (r := none) rfl h
        · replace h := h.2 k61 rfl
          show xw _ _ 4 [some (.inr (some (5, a1))), some (.inr (some (4, k61)))] [] _ _
          refine xw.s (pc' := 5) (st' := [.inr (some (4, k61))]) rfl ?_
          refine xw.fi (c := 4) (j := 1) (ty := 0) (nx := 8) (v := (xm_i S 4 k61 1)) rfl rfl rfl ?_
          refine xw.s (pc' := 9) (st' := [.inr (some (5, a1)), .inl (xm_i S 4 k61 1)]) rfl ?_
          refine xw.fi (c := 5) (j := 5) (ty := 0) (nx := 12) (v := (xm_i S 5 a1 5)) rfl rfl rfl ?_
          refine xw.call (m := 27) (as := [.inl (xm_i S 4 k61 1), .inl (xm_i S 5 a1 5)]) (nx := 15) (L' := [some (.inr (some (5, a1))), some (.inr (some (4, k61)))]) (st' := []) rfl (xc.mono h ?_)
          rintro r S67 ⟨x69, rfl, hC68, h⟩
          show xw _ _ 15 [some (.inr (some (5, a1))), some (.inr (some (4, k61)))] [.inl x69] _ _
          refine xw.b (c := x69 = (0 : Int32)) (cd := .eq) (x := x69) (y := (0 : Int32)) 22 18 (st' := []) rfl (y_ceq _ _) h (fun c70 h => ?_) (fun c70 h => ?_)
          · skip
            refine xw.s (pc' := 23) (st' := [.inl (0 : Int32)]) rfl ?_
            refine xw.retz (nx := 24) rfl (Or.inl rfl) ?_
            show xw _ _ 40 [some (.inr (some (0, 0))), some (.inr (some (5, a1))), some (.inr (some (2, a2))), some (.inr (some (2, a3))), some (.inr none), some (.inr (some (9, k56)))] [.inl (0 : Int32)] S67 _
            refine xw.bf (cd := .ne) (x := (0 : Int32)) (y := (0 : Int32)) 52 43 (st' := []) rfl (y_cne _ _) (by decide) ?_
            refine xw.s (pc' := 44) (st' := [.inr (some (0, 0))]) rfl ?_
            refine xw.s (pc' := 45) (st' := [.inr (some (2, a2)), .inr (some (0, 0))]) rfl ?_
            refine xw.s (pc' := 46) (st' := [.inr (some (2, a3)), .inr (some (2, a2)), .inr (some (0, 0))]) rfl ?_
            refine xw.call (m := 29) (as := [.inr (some (0, 0)), .inr (some (2, a2)), .inr (some (2, a3))]) (nx := 49) (L' := [some (.inr (some (0, 0))), some (.inr (some (5, a1))), some (.inr (some (2, a2))), some (.inr (some (2, a3))), some (.inr none), some (.inr (some (9, k56)))]) (st' := []) rfl ?_
            show xw _ _ _ [some (.inr (some (0, 0))), some (.inr (some (2, a2))), some (.inr (some (2, a3)))] [] _ _
            refine xw.s (pc' := 1) (st' := [.inr (some (2, a3))]) rfl ?_
            refine xw.fi (c := 2) (j := 8) (ty := 0) (nx := 4) (v := (xm_i S67 2 a3 8)) rfl rfl rfl ?_
            refine xw.s (pc' := 5) (st' := [.inl (1 : Int32), .inl (xm_i S67 2 a3 8)]) rfl ?_
            refine xw.bn (c := (xm_i S67 2 a3 8) = (1 : Int32)) (cd := .ne) (x := (xm_i S67 2 a3 8)) (y := (1 : Int32)) 24 8 (st' := []) rfl (y_cne _ _) h (fun c71 h => ?_) (fun c71 h => ?_)
            · skip
              refine xw.s (pc' := 9) (st' := [.inr (some (0, 0))]) rfl ?_
              refine xw.s (pc' := 10) (st' := [.inr (some (2, a2)), .inr (some (0, 0))]) rfl ?_
              refine xw.s (pc' := 11) (st' := [.inr (some (2, a3)), .inr (some (2, a2)), .inr (some (0, 0))]) rfl ?_
              refine xw.fi (c := 2) (j := 9) (ty := 0) (nx := 14) (v := (xm_i S67 2 a3 9)) rfl rfl rfl ?_
              refine xw.s (pc' := 15) (st' := [.inr (some (2, a3)), .inl (xm_i S67 2 a3 9), .inr (some (2, a2)), .inr (some (0, 0))]) rfl ?_
              refine xw.fi (c := 2) (j := 10) (ty := 1) (nx := 18) (v := (xm_i S67 2 a3 10)) rfl rfl rfl ?_
              refine xw.call (m := 30) (as := [.inr (some (0, 0)), .inr (some (2, a2)), .inl (xm_i S67 2 a3 9), .inl (xm_i S67 2 a3 10)]) (nx := 21) (L' := [some (.inr (some (0, 0))), some (.inr (some (2, a2))), some (.inr (some (2, a3)))]) (st' := []) rfl (xc.mono h ?_)
              rintro r S72 ⟨rfl, hC73, h⟩
              show xw _ _ 21 [some (.inr (some (0, 0))), some (.inr (some (2, a2))), some (.inr (some (2, a3)))] [] _ _
              refine xw.s (pc' := 33) (st' := []) rfl ?_
              refine xw.ret (r := none) rfl ?_
              show xw _ _ 49 [some (.inr (some (0, 0))), some (.inr (some (5, a1))), some (.inr (some (2, a2))), some (.inr (some (2, a3))), some (.inr none), some (.inr (some (9, k56)))] [] S72 _
              refine xw.s (pc' := 93) (st' := []) rfl ?_
              exact xw.ret (r := none) rfl h
            · skip
              refine xw.s (pc' := 25) (st' := [.inr (some (0, 0))]) rfl ?_
              refine xw.s (pc' := 26) (st' := [.inr (some (2, a2)), .inr (some (0, 0))]) rfl ?_
              refine xw.s (pc' := 27) (st' := [.inr (some (2, a3)), .inr (some (2, a2)), .inr (some (0, 0))]) rfl ?_
              obtain ⟨t74, q75⟩ : ∃ t, (xm_r S67 2 a3 11) = t := ⟨_, rfl⟩
              replace h := h t74 q75
              refine xw.fr (c := 2) (j := 11) (e := 4) (nx := 30) (t := t74) rfl rfl q75 ?_
              show xw _ _ _ [some (.inr (some (0, 0))), some (.inr (some (2, a2))), some (.inr (some (2, a3)))] [.inr (xo 4 t74), .inr (some (2, a2)), .inr (some (0, 0))] _ _
              refine xw.call (m := 22) (as := [.inr (some (0, 0)), .inr (some (2, a2)), .inr (xo 4 t74)]) (nx := 33) (L' := [some (.inr (some (0, 0))), some (.inr (some (2, a2))), some (.inr (some (2, a3)))]) (st' := []) rfl (xc.mono h ?_)
              rintro r S76 ⟨rfl, hC77, h⟩
              show xw _ _ 33 [some (.inr (some (0, 0))), some (.inr (some (2, a2))), some (.inr (some (2, a3)))] [] _ _
              refine xw.ret (r := none) rfl ?_
              show xw _ _ 49 [some (.inr (some (0, 0))), some (.inr (some (5, a1))), some (.inr (some (2, a2))), some (.inr (some (2, a3))), some (.inr none), some (.inr (some (9, k56)))] [] S76 _
              refine xw.s (pc' := 93) (st' := []) rfl ?_
              exact xw.ret (r := none) rfl h
          · skip
            refine xw.s (pc' := 19) (st' := [.inl (1 : Int32)]) rfl ?_
            refine xw.s (pc' := 23) (st' := [.inl (1 : Int32)]) rfl ?_
            refine xw.retz (nx := 24) rfl (Or.inr rfl) ?_
            show xw _ _ 40 [some (.inr (some (0, 0))), some (.inr (some (5, a1))), some (.inr (some (2, a2))), some (.inr (some (2, a3))), some (.inr none), some (.inr (some (9, k56)))] [.inl (1 : Int32)] S67 _
            refine xw.bt (cd := .ne) (x := (1 : Int32)) (y := (0 : Int32)) 52 43 (st' := []) rfl (y_cne _ _) (by decide) ?_
            refine xw.s (pc' := 53) (st' := [.inr (some (5, a1))]) rfl ?_
            refine xw.fi (c := 5) (j := 2) (ty := 0) (nx := 56) (v := (xm_i S67 5 a1 2)) rfl rfl rfl ?_
            refine xw.bn (c := (xm_i S67 5 a1 2) = (0 : Int32)) (cd := .ne) (x := (xm_i S67 5 a1 2)) (y := (0 : Int32)) 72 59 (st' := []) rfl (y_cne _ _) h (fun c78 h => ?_) (fun c78 h => ?_)
            · skip
              refine xw.s (pc' := 60) (st' := [.inr (some (0, 0))]) rfl ?_
              refine xw.s (pc' := 61) (st' := [.inr (some (2, a2)), .inr (some (0, 0))]) rfl ?_
              refine xw.s (pc' := 62) (st' := [.inr (some (5, a1)), .inr (some (2, a2)), .inr (some (0, 0))]) rfl ?_
              refine xw.fi (c := 5) (j := 3) (ty := 0) (nx := 65) (v := (xm_i S67 5 a1 3)) rfl rfl rfl ?_
              refine xw.s (pc' := 66) (st' := [.inl (1 : Int32), .inl (xm_i S67 5 a1 3), .inr (some (2, a2)), .inr (some (0, 0))]) rfl ?_
              refine xw.call (m := 30) (as := [.inr (some (0, 0)), .inr (some (2, a2)), .inl (xm_i S67 5 a1 3), .inl (1 : Int32)]) (nx := 69) (L' := [some (.inr (some (0, 0))), some (.inr (some (5, a1))), some (.inr (some (2, a2))), some (.inr (some (2, a3))), some (.inr none), some (.inr (some (9, k56)))]) (st' := []) rfl (xc.mono h ?_)
              rintro r S79 ⟨rfl, hC80, h⟩
              show xw _ _ 69 [some (.inr (some (0, 0))), some (.inr (some (5, a1))), some (.inr (some (2, a2))), some (.inr (some (2, a3))), some (.inr none), some (.inr (some (9, k56)))] [] _ _
              refine xw.s (pc' := 93) (st' := []) rfl ?_
              exact xw.ret (r := none) rfl h
            · skip
              refine xw.s (pc' := 74) (st' := [.inr (some (9, k56))]) rfl ?_
              refine xw.s (pc' := 77) (st' := []) rfl ?_
              refine xw.s (pc' := 78) (st' := [.inr (some (0, 0))]) rfl ?_
              refine xw.s (pc' := 79) (st' := [.inr (some (0, 0)), .inr (some (0, 0))]) rfl ?_
              refine xw.s (pc' := 80) (st' := [.inr (some (2, a2)), .inr (some (0, 0)), .inr (some (0, 0))]) rfl ?_
              obtain ⟨t81, q82⟩ : ∃ t, (xm_r S67 2 a2 1) = t := ⟨_, rfl⟩
              replace h := h t81 q82
              refine xw.fr (c := 2) (j := 1) (e := 6) (nx := 83) (t := t81) rfl rfl q82 ?_
              show xw _ _ _ [some (.inr (some (0, 0))), some (.inr (some (5, a1))), some (.inr (some (2, a2))), some (.inr (some (2, a3))), some (.inr none), some (.inr (some (9, k56)))] [.inr (xo 6 t81), .inr (some (0, 0)), .inr (some (0, 0))] _ _
              refine xw.s (pc' := 84) (st' := [.inr (some (2, a2)), .inr (xo 6 t81), .inr (some (0, 0)), .inr (some (0, 0))]) rfl ?_
              refine xw.s (pc' := 85) (st' := [.inr none, .inr (some (2, a2)), .inr (xo 6 t81), .inr (some (0, 0)), .inr (some (0, 0))]) rfl ?_
              refine xw.call (m := 17) (as := [.inr (some (0, 0)), .inr (xo 6 t81), .inr (some (2, a2)), .inr none]) (nx := 88) (L' := [some (.inr (some (0, 0))), some (.inr (some (5, a1))), some (.inr (some (2, a2))), some (.inr (some (2, a3))), some (.inr none), some (.inr (some (9, k56)))]) (st' := [.inr (some (0, 0))]) rfl (xc.mono h ?_)
              rintro r S83 ⟨t85, rfl, hC84, h⟩
              show xw _ _ 88 [some (.inr (some (0, 0))), some (.inr (some (5, a1))), some (.inr (some (2, a2))), some (.inr (some (2, a3))), some (.inr none), some (.inr (some (9, k56)))] [.inr (xo 2 t85), .inr (some (0, 0))] _ _
              refine xw.s (pc' := 90) (st' := [.inr (some (9, k56)), .inr (xo 2 t85), .inr (some (0, 0))]) rfl ?_
              refine xw.call (m := 18) (as := [.inr (some (0, 0)), .inr (xo 2 t85), .inr (some (9, k56))]) (nx := 93) (L' := [some (.inr (some (0, 0))), some (.inr (some (5, a1))), some (.inr (some (2, a2))), some (.inr (some (2, a3))), some (.inr none), some (.inr (some (9, k56)))]) (st' := []) rfl (xc.mono h ?_)
              rintro r S86 ⟨rfl, hC87, h⟩
              show xw _ _ 93 [some (.inr (some (0, 0))), some (.inr (some (5, a1))), some (.inr (some (2, a2))), some (.inr (some (2, a3))), some (.inr none), some (.inr (some (9, k56)))] [] _ _
              exact xw.ret (r := none) rfl h
      · replace h := h.2 k58 rfl
        show xw _ _ 21 [some (.inr (some (0, 0))), some (.inr (some (5, a1))), some (.inr (some (2, a2))), some (.inr (some (2, a3))), some (.inr (some (2, k58))), some (.inr (some (9, k56)))] [] _ _
        refine xw.s (pc' := 22) (st' := [.inr (some (0, 0))]) rfl ?_
        refine xw.s (pc' := 23) (st' := [.inr (some (2, a2)), .inr (some (0, 0))]) rfl ?_
        refine xw.s (pc' := 24) (st' := [.inr (some (2, a3)), .inr (some (2, a2)), .inr (some (0, 0))]) rfl ?_
        refine xw.s (pc' := 26) (st' := [.inr (some (2, k58)), .inr (some (2, a3)), .inr (some (2, a2)), .inr (some (0, 0))]) rfl ?_
        refine xw.call (m := 38) (as := [.inr (some (0, 0)), .inr (some (2, a2)), .inr (some (2, a3)), .inr (some (2, k58))]) (nx := 29) (L' := [some (.inr (some (0, 0))), some (.inr (some (5, a1))), some (.inr (some (2, a2))), some (.inr (some (2, a3))), some (.inr (some (2, k58))), some (.inr (some (9, k56)))]) (st' := []) rfl (xc.mono h ?_)
        rintro r S88 ⟨rfl, hC89, h⟩
        show xw _ _ 29 [some (.inr (some (0, 0))), some (.inr (some (5, a1))), some (.inr (some (2, a2))), some (.inr (some (2, a3))), some (.inr (some (2, k58))), some (.inr (some (9, k56)))] [] _ _
        refine xw.s (pc' := 93) (st' := []) rfl ?_
        exact xw.ret (r := none) rfl h
/-- tellSpare -/
theorem cw_tellSpare {d : Nat} {a1 : Nat} {a2 : Nat} {a3 : Nat} {S : xm_S} {Q : Option xm_V → xm_S → Prop} (hC : xk_C S) (h : ((xm_i S 2 a2 8) = (1 : Int32) → xc (d + 1) 30 [.inr (some (0, 0)), .inr (some (2, a1)), .inl (xm_i S 2 a2 9), .inl (1 : Int32)] S (fun r S2 => r = none ∧ xk_C S2 ∧ (Q none S2))) ∧ (¬ (xm_i S 2 a2 8) = (1 : Int32) → ∀ t4, (xm_r S 2 a2 11) = t4 → ((t4 = none → xc d 22 [.inr (some (0, 0)), .inr (some (2, a1)), .inr none] S (fun r S7 => r = none ∧ xk_C S7 ∧ (Q none S7))) ∧ (∀ k6, t4 = some k6 → ∀ t9, (xm_r S 2 a3 11) = t9 → (∀ S11, S11 = xm_sr S 4 k6 5 t9 → (xc d 22 [.inr (some (0, 0)), .inr (some (2, a1)), .inr (some (4, k6))] S11 (fun r S13 => r = none ∧ xk_C S13 ∧ (Q none S13)))))))) : xc (d + 2) 38 [.inr (some (0, 0)), .inr (some (2, a1)), .inr (some (2, a2)), .inr (some (2, a3))] S Q := by
  show xw _ _ _ [some (.inr (some (0, 0))), some (.inr (some (2, a1))), some (.inr (some (2, a2))), some (.inr (some (2, a3)))] _ _ _
  refine xw.s (pc' := 1) (st' := [.inr (some (2, a2))]) rfl ?_
  refine xw.fi (c := 2) (j := 8) (ty := 0) (nx := 4) (v := (xm_i S 2 a2 8)) rfl rfl rfl ?_
  refine xw.s (pc' := 5) (st' := [.inl (1 : Int32), .inl (xm_i S 2 a2 8)]) rfl ?_
  refine xw.bn (c := (xm_i S 2 a2 8) = (1 : Int32)) (cd := .ne) (x := (xm_i S 2 a2 8)) (y := (1 : Int32)) 19 8 (st' := []) rfl (y_cne _ _) h (fun c1 h => ?_) (fun c1 h => ?_)
  · skip
    refine xw.s (pc' := 9) (st' := [.inr (some (0, 0))]) rfl ?_
    refine xw.s (pc' := 10) (st' := [.inr (some (2, a1)), .inr (some (0, 0))]) rfl ?_
    refine xw.s (pc' := 11) (st' := [.inr (some (2, a2)), .inr (some (2, a1)), .inr (some (0, 0))]) rfl ?_
    refine xw.fi (c := 2) (j := 9) (ty := 0) (nx := 14) (v := (xm_i S 2 a2 9)) rfl rfl rfl ?_
    refine xw.s (pc' := 15) (st' := [.inl (1 : Int32), .inl (xm_i S 2 a2 9), .inr (some (2, a1)), .inr (some (0, 0))]) rfl ?_
    refine xw.call (m := 30) (as := [.inr (some (0, 0)), .inr (some (2, a1)), .inl (xm_i S 2 a2 9), .inl (1 : Int32)]) (nx := 18) (L' := [some (.inr (some (0, 0))), some (.inr (some (2, a1))), some (.inr (some (2, a2))), some (.inr (some (2, a3)))]) (st' := []) rfl (xc.mono h ?_)
    rintro r S2 ⟨rfl, hC3, h⟩
    show xw _ _ 18 [some (.inr (some (0, 0))), some (.inr (some (2, a1))), some (.inr (some (2, a2))), some (.inr (some (2, a3)))] [] _ _
    exact xw.ret (r := none) rfl h
  · skip
    refine xw.s (pc' := 20) (st' := [.inr (some (2, a2))]) rfl ?_
    obtain ⟨t4, q5⟩ : ∃ t, (xm_r S 2 a2 11) = t := ⟨_, rfl⟩
    replace h := h t4 q5
    refine xw.fr (c := 2) (j := 11) (e := 4) (nx := 23) (t := t4) rfl rfl q5 ?_
    show xw _ _ _ [some (.inr (some (0, 0))), some (.inr (some (2, a1))), some (.inr (some (2, a2))), some (.inr (some (2, a3)))] [.inr (xo 4 t4)] _ _
    refine xw.nul (o := t4) (t := 37) (nx := 26) rfl rfl ?_
    rcases t4 with _ | k6
    · replace h := h.1 rfl
      show xw _ _ 37 [some (.inr (some (0, 0))), some (.inr (some (2, a1))), some (.inr (some (2, a2))), some (.inr (some (2, a3)))] [] _ _
      refine xw.s (pc' := 38) (st' := [.inr (some (0, 0))]) rfl ?_
      refine xw.s (pc' := 39) (st' := [.inr (some (2, a1)), .inr (some (0, 0))]) rfl ?_
      refine xw.s (pc' := 40) (st' := [.inr (some (2, a2)), .inr (some (2, a1)), .inr (some (0, 0))]) rfl ?_
      refine xw.call (m := 29) (as := [.inr (some (0, 0)), .inr (some (2, a1)), .inr (some (2, a2))]) (nx := 43) (L' := [some (.inr (some (0, 0))), some (.inr (some (2, a1))), some (.inr (some (2, a2))), some (.inr (some (2, a3)))]) (st' := []) rfl ?_
      show xw _ _ _ [some (.inr (some (0, 0))), some (.inr (some (2, a1))), some (.inr (some (2, a2)))] [] _ _
      refine xw.s (pc' := 1) (st' := [.inr (some (2, a2))]) rfl ?_
      refine xw.fi (c := 2) (j := 8) (ty := 0) (nx := 4) (v := (xm_i S 2 a2 8)) rfl rfl rfl ?_
      refine xw.s (pc' := 5) (st' := [.inl (1 : Int32), .inl (xm_i S 2 a2 8)]) rfl ?_
      refine xw.bt (cd := .ne) (x := (xm_i S 2 a2 8)) (y := (1 : Int32)) 24 8 (st' := []) rfl (y_cne _ _) c1 ?_
      refine xw.s (pc' := 25) (st' := [.inr (some (0, 0))]) rfl ?_
      refine xw.s (pc' := 26) (st' := [.inr (some (2, a1)), .inr (some (0, 0))]) rfl ?_
      refine xw.s (pc' := 27) (st' := [.inr (some (2, a2)), .inr (some (2, a1)), .inr (some (0, 0))]) rfl ?_
      refine xw.fr (c := 2) (j := 11) (e := 4) (nx := 30) (t := none) rfl rfl q5 ?_
      show xw _ _ _ [some (.inr (some (0, 0))), some (.inr (some (2, a1))), some (.inr (some (2, a2)))] [.inr none, .inr (some (2, a1)), .inr (some (0, 0))] _ _
      refine xw.call (m := 22) (as := [.inr (some (0, 0)), .inr (some (2, a1)), .inr none]) (nx := 33) (L' := [some (.inr (some (0, 0))), some (.inr (some (2, a1))), some (.inr (some (2, a2)))]) (st' := []) rfl (xc.mono h ?_)
      rintro r S7 ⟨rfl, hC8, h⟩
      show xw _ _ 33 [some (.inr (some (0, 0))), some (.inr (some (2, a1))), some (.inr (some (2, a2)))] [] _ _
      refine xw.ret (r := none) rfl ?_
      show xw _ _ 43 [some (.inr (some (0, 0))), some (.inr (some (2, a1))), some (.inr (some (2, a2))), some (.inr (some (2, a3)))] [] S7 _
      exact xw.ret (r := none) rfl h
    · replace h := h.2 k6 rfl
      show xw _ _ 26 [some (.inr (some (0, 0))), some (.inr (some (2, a1))), some (.inr (some (2, a2))), some (.inr (some (2, a3)))] [] _ _
      refine xw.s (pc' := 27) (st' := [.inr (some (2, a2))]) rfl ?_
      refine xw.fr (c := 2) (j := 11) (e := 4) (nx := 30) (t := (some k6)) rfl rfl q5 ?_
      show xw _ _ _ [some (.inr (some (0, 0))), some (.inr (some (2, a1))), some (.inr (some (2, a2))), some (.inr (some (2, a3)))] [.inr (some (4, k6))] _ _
      refine xw.s (pc' := 31) (st' := [.inr (some (2, a3)), .inr (some (4, k6))]) rfl ?_
      obtain ⟨t9, q10⟩ : ∃ t, (xm_r S 2 a3 11) = t := ⟨_, rfl⟩
      replace h := h t9 q10
      refine xw.fr (c := 2) (j := 11) (e := 4) (nx := 34) (t := t9) rfl rfl q10 ?_
      show xw _ _ _ [some (.inr (some (0, 0))), some (.inr (some (2, a1))), some (.inr (some (2, a2))), some (.inr (some (2, a3)))] [.inr (xo 4 t9), .inr (some (4, k6))] _ _
      refine xw.fq (c := 4) (j := 5) (e := 4) (nx := 37) (t := t9) rfl rfl ?_
      obtain ⟨S11, e12⟩ : ∃ s, s = xm_sr S 4 k6 5 t9 := ⟨_, rfl⟩
      rw [← e12]
      replace h := h S11 e12
      refine xw.s (pc' := 38) (st' := [.inr (some (0, 0))]) rfl ?_
      refine xw.s (pc' := 39) (st' := [.inr (some (2, a1)), .inr (some (0, 0))]) rfl ?_
      refine xw.s (pc' := 40) (st' := [.inr (some (2, a2)), .inr (some (2, a1)), .inr (some (0, 0))]) rfl ?_
      refine xw.call (m := 29) (as := [.inr (some (0, 0)), .inr (some (2, a1)), .inr (some (2, a2))]) (nx := 43) (L' := [some (.inr (some (0, 0))), some (.inr (some (2, a1))), some (.inr (some (2, a2))), some (.inr (some (2, a3)))]) (st' := []) rfl ?_
      show xw _ _ _ [some (.inr (some (0, 0))), some (.inr (some (2, a1))), some (.inr (some (2, a2)))] [] _ _
      refine xw.s (pc' := 1) (st' := [.inr (some (2, a2))]) rfl ?_
      refine xw.fi (c := 2) (j := 8) (ty := 0) (nx := 4) (v := (xm_i S 2 a2 8)) rfl rfl ((congrArg (fun s => xm_i s 2 a2 8) e12).trans rfl) ?_
      refine xw.s (pc' := 5) (st' := [.inl (1 : Int32), .inl (xm_i S 2 a2 8)]) rfl ?_
      refine xw.bt (cd := .ne) (x := (xm_i S 2 a2 8)) (y := (1 : Int32)) 24 8 (st' := []) rfl (y_cne _ _) c1 ?_
      refine xw.s (pc' := 25) (st' := [.inr (some (0, 0))]) rfl ?_
      refine xw.s (pc' := 26) (st' := [.inr (some (2, a1)), .inr (some (0, 0))]) rfl ?_
      refine xw.s (pc' := 27) (st' := [.inr (some (2, a2)), .inr (some (2, a1)), .inr (some (0, 0))]) rfl ?_
      refine xw.fr (c := 2) (j := 11) (e := 4) (nx := 30) (t := (some k6)) rfl rfl (((congrArg (fun s => xm_r s 2 a2 11) e12).trans (xr_sr (by decide))).trans q5) ?_
      show xw _ _ _ [some (.inr (some (0, 0))), some (.inr (some (2, a1))), some (.inr (some (2, a2)))] [.inr (some (4, k6)), .inr (some (2, a1)), .inr (some (0, 0))] _ _
      refine xw.call (m := 22) (as := [.inr (some (0, 0)), .inr (some (2, a1)), .inr (some (4, k6))]) (nx := 33) (L' := [some (.inr (some (0, 0))), some (.inr (some (2, a1))), some (.inr (some (2, a2)))]) (st' := []) rfl (xc.mono h ?_)
      rintro r S13 ⟨rfl, hC14, h⟩
      show xw _ _ 33 [some (.inr (some (0, 0))), some (.inr (some (2, a1))), some (.inr (some (2, a2)))] [] _ _
      refine xw.ret (r := none) rfl ?_
      show xw _ _ 43 [some (.inr (some (0, 0))), some (.inr (some (2, a1))), some (.inr (some (2, a2))), some (.inr (some (2, a3)))] [] S13 _
      exact xw.ret (r := none) rfl h
end
