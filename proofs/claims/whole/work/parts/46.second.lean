/-! ===== THE REFERENCE: members behind the jobs (printed by wip/whole/gen42.py out of the bytecode) ===== -/
section
/-- made -/
noncomputable def rf_made (a1 a2 a3 a4 a5 : Int32) (A : y_A) (js : List y_J) : Int32 × y_A × List y_J := ((A 50 0), (rf_work (xm_u2 (xm_u2 (xm_u2 (xm_u2 (xm_u2 (xm_u2 (xm_u2 (xm_u2 (xm_u2 (xm_u2 A 51 (y_ix (A 50 0)) a1) 52 (y_ix (A 50 0)) a2) 53 (y_ix (A 50 0)) a3) 54 (y_ix (A 50 0)) a4) 55 (y_ix (A 50 0)) a5) 56 (y_ix (A 50 0)) (A 0 0)) 57 (y_ix (A 50 0)) (-1 : Int32)) 58 (y_ix (A 50 0)) (0 : Int32)) 59 (y_ix (A 50 0)) (-1 : Int32)) 50 0 ((A 50 0) + (1 : Int32))) (((0 : Int32), (A 50 0), (0 : Int32), (-1 : Int32), (-1 : Int32)) :: js)).1, (rf_work (xm_u2 (xm_u2 (xm_u2 (xm_u2 (xm_u2 (xm_u2 (xm_u2 (xm_u2 (xm_u2 (xm_u2 A 51 (y_ix (A 50 0)) a1) 52 (y_ix (A 50 0)) a2) 53 (y_ix (A 50 0)) a3) 54 (y_ix (A 50 0)) a4) 55 (y_ix (A 50 0)) a5) 56 (y_ix (A 50 0)) (A 0 0)) 57 (y_ix (A 50 0)) (-1 : Int32)) 58 (y_ix (A 50 0)) (0 : Int32)) 59 (y_ix (A 50 0)) (-1 : Int32)) 50 0 ((A 50 0) + (1 : Int32))) (((0 : Int32), (A 50 0), (0 : Int32), (-1 : Int32), (-1 : Int32)) :: js)).2)
def rg_made (a1 a2 a3 a4 a5 : Int32) (A : y_A) (js : List y_J) : Prop := (y_in (A 50 0) 60) ∧ (js.length < 20000) ∧ (rg_work (xm_u2 (xm_u2 (xm_u2 (xm_u2 (xm_u2 (xm_u2 (xm_u2 (xm_u2 (xm_u2 (xm_u2 A 51 (y_ix (A 50 0)) a1) 52 (y_ix (A 50 0)) a2) 53 (y_ix (A 50 0)) a3) 54 (y_ix (A 50 0)) a4) 55 (y_ix (A 50 0)) a5) 56 (y_ix (A 50 0)) (A 0 0)) 57 (y_ix (A 50 0)) (-1 : Int32)) 58 (y_ix (A 50 0)) (0 : Int32)) 59 (y_ix (A 50 0)) (-1 : Int32)) 50 0 ((A 50 0) + (1 : Int32))) (((0 : Int32), (A 50 0), (0 : Int32), (-1 : Int32), (-1 : Int32)) :: js)) ∧ True
theorem rh_made {d : Nat} (hd : 7 ≤ d) {a1 a2 a3 a4 a5 : Int32} {A : y_A} {js : List y_J} (hg : rg_made a1 a2 a3 a4 a5 A js) : rc d 130 [.inr (some (11, 0)), .inl a1, .inl a2, .inl a3, .inl a4, .inl a5] A js (y_I (rf_made a1 a2 a3 a4 a5 A js)) := by
  obtain ⟨d, rfl⟩ := Nat.exists_eq_add_of_le' hd
  obtain ⟨F, hk⟩ : ∃ F, rf_made a1 a2 a3 a4 a5 A js = F := ⟨_, rfl⟩
  rw [hk]
  show ra _ _ _ [some (.inr (some (11, 0))), some (.inl a1), some (.inl a2), some (.inl a3), some (.inl a4), some (.inl a5), none] _ _ _ _
  unfold rg_made at hg
  unfold rf_made at hk
  refine ra.s (pc' := 1) (st' := [.inr (some (11, 0))]) (fun _ => rfl) ?_
  refine ra.gi (x := 50) (nx := 4) (v := (A 50 0)) rfl rfl rfl ?_
  refine ra.s (pc' := 6) (L' := [some (.inr (some (11, 0))), some (.inl a1), some (.inl a2), some (.inl a3), some (.inl a4), some (.inl a5), some (.inl (A 50 0))]) (st' := []) (fun _ => rfl) ?_
  refine ra.s (pc' := 7) (st' := [.inr (some (11, 0))]) (fun _ => rfl) ?_
  refine ra.ga (x := 51) (nx := 10) (c := 13) (i := 41) rfl rfl ?_
  refine ra.s (pc' := 12) (st' := [.inl (A 50 0), .inr (some (13, 41))]) (fun _ => rfl) ?_
  refine ra.s (pc' := 13) (st' := [.inl a1, .inl (A 50 0), .inr (some (13, 41))]) (fun _ => rfl) ?_
  obtain ⟨h1, hg⟩ := hg
  refine ra.si (nx := 14) 51 60 rfl rfl h1 ?_
  refine ra.s (pc' := 15) (st' := [.inr (some (11, 0))]) (fun _ => rfl) ?_
  refine ra.ga (x := 52) (nx := 18) (c := 13) (i := 42) rfl rfl ?_
  refine ra.s (pc' := 20) (st' := [.inl (A 50 0), .inr (some (13, 42))]) (fun _ => rfl) ?_
  refine ra.s (pc' := 21) (st' := [.inl a2, .inl (A 50 0), .inr (some (13, 42))]) (fun _ => rfl) ?_
  refine ra.si (nx := 22) 52 60 rfl rfl h1 ?_
  refine ra.s (pc' := 23) (st' := [.inr (some (11, 0))]) (fun _ => rfl) ?_
  refine ra.ga (x := 53) (nx := 26) (c := 13) (i := 43) rfl rfl ?_
  refine ra.s (pc' := 28) (st' := [.inl (A 50 0), .inr (some (13, 43))]) (fun _ => rfl) ?_
  refine ra.s (pc' := 29) (st' := [.inl a3, .inl (A 50 0), .inr (some (13, 43))]) (fun _ => rfl) ?_
  refine ra.si (nx := 30) 53 60 rfl rfl h1 ?_
  refine ra.s (pc' := 31) (st' := [.inr (some (11, 0))]) (fun _ => rfl) ?_
  refine ra.ga (x := 54) (nx := 34) (c := 13) (i := 44) rfl rfl ?_
  refine ra.s (pc' := 36) (st' := [.inl (A 50 0), .inr (some (13, 44))]) (fun _ => rfl) ?_
  refine ra.s (pc' := 38) (st' := [.inl a4, .inl (A 50 0), .inr (some (13, 44))]) (fun _ => rfl) ?_
  refine ra.si (nx := 39) 54 60 rfl rfl h1 ?_
  refine ra.s (pc' := 40) (st' := [.inr (some (11, 0))]) (fun _ => rfl) ?_
  refine ra.ga (x := 55) (nx := 43) (c := 13) (i := 45) rfl rfl ?_
  refine ra.s (pc' := 45) (st' := [.inl (A 50 0), .inr (some (13, 45))]) (fun _ => rfl) ?_
  refine ra.s (pc' := 47) (st' := [.inl a5, .inl (A 50 0), .inr (some (13, 45))]) (fun _ => rfl) ?_
  refine ra.si (nx := 48) 55 60 rfl rfl h1 ?_
  refine ra.s (pc' := 49) (st' := [.inr (some (11, 0))]) (fun _ => rfl) ?_
  refine ra.ga (x := 56) (nx := 52) (c := 13) (i := 46) rfl rfl ?_
  refine ra.s (pc' := 54) (st' := [.inl (A 50 0), .inr (some (13, 46))]) (fun _ => rfl) ?_
  refine ra.s (pc' := 55) (st' := [.inr (some (11, 0)), .inl (A 50 0), .inr (some (13, 46))]) (fun _ => rfl) ?_
  refine ra.gi (x := 0) (nx := 58) (v := (A 0 0)) rfl rfl rfl ?_
  refine ra.si (nx := 59) 56 60 rfl rfl h1 ?_
  refine ra.s (pc' := 60) (st' := [.inr (some (11, 0))]) (fun _ => rfl) ?_
  refine ra.ga (x := 57) (nx := 63) (c := 13) (i := 47) rfl rfl ?_
  refine ra.s (pc' := 65) (st' := [.inl (A 50 0), .inr (some (13, 47))]) (fun _ => rfl) ?_
  refine ra.s (pc' := 66) (st' := [.inl (-1 : Int32), .inl (A 50 0), .inr (some (13, 47))]) (fun _ => rfl) ?_
  refine ra.si (nx := 67) 57 60 rfl rfl h1 ?_
  refine ra.s (pc' := 68) (st' := [.inr (some (11, 0))]) (fun _ => rfl) ?_
  refine ra.ga (x := 58) (nx := 71) (c := 13) (i := 48) rfl rfl ?_
  refine ra.s (pc' := 73) (st' := [.inl (A 50 0), .inr (some (13, 48))]) (fun _ => rfl) ?_
  refine ra.s (pc' := 74) (st' := [.inl (0 : Int32), .inl (A 50 0), .inr (some (13, 48))]) (fun _ => rfl) ?_
  refine ra.si (nx := 75) 58 60 rfl rfl h1 ?_
  refine ra.s (pc' := 76) (st' := [.inr (some (11, 0))]) (fun _ => rfl) ?_
  refine ra.ga (x := 59) (nx := 79) (c := 13) (i := 49) rfl rfl ?_
  refine ra.s (pc' := 81) (st' := [.inl (A 50 0), .inr (some (13, 49))]) (fun _ => rfl) ?_
  refine ra.s (pc' := 82) (st' := [.inl (-1 : Int32), .inl (A 50 0), .inr (some (13, 49))]) (fun _ => rfl) ?_
  refine ra.si (nx := 83) 59 60 rfl rfl h1 ?_
  refine ra.s (pc' := 84) (st' := [.inr (some (11, 0))]) (fun _ => rfl) ?_
  refine ra.s (pc' := 85) (st' := [.inr (some (11, 0)), .inr (some (11, 0))]) (fun _ => rfl) ?_
  refine ra.gi (x := 50) (nx := 88) (v := (A 50 0)) rfl rfl rfl ?_
  refine ra.s (pc' := 89) (st' := [.inl (1 : Int32), .inl (A 50 0), .inr (some (11, 0))]) (fun _ => rfl) ?_
  refine ra.s (pc' := 90) (st' := [.inl ((A 50 0) + (1 : Int32)), .inr (some (11, 0))]) (fun _ => rfl) ?_
  refine ra.pi (x := 50) (nx := 93) rfl rfl ?_
  refine ra.s (pc' := 94) (st' := [.inr (some (11, 0))]) (fun _ => rfl) ?_
  refine ra.s (pc' := 95) (st' := [.inl (0 : Int32), .inr (some (11, 0))]) (fun _ => rfl) ?_
  refine ra.s (pc' := 97) (st' := [.inl (A 50 0), .inl (0 : Int32), .inr (some (11, 0))]) (fun _ => rfl) ?_
  refine ra.s (pc' := 98) (st' := [.inl (0 : Int32), .inl (A 50 0), .inl (0 : Int32), .inr (some (11, 0))]) (fun _ => rfl) ?_
  refine ra.s (pc' := 99) (st' := [.inl (-1 : Int32), .inl (0 : Int32), .inl (A 50 0), .inl (0 : Int32), .inr (some (11, 0))]) (fun _ => rfl) ?_
  refine ra.s (pc' := 100) (st' := [.inl (-1 : Int32), .inl (-1 : Int32), .inl (0 : Int32), .inl (A 50 0), .inl (0 : Int32), .inr (some (11, 0))]) (fun _ => rfl) ?_
  obtain ⟨h2, hg⟩ := hg
  refine ra.cV (m := 131) (as := [.inr (some (11, 0)), .inl (0 : Int32), .inl (A 50 0), .inl (0 : Int32), .inl (-1 : Int32), .inl (-1 : Int32)]) (nx := 103) (L' := [some (.inr (some (11, 0))), some (.inl a1), some (.inl a2), some (.inl a3), some (.inl a4), some (.inl a5), some (.inl (A 50 0))]) (st' := []) (fun _ => rfl) (rh_add h2) ?_
  show ra _ _ _ _ _ (xm_u2 (xm_u2 (xm_u2 (xm_u2 (xm_u2 (xm_u2 (xm_u2 (xm_u2 (xm_u2 (xm_u2 A 51 (y_ix (A 50 0)) a1) 52 (y_ix (A 50 0)) a2) 53 (y_ix (A 50 0)) a3) 54 (y_ix (A 50 0)) a4) 55 (y_ix (A 50 0)) a5) 56 (y_ix (A 50 0)) (A 0 0)) 57 (y_ix (A 50 0)) (-1 : Int32)) 58 (y_ix (A 50 0)) (0 : Int32)) 59 (y_ix (A 50 0)) (-1 : Int32)) 50 0 ((A 50 0) + (1 : Int32))) (((0 : Int32), (A 50 0), (0 : Int32), (-1 : Int32), (-1 : Int32)) :: js) _
  refine ra.s (pc' := 104) (st' := [.inr (some (11, 0))]) (fun _ => rfl) ?_
  obtain ⟨h3, hg⟩ := hg
  refine ra.cV (F := (rf_work (xm_u2 (xm_u2 (xm_u2 (xm_u2 (xm_u2 (xm_u2 (xm_u2 (xm_u2 (xm_u2 (xm_u2 A 51 (y_ix (A 50 0)) a1) 52 (y_ix (A 50 0)) a2) 53 (y_ix (A 50 0)) a3) 54 (y_ix (A 50 0)) a4) 55 (y_ix (A 50 0)) a5) 56 (y_ix (A 50 0)) (A 0 0)) 57 (y_ix (A 50 0)) (-1 : Int32)) 58 (y_ix (A 50 0)) (0 : Int32)) 59 (y_ix (A 50 0)) (-1 : Int32)) 50 0 ((A 50 0) + (1 : Int32))) (((0 : Int32), (A 50 0), (0 : Int32), (-1 : Int32), (-1 : Int32)) :: js))) (m := 132) (as := [.inr (some (11, 0))]) (nx := 107) (L' := [some (.inr (some (11, 0))), some (.inl a1), some (.inl a2), some (.inl a3), some (.inl a4), some (.inl a5), some (.inl (A 50 0))]) (st' := []) (fun _ => rfl) (rh_workf (by omega) h3) ?_
  show ra _ _ _ _ [] (rf_work (xm_u2 (xm_u2 (xm_u2 (xm_u2 (xm_u2 (xm_u2 (xm_u2 (xm_u2 (xm_u2 (xm_u2 A 51 (y_ix (A 50 0)) a1) 52 (y_ix (A 50 0)) a2) 53 (y_ix (A 50 0)) a3) 54 (y_ix (A 50 0)) a4) 55 (y_ix (A 50 0)) a5) 56 (y_ix (A 50 0)) (A 0 0)) 57 (y_ix (A 50 0)) (-1 : Int32)) 58 (y_ix (A 50 0)) (0 : Int32)) 59 (y_ix (A 50 0)) (-1 : Int32)) 50 0 ((A 50 0) + (1 : Int32))) (((0 : Int32), (A 50 0), (0 : Int32), (-1 : Int32), (-1 : Int32)) :: js)).1 (rf_work (xm_u2 (xm_u2 (xm_u2 (xm_u2 (xm_u2 (xm_u2 (xm_u2 (xm_u2 (xm_u2 (xm_u2 A 51 (y_ix (A 50 0)) a1) 52 (y_ix (A 50 0)) a2) 53 (y_ix (A 50 0)) a3) 54 (y_ix (A 50 0)) a4) 55 (y_ix (A 50 0)) a5) 56 (y_ix (A 50 0)) (A 0 0)) 57 (y_ix (A 50 0)) (-1 : Int32)) 58 (y_ix (A 50 0)) (0 : Int32)) 59 (y_ix (A 50 0)) (-1 : Int32)) 50 0 ((A 50 0) + (1 : Int32))) (((0 : Int32), (A 50 0), (0 : Int32), (-1 : Int32), (-1 : Int32)) :: js)).2 _
  refine ra.s (pc' := 109) (st' := [.inl (A 50 0)]) (fun _ => rfl) ?_
  subst hk
  exact ra.ret (r := some (.inl (A 50 0))) (fun _ => rfl) ⟨rfl, rfl, rfl⟩
/-- order -/
noncomputable def rf_order (a1 a2 a3 a4 a5 : Int32) (A : y_A) (js : List y_J) : Int32 × y_A × List y_J := (if (rf_isTower a1 A) = (0 : Int32) then ((-1 : Int32), A, js) else (if (rf_isStation a2 A) = (0 : Int32) then ((-1 : Int32), A, js) else (if (rf_isAct a3 A) = (0 : Int32) then ((-2 : Int32), A, js) else (if (rf_isAmount a3 a4 A) = (0 : Int32) then ((-2 : Int32), A, js) else (if (0 : Int32) ≤ a5 then (if (A 50 0) = (60 : Int32) then ((-3 : Int32), A, js) else ((rf_made a1 a2 a3 a4 a5 A js).1, (rf_made a1 a2 a3 a4 a5 A js).2.1, (rf_made a1 a2 a3 a4 a5 A js).2.2)) else ((-2 : Int32), A, js))))))
def rg_order (a1 a2 a3 a4 a5 : Int32) (A : y_A) (js : List y_J) : Prop := (rg_isTower a1 A) ∧ (((rf_isTower a1 A) = (0 : Int32) → True) ∧ (¬ (rf_isTower a1 A) = (0 : Int32) → (rg_isStation a2 A) ∧ (((rf_isStation a2 A) = (0 : Int32) → True) ∧ (¬ (rf_isStation a2 A) = (0 : Int32) → (rg_isAct a3 A) ∧ (((rf_isAct a3 A) = (0 : Int32) → True) ∧ (¬ (rf_isAct a3 A) = (0 : Int32) → (rg_isAmount a3 a4 A) ∧ (((rf_isAmount a3 a4 A) = (0 : Int32) → True) ∧ (¬ (rf_isAmount a3 a4 A) = (0 : Int32) → (((0 : Int32) ≤ a5 → (((A 50 0) = (60 : Int32) → True) ∧ (¬ (A 50 0) = (60 : Int32) → (rg_made a1 a2 a3 a4 a5 A js) ∧ True))) ∧ (¬ (0 : Int32) ≤ a5 → True))))))))))
theorem rh_order {d : Nat} (hd : 8 ≤ d) {a1 a2 a3 a4 a5 : Int32} {A : y_A} {js : List y_J} (hg : rg_order a1 a2 a3 a4 a5 A js) : rc d 127 [.inr (some (11, 0)), .inl a1, .inl a2, .inl a3, .inl a4, .inl a5] A js (y_I (rf_order a1 a2 a3 a4 a5 A js)) := by
  obtain ⟨d, rfl⟩ := Nat.exists_eq_add_of_le' hd
  obtain ⟨F, hk⟩ : ∃ F, rf_order a1 a2 a3 a4 a5 A js = F := ⟨_, rfl⟩
  rw [hk]
  show ra _ _ _ [some (.inr (some (11, 0))), some (.inl a1), some (.inl a2), some (.inl a3), some (.inl a4), some (.inl a5)] _ _ _ _
  unfold rg_order at hg
  unfold rf_order at hk
  refine ra.s (pc' := 1) (st' := [.inr (some (11, 0))]) (fun _ => rfl) ?_
  refine ra.s (pc' := 2) (st' := [.inl a1, .inr (some (11, 0))]) (fun _ => rfl) ?_
  obtain ⟨h1, hg⟩ := hg
  refine ra.cP (f := (rf_isTower a1 A)) (m := 128) (as := [.inr (some (11, 0)), .inl a1]) (nx := 5) (L' := [some (.inr (some (11, 0))), some (.inl a1), some (.inl a2), some (.inl a3), some (.inl a4), some (.inl a5)]) (st' := []) (fun _ => rfl) (rh_isTower (by omega) h1) ?_
  refine ra.b (c := (rf_isTower a1 A) = (0 : Int32)) (cd := .eq) (x := (rf_isTower a1 A)) (y := (0 : Int32)) 16 8 (st' := []) (fun _ => rfl) (y_ceq _ _) hk hg (fun h2 hg hk => ?_) (fun h2 hg hk => ?_)
  · skip
    refine ra.s (pc' := 17) (st' := [.inl (-1 : Int32)]) (fun _ => rfl) ?_
    subst hk
    exact ra.ret (r := some (.inl (-1 : Int32))) (fun _ => rfl) ⟨rfl, rfl, rfl⟩
  · skip
    refine ra.s (pc' := 9) (st' := [.inr (some (11, 0))]) (fun _ => rfl) ?_
    refine ra.s (pc' := 10) (st' := [.inl a2, .inr (some (11, 0))]) (fun _ => rfl) ?_
    obtain ⟨h3, hg⟩ := hg
    refine ra.cP (f := (rf_isStation a2 A)) (m := 115) (as := [.inr (some (11, 0)), .inl a2]) (nx := 13) (L' := [some (.inr (some (11, 0))), some (.inl a1), some (.inl a2), some (.inl a3), some (.inl a4), some (.inl a5)]) (st' := []) (fun _ => rfl) (rh_isStation (by omega) h3) ?_
    refine ra.bn (c := (rf_isStation a2 A) = (0 : Int32)) (cd := .ne) (x := (rf_isStation a2 A)) (y := (0 : Int32)) 18 16 (st' := []) (fun _ => rfl) (y_cne _ _) hk hg (fun h4 hg hk => ?_) (fun h4 hg hk => ?_)
    · skip
      refine ra.s (pc' := 17) (st' := [.inl (-1 : Int32)]) (fun _ => rfl) ?_
      subst hk
      exact ra.ret (r := some (.inl (-1 : Int32))) (fun _ => rfl) ⟨rfl, rfl, rfl⟩
    · skip
      refine ra.s (pc' := 19) (st' := [.inr (some (11, 0))]) (fun _ => rfl) ?_
      refine ra.s (pc' := 20) (st' := [.inl a3, .inr (some (11, 0))]) (fun _ => rfl) ?_
      obtain ⟨h5, hg⟩ := hg
      refine ra.cP (f := (rf_isAct a3 A)) (m := 116) (as := [.inr (some (11, 0)), .inl a3]) (nx := 23) (L' := [some (.inr (some (11, 0))), some (.inl a1), some (.inl a2), some (.inl a3), some (.inl a4), some (.inl a5)]) (st' := []) (fun _ => rfl) (rh_isAct (by omega) h5) ?_
      refine ra.b (c := (rf_isAct a3 A) = (0 : Int32)) (cd := .eq) (x := (rf_isAct a3 A)) (y := (0 : Int32)) 41 26 (st' := []) (fun _ => rfl) (y_ceq _ _) hk hg (fun h6 hg hk => ?_) (fun h6 hg hk => ?_)
      · skip
        refine ra.s (pc' := 43) (st' := [.inl (-2 : Int32)]) (fun _ => rfl) ?_
        subst hk
        exact ra.ret (r := some (.inl (-2 : Int32))) (fun _ => rfl) ⟨rfl, rfl, rfl⟩
      · skip
        refine ra.s (pc' := 27) (st' := [.inr (some (11, 0))]) (fun _ => rfl) ?_
        refine ra.s (pc' := 28) (st' := [.inl a3, .inr (some (11, 0))]) (fun _ => rfl) ?_
        refine ra.s (pc' := 30) (st' := [.inl a4, .inl a3, .inr (some (11, 0))]) (fun _ => rfl) ?_
        obtain ⟨h7, hg⟩ := hg
        refine ra.cP (f := (rf_isAmount a3 a4 A)) (m := 129) (as := [.inr (some (11, 0)), .inl a3, .inl a4]) (nx := 33) (L' := [some (.inr (some (11, 0))), some (.inl a1), some (.inl a2), some (.inl a3), some (.inl a4), some (.inl a5)]) (st' := []) (fun _ => rfl) (rh_isAmount (by omega) h7) ?_
        refine ra.b (c := (rf_isAmount a3 a4 A) = (0 : Int32)) (cd := .eq) (x := (rf_isAmount a3 a4 A)) (y := (0 : Int32)) 41 36 (st' := []) (fun _ => rfl) (y_ceq _ _) hk hg (fun h8 hg hk => ?_) (fun h8 hg hk => ?_)
        · skip
          refine ra.s (pc' := 43) (st' := [.inl (-2 : Int32)]) (fun _ => rfl) ?_
          subst hk
          exact ra.ret (r := some (.inl (-2 : Int32))) (fun _ => rfl) ⟨rfl, rfl, rfl⟩
        · skip
          refine ra.s (pc' := 38) (st' := [.inl a5]) (fun _ => rfl) ?_
          refine ra.b (c := (0 : Int32) ≤ a5) (cd := .ge) (x := a5) (y := (0 : Int32)) 44 41 (st' := []) (fun _ => rfl) (y_cge _ _) hk hg (fun h9 hg hk => ?_) (fun h9 hg hk => ?_)
          · skip
            refine ra.s (pc' := 45) (st' := [.inr (some (11, 0))]) (fun _ => rfl) ?_
            refine ra.gi (x := 50) (nx := 48) (v := (A 50 0)) rfl rfl rfl ?_
            refine ra.s (pc' := 50) (st' := [.inl (60 : Int32), .inl (A 50 0)]) (fun _ => rfl) ?_
            refine ra.bn (c := (A 50 0) = (60 : Int32)) (cd := .ne) (x := (A 50 0)) (y := (60 : Int32)) 56 53 (st' := []) (fun _ => rfl) (y_cne _ _) hk hg (fun h10 hg hk => ?_) (fun h10 hg hk => ?_)
            · skip
              refine ra.s (pc' := 55) (st' := [.inl (-3 : Int32)]) (fun _ => rfl) ?_
              subst hk
              exact ra.ret (r := some (.inl (-3 : Int32))) (fun _ => rfl) ⟨rfl, rfl, rfl⟩
            · skip
              refine ra.s (pc' := 57) (st' := [.inr (some (11, 0))]) (fun _ => rfl) ?_
              refine ra.s (pc' := 58) (st' := [.inl a1, .inr (some (11, 0))]) (fun _ => rfl) ?_
              refine ra.s (pc' := 59) (st' := [.inl a2, .inl a1, .inr (some (11, 0))]) (fun _ => rfl) ?_
              refine ra.s (pc' := 60) (st' := [.inl a3, .inl a2, .inl a1, .inr (some (11, 0))]) (fun _ => rfl) ?_
              refine ra.s (pc' := 62) (st' := [.inl a4, .inl a3, .inl a2, .inl a1, .inr (some (11, 0))]) (fun _ => rfl) ?_
              refine ra.s (pc' := 64) (st' := [.inl a5, .inl a4, .inl a3, .inl a2, .inl a1, .inr (some (11, 0))]) (fun _ => rfl) ?_
              obtain ⟨h11, hg⟩ := hg
              refine ra.cI (F := (rf_made a1 a2 a3 a4 a5 A js)) (m := 130) (as := [.inr (some (11, 0)), .inl a1, .inl a2, .inl a3, .inl a4, .inl a5]) (nx := 67) (L' := [some (.inr (some (11, 0))), some (.inl a1), some (.inl a2), some (.inl a3), some (.inl a4), some (.inl a5)]) (st' := []) (fun _ => rfl) (rh_made (by omega) h11) ?_
              show ra _ _ _ _ [.inl (rf_made a1 a2 a3 a4 a5 A js).1] (rf_made a1 a2 a3 a4 a5 A js).2.1 (rf_made a1 a2 a3 a4 a5 A js).2.2 _
              subst hk
              exact ra.ret (r := some (.inl (rf_made a1 a2 a3 a4 a5 A js).1)) (fun _ => rfl) ⟨rfl, rfl, rfl⟩
          · skip
            refine ra.s (pc' := 43) (st' := [.inl (-2 : Int32)]) (fun _ => rfl) ?_
            subst hk
            exact ra.ret (r := some (.inl (-2 : Int32))) (fun _ => rfl) ⟨rfl, rfl, rfl⟩
/-- cancel -/
noncomputable def rf_cancel (a1 : Int32) (A : y_A) (js : List y_J) : Int32 × y_A × List y_J := (if a1 < (0 : Int32) then ((-1 : Int32), A, js) else (if a1 < (A 50 0) then (if (A 58 (y_ix a1)) = (0 : Int32) then ((rf_takeBack (-1 : Int32) a1 (xm_u2 (xm_u2 A 58 (y_ix a1) (4 : Int32)) 57 (y_ix a1) (A 0 0)) js).1, (rf_work (rf_takeBack (-1 : Int32) a1 (xm_u2 (xm_u2 A 58 (y_ix a1) (4 : Int32)) 57 (y_ix a1) (A 0 0)) js).2.1 (rf_takeBack (-1 : Int32) a1 (xm_u2 (xm_u2 A 58 (y_ix a1) (4 : Int32)) 57 (y_ix a1) (A 0 0)) js).2.2).1, (rf_work (rf_takeBack (-1 : Int32) a1 (xm_u2 (xm_u2 A 58 (y_ix a1) (4 : Int32)) 57 (y_ix a1) (A 0 0)) js).2.1 (rf_takeBack (-1 : Int32) a1 (xm_u2 (xm_u2 A 58 (y_ix a1) (4 : Int32)) 57 (y_ix a1) (A 0 0)) js).2.2).2) else ((-4 : Int32), A, js)) else ((-1 : Int32), A, js)))
def rg_cancel (a1 : Int32) (A : y_A) (js : List y_J) : Prop := ((a1 < (0 : Int32) → True) ∧ (¬ a1 < (0 : Int32) → ((a1 < (A 50 0) → (y_in a1 60) ∧ (((A 58 (y_ix a1)) = (0 : Int32) → (rg_takeBack (-1 : Int32) a1 (xm_u2 (xm_u2 A 58 (y_ix a1) (4 : Int32)) 57 (y_ix a1) (A 0 0)) js) ∧ (rg_work (rf_takeBack (-1 : Int32) a1 (xm_u2 (xm_u2 A 58 (y_ix a1) (4 : Int32)) 57 (y_ix a1) (A 0 0)) js).2.1 (rf_takeBack (-1 : Int32) a1 (xm_u2 (xm_u2 A 58 (y_ix a1) (4 : Int32)) 57 (y_ix a1) (A 0 0)) js).2.2) ∧ True) ∧ (¬ (A 58 (y_ix a1)) = (0 : Int32) → True))) ∧ (¬ a1 < (A 50 0) → True))))
theorem rh_cancel {d : Nat} (hd : 7 ≤ d) {a1 : Int32} {A : y_A} {js : List y_J} (hg : rg_cancel a1 A js) : rc d 156 [.inr (some (11, 0)), .inl a1] A js (y_I (rf_cancel a1 A js)) := by
  obtain ⟨d, rfl⟩ := Nat.exists_eq_add_of_le' hd
  obtain ⟨F, hk⟩ : ∃ F, rf_cancel a1 A js = F := ⟨_, rfl⟩
  rw [hk]
  show ra _ _ _ [some (.inr (some (11, 0))), some (.inl a1), none] _ _ _ _
  unfold rg_cancel at hg
  unfold rf_cancel at hk
  refine ra.s (pc' := 1) (st' := [.inl a1]) (fun _ => rfl) ?_
  refine ra.b (c := a1 < (0 : Int32)) (cd := .lt) (x := a1) (y := (0 : Int32)) 12 4 (st' := []) (fun _ => rfl) (y_clt _ _) hk hg (fun h1 hg hk => ?_) (fun h1 hg hk => ?_)
  · skip
    refine ra.s (pc' := 13) (st' := [.inl (-1 : Int32)]) (fun _ => rfl) ?_
    subst hk
    exact ra.ret (r := some (.inl (-1 : Int32))) (fun _ => rfl) ⟨rfl, rfl, rfl⟩
  · skip
    refine ra.s (pc' := 5) (st' := [.inl a1]) (fun _ => rfl) ?_
    refine ra.s (pc' := 6) (st' := [.inr (some (11, 0)), .inl a1]) (fun _ => rfl) ?_
    refine ra.gi (x := 50) (nx := 9) (v := (A 50 0)) rfl rfl rfl ?_
    refine ra.b (c := a1 < (A 50 0)) (cd := .lt) (x := a1) (y := (A 50 0)) 14 12 (st' := []) (fun _ => rfl) (y_clt _ _) hk hg (fun h2 hg hk => ?_) (fun h2 hg hk => ?_)
    · skip
      refine ra.s (pc' := 15) (st' := [.inr (some (11, 0))]) (fun _ => rfl) ?_
      refine ra.ga (x := 58) (nx := 18) (c := 13) (i := 48) rfl rfl ?_
      refine ra.s (pc' := 19) (st' := [.inl a1, .inr (some (13, 48))]) (fun _ => rfl) ?_
      obtain ⟨h3, hg⟩ := hg
      refine ra.ld (nx := 20) (v := (A 58 (y_ix a1))) 58 60 rfl rfl h3 rfl ?_
      refine ra.b (c := (A 58 (y_ix a1)) = (0 : Int32)) (cd := .eq) (x := (A 58 (y_ix a1))) (y := (0 : Int32)) 26 23 (st' := []) (fun _ => rfl) (y_ceq _ _) hk hg (fun h4 hg hk => ?_) (fun h4 hg hk => ?_)
      · skip
        refine ra.s (pc' := 27) (st' := [.inr (some (11, 0))]) (fun _ => rfl) ?_
        refine ra.ga (x := 58) (nx := 30) (c := 13) (i := 48) rfl rfl ?_
        refine ra.s (pc' := 31) (st' := [.inl a1, .inr (some (13, 48))]) (fun _ => rfl) ?_
        refine ra.s (pc' := 32) (st' := [.inl (4 : Int32), .inl a1, .inr (some (13, 48))]) (fun _ => rfl) ?_
        refine ra.si (nx := 33) 58 60 rfl rfl h3 ?_
        refine ra.s (pc' := 34) (st' := [.inr (some (11, 0))]) (fun _ => rfl) ?_
        refine ra.ga (x := 57) (nx := 37) (c := 13) (i := 47) rfl rfl ?_
        refine ra.s (pc' := 38) (st' := [.inl a1, .inr (some (13, 47))]) (fun _ => rfl) ?_
        refine ra.s (pc' := 39) (st' := [.inr (some (11, 0)), .inl a1, .inr (some (13, 47))]) (fun _ => rfl) ?_
        refine ra.gi (x := 0) (nx := 42) (v := (A 0 0)) rfl rfl rfl ?_
        refine ra.si (nx := 43) 57 60 rfl rfl h3 ?_
        refine ra.s (pc' := 44) (st' := [.inr (some (11, 0))]) (fun _ => rfl) ?_
        refine ra.s (pc' := 45) (st' := [.inl (-1 : Int32), .inr (some (11, 0))]) (fun _ => rfl) ?_
        refine ra.s (pc' := 46) (st' := [.inl a1, .inl (-1 : Int32), .inr (some (11, 0))]) (fun _ => rfl) ?_
        obtain ⟨h5, hg⟩ := hg
        refine ra.cI (F := (rf_takeBack (-1 : Int32) a1 (xm_u2 (xm_u2 A 58 (y_ix a1) (4 : Int32)) 57 (y_ix a1) (A 0 0)) js)) (m := 149) (as := [.inr (some (11, 0)), .inl (-1 : Int32), .inl a1]) (nx := 49) (L' := [some (.inr (some (11, 0))), some (.inl a1), none]) (st' := []) (fun _ => rfl) (rh_takeBack (by omega) h5) ?_
        show ra _ _ _ _ [.inl (rf_takeBack (-1 : Int32) a1 (xm_u2 (xm_u2 A 58 (y_ix a1) (4 : Int32)) 57 (y_ix a1) (A 0 0)) js).1] (rf_takeBack (-1 : Int32) a1 (xm_u2 (xm_u2 A 58 (y_ix a1) (4 : Int32)) 57 (y_ix a1) (A 0 0)) js).2.1 (rf_takeBack (-1 : Int32) a1 (xm_u2 (xm_u2 A 58 (y_ix a1) (4 : Int32)) 57 (y_ix a1) (A 0 0)) js).2.2 _
        refine ra.s (pc' := 50) (L' := [some (.inr (some (11, 0))), some (.inl a1), some (.inl (rf_takeBack (-1 : Int32) a1 (xm_u2 (xm_u2 A 58 (y_ix a1) (4 : Int32)) 57 (y_ix a1) (A 0 0)) js).1)]) (st' := []) (fun _ => rfl) ?_
        refine ra.s (pc' := 51) (st' := [.inr (some (11, 0))]) (fun _ => rfl) ?_
        obtain ⟨h6, hg⟩ := hg
        refine ra.cV (F := (rf_work (rf_takeBack (-1 : Int32) a1 (xm_u2 (xm_u2 A 58 (y_ix a1) (4 : Int32)) 57 (y_ix a1) (A 0 0)) js).2.1 (rf_takeBack (-1 : Int32) a1 (xm_u2 (xm_u2 A 58 (y_ix a1) (4 : Int32)) 57 (y_ix a1) (A 0 0)) js).2.2)) (m := 132) (as := [.inr (some (11, 0))]) (nx := 54) (L' := [some (.inr (some (11, 0))), some (.inl a1), some (.inl (rf_takeBack (-1 : Int32) a1 (xm_u2 (xm_u2 A 58 (y_ix a1) (4 : Int32)) 57 (y_ix a1) (A 0 0)) js).1)]) (st' := []) (fun _ => rfl) (rh_workf (by omega) h6) ?_
        show ra _ _ _ _ [] (rf_work (rf_takeBack (-1 : Int32) a1 (xm_u2 (xm_u2 A 58 (y_ix a1) (4 : Int32)) 57 (y_ix a1) (A 0 0)) js).2.1 (rf_takeBack (-1 : Int32) a1 (xm_u2 (xm_u2 A 58 (y_ix a1) (4 : Int32)) 57 (y_ix a1) (A 0 0)) js).2.2).1 (rf_work (rf_takeBack (-1 : Int32) a1 (xm_u2 (xm_u2 A 58 (y_ix a1) (4 : Int32)) 57 (y_ix a1) (A 0 0)) js).2.1 (rf_takeBack (-1 : Int32) a1 (xm_u2 (xm_u2 A 58 (y_ix a1) (4 : Int32)) 57 (y_ix a1) (A 0 0)) js).2.2).2 _
        refine ra.s (pc' := 55) (st' := [.inl (rf_takeBack (-1 : Int32) a1 (xm_u2 (xm_u2 A 58 (y_ix a1) (4 : Int32)) 57 (y_ix a1) (A 0 0)) js).1]) (fun _ => rfl) ?_
        subst hk
        exact ra.ret (r := some (.inl (rf_takeBack (-1 : Int32) a1 (xm_u2 (xm_u2 A 58 (y_ix a1) (4 : Int32)) 57 (y_ix a1) (A 0 0)) js).1)) (fun _ => rfl) ⟨rfl, rfl, rfl⟩
      · skip
        refine ra.s (pc' := 25) (st' := [.inl (-4 : Int32)]) (fun _ => rfl) ?_
        subst hk
        exact ra.ret (r := some (.inl (-4 : Int32))) (fun _ => rfl) ⟨rfl, rfl, rfl⟩
    · skip
      refine ra.s (pc' := 13) (st' := [.inl (-1 : Int32)]) (fun _ => rfl) ?_
      subst hk
      exact ra.ret (r := some (.inl (-1 : Int32))) (fun _ => rfl) ⟨rfl, rfl, rfl⟩
/-- planDue -/
noncomputable def rf_planDue (a1 : Int32) (A : y_A) (js : List y_J) : y_A × List y_J := (if (A 102 (y_ix a1)) = (0 : Int32) then (if (((A 0 0) - (A 97 (y_ix a1))) - ((A 0 0) - (A 97 (y_ix a1))) / (A 94 (y_ix a1)) * (A 94 (y_ix a1))) = (0 : Int32) then (if (A 2 (y_ix (A 91 (y_ix a1)))) < (A 95 (y_ix a1)) then ((xm_u2 A 101 (y_ix a1) ((A 101 (y_ix a1)) + (1 : Int32))), js) else (if (A 2 (y_ix (A 91 (y_ix a1)))) ≤ (A 96 (y_ix a1)) then (if (A 50 0) = (60 : Int32) then ((xm_u2 A 100 (y_ix a1) ((A 100 (y_ix a1)) + (1 : Int32))), js) else ((xm_u2 (xm_u2 (rf_made (A 90 (y_ix a1)) (A 91 (y_ix a1)) (A 92 (y_ix a1)) (A 93 (y_ix a1)) (0 : Int32) A js).2.1 99 (y_ix a1) (rf_made (A 90 (y_ix a1)) (A 91 (y_ix a1)) (A 92 (y_ix a1)) (A 93 (y_ix a1)) (0 : Int32) A js).1) 98 (y_ix a1) (((rf_made (A 90 (y_ix a1)) (A 91 (y_ix a1)) (A 92 (y_ix a1)) (A 93 (y_ix a1)) (0 : Int32) A js).2.1 98 (y_ix a1)) + (1 : Int32))), (rf_made (A 90 (y_ix a1)) (A 91 (y_ix a1)) (A 92 (y_ix a1)) (A 93 (y_ix a1)) (0 : Int32) A js).2.2)) else ((xm_u2 A 101 (y_ix a1) ((A 101 (y_ix a1)) + (1 : Int32))), js))) else (A, js)) else (A, js))
def rg_planDue (a1 : Int32) (A : y_A) (js : List y_J) : Prop := (y_in a1 12) ∧ (((A 102 (y_ix a1)) = (0 : Int32) → (¬ (A 94 (y_ix a1)) = 0) ∧ (((((A 0 0) - (A 97 (y_ix a1))) - ((A 0 0) - (A 97 (y_ix a1))) / (A 94 (y_ix a1)) * (A 94 (y_ix a1))) = (0 : Int32) → (y_in (A 91 (y_ix a1)) 8) ∧ (((A 2 (y_ix (A 91 (y_ix a1)))) < (A 95 (y_ix a1)) → True) ∧ (¬ (A 2 (y_ix (A 91 (y_ix a1)))) < (A 95 (y_ix a1)) → (((A 2 (y_ix (A 91 (y_ix a1)))) ≤ (A 96 (y_ix a1)) → (((A 50 0) = (60 : Int32) → True) ∧ (¬ (A 50 0) = (60 : Int32) → (rg_made (A 90 (y_ix a1)) (A 91 (y_ix a1)) (A 92 (y_ix a1)) (A 93 (y_ix a1)) (0 : Int32) A js) ∧ True))) ∧ (¬ (A 2 (y_ix (A 91 (y_ix a1)))) ≤ (A 96 (y_ix a1)) → True))))) ∧ (¬ (((A 0 0) - (A 97 (y_ix a1))) - ((A 0 0) - (A 97 (y_ix a1))) / (A 94 (y_ix a1)) * (A 94 (y_ix a1))) = (0 : Int32) → True))) ∧ (¬ (A 102 (y_ix a1)) = (0 : Int32) → True))
theorem rh_planDue {d : Nat} (hd : 8 ≤ d) {a1 : Int32} {A : y_A} {js : List y_J} (hg : rg_planDue a1 A js) : rc d 167 [.inr (some (11, 0)), .inl a1] A js (y_V (rf_planDue a1 A js)) := by
  obtain ⟨d, rfl⟩ := Nat.exists_eq_add_of_le' hd
  obtain ⟨F, hk⟩ : ∃ F, rf_planDue a1 A js = F := ⟨_, rfl⟩
  rw [hk]
  show ra _ _ _ [some (.inr (some (11, 0))), some (.inl a1), none] _ _ _ _
  unfold rg_planDue at hg
  unfold rf_planDue at hk
  refine ra.s (pc' := 1) (st' := [.inr (some (11, 0))]) (fun _ => rfl) ?_
  refine ra.ga (x := 102) (nx := 4) (c := 14) (i := 8) rfl rfl ?_
  refine ra.s (pc' := 5) (st' := [.inl a1, .inr (some (14, 8))]) (fun _ => rfl) ?_
  obtain ⟨h1, hg⟩ := hg
  refine ra.lz (nx := 6) (v := (A 102 (y_ix a1))) 102 12 rfl rfl h1 rfl ?_
  refine ra.bn (c := (A 102 (y_ix a1)) = (0 : Int32)) (cd := .ne) (x := (A 102 (y_ix a1))) (y := (0 : Int32)) 30 9 (st' := []) (fun _ => rfl) (y_cne _ _) hk hg (fun h2 hg hk => ?_) (fun h2 hg hk => ?_)
  · skip
    refine ra.s (pc' := 10) (st' := [.inr (some (11, 0))]) (fun _ => rfl) ?_
    refine ra.gi (x := 0) (nx := 13) (v := (A 0 0)) rfl rfl rfl ?_
    refine ra.s (pc' := 14) (st' := [.inr (some (11, 0)), .inl (A 0 0)]) (fun _ => rfl) ?_
    refine ra.ga (x := 97) (nx := 17) (c := 13) (i := 75) rfl rfl ?_
    refine ra.s (pc' := 18) (st' := [.inl a1, .inr (some (13, 75)), .inl (A 0 0)]) (fun _ => rfl) ?_
    refine ra.ld (nx := 19) (v := (A 97 (y_ix a1))) 97 12 rfl rfl h1 rfl ?_
    refine ra.s (pc' := 20) (st' := [.inl ((A 0 0) - (A 97 (y_ix a1)))]) (fun _ => rfl) ?_
    refine ra.s (pc' := 21) (st' := [.inr (some (11, 0)), .inl ((A 0 0) - (A 97 (y_ix a1)))]) (fun _ => rfl) ?_
    refine ra.ga (x := 94) (nx := 24) (c := 13) (i := 72) rfl rfl ?_
    refine ra.s (pc' := 25) (st' := [.inl a1, .inr (some (13, 72)), .inl ((A 0 0) - (A 97 (y_ix a1)))]) (fun _ => rfl) ?_
    refine ra.ld (nx := 26) (v := (A 94 (y_ix a1))) 94 12 rfl rfl h1 rfl ?_
    obtain ⟨h3, hg⟩ := hg
    refine ra.rem (nx := 27) rfl h3 ?_
    refine ra.b (c := (((A 0 0) - (A 97 (y_ix a1))) - ((A 0 0) - (A 97 (y_ix a1))) / (A 94 (y_ix a1)) * (A 94 (y_ix a1))) = (0 : Int32)) (cd := .eq) (x := (((A 0 0) - (A 97 (y_ix a1))) - ((A 0 0) - (A 97 (y_ix a1))) / (A 94 (y_ix a1)) * (A 94 (y_ix a1)))) (y := (0 : Int32)) 31 30 (st' := []) (fun _ => rfl) (y_ceq _ _) hk hg (fun h4 hg hk => ?_) (fun h4 hg hk => ?_)
    · skip
      refine ra.s (pc' := 32) (st' := [.inr (some (11, 0))]) (fun _ => rfl) ?_
      refine ra.ga (x := 2) (nx := 35) (c := 13) (i := 0) rfl rfl ?_
      refine ra.s (pc' := 36) (st' := [.inr (some (11, 0)), .inr (some (13, 0))]) (fun _ => rfl) ?_
      refine ra.ga (x := 91) (nx := 39) (c := 13) (i := 69) rfl rfl ?_
      refine ra.s (pc' := 40) (st' := [.inl a1, .inr (some (13, 69)), .inr (some (13, 0))]) (fun _ => rfl) ?_
      refine ra.ld (nx := 41) (v := (A 91 (y_ix a1))) 91 12 rfl rfl h1 rfl ?_
      obtain ⟨h5, hg⟩ := hg
      refine ra.ld (nx := 42) (v := (A 2 (y_ix (A 91 (y_ix a1))))) 2 8 rfl rfl h5 rfl ?_
      refine ra.s (pc' := 43) (L' := [some (.inr (some (11, 0))), some (.inl a1), some (.inl (A 2 (y_ix (A 91 (y_ix a1)))))]) (st' := []) (fun _ => rfl) ?_
      refine ra.s (pc' := 44) (st' := [.inl (A 2 (y_ix (A 91 (y_ix a1))))]) (fun _ => rfl) ?_
      refine ra.s (pc' := 45) (st' := [.inr (some (11, 0)), .inl (A 2 (y_ix (A 91 (y_ix a1))))]) (fun _ => rfl) ?_
      refine ra.ga (x := 95) (nx := 48) (c := 13) (i := 73) rfl rfl ?_
      refine ra.s (pc' := 49) (st' := [.inl a1, .inr (some (13, 73)), .inl (A 2 (y_ix (A 91 (y_ix a1))))]) (fun _ => rfl) ?_
      refine ra.ld (nx := 50) (v := (A 95 (y_ix a1))) 95 12 rfl rfl h1 rfl ?_
      refine ra.b (c := (A 2 (y_ix (A 91 (y_ix a1)))) < (A 95 (y_ix a1))) (cd := .lt) (x := (A 2 (y_ix (A 91 (y_ix a1))))) (y := (A 95 (y_ix a1))) 63 53 (st' := []) (fun _ => rfl) (y_clt _ _) hk hg (fun h6 hg hk => ?_) (fun h6 hg hk => ?_)
      · skip
        refine ra.s (pc' := 64) (st' := [.inr (some (11, 0))]) (fun _ => rfl) ?_
        refine ra.ga (x := 101) (nx := 67) (c := 13) (i := 79) rfl rfl ?_
        refine ra.s (pc' := 68) (st' := [.inl a1, .inr (some (13, 79))]) (fun _ => rfl) ?_
        refine ra.s (pc' := 69) (st' := [.inl a1, .inr (some (13, 79)), .inl a1, .inr (some (13, 79))]) (fun _ => rfl) ?_
        refine ra.ld (nx := 70) (v := (A 101 (y_ix a1))) 101 12 rfl rfl h1 rfl ?_
        refine ra.s (pc' := 71) (st' := [.inl (1 : Int32), .inl (A 101 (y_ix a1)), .inl a1, .inr (some (13, 79))]) (fun _ => rfl) ?_
        refine ra.s (pc' := 72) (st' := [.inl ((A 101 (y_ix a1)) + (1 : Int32)), .inl a1, .inr (some (13, 79))]) (fun _ => rfl) ?_
        refine ra.si (nx := 73) 101 12 rfl rfl h1 ?_
        refine ra.s (pc' := 143) (st' := []) (fun _ => rfl) ?_
        subst hk
        exact ra.ret (r := none) (fun _ => rfl) ⟨rfl, rfl, rfl⟩
      · skip
        refine ra.s (pc' := 54) (st' := [.inl (A 2 (y_ix (A 91 (y_ix a1))))]) (fun _ => rfl) ?_
        refine ra.s (pc' := 55) (st' := [.inr (some (11, 0)), .inl (A 2 (y_ix (A 91 (y_ix a1))))]) (fun _ => rfl) ?_
        refine ra.ga (x := 96) (nx := 58) (c := 13) (i := 74) rfl rfl ?_
        refine ra.s (pc' := 59) (st' := [.inl a1, .inr (some (13, 74)), .inl (A 2 (y_ix (A 91 (y_ix a1))))]) (fun _ => rfl) ?_
        refine ra.ld (nx := 60) (v := (A 96 (y_ix a1))) 96 12 rfl rfl h1 rfl ?_
        refine ra.b (c := (A 2 (y_ix (A 91 (y_ix a1)))) ≤ (A 96 (y_ix a1))) (cd := .le) (x := (A 2 (y_ix (A 91 (y_ix a1))))) (y := (A 96 (y_ix a1))) 76 63 (st' := []) (fun _ => rfl) (y_cle _ _) hk hg (fun h7 hg hk => ?_) (fun h7 hg hk => ?_)
        · skip
          refine ra.s (pc' := 77) (st' := [.inr (some (11, 0))]) (fun _ => rfl) ?_
          refine ra.gi (x := 50) (nx := 80) (v := (A 50 0)) rfl rfl rfl ?_
          refine ra.s (pc' := 82) (st' := [.inl (60 : Int32), .inl (A 50 0)]) (fun _ => rfl) ?_
          refine ra.bn (c := (A 50 0) = (60 : Int32)) (cd := .ne) (x := (A 50 0)) (y := (60 : Int32)) 98 85 (st' := []) (fun _ => rfl) (y_cne _ _) hk hg (fun h8 hg hk => ?_) (fun h8 hg hk => ?_)
          · skip
            refine ra.s (pc' := 86) (st' := [.inr (some (11, 0))]) (fun _ => rfl) ?_
            refine ra.ga (x := 100) (nx := 89) (c := 13) (i := 78) rfl rfl ?_
            refine ra.s (pc' := 90) (st' := [.inl a1, .inr (some (13, 78))]) (fun _ => rfl) ?_
            refine ra.s (pc' := 91) (st' := [.inl a1, .inr (some (13, 78)), .inl a1, .inr (some (13, 78))]) (fun _ => rfl) ?_
            refine ra.ld (nx := 92) (v := (A 100 (y_ix a1))) 100 12 rfl rfl h1 rfl ?_
            refine ra.s (pc' := 93) (st' := [.inl (1 : Int32), .inl (A 100 (y_ix a1)), .inl a1, .inr (some (13, 78))]) (fun _ => rfl) ?_
            refine ra.s (pc' := 94) (st' := [.inl ((A 100 (y_ix a1)) + (1 : Int32)), .inl a1, .inr (some (13, 78))]) (fun _ => rfl) ?_
            refine ra.si (nx := 95) 100 12 rfl rfl h1 ?_
            refine ra.s (pc' := 143) (st' := []) (fun _ => rfl) ?_
            subst hk
            exact ra.ret (r := none) (fun _ => rfl) ⟨rfl, rfl, rfl⟩
          · skip
            refine ra.s (pc' := 99) (st' := [.inr (some (11, 0))]) (fun _ => rfl) ?_
            refine ra.ga (x := 99) (nx := 102) (c := 13) (i := 77) rfl rfl ?_
            refine ra.s (pc' := 103) (st' := [.inl a1, .inr (some (13, 77))]) (fun _ => rfl) ?_
            refine ra.s (pc' := 104) (st' := [.inr (some (11, 0)), .inl a1, .inr (some (13, 77))]) (fun _ => rfl) ?_
            refine ra.s (pc' := 105) (st' := [.inr (some (11, 0)), .inr (some (11, 0)), .inl a1, .inr (some (13, 77))]) (fun _ => rfl) ?_
            refine ra.ga (x := 90) (nx := 108) (c := 13) (i := 68) rfl rfl ?_
            refine ra.s (pc' := 109) (st' := [.inl a1, .inr (some (13, 68)), .inr (some (11, 0)), .inl a1, .inr (some (13, 77))]) (fun _ => rfl) ?_
            refine ra.ld (nx := 110) (v := (A 90 (y_ix a1))) 90 12 rfl rfl h1 rfl ?_
            refine ra.s (pc' := 111) (st' := [.inr (some (11, 0)), .inl (A 90 (y_ix a1)), .inr (some (11, 0)), .inl a1, .inr (some (13, 77))]) (fun _ => rfl) ?_
            refine ra.ga (x := 91) (nx := 114) (c := 13) (i := 69) rfl rfl ?_
            refine ra.s (pc' := 115) (st' := [.inl a1, .inr (some (13, 69)), .inl (A 90 (y_ix a1)), .inr (some (11, 0)), .inl a1, .inr (some (13, 77))]) (fun _ => rfl) ?_
            refine ra.ld (nx := 116) (v := (A 91 (y_ix a1))) 91 12 rfl rfl h1 rfl ?_
            refine ra.s (pc' := 117) (st' := [.inr (some (11, 0)), .inl (A 91 (y_ix a1)), .inl (A 90 (y_ix a1)), .inr (some (11, 0)), .inl a1, .inr (some (13, 77))]) (fun _ => rfl) ?_
            refine ra.ga (x := 92) (nx := 120) (c := 13) (i := 70) rfl rfl ?_
            refine ra.s (pc' := 121) (st' := [.inl a1, .inr (some (13, 70)), .inl (A 91 (y_ix a1)), .inl (A 90 (y_ix a1)), .inr (some (11, 0)), .inl a1, .inr (some (13, 77))]) (fun _ => rfl) ?_
            refine ra.ld (nx := 122) (v := (A 92 (y_ix a1))) 92 12 rfl rfl h1 rfl ?_
            refine ra.s (pc' := 123) (st' := [.inr (some (11, 0)), .inl (A 92 (y_ix a1)), .inl (A 91 (y_ix a1)), .inl (A 90 (y_ix a1)), .inr (some (11, 0)), .inl a1, .inr (some (13, 77))]) (fun _ => rfl) ?_
            refine ra.ga (x := 93) (nx := 126) (c := 13) (i := 71) rfl rfl ?_
            refine ra.s (pc' := 127) (st' := [.inl a1, .inr (some (13, 71)), .inl (A 92 (y_ix a1)), .inl (A 91 (y_ix a1)), .inl (A 90 (y_ix a1)), .inr (some (11, 0)), .inl a1, .inr (some (13, 77))]) (fun _ => rfl) ?_
            refine ra.ld (nx := 128) (v := (A 93 (y_ix a1))) 93 12 rfl rfl h1 rfl ?_
            refine ra.s (pc' := 129) (st' := [.inl (0 : Int32), .inl (A 93 (y_ix a1)), .inl (A 92 (y_ix a1)), .inl (A 91 (y_ix a1)), .inl (A 90 (y_ix a1)), .inr (some (11, 0)), .inl a1, .inr (some (13, 77))]) (fun _ => rfl) ?_
            obtain ⟨h9, hg⟩ := hg
            refine ra.cI (F := (rf_made (A 90 (y_ix a1)) (A 91 (y_ix a1)) (A 92 (y_ix a1)) (A 93 (y_ix a1)) (0 : Int32) A js)) (m := 130) (as := [.inr (some (11, 0)), .inl (A 90 (y_ix a1)), .inl (A 91 (y_ix a1)), .inl (A 92 (y_ix a1)), .inl (A 93 (y_ix a1)), .inl (0 : Int32)]) (nx := 132) (L' := [some (.inr (some (11, 0))), some (.inl a1), some (.inl (A 2 (y_ix (A 91 (y_ix a1)))))]) (st' := [.inl a1, .inr (some (13, 77))]) (fun _ => rfl) (rh_made (by omega) h9) ?_
            show ra _ _ _ _ [.inl (rf_made (A 90 (y_ix a1)) (A 91 (y_ix a1)) (A 92 (y_ix a1)) (A 93 (y_ix a1)) (0 : Int32) A js).1, .inl a1, .inr (some (13, 77))] (rf_made (A 90 (y_ix a1)) (A 91 (y_ix a1)) (A 92 (y_ix a1)) (A 93 (y_ix a1)) (0 : Int32) A js).2.1 (rf_made (A 90 (y_ix a1)) (A 91 (y_ix a1)) (A 92 (y_ix a1)) (A 93 (y_ix a1)) (0 : Int32) A js).2.2 _
            refine ra.si (nx := 133) 99 12 rfl rfl h1 ?_
            refine ra.s (pc' := 134) (st' := [.inr (some (11, 0))]) (fun _ => rfl) ?_
            refine ra.ga (x := 98) (nx := 137) (c := 13) (i := 76) rfl rfl ?_
            refine ra.s (pc' := 138) (st' := [.inl a1, .inr (some (13, 76))]) (fun _ => rfl) ?_
            refine ra.s (pc' := 139) (st' := [.inl a1, .inr (some (13, 76)), .inl a1, .inr (some (13, 76))]) (fun _ => rfl) ?_
            refine ra.ld (nx := 140) (v := ((rf_made (A 90 (y_ix a1)) (A 91 (y_ix a1)) (A 92 (y_ix a1)) (A 93 (y_ix a1)) (0 : Int32) A js).2.1 98 (y_ix a1))) 98 12 rfl rfl h1 rfl ?_
            refine ra.s (pc' := 141) (st' := [.inl (1 : Int32), .inl ((rf_made (A 90 (y_ix a1)) (A 91 (y_ix a1)) (A 92 (y_ix a1)) (A 93 (y_ix a1)) (0 : Int32) A js).2.1 98 (y_ix a1)), .inl a1, .inr (some (13, 76))]) (fun _ => rfl) ?_
            refine ra.s (pc' := 142) (st' := [.inl (((rf_made (A 90 (y_ix a1)) (A 91 (y_ix a1)) (A 92 (y_ix a1)) (A 93 (y_ix a1)) (0 : Int32) A js).2.1 98 (y_ix a1)) + (1 : Int32)), .inl a1, .inr (some (13, 76))]) (fun _ => rfl) ?_
            refine ra.si (nx := 143) 98 12 rfl rfl h1 ?_
            subst hk
            exact ra.ret (r := none) (fun _ => rfl) ⟨rfl, rfl, rfl⟩
        · skip
          refine ra.s (pc' := 64) (st' := [.inr (some (11, 0))]) (fun _ => rfl) ?_
          refine ra.ga (x := 101) (nx := 67) (c := 13) (i := 79) rfl rfl ?_
          refine ra.s (pc' := 68) (st' := [.inl a1, .inr (some (13, 79))]) (fun _ => rfl) ?_
          refine ra.s (pc' := 69) (st' := [.inl a1, .inr (some (13, 79)), .inl a1, .inr (some (13, 79))]) (fun _ => rfl) ?_
          refine ra.ld (nx := 70) (v := (A 101 (y_ix a1))) 101 12 rfl rfl h1 rfl ?_
          refine ra.s (pc' := 71) (st' := [.inl (1 : Int32), .inl (A 101 (y_ix a1)), .inl a1, .inr (some (13, 79))]) (fun _ => rfl) ?_
          refine ra.s (pc' := 72) (st' := [.inl ((A 101 (y_ix a1)) + (1 : Int32)), .inl a1, .inr (some (13, 79))]) (fun _ => rfl) ?_
          refine ra.si (nx := 73) 101 12 rfl rfl h1 ?_
          refine ra.s (pc' := 143) (st' := []) (fun _ => rfl) ?_
          subst hk
          exact ra.ret (r := none) (fun _ => rfl) ⟨rfl, rfl, rfl⟩
    · skip
      subst hk
      exact ra.ret (r := none) (fun _ => rfl) ⟨rfl, rfl, rfl⟩
  · skip
    subst hk
    exact ra.ret (r := none) (fun _ => rfl) ⟨rfl, rfl, rfl⟩
noncomputable def rf_tick_12 : Nat → Int32 → y_A → Int32 × y_A
  | 0, _, A => (0, A)
  | n + 1, l1, A => (if (A 30 0) ≤ l1 then (l1, A) else (if (A 31 (y_ix l1)) = (2 : Int32) then (if (A 32 (y_ix l1)) ≤ ((A 42 (y_ix l1)) + (A 33 (y_ix l1))) then (rf_tick_12 n (l1 + (1 : Int32)) (xm_u2 A 42 (y_ix l1) (A 32 (y_ix l1)))) else (rf_tick_12 n (l1 + (1 : Int32)) (xm_u2 A 42 (y_ix l1) ((A 42 (y_ix l1)) + (A 33 (y_ix l1)))))) else (rf_tick_12 n (l1 + (1 : Int32)) A)))
def rg_tick_12 : Nat → Int32 → y_A → Prop
  | 0, _, _ => False
  | n + 1, l1, A => (((A 30 0) ≤ l1 → True) ∧ (¬ (A 30 0) ≤ l1 → (y_in l1 24) ∧ (((A 31 (y_ix l1)) = (2 : Int32) → (((A 32 (y_ix l1)) ≤ ((A 42 (y_ix l1)) + (A 33 (y_ix l1))) → (rg_tick_12 n (l1 + (1 : Int32)) (xm_u2 A 42 (y_ix l1) (A 32 (y_ix l1))))) ∧ (¬ (A 32 (y_ix l1)) ≤ ((A 42 (y_ix l1)) + (A 33 (y_ix l1))) → (rg_tick_12 n (l1 + (1 : Int32)) (xm_u2 A 42 (y_ix l1) ((A 42 (y_ix l1)) + (A 33 (y_ix l1)))))))) ∧ (¬ (A 31 (y_ix l1)) = (2 : Int32) → (rg_tick_12 n (l1 + (1 : Int32)) A)))))
theorem rh_tick_12 {d : Nat} (hd : 9 ≤ d) {Q : Option xm_V → y_A → List y_J → Prop} {F : Int32 × y_A} (n : Nat) : ∀ (l1 : Int32) (e2 e3 : Option xm_V) (A : y_A) (js : List y_J), rg_tick_12 n l1 A → rf_tick_12 n l1 A = F → (∀ (z2 z3 : Option xm_V), ra d 164 86 [some (.inr (some (11, 0))), some (.inl F.1), z2, z3] [] F.2 js Q) → ra d 164 12 [some (.inr (some (11, 0))), some (.inl l1), e2, e3] [] A js Q := by
  obtain ⟨d, rfl⟩ := Nat.exists_eq_add_of_le' hd
  induction n with
  | zero => intro l1 e2 e3 A js hg; exact hg.elim
  | succ n ih =>
    intro l1 e2 e3 A js hg hk hE
    unfold rg_tick_12 at hg
    unfold rf_tick_12 at hk
    refine ra.s (pc' := 13) (st' := [.inl l1]) (fun _ => rfl) ?_
    refine ra.s (pc' := 14) (st' := [.inr (some (11, 0)), .inl l1]) (fun _ => rfl) ?_
    refine ra.gi (x := 30) (nx := 17) (v := (A 30 0)) rfl rfl rfl ?_
    refine ra.b (c := (A 30 0) ≤ l1) (cd := .ge) (x := l1) (y := (A 30 0)) 86 20 (st' := []) (fun _ => rfl) (y_cge _ _) hk hg (fun h1 hg hk => ?_) (fun h1 hg hk => ?_)
    · skip
      subst hk
      exact hE e2 e3
    · skip
      refine ra.s (pc' := 21) (st' := [.inr (some (11, 0))]) (fun _ => rfl) ?_
      refine ra.ga (x := 31) (nx := 24) (c := 13) (i := 24) rfl rfl ?_
      refine ra.s (pc' := 25) (st' := [.inl l1, .inr (some (13, 24))]) (fun _ => rfl) ?_
      obtain ⟨h2, hg⟩ := hg
      refine ra.ld (nx := 26) (v := (A 31 (y_ix l1))) 31 24 rfl rfl h2 rfl ?_
      refine ra.s (pc' := 27) (st' := [.inl (2 : Int32), .inl (A 31 (y_ix l1))]) (fun _ => rfl) ?_
      refine ra.bn (c := (A 31 (y_ix l1)) = (2 : Int32)) (cd := .ne) (x := (A 31 (y_ix l1))) (y := (2 : Int32)) 80 30 (st' := []) (fun _ => rfl) (y_cne _ _) hk hg (fun h3 hg hk => ?_) (fun h3 hg hk => ?_)
      · skip
        refine ra.s (pc' := 31) (st' := [.inr (some (11, 0))]) (fun _ => rfl) ?_
        refine ra.ga (x := 42) (nx := 34) (c := 13) (i := 35) rfl rfl ?_
        refine ra.s (pc' := 35) (st' := [.inl l1, .inr (some (13, 35))]) (fun _ => rfl) ?_
        refine ra.s (pc' := 36) (st' := [.inr (some (11, 0)), .inl l1, .inr (some (13, 35))]) (fun _ => rfl) ?_
        refine ra.ga (x := 42) (nx := 39) (c := 13) (i := 35) rfl rfl ?_
        refine ra.s (pc' := 40) (st' := [.inl l1, .inr (some (13, 35)), .inl l1, .inr (some (13, 35))]) (fun _ => rfl) ?_
        refine ra.ld (nx := 41) (v := (A 42 (y_ix l1))) 42 24 rfl rfl h2 rfl ?_
        refine ra.s (pc' := 42) (st' := [.inr (some (11, 0)), .inl (A 42 (y_ix l1)), .inl l1, .inr (some (13, 35))]) (fun _ => rfl) ?_
        refine ra.ga (x := 33) (nx := 45) (c := 13) (i := 26) rfl rfl ?_
        refine ra.s (pc' := 46) (st' := [.inl l1, .inr (some (13, 26)), .inl (A 42 (y_ix l1)), .inl l1, .inr (some (13, 35))]) (fun _ => rfl) ?_
        refine ra.ld (nx := 47) (v := (A 33 (y_ix l1))) 33 24 rfl rfl h2 rfl ?_
        refine ra.s (pc' := 48) (st' := [.inl ((A 42 (y_ix l1)) + (A 33 (y_ix l1))), .inl l1, .inr (some (13, 35))]) (fun _ => rfl) ?_
        refine ra.s (pc' := 49) (st' := [.inr (some (11, 0)), .inl ((A 42 (y_ix l1)) + (A 33 (y_ix l1))), .inl l1, .inr (some (13, 35))]) (fun _ => rfl) ?_
        refine ra.ga (x := 32) (nx := 52) (c := 13) (i := 25) rfl rfl ?_
        refine ra.s (pc' := 53) (st' := [.inl l1, .inr (some (13, 25)), .inl ((A 42 (y_ix l1)) + (A 33 (y_ix l1))), .inl l1, .inr (some (13, 35))]) (fun _ => rfl) ?_
        refine ra.ld (nx := 54) (v := (A 32 (y_ix l1))) 32 24 rfl rfl h2 rfl ?_
        refine ra.b (c := (A 32 (y_ix l1)) ≤ ((A 42 (y_ix l1)) + (A 33 (y_ix l1)))) (cd := .ge) (x := ((A 42 (y_ix l1)) + (A 33 (y_ix l1)))) (y := (A 32 (y_ix l1))) 73 57 (st' := [.inl l1, .inr (some (13, 35))]) (fun _ => rfl) (y_cge _ _) hk hg (fun h4 hg hk => ?_) (fun h4 hg hk => ?_)
        · skip
          refine ra.s (pc' := 74) (st' := [.inr (some (11, 0)), .inl l1, .inr (some (13, 35))]) (fun _ => rfl) ?_
          refine ra.ga (x := 32) (nx := 77) (c := 13) (i := 25) rfl rfl ?_
          refine ra.s (pc' := 78) (st' := [.inl l1, .inr (some (13, 25)), .inl l1, .inr (some (13, 35))]) (fun _ => rfl) ?_
          refine ra.ld (nx := 79) (v := (A 32 (y_ix l1))) 32 24 rfl rfl h2 rfl ?_
          refine ra.si (nx := 80) 42 24 rfl rfl h2 ?_
          refine ra.s (pc' := 83) (L' := [some (.inr (some (11, 0))), some (.inl (l1 + (1 : Int32))), e2, e3]) (st' := []) (fun _ => rfl) ?_
          refine ra.s (pc' := 12) (st' := []) (fun _ => rfl) ?_
          exact ih (l1 + (1 : Int32)) e2 e3 (xm_u2 A 42 (y_ix l1) (A 32 (y_ix l1))) js hg hk hE
        · skip
          refine ra.s (pc' := 58) (st' := [.inr (some (11, 0)), .inl l1, .inr (some (13, 35))]) (fun _ => rfl) ?_
          refine ra.ga (x := 42) (nx := 61) (c := 13) (i := 35) rfl rfl ?_
          refine ra.s (pc' := 62) (st' := [.inl l1, .inr (some (13, 35)), .inl l1, .inr (some (13, 35))]) (fun _ => rfl) ?_
          refine ra.ld (nx := 63) (v := (A 42 (y_ix l1))) 42 24 rfl rfl h2 rfl ?_
          refine ra.s (pc' := 64) (st' := [.inr (some (11, 0)), .inl (A 42 (y_ix l1)), .inl l1, .inr (some (13, 35))]) (fun _ => rfl) ?_
          refine ra.ga (x := 33) (nx := 67) (c := 13) (i := 26) rfl rfl ?_
          refine ra.s (pc' := 68) (st' := [.inl l1, .inr (some (13, 26)), .inl (A 42 (y_ix l1)), .inl l1, .inr (some (13, 35))]) (fun _ => rfl) ?_
          refine ra.ld (nx := 69) (v := (A 33 (y_ix l1))) 33 24 rfl rfl h2 rfl ?_
          refine ra.s (pc' := 70) (st' := [.inl ((A 42 (y_ix l1)) + (A 33 (y_ix l1))), .inl l1, .inr (some (13, 35))]) (fun _ => rfl) ?_
          refine ra.s (pc' := 79) (st' := [.inl ((A 42 (y_ix l1)) + (A 33 (y_ix l1))), .inl l1, .inr (some (13, 35))]) (fun _ => rfl) ?_
          refine ra.si (nx := 80) 42 24 rfl rfl h2 ?_
          refine ra.s (pc' := 83) (L' := [some (.inr (some (11, 0))), some (.inl (l1 + (1 : Int32))), e2, e3]) (st' := []) (fun _ => rfl) ?_
          refine ra.s (pc' := 12) (st' := []) (fun _ => rfl) ?_
          exact ih (l1 + (1 : Int32)) e2 e3 (xm_u2 A 42 (y_ix l1) ((A 42 (y_ix l1)) + (A 33 (y_ix l1)))) js hg hk hE
      · skip
        refine ra.s (pc' := 83) (L' := [some (.inr (some (11, 0))), some (.inl (l1 + (1 : Int32))), e2, e3]) (st' := []) (fun _ => rfl) ?_
        refine ra.s (pc' := 12) (st' := []) (fun _ => rfl) ?_
        exact ih (l1 + (1 : Int32)) e2 e3 A js hg hk hE
noncomputable def rf_tick_95 : Nat → Int32 → Int32 → y_A → List y_J → Int32 × y_A × List y_J
  | 0, _, _, A, js => (0, A, js)
  | n + 1, l1, l2, A, js => (if (A 61 0) ≤ l2 then (l2, A, js) else (if (A 69 (y_ix l2)) = (0 : Int32) then (if (A 72 (y_ix l2)) = (A 0 0) then (if (0 : Int32) ≤ (A 65 (y_ix l2)) then (if l1 = (0 : Int32) then (if (A 31 (y_ix (A 65 (y_ix l2)))) = (-1 : Int32) then (rf_tick_95 n l1 (l2 + (1 : Int32)) (rf_work (rf_tryEnds l2 A js).1 (rf_tryEnds l2 A js).2).1 (rf_work (rf_tryEnds l2 A js).1 (rf_tryEnds l2 A js).2).2) else (rf_tick_95 n l1 (l2 + (1 : Int32)) (rf_work A js).1 (rf_work A js).2)) else (if l1 = (1 : Int32) then (if (A 31 (y_ix (A 65 (y_ix l2)))) = (3 : Int32) then (rf_tick_95 n l1 (l2 + (1 : Int32)) (rf_work (rf_late l2 A js).1 (rf_late l2 A js).2).1 (rf_work (rf_late l2 A js).1 (rf_late l2 A js).2).2) else (rf_tick_95 n l1 (l2 + (1 : Int32)) (rf_work A js).1 (rf_work A js).2)) else (if l1 = (2 : Int32) then (if (A 31 (y_ix (A 65 (y_ix l2)))) = (5 : Int32) then (if (A 73 (y_ix l2)) = (1 : Int32) then (rf_tick_95 n l1 (l2 + (1 : Int32)) (rf_work A (((0 : Int32), (A 62 (y_ix l2)), ((A 63 (y_ix l2)) + (1 : Int32)), l2, (-1 : Int32)) :: js)).1 (rf_work A (((0 : Int32), (A 62 (y_ix l2)), ((A 63 (y_ix l2)) + (1 : Int32)), l2, (-1 : Int32)) :: js)).2) else (rf_tick_95 n l1 (l2 + (1 : Int32)) (rf_work A js).1 (rf_work A js).2)) else (rf_tick_95 n l1 (l2 + (1 : Int32)) (rf_work A js).1 (rf_work A js).2)) else (if l1 = (3 : Int32) then (if (A 31 (y_ix (A 65 (y_ix l2)))) = (4 : Int32) then (if (A 76 (y_ix l2)) = (0 : Int32) then (rf_tick_95 n l1 (l2 + (1 : Int32)) (rf_work A js).1 (rf_work A js).2) else (rf_tick_95 n l1 (l2 + (1 : Int32)) (rf_work (xm_u2 A 76 (y_ix l2) (0 : Int32)) (((0 : Int32), (A 62 (y_ix l2)), ((A 63 (y_ix l2)) + (1 : Int32)), l2, (-1 : Int32)) :: js)).1 (rf_work (xm_u2 A 76 (y_ix l2) (0 : Int32)) (((0 : Int32), (A 62 (y_ix l2)), ((A 63 (y_ix l2)) + (1 : Int32)), l2, (-1 : Int32)) :: js)).2)) else (rf_tick_95 n l1 (l2 + (1 : Int32)) (rf_work A js).1 (rf_work A js).2)) else (rf_tick_95 n l1 (l2 + (1 : Int32)) (rf_work A js).1 (rf_work A js).2))))) else (if l1 = (0 : Int32) then (rf_tick_95 n l1 (l2 + (1 : Int32)) (rf_work (rf_tryEnds l2 A js).1 (rf_tryEnds l2 A js).2).1 (rf_work (rf_tryEnds l2 A js).1 (rf_tryEnds l2 A js).2).2) else (if l1 = (1 : Int32) then (rf_tick_95 n l1 (l2 + (1 : Int32)) (rf_work A js).1 (rf_work A js).2) else (if l1 = (2 : Int32) then (rf_tick_95 n l1 (l2 + (1 : Int32)) (rf_work A js).1 (rf_work A js).2) else (if l1 = (3 : Int32) then (rf_tick_95 n l1 (l2 + (1 : Int32)) (rf_work A js).1 (rf_work A js).2) else (rf_tick_95 n l1 (l2 + (1 : Int32)) (rf_work A js).1 (rf_work A js).2)))))) else (rf_tick_95 n l1 (l2 + (1 : Int32)) A js)) else (rf_tick_95 n l1 (l2 + (1 : Int32)) A js)))
def rg_tick_95 : Nat → Int32 → Int32 → y_A → List y_J → Prop
  | 0, _, _, _, _ => False
  | n + 1, l1, l2, A, js => (((A 61 0) ≤ l2 → True) ∧ (¬ (A 61 0) ≤ l2 → (y_in l2 4400) ∧ (((A 69 (y_ix l2)) = (0 : Int32) → (((A 72 (y_ix l2)) = (A 0 0) → (((0 : Int32) ≤ (A 65 (y_ix l2)) → (y_in (A 65 (y_ix l2)) 24) ∧ ((l1 = (0 : Int32) → (((A 31 (y_ix (A 65 (y_ix l2)))) = (-1 : Int32) → (rg_tryEnds l2 A js) ∧ (rg_work (rf_tryEnds l2 A js).1 (rf_tryEnds l2 A js).2) ∧ (rg_tick_95 n l1 (l2 + (1 : Int32)) (rf_work (rf_tryEnds l2 A js).1 (rf_tryEnds l2 A js).2).1 (rf_work (rf_tryEnds l2 A js).1 (rf_tryEnds l2 A js).2).2)) ∧ (¬ (A 31 (y_ix (A 65 (y_ix l2)))) = (-1 : Int32) → (rg_work A js) ∧ (rg_tick_95 n l1 (l2 + (1 : Int32)) (rf_work A js).1 (rf_work A js).2)))) ∧ (¬ l1 = (0 : Int32) → ((l1 = (1 : Int32) → (((A 31 (y_ix (A 65 (y_ix l2)))) = (3 : Int32) → (rg_late l2 A js) ∧ (rg_work (rf_late l2 A js).1 (rf_late l2 A js).2) ∧ (rg_tick_95 n l1 (l2 + (1 : Int32)) (rf_work (rf_late l2 A js).1 (rf_late l2 A js).2).1 (rf_work (rf_late l2 A js).1 (rf_late l2 A js).2).2)) ∧ (¬ (A 31 (y_ix (A 65 (y_ix l2)))) = (3 : Int32) → (rg_work A js) ∧ (rg_tick_95 n l1 (l2 + (1 : Int32)) (rf_work A js).1 (rf_work A js).2)))) ∧ (¬ l1 = (1 : Int32) → ((l1 = (2 : Int32) → (((A 31 (y_ix (A 65 (y_ix l2)))) = (5 : Int32) → (((A 73 (y_ix l2)) = (1 : Int32) → (rg_goesIn l2 A js) ∧ (rg_work A (((0 : Int32), (A 62 (y_ix l2)), ((A 63 (y_ix l2)) + (1 : Int32)), l2, (-1 : Int32)) :: js)) ∧ (rg_tick_95 n l1 (l2 + (1 : Int32)) (rf_work A (((0 : Int32), (A 62 (y_ix l2)), ((A 63 (y_ix l2)) + (1 : Int32)), l2, (-1 : Int32)) :: js)).1 (rf_work A (((0 : Int32), (A 62 (y_ix l2)), ((A 63 (y_ix l2)) + (1 : Int32)), l2, (-1 : Int32)) :: js)).2)) ∧ (¬ (A 73 (y_ix l2)) = (1 : Int32) → (rg_work A js) ∧ (rg_tick_95 n l1 (l2 + (1 : Int32)) (rf_work A js).1 (rf_work A js).2)))) ∧ (¬ (A 31 (y_ix (A 65 (y_ix l2)))) = (5 : Int32) → (rg_work A js) ∧ (rg_tick_95 n l1 (l2 + (1 : Int32)) (rf_work A js).1 (rf_work A js).2)))) ∧ (¬ l1 = (2 : Int32) → ((l1 = (3 : Int32) → (((A 31 (y_ix (A 65 (y_ix l2)))) = (4 : Int32) → (((A 76 (y_ix l2)) = (0 : Int32) → (rg_work A js) ∧ (rg_tick_95 n l1 (l2 + (1 : Int32)) (rf_work A js).1 (rf_work A js).2)) ∧ (¬ (A 76 (y_ix l2)) = (0 : Int32) → (rg_goesIn l2 (xm_u2 A 76 (y_ix l2) (0 : Int32)) js) ∧ (rg_work (xm_u2 A 76 (y_ix l2) (0 : Int32)) (((0 : Int32), (A 62 (y_ix l2)), ((A 63 (y_ix l2)) + (1 : Int32)), l2, (-1 : Int32)) :: js)) ∧ (rg_tick_95 n l1 (l2 + (1 : Int32)) (rf_work (xm_u2 A 76 (y_ix l2) (0 : Int32)) (((0 : Int32), (A 62 (y_ix l2)), ((A 63 (y_ix l2)) + (1 : Int32)), l2, (-1 : Int32)) :: js)).1 (rf_work (xm_u2 A 76 (y_ix l2) (0 : Int32)) (((0 : Int32), (A 62 (y_ix l2)), ((A 63 (y_ix l2)) + (1 : Int32)), l2, (-1 : Int32)) :: js)).2)))) ∧ (¬ (A 31 (y_ix (A 65 (y_ix l2)))) = (4 : Int32) → (rg_work A js) ∧ (rg_tick_95 n l1 (l2 + (1 : Int32)) (rf_work A js).1 (rf_work A js).2)))) ∧ (¬ l1 = (3 : Int32) → (rg_work A js) ∧ (rg_tick_95 n l1 (l2 + (1 : Int32)) (rf_work A js).1 (rf_work A js).2)))))))))) ∧ (¬ (0 : Int32) ≤ (A 65 (y_ix l2)) → ((l1 = (0 : Int32) → (rg_tryEnds l2 A js) ∧ (rg_work (rf_tryEnds l2 A js).1 (rf_tryEnds l2 A js).2) ∧ (rg_tick_95 n l1 (l2 + (1 : Int32)) (rf_work (rf_tryEnds l2 A js).1 (rf_tryEnds l2 A js).2).1 (rf_work (rf_tryEnds l2 A js).1 (rf_tryEnds l2 A js).2).2)) ∧ (¬ l1 = (0 : Int32) → ((l1 = (1 : Int32) → (rg_work A js) ∧ (rg_tick_95 n l1 (l2 + (1 : Int32)) (rf_work A js).1 (rf_work A js).2)) ∧ (¬ l1 = (1 : Int32) → ((l1 = (2 : Int32) → (rg_work A js) ∧ (rg_tick_95 n l1 (l2 + (1 : Int32)) (rf_work A js).1 (rf_work A js).2)) ∧ (¬ l1 = (2 : Int32) → ((l1 = (3 : Int32) → (rg_work A js) ∧ (rg_tick_95 n l1 (l2 + (1 : Int32)) (rf_work A js).1 (rf_work A js).2)) ∧ (¬ l1 = (3 : Int32) → (rg_work A js) ∧ (rg_tick_95 n l1 (l2 + (1 : Int32)) (rf_work A js).1 (rf_work A js).2)))))))))))) ∧ (¬ (A 72 (y_ix l2)) = (A 0 0) → (rg_tick_95 n l1 (l2 + (1 : Int32)) A js)))) ∧ (¬ (A 69 (y_ix l2)) = (0 : Int32) → (rg_tick_95 n l1 (l2 + (1 : Int32)) A js)))))
theorem rh_tick_95 {d : Nat} (hd : 9 ≤ d) {Q : Option xm_V → y_A → List y_J → Prop} {F : Int32 × y_A × List y_J} (n : Nat) : ∀ (l1 l2 : Int32) (e3 : Option xm_V) (A : y_A) (js : List y_J), rg_tick_95 n l1 l2 A js → rf_tick_95 n l1 l2 A js = F → (∀ (z3 : Option xm_V), ra d 164 248 [some (.inr (some (11, 0))), some (.inl l1), some (.inl F.1), z3] [] F.2.1 F.2.2 Q) → ra d 164 95 [some (.inr (some (11, 0))), some (.inl l1), some (.inl l2), e3] [] A js Q := by
  obtain ⟨d, rfl⟩ := Nat.exists_eq_add_of_le' hd
  induction n with
  | zero => intro l1 l2 e3 A js hg; exact hg.elim
  | succ n ih =>
    intro l1 l2 e3 A js hg hk hE
    unfold rg_tick_95 at hg
    unfold rf_tick_95 at hk
    refine ra.s (pc' := 96) (st' := [.inl l2]) (fun _ => rfl) ?_
    refine ra.s (pc' := 97) (st' := [.inr (some (11, 0)), .inl l2]) (fun _ => rfl) ?_
    refine ra.gi (x := 61) (nx := 100) (v := (A 61 0)) rfl rfl rfl ?_
    refine ra.b (c := (A 61 0) ≤ l2) (cd := .ge) (x := l2) (y := (A 61 0)) 248 103 (st' := []) (fun _ => rfl) (y_cge _ _) hk hg (fun h1 hg hk => ?_) (fun h1 hg hk => ?_)
    · skip
      subst hk
      exact hE e3
    · skip
      refine ra.s (pc' := 104) (st' := [.inr (some (11, 0))]) (fun _ => rfl) ?_
      refine ra.ga (x := 69) (nx := 107) (c := 13) (i := 57) rfl rfl ?_
      refine ra.s (pc' := 108) (st' := [.inl l2, .inr (some (13, 57))]) (fun _ => rfl) ?_
      obtain ⟨h2, hg⟩ := hg
      refine ra.ld (nx := 109) (v := (A 69 (y_ix l2))) 69 4400 rfl rfl h2 rfl ?_
      refine ra.bn (c := (A 69 (y_ix l2)) = (0 : Int32)) (cd := .ne) (x := (A 69 (y_ix l2))) (y := (0 : Int32)) 242 112 (st' := []) (fun _ => rfl) (y_cne _ _) hk hg (fun h3 hg hk => ?_) (fun h3 hg hk => ?_)
      · skip
        refine ra.s (pc' := 113) (st' := [.inr (some (11, 0))]) (fun _ => rfl) ?_
        refine ra.ga (x := 72) (nx := 116) (c := 13) (i := 59) rfl rfl ?_
        refine ra.s (pc' := 117) (st' := [.inl l2, .inr (some (13, 59))]) (fun _ => rfl) ?_
        refine ra.ld (nx := 118) (v := (A 72 (y_ix l2))) 72 4400 rfl rfl h2 rfl ?_
        refine ra.s (pc' := 119) (st' := [.inr (some (11, 0)), .inl (A 72 (y_ix l2))]) (fun _ => rfl) ?_
        refine ra.gi (x := 0) (nx := 122) (v := (A 0 0)) rfl rfl rfl ?_
        refine ra.b (c := (A 72 (y_ix l2)) = (A 0 0)) (cd := .eq) (x := (A 72 (y_ix l2))) (y := (A 0 0)) 128 125 (st' := []) (fun _ => rfl) (y_ceq _ _) hk hg (fun h4 hg hk => ?_) (fun h4 hg hk => ?_)
        · skip
          refine ra.s (pc' := 129) (st' := [.inr (some (11, 0))]) (fun _ => rfl) ?_
          refine ra.ga (x := 65) (nx := 132) (c := 13) (i := 53) rfl rfl ?_
          refine ra.s (pc' := 133) (st' := [.inl l2, .inr (some (13, 53))]) (fun _ => rfl) ?_
          refine ra.ld (nx := 134) (v := (A 65 (y_ix l2))) 65 4400 rfl rfl h2 rfl ?_
          refine ra.b (c := (0 : Int32) ≤ (A 65 (y_ix l2))) (cd := .ge) (x := (A 65 (y_ix l2))) (y := (0 : Int32)) 141 137 (st' := []) (fun _ => rfl) (y_cge _ _) hk hg (fun h5 hg hk => ?_) (fun h5 hg hk => ?_)
          · skip
            refine ra.s (pc' := 142) (st' := [.inr (some (11, 0))]) (fun _ => rfl) ?_
            refine ra.ga (x := 31) (nx := 145) (c := 13) (i := 24) rfl rfl ?_
            refine ra.s (pc' := 146) (st' := [.inr (some (11, 0)), .inr (some (13, 24))]) (fun _ => rfl) ?_
            refine ra.ga (x := 65) (nx := 149) (c := 13) (i := 53) rfl rfl ?_
            refine ra.s (pc' := 150) (st' := [.inl l2, .inr (some (13, 53)), .inr (some (13, 24))]) (fun _ => rfl) ?_
            refine ra.ld (nx := 151) (v := (A 65 (y_ix l2))) 65 4400 rfl rfl h2 rfl ?_
            obtain ⟨h6, hg⟩ := hg
            refine ra.ld (nx := 152) (v := (A 31 (y_ix (A 65 (y_ix l2))))) 31 24 rfl rfl h6 rfl ?_
            refine ra.s (pc' := 153) (L' := [some (.inr (some (11, 0))), some (.inl l1), some (.inl l2), some (.inl (A 31 (y_ix (A 65 (y_ix l2)))))]) (st' := []) (fun _ => rfl) ?_
            refine ra.s (pc' := 154) (st' := [.inl l1]) (fun _ => rfl) ?_
            refine ra.bn (c := l1 = (0 : Int32)) (cd := .ne) (x := l1) (y := (0 : Int32)) 167 157 (st' := []) (fun _ => rfl) (y_cne _ _) hk hg (fun h7 hg hk => ?_) (fun h7 hg hk => ?_)
            · skip
              refine ra.s (pc' := 158) (st' := [.inl (A 31 (y_ix (A 65 (y_ix l2))))]) (fun _ => rfl) ?_
              refine ra.s (pc' := 159) (st' := [.inl (-1 : Int32), .inl (A 31 (y_ix (A 65 (y_ix l2))))]) (fun _ => rfl) ?_
              refine ra.bn (c := (A 31 (y_ix (A 65 (y_ix l2)))) = (-1 : Int32)) (cd := .ne) (x := (A 31 (y_ix (A 65 (y_ix l2))))) (y := (-1 : Int32)) 167 162 (st' := []) (fun _ => rfl) (y_cne _ _) hk hg (fun h8 hg hk => ?_) (fun h8 hg hk => ?_)
              · skip
                refine ra.s (pc' := 163) (st' := [.inr (some (11, 0))]) (fun _ => rfl) ?_
                refine ra.s (pc' := 164) (st' := [.inl l2, .inr (some (11, 0))]) (fun _ => rfl) ?_
                obtain ⟨h9, hg⟩ := hg
                refine ra.cV (F := (rf_tryEnds l2 A js)) (m := 165) (as := [.inr (some (11, 0)), .inl l2]) (nx := 167) (L' := [some (.inr (some (11, 0))), some (.inl l1), some (.inl l2), some (.inl (A 31 (y_ix (A 65 (y_ix l2)))))]) (st' := []) (fun _ => rfl) (rh_tryEnds (by omega) h9) ?_
                show ra _ _ _ _ [] (rf_tryEnds l2 A js).1 (rf_tryEnds l2 A js).2 _
                refine ra.s (pc' := 168) (st' := [.inl l1]) (fun _ => rfl) ?_
                refine ra.s (pc' := 169) (st' := [.inl (1 : Int32), .inl l1]) (fun _ => rfl) ?_
                refine ra.bt (cd := .ne) (x := l1) (y := (1 : Int32)) 182 172 (st' := []) (fun _ => rfl) (y_cne _ _) (fun z => absurd (h7.symm.trans z) (by decide)) ?_
                refine ra.s (pc' := 183) (st' := [.inl l1]) (fun _ => rfl) ?_
                refine ra.s (pc' := 184) (st' := [.inl (2 : Int32), .inl l1]) (fun _ => rfl) ?_
                refine ra.bt (cd := .ne) (x := l1) (y := (2 : Int32)) 207 187 (st' := []) (fun _ => rfl) (y_cne _ _) (fun z => absurd (h7.symm.trans z) (by decide)) ?_
                refine ra.s (pc' := 208) (st' := [.inl l1]) (fun _ => rfl) ?_
                refine ra.s (pc' := 209) (st' := [.inl (3 : Int32), .inl l1]) (fun _ => rfl) ?_
                refine ra.bt (cd := .ne) (x := l1) (y := (3 : Int32)) 238 212 (st' := []) (fun _ => rfl) (y_cne _ _) (fun z => absurd (h7.symm.trans z) (by decide)) ?_
                refine ra.s (pc' := 239) (st' := [.inr (some (11, 0))]) (fun _ => rfl) ?_
                obtain ⟨h10, hg⟩ := hg
                refine ra.cV (F := (rf_work (rf_tryEnds l2 A js).1 (rf_tryEnds l2 A js).2)) (m := 132) (as := [.inr (some (11, 0))]) (nx := 242) (L' := [some (.inr (some (11, 0))), some (.inl l1), some (.inl l2), some (.inl (A 31 (y_ix (A 65 (y_ix l2)))))]) (st' := []) (fun _ => rfl) (rh_workf (by omega) h10) ?_
                show ra _ _ _ _ [] (rf_work (rf_tryEnds l2 A js).1 (rf_tryEnds l2 A js).2).1 (rf_work (rf_tryEnds l2 A js).1 (rf_tryEnds l2 A js).2).2 _
                refine ra.s (pc' := 245) (L' := [some (.inr (some (11, 0))), some (.inl l1), some (.inl (l2 + (1 : Int32))), some (.inl (A 31 (y_ix (A 65 (y_ix l2)))))]) (st' := []) (fun _ => rfl) ?_
                refine ra.s (pc' := 95) (st' := []) (fun _ => rfl) ?_
                exact ih l1 (l2 + (1 : Int32)) (some (.inl (A 31 (y_ix (A 65 (y_ix l2)))))) (rf_work (rf_tryEnds l2 A js).1 (rf_tryEnds l2 A js).2).1 (rf_work (rf_tryEnds l2 A js).1 (rf_tryEnds l2 A js).2).2 hg hk hE
              · skip
                refine ra.s (pc' := 168) (st' := [.inl l1]) (fun _ => rfl) ?_
                refine ra.s (pc' := 169) (st' := [.inl (1 : Int32), .inl l1]) (fun _ => rfl) ?_
                refine ra.bt (cd := .ne) (x := l1) (y := (1 : Int32)) 182 172 (st' := []) (fun _ => rfl) (y_cne _ _) (fun z => absurd (h7.symm.trans z) (by decide)) ?_
                refine ra.s (pc' := 183) (st' := [.inl l1]) (fun _ => rfl) ?_
                refine ra.s (pc' := 184) (st' := [.inl (2 : Int32), .inl l1]) (fun _ => rfl) ?_
                refine ra.bt (cd := .ne) (x := l1) (y := (2 : Int32)) 207 187 (st' := []) (fun _ => rfl) (y_cne _ _) (fun z => absurd (h7.symm.trans z) (by decide)) ?_
                refine ra.s (pc' := 208) (st' := [.inl l1]) (fun _ => rfl) ?_
                refine ra.s (pc' := 209) (st' := [.inl (3 : Int32), .inl l1]) (fun _ => rfl) ?_
                refine ra.bt (cd := .ne) (x := l1) (y := (3 : Int32)) 238 212 (st' := []) (fun _ => rfl) (y_cne _ _) (fun z => absurd (h7.symm.trans z) (by decide)) ?_
                refine ra.s (pc' := 239) (st' := [.inr (some (11, 0))]) (fun _ => rfl) ?_
                obtain ⟨h11, hg⟩ := hg
                refine ra.cV (F := (rf_work A js)) (m := 132) (as := [.inr (some (11, 0))]) (nx := 242) (L' := [some (.inr (some (11, 0))), some (.inl l1), some (.inl l2), some (.inl (A 31 (y_ix (A 65 (y_ix l2)))))]) (st' := []) (fun _ => rfl) (rh_workf (by omega) h11) ?_
                show ra _ _ _ _ [] (rf_work A js).1 (rf_work A js).2 _
                refine ra.s (pc' := 245) (L' := [some (.inr (some (11, 0))), some (.inl l1), some (.inl (l2 + (1 : Int32))), some (.inl (A 31 (y_ix (A 65 (y_ix l2)))))]) (st' := []) (fun _ => rfl) ?_
                refine ra.s (pc' := 95) (st' := []) (fun _ => rfl) ?_
                exact ih l1 (l2 + (1 : Int32)) (some (.inl (A 31 (y_ix (A 65 (y_ix l2)))))) (rf_work A js).1 (rf_work A js).2 hg hk hE
            · skip
              refine ra.s (pc' := 168) (st' := [.inl l1]) (fun _ => rfl) ?_
              refine ra.s (pc' := 169) (st' := [.inl (1 : Int32), .inl l1]) (fun _ => rfl) ?_
              refine ra.bn (c := l1 = (1 : Int32)) (cd := .ne) (x := l1) (y := (1 : Int32)) 182 172 (st' := []) (fun _ => rfl) (y_cne _ _) hk hg (fun h12 hg hk => ?_) (fun h12 hg hk => ?_)
              · skip
                refine ra.s (pc' := 173) (st' := [.inl (A 31 (y_ix (A 65 (y_ix l2))))]) (fun _ => rfl) ?_
                refine ra.s (pc' := 174) (st' := [.inl (3 : Int32), .inl (A 31 (y_ix (A 65 (y_ix l2))))]) (fun _ => rfl) ?_
                refine ra.bn (c := (A 31 (y_ix (A 65 (y_ix l2)))) = (3 : Int32)) (cd := .ne) (x := (A 31 (y_ix (A 65 (y_ix l2))))) (y := (3 : Int32)) 182 177 (st' := []) (fun _ => rfl) (y_cne _ _) hk hg (fun h13 hg hk => ?_) (fun h13 hg hk => ?_)
                · skip
                  refine ra.s (pc' := 178) (st' := [.inr (some (11, 0))]) (fun _ => rfl) ?_
                  refine ra.s (pc' := 179) (st' := [.inl l2, .inr (some (11, 0))]) (fun _ => rfl) ?_
                  obtain ⟨h14, hg⟩ := hg
                  refine ra.cV (F := (rf_late l2 A js)) (m := 166) (as := [.inr (some (11, 0)), .inl l2]) (nx := 182) (L' := [some (.inr (some (11, 0))), some (.inl l1), some (.inl l2), some (.inl (A 31 (y_ix (A 65 (y_ix l2)))))]) (st' := []) (fun _ => rfl) (rh_late (by omega) h14) ?_
                  show ra _ _ _ _ [] (rf_late l2 A js).1 (rf_late l2 A js).2 _
                  refine ra.s (pc' := 183) (st' := [.inl l1]) (fun _ => rfl) ?_
                  refine ra.s (pc' := 184) (st' := [.inl (2 : Int32), .inl l1]) (fun _ => rfl) ?_
                  refine ra.bt (cd := .ne) (x := l1) (y := (2 : Int32)) 207 187 (st' := []) (fun _ => rfl) (y_cne _ _) (fun z => absurd (h12.symm.trans z) (by decide)) ?_
                  refine ra.s (pc' := 208) (st' := [.inl l1]) (fun _ => rfl) ?_
                  refine ra.s (pc' := 209) (st' := [.inl (3 : Int32), .inl l1]) (fun _ => rfl) ?_
                  refine ra.bt (cd := .ne) (x := l1) (y := (3 : Int32)) 238 212 (st' := []) (fun _ => rfl) (y_cne _ _) (fun z => absurd (h12.symm.trans z) (by decide)) ?_
                  refine ra.s (pc' := 239) (st' := [.inr (some (11, 0))]) (fun _ => rfl) ?_
                  obtain ⟨h15, hg⟩ := hg
                  refine ra.cV (F := (rf_work (rf_late l2 A js).1 (rf_late l2 A js).2)) (m := 132) (as := [.inr (some (11, 0))]) (nx := 242) (L' := [some (.inr (some (11, 0))), some (.inl l1), some (.inl l2), some (.inl (A 31 (y_ix (A 65 (y_ix l2)))))]) (st' := []) (fun _ => rfl) (rh_workf (by omega) h15) ?_
                  show ra _ _ _ _ [] (rf_work (rf_late l2 A js).1 (rf_late l2 A js).2).1 (rf_work (rf_late l2 A js).1 (rf_late l2 A js).2).2 _
                  refine ra.s (pc' := 245) (L' := [some (.inr (some (11, 0))), some (.inl l1), some (.inl (l2 + (1 : Int32))), some (.inl (A 31 (y_ix (A 65 (y_ix l2)))))]) (st' := []) (fun _ => rfl) ?_
                  refine ra.s (pc' := 95) (st' := []) (fun _ => rfl) ?_
                  exact ih l1 (l2 + (1 : Int32)) (some (.inl (A 31 (y_ix (A 65 (y_ix l2)))))) (rf_work (rf_late l2 A js).1 (rf_late l2 A js).2).1 (rf_work (rf_late l2 A js).1 (rf_late l2 A js).2).2 hg hk hE
                · skip
                  refine ra.s (pc' := 183) (st' := [.inl l1]) (fun _ => rfl) ?_
                  refine ra.s (pc' := 184) (st' := [.inl (2 : Int32), .inl l1]) (fun _ => rfl) ?_
                  refine ra.bt (cd := .ne) (x := l1) (y := (2 : Int32)) 207 187 (st' := []) (fun _ => rfl) (y_cne _ _) (fun z => absurd (h12.symm.trans z) (by decide)) ?_
                  refine ra.s (pc' := 208) (st' := [.inl l1]) (fun _ => rfl) ?_
                  refine ra.s (pc' := 209) (st' := [.inl (3 : Int32), .inl l1]) (fun _ => rfl) ?_
                  refine ra.bt (cd := .ne) (x := l1) (y := (3 : Int32)) 238 212 (st' := []) (fun _ => rfl) (y_cne _ _) (fun z => absurd (h12.symm.trans z) (by decide)) ?_
                  refine ra.s (pc' := 239) (st' := [.inr (some (11, 0))]) (fun _ => rfl) ?_
                  obtain ⟨h16, hg⟩ := hg
                  refine ra.cV (F := (rf_work A js)) (m := 132) (as := [.inr (some (11, 0))]) (nx := 242) (L' := [some (.inr (some (11, 0))), some (.inl l1), some (.inl l2), some (.inl (A 31 (y_ix (A 65 (y_ix l2)))))]) (st' := []) (fun _ => rfl) (rh_workf (by omega) h16) ?_
                  show ra _ _ _ _ [] (rf_work A js).1 (rf_work A js).2 _
                  refine ra.s (pc' := 245) (L' := [some (.inr (some (11, 0))), some (.inl l1), some (.inl (l2 + (1 : Int32))), some (.inl (A 31 (y_ix (A 65 (y_ix l2)))))]) (st' := []) (fun _ => rfl) ?_
                  refine ra.s (pc' := 95) (st' := []) (fun _ => rfl) ?_
                  exact ih l1 (l2 + (1 : Int32)) (some (.inl (A 31 (y_ix (A 65 (y_ix l2)))))) (rf_work A js).1 (rf_work A js).2 hg hk hE
              · skip
                refine ra.s (pc' := 183) (st' := [.inl l1]) (fun _ => rfl) ?_
                refine ra.s (pc' := 184) (st' := [.inl (2 : Int32), .inl l1]) (fun _ => rfl) ?_
                refine ra.bn (c := l1 = (2 : Int32)) (cd := .ne) (x := l1) (y := (2 : Int32)) 207 187 (st' := []) (fun _ => rfl) (y_cne _ _) hk hg (fun h17 hg hk => ?_) (fun h17 hg hk => ?_)
                · skip
                  refine ra.s (pc' := 188) (st' := [.inl (A 31 (y_ix (A 65 (y_ix l2))))]) (fun _ => rfl) ?_
                  refine ra.s (pc' := 189) (st' := [.inl (5 : Int32), .inl (A 31 (y_ix (A 65 (y_ix l2))))]) (fun _ => rfl) ?_
                  refine ra.bn (c := (A 31 (y_ix (A 65 (y_ix l2)))) = (5 : Int32)) (cd := .ne) (x := (A 31 (y_ix (A 65 (y_ix l2))))) (y := (5 : Int32)) 207 192 (st' := []) (fun _ => rfl) (y_cne _ _) hk hg (fun h18 hg hk => ?_) (fun h18 hg hk => ?_)
                  · skip
                    refine ra.s (pc' := 193) (st' := [.inr (some (11, 0))]) (fun _ => rfl) ?_
                    refine ra.ga (x := 73) (nx := 196) (c := 13) (i := 60) rfl rfl ?_
                    refine ra.s (pc' := 197) (st' := [.inl l2, .inr (some (13, 60))]) (fun _ => rfl) ?_
                    refine ra.ld (nx := 198) (v := (A 73 (y_ix l2))) 73 4400 rfl rfl h2 rfl ?_
                    refine ra.s (pc' := 199) (st' := [.inl (1 : Int32), .inl (A 73 (y_ix l2))]) (fun _ => rfl) ?_
                    refine ra.bn (c := (A 73 (y_ix l2)) = (1 : Int32)) (cd := .ne) (x := (A 73 (y_ix l2))) (y := (1 : Int32)) 207 202 (st' := []) (fun _ => rfl) (y_cne _ _) hk hg (fun h19 hg hk => ?_) (fun h19 hg hk => ?_)
                    · skip
                      refine ra.s (pc' := 203) (st' := [.inr (some (11, 0))]) (fun _ => rfl) ?_
                      refine ra.s (pc' := 204) (st' := [.inl l2, .inr (some (11, 0))]) (fun _ => rfl) ?_
                      obtain ⟨h20, hg⟩ := hg
                      refine ra.cV (F := (rf_goesIn l2 A js)) (m := 136) (as := [.inr (some (11, 0)), .inl l2]) (nx := 207) (L' := [some (.inr (some (11, 0))), some (.inl l1), some (.inl l2), some (.inl (A 31 (y_ix (A 65 (y_ix l2)))))]) (st' := []) (fun _ => rfl) (rh_goesIn (by omega) h20) ?_
                      show ra _ _ _ _ [] A (((0 : Int32), (A 62 (y_ix l2)), ((A 63 (y_ix l2)) + (1 : Int32)), l2, (-1 : Int32)) :: js) _
                      refine ra.s (pc' := 208) (st' := [.inl l1]) (fun _ => rfl) ?_
                      refine ra.s (pc' := 209) (st' := [.inl (3 : Int32), .inl l1]) (fun _ => rfl) ?_
                      refine ra.bt (cd := .ne) (x := l1) (y := (3 : Int32)) 238 212 (st' := []) (fun _ => rfl) (y_cne _ _) (fun z => absurd (h17.symm.trans z) (by decide)) ?_
                      refine ra.s (pc' := 239) (st' := [.inr (some (11, 0))]) (fun _ => rfl) ?_
                      obtain ⟨h21, hg⟩ := hg
                      refine ra.cV (F := (rf_work A (((0 : Int32), (A 62 (y_ix l2)), ((A 63 (y_ix l2)) + (1 : Int32)), l2, (-1 : Int32)) :: js))) (m := 132) (as := [.inr (some (11, 0))]) (nx := 242) (L' := [some (.inr (some (11, 0))), some (.inl l1), some (.inl l2), some (.inl (A 31 (y_ix (A 65 (y_ix l2)))))]) (st' := []) (fun _ => rfl) (rh_workf (by omega) h21) ?_
                      show ra _ _ _ _ [] (rf_work A (((0 : Int32), (A 62 (y_ix l2)), ((A 63 (y_ix l2)) + (1 : Int32)), l2, (-1 : Int32)) :: js)).1 (rf_work A (((0 : Int32), (A 62 (y_ix l2)), ((A 63 (y_ix l2)) + (1 : Int32)), l2, (-1 : Int32)) :: js)).2 _
                      refine ra.s (pc' := 245) (L' := [some (.inr (some (11, 0))), some (.inl l1), some (.inl (l2 + (1 : Int32))), some (.inl (A 31 (y_ix (A 65 (y_ix l2)))))]) (st' := []) (fun _ => rfl) ?_
                      refine ra.s (pc' := 95) (st' := []) (fun _ => rfl) ?_
                      exact ih l1 (l2 + (1 : Int32)) (some (.inl (A 31 (y_ix (A 65 (y_ix l2)))))) (rf_work A (((0 : Int32), (A 62 (y_ix l2)), ((A 63 (y_ix l2)) + (1 : Int32)), l2, (-1 : Int32)) :: js)).1 (rf_work A (((0 : Int32), (A 62 (y_ix l2)), ((A 63 (y_ix l2)) + (1 : Int32)), l2, (-1 : Int32)) :: js)).2 hg hk hE
                    · skip
                      refine ra.s (pc' := 208) (st' := [.inl l1]) (fun _ => rfl) ?_
                      refine ra.s (pc' := 209) (st' := [.inl (3 : Int32), .inl l1]) (fun _ => rfl) ?_
                      refine ra.bt (cd := .ne) (x := l1) (y := (3 : Int32)) 238 212 (st' := []) (fun _ => rfl) (y_cne _ _) (fun z => absurd (h17.symm.trans z) (by decide)) ?_
                      refine ra.s (pc' := 239) (st' := [.inr (some (11, 0))]) (fun _ => rfl) ?_
                      obtain ⟨h22, hg⟩ := hg
                      refine ra.cV (F := (rf_work A js)) (m := 132) (as := [.inr (some (11, 0))]) (nx := 242) (L' := [some (.inr (some (11, 0))), some (.inl l1), some (.inl l2), some (.inl (A 31 (y_ix (A 65 (y_ix l2)))))]) (st' := []) (fun _ => rfl) (rh_workf (by omega) h22) ?_
                      show ra _ _ _ _ [] (rf_work A js).1 (rf_work A js).2 _
                      refine ra.s (pc' := 245) (L' := [some (.inr (some (11, 0))), some (.inl l1), some (.inl (l2 + (1 : Int32))), some (.inl (A 31 (y_ix (A 65 (y_ix l2)))))]) (st' := []) (fun _ => rfl) ?_
                      refine ra.s (pc' := 95) (st' := []) (fun _ => rfl) ?_
                      exact ih l1 (l2 + (1 : Int32)) (some (.inl (A 31 (y_ix (A 65 (y_ix l2)))))) (rf_work A js).1 (rf_work A js).2 hg hk hE
                  · skip
                    refine ra.s (pc' := 208) (st' := [.inl l1]) (fun _ => rfl) ?_
                    refine ra.s (pc' := 209) (st' := [.inl (3 : Int32), .inl l1]) (fun _ => rfl) ?_
                    refine ra.bt (cd := .ne) (x := l1) (y := (3 : Int32)) 238 212 (st' := []) (fun _ => rfl) (y_cne _ _) (fun z => absurd (h17.symm.trans z) (by decide)) ?_
                    refine ra.s (pc' := 239) (st' := [.inr (some (11, 0))]) (fun _ => rfl) ?_
                    obtain ⟨h23, hg⟩ := hg
                    refine ra.cV (F := (rf_work A js)) (m := 132) (as := [.inr (some (11, 0))]) (nx := 242) (L' := [some (.inr (some (11, 0))), some (.inl l1), some (.inl l2), some (.inl (A 31 (y_ix (A 65 (y_ix l2)))))]) (st' := []) (fun _ => rfl) (rh_workf (by omega) h23) ?_
                    show ra _ _ _ _ [] (rf_work A js).1 (rf_work A js).2 _
                    refine ra.s (pc' := 245) (L' := [some (.inr (some (11, 0))), some (.inl l1), some (.inl (l2 + (1 : Int32))), some (.inl (A 31 (y_ix (A 65 (y_ix l2)))))]) (st' := []) (fun _ => rfl) ?_
                    refine ra.s (pc' := 95) (st' := []) (fun _ => rfl) ?_
                    exact ih l1 (l2 + (1 : Int32)) (some (.inl (A 31 (y_ix (A 65 (y_ix l2)))))) (rf_work A js).1 (rf_work A js).2 hg hk hE
                · skip
                  refine ra.s (pc' := 208) (st' := [.inl l1]) (fun _ => rfl) ?_
                  refine ra.s (pc' := 209) (st' := [.inl (3 : Int32), .inl l1]) (fun _ => rfl) ?_
                  refine ra.bn (c := l1 = (3 : Int32)) (cd := .ne) (x := l1) (y := (3 : Int32)) 238 212 (st' := []) (fun _ => rfl) (y_cne _ _) hk hg (fun h24 hg hk => ?_) (fun h24 hg hk => ?_)
                  · skip
                    refine ra.s (pc' := 213) (st' := [.inl (A 31 (y_ix (A 65 (y_ix l2))))]) (fun _ => rfl) ?_
                    refine ra.s (pc' := 214) (st' := [.inl (4 : Int32), .inl (A 31 (y_ix (A 65 (y_ix l2))))]) (fun _ => rfl) ?_
                    refine ra.bn (c := (A 31 (y_ix (A 65 (y_ix l2)))) = (4 : Int32)) (cd := .ne) (x := (A 31 (y_ix (A 65 (y_ix l2))))) (y := (4 : Int32)) 238 217 (st' := []) (fun _ => rfl) (y_cne _ _) hk hg (fun h25 hg hk => ?_) (fun h25 hg hk => ?_)
                    · skip
                      refine ra.s (pc' := 218) (st' := [.inr (some (11, 0))]) (fun _ => rfl) ?_
                      refine ra.ga (x := 76) (nx := 221) (c := 14) (i := 3) rfl rfl ?_
                      refine ra.s (pc' := 222) (st' := [.inl l2, .inr (some (14, 3))]) (fun _ => rfl) ?_
                      refine ra.lz (nx := 223) (v := (A 76 (y_ix l2))) 76 4400 rfl rfl h2 rfl ?_
                      refine ra.b (c := (A 76 (y_ix l2)) = (0 : Int32)) (cd := .eq) (x := (A 76 (y_ix l2))) (y := (0 : Int32)) 238 226 (st' := []) (fun _ => rfl) (y_ceq _ _) hk hg (fun h26 hg hk => ?_) (fun h26 hg hk => ?_)
                      · skip
                        refine ra.s (pc' := 239) (st' := [.inr (some (11, 0))]) (fun _ => rfl) ?_
                        obtain ⟨h27, hg⟩ := hg
                        refine ra.cV (F := (rf_work A js)) (m := 132) (as := [.inr (some (11, 0))]) (nx := 242) (L' := [some (.inr (some (11, 0))), some (.inl l1), some (.inl l2), some (.inl (A 31 (y_ix (A 65 (y_ix l2)))))]) (st' := []) (fun _ => rfl) (rh_workf (by omega) h27) ?_
                        show ra _ _ _ _ [] (rf_work A js).1 (rf_work A js).2 _
                        refine ra.s (pc' := 245) (L' := [some (.inr (some (11, 0))), some (.inl l1), some (.inl (l2 + (1 : Int32))), some (.inl (A 31 (y_ix (A 65 (y_ix l2)))))]) (st' := []) (fun _ => rfl) ?_
                        refine ra.s (pc' := 95) (st' := []) (fun _ => rfl) ?_
                        exact ih l1 (l2 + (1 : Int32)) (some (.inl (A 31 (y_ix (A 65 (y_ix l2)))))) (rf_work A js).1 (rf_work A js).2 hg hk hE
                      · skip
                        refine ra.s (pc' := 227) (st' := [.inr (some (11, 0))]) (fun _ => rfl) ?_
                        refine ra.ga (x := 76) (nx := 230) (c := 14) (i := 3) rfl rfl ?_
                        refine ra.s (pc' := 231) (st' := [.inl l2, .inr (some (14, 3))]) (fun _ => rfl) ?_
                        refine ra.s (pc' := 232) (st' := [.inl (0 : Int32), .inl l2, .inr (some (14, 3))]) (fun _ => rfl) ?_
                        refine ra.sz (nx := 233) 76 4400 rfl rfl h2 (Or.inl rfl) ?_
                        refine ra.s (pc' := 234) (st' := [.inr (some (11, 0))]) (fun _ => rfl) ?_
                        refine ra.s (pc' := 235) (st' := [.inl l2, .inr (some (11, 0))]) (fun _ => rfl) ?_
                        obtain ⟨h28, hg⟩ := hg
                        refine ra.cV (F := (rf_goesIn l2 (xm_u2 A 76 (y_ix l2) (0 : Int32)) js)) (m := 136) (as := [.inr (some (11, 0)), .inl l2]) (nx := 238) (L' := [some (.inr (some (11, 0))), some (.inl l1), some (.inl l2), some (.inl (A 31 (y_ix (A 65 (y_ix l2)))))]) (st' := []) (fun _ => rfl) (rh_goesIn (by omega) h28) ?_
                        show ra _ _ _ _ [] (xm_u2 A 76 (y_ix l2) (0 : Int32)) (((0 : Int32), (A 62 (y_ix l2)), ((A 63 (y_ix l2)) + (1 : Int32)), l2, (-1 : Int32)) :: js) _
                        refine ra.s (pc' := 239) (st' := [.inr (some (11, 0))]) (fun _ => rfl) ?_
                        obtain ⟨h29, hg⟩ := hg
                        refine ra.cV (F := (rf_work (xm_u2 A 76 (y_ix l2) (0 : Int32)) (((0 : Int32), (A 62 (y_ix l2)), ((A 63 (y_ix l2)) + (1 : Int32)), l2, (-1 : Int32)) :: js))) (m := 132) (as := [.inr (some (11, 0))]) (nx := 242) (L' := [some (.inr (some (11, 0))), some (.inl l1), some (.inl l2), some (.inl (A 31 (y_ix (A 65 (y_ix l2)))))]) (st' := []) (fun _ => rfl) (rh_workf (by omega) h29) ?_
                        show ra _ _ _ _ [] (rf_work (xm_u2 A 76 (y_ix l2) (0 : Int32)) (((0 : Int32), (A 62 (y_ix l2)), ((A 63 (y_ix l2)) + (1 : Int32)), l2, (-1 : Int32)) :: js)).1 (rf_work (xm_u2 A 76 (y_ix l2) (0 : Int32)) (((0 : Int32), (A 62 (y_ix l2)), ((A 63 (y_ix l2)) + (1 : Int32)), l2, (-1 : Int32)) :: js)).2 _
                        refine ra.s (pc' := 245) (L' := [some (.inr (some (11, 0))), some (.inl l1), some (.inl (l2 + (1 : Int32))), some (.inl (A 31 (y_ix (A 65 (y_ix l2)))))]) (st' := []) (fun _ => rfl) ?_
                        refine ra.s (pc' := 95) (st' := []) (fun _ => rfl) ?_
                        exact ih l1 (l2 + (1 : Int32)) (some (.inl (A 31 (y_ix (A 65 (y_ix l2)))))) (rf_work (xm_u2 A 76 (y_ix l2) (0 : Int32)) (((0 : Int32), (A 62 (y_ix l2)), ((A 63 (y_ix l2)) + (1 : Int32)), l2, (-1 : Int32)) :: js)).1 (rf_work (xm_u2 A 76 (y_ix l2) (0 : Int32)) (((0 : Int32), (A 62 (y_ix l2)), ((A 63 (y_ix l2)) + (1 : Int32)), l2, (-1 : Int32)) :: js)).2 hg hk hE
                    · skip
                      refine ra.s (pc' := 239) (st' := [.inr (some (11, 0))]) (fun _ => rfl) ?_
                      obtain ⟨h30, hg⟩ := hg
                      refine ra.cV (F := (rf_work A js)) (m := 132) (as := [.inr (some (11, 0))]) (nx := 242) (L' := [some (.inr (some (11, 0))), some (.inl l1), some (.inl l2), some (.inl (A 31 (y_ix (A 65 (y_ix l2)))))]) (st' := []) (fun _ => rfl) (rh_workf (by omega) h30) ?_
                      show ra _ _ _ _ [] (rf_work A js).1 (rf_work A js).2 _
                      refine ra.s (pc' := 245) (L' := [some (.inr (some (11, 0))), some (.inl l1), some (.inl (l2 + (1 : Int32))), some (.inl (A 31 (y_ix (A 65 (y_ix l2)))))]) (st' := []) (fun _ => rfl) ?_
                      refine ra.s (pc' := 95) (st' := []) (fun _ => rfl) ?_
                      exact ih l1 (l2 + (1 : Int32)) (some (.inl (A 31 (y_ix (A 65 (y_ix l2)))))) (rf_work A js).1 (rf_work A js).2 hg hk hE
                  · skip
                    refine ra.s (pc' := 239) (st' := [.inr (some (11, 0))]) (fun _ => rfl) ?_
                    obtain ⟨h31, hg⟩ := hg
                    refine ra.cV (F := (rf_work A js)) (m := 132) (as := [.inr (some (11, 0))]) (nx := 242) (L' := [some (.inr (some (11, 0))), some (.inl l1), some (.inl l2), some (.inl (A 31 (y_ix (A 65 (y_ix l2)))))]) (st' := []) (fun _ => rfl) (rh_workf (by omega) h31) ?_
                    show ra _ _ _ _ [] (rf_work A js).1 (rf_work A js).2 _
                    refine ra.s (pc' := 245) (L' := [some (.inr (some (11, 0))), some (.inl l1), some (.inl (l2 + (1 : Int32))), some (.inl (A 31 (y_ix (A 65 (y_ix l2)))))]) (st' := []) (fun _ => rfl) ?_
                    refine ra.s (pc' := 95) (st' := []) (fun _ => rfl) ?_
                    exact ih l1 (l2 + (1 : Int32)) (some (.inl (A 31 (y_ix (A 65 (y_ix l2)))))) (rf_work A js).1 (rf_work A js).2 hg hk hE
          · skip
            refine ra.s (pc' := 138) (st' := [.inl (-1 : Int32)]) (fun _ => rfl) ?_
            refine ra.s (pc' := 152) (st' := [.inl (-1 : Int32)]) (fun _ => rfl) ?_
            refine ra.s (pc' := 153) (L' := [some (.inr (some (11, 0))), some (.inl l1), some (.inl l2), some (.inl (-1 : Int32))]) (st' := []) (fun _ => rfl) ?_
            refine ra.s (pc' := 154) (st' := [.inl l1]) (fun _ => rfl) ?_
            refine ra.bn (c := l1 = (0 : Int32)) (cd := .ne) (x := l1) (y := (0 : Int32)) 167 157 (st' := []) (fun _ => rfl) (y_cne _ _) hk hg (fun h32 hg hk => ?_) (fun h32 hg hk => ?_)
            · skip
              refine ra.s (pc' := 158) (st' := [.inl (-1 : Int32)]) (fun _ => rfl) ?_
              refine ra.s (pc' := 159) (st' := [.inl (-1 : Int32), .inl (-1 : Int32)]) (fun _ => rfl) ?_
              refine ra.bf (cd := .ne) (x := (-1 : Int32)) (y := (-1 : Int32)) 167 162 (st' := []) (fun _ => rfl) (y_cne _ _) (by decide) ?_
              refine ra.s (pc' := 163) (st' := [.inr (some (11, 0))]) (fun _ => rfl) ?_
              refine ra.s (pc' := 164) (st' := [.inl l2, .inr (some (11, 0))]) (fun _ => rfl) ?_
              obtain ⟨h33, hg⟩ := hg
              refine ra.cV (F := (rf_tryEnds l2 A js)) (m := 165) (as := [.inr (some (11, 0)), .inl l2]) (nx := 167) (L' := [some (.inr (some (11, 0))), some (.inl l1), some (.inl l2), some (.inl (-1 : Int32))]) (st' := []) (fun _ => rfl) (rh_tryEnds (by omega) h33) ?_
              show ra _ _ _ _ [] (rf_tryEnds l2 A js).1 (rf_tryEnds l2 A js).2 _
              refine ra.s (pc' := 168) (st' := [.inl l1]) (fun _ => rfl) ?_
              refine ra.s (pc' := 169) (st' := [.inl (1 : Int32), .inl l1]) (fun _ => rfl) ?_
              refine ra.bt (cd := .ne) (x := l1) (y := (1 : Int32)) 182 172 (st' := []) (fun _ => rfl) (y_cne _ _) (fun z => absurd (h32.symm.trans z) (by decide)) ?_
              refine ra.s (pc' := 183) (st' := [.inl l1]) (fun _ => rfl) ?_
              refine ra.s (pc' := 184) (st' := [.inl (2 : Int32), .inl l1]) (fun _ => rfl) ?_
              refine ra.bt (cd := .ne) (x := l1) (y := (2 : Int32)) 207 187 (st' := []) (fun _ => rfl) (y_cne _ _) (fun z => absurd (h32.symm.trans z) (by decide)) ?_
              refine ra.s (pc' := 208) (st' := [.inl l1]) (fun _ => rfl) ?_
              refine ra.s (pc' := 209) (st' := [.inl (3 : Int32), .inl l1]) (fun _ => rfl) ?_
              refine ra.bt (cd := .ne) (x := l1) (y := (3 : Int32)) 238 212 (st' := []) (fun _ => rfl) (y_cne _ _) (fun z => absurd (h32.symm.trans z) (by decide)) ?_
              refine ra.s (pc' := 239) (st' := [.inr (some (11, 0))]) (fun _ => rfl) ?_
              obtain ⟨h34, hg⟩ := hg
              refine ra.cV (F := (rf_work (rf_tryEnds l2 A js).1 (rf_tryEnds l2 A js).2)) (m := 132) (as := [.inr (some (11, 0))]) (nx := 242) (L' := [some (.inr (some (11, 0))), some (.inl l1), some (.inl l2), some (.inl (-1 : Int32))]) (st' := []) (fun _ => rfl) (rh_workf (by omega) h34) ?_
              show ra _ _ _ _ [] (rf_work (rf_tryEnds l2 A js).1 (rf_tryEnds l2 A js).2).1 (rf_work (rf_tryEnds l2 A js).1 (rf_tryEnds l2 A js).2).2 _
              refine ra.s (pc' := 245) (L' := [some (.inr (some (11, 0))), some (.inl l1), some (.inl (l2 + (1 : Int32))), some (.inl (-1 : Int32))]) (st' := []) (fun _ => rfl) ?_
              refine ra.s (pc' := 95) (st' := []) (fun _ => rfl) ?_
              exact ih l1 (l2 + (1 : Int32)) (some (.inl (-1 : Int32))) (rf_work (rf_tryEnds l2 A js).1 (rf_tryEnds l2 A js).2).1 (rf_work (rf_tryEnds l2 A js).1 (rf_tryEnds l2 A js).2).2 hg hk hE
            · skip
              refine ra.s (pc' := 168) (st' := [.inl l1]) (fun _ => rfl) ?_
              refine ra.s (pc' := 169) (st' := [.inl (1 : Int32), .inl l1]) (fun _ => rfl) ?_
              refine ra.bn (c := l1 = (1 : Int32)) (cd := .ne) (x := l1) (y := (1 : Int32)) 182 172 (st' := []) (fun _ => rfl) (y_cne _ _) hk hg (fun h35 hg hk => ?_) (fun h35 hg hk => ?_)
              · skip
                refine ra.s (pc' := 173) (st' := [.inl (-1 : Int32)]) (fun _ => rfl) ?_
                refine ra.s (pc' := 174) (st' := [.inl (3 : Int32), .inl (-1 : Int32)]) (fun _ => rfl) ?_
                refine ra.bt (cd := .ne) (x := (-1 : Int32)) (y := (3 : Int32)) 182 177 (st' := []) (fun _ => rfl) (y_cne _ _) (by decide) ?_
                refine ra.s (pc' := 183) (st' := [.inl l1]) (fun _ => rfl) ?_
                refine ra.s (pc' := 184) (st' := [.inl (2 : Int32), .inl l1]) (fun _ => rfl) ?_
                refine ra.bt (cd := .ne) (x := l1) (y := (2 : Int32)) 207 187 (st' := []) (fun _ => rfl) (y_cne _ _) (fun z => absurd (h35.symm.trans z) (by decide)) ?_
                refine ra.s (pc' := 208) (st' := [.inl l1]) (fun _ => rfl) ?_
                refine ra.s (pc' := 209) (st' := [.inl (3 : Int32), .inl l1]) (fun _ => rfl) ?_
                refine ra.bt (cd := .ne) (x := l1) (y := (3 : Int32)) 238 212 (st' := []) (fun _ => rfl) (y_cne _ _) (fun z => absurd (h35.symm.trans z) (by decide)) ?_
                refine ra.s (pc' := 239) (st' := [.inr (some (11, 0))]) (fun _ => rfl) ?_
                obtain ⟨h36, hg⟩ := hg
                refine ra.cV (F := (rf_work A js)) (m := 132) (as := [.inr (some (11, 0))]) (nx := 242) (L' := [some (.inr (some (11, 0))), some (.inl l1), some (.inl l2), some (.inl (-1 : Int32))]) (st' := []) (fun _ => rfl) (rh_workf (by omega) h36) ?_
                show ra _ _ _ _ [] (rf_work A js).1 (rf_work A js).2 _
                refine ra.s (pc' := 245) (L' := [some (.inr (some (11, 0))), some (.inl l1), some (.inl (l2 + (1 : Int32))), some (.inl (-1 : Int32))]) (st' := []) (fun _ => rfl) ?_
                refine ra.s (pc' := 95) (st' := []) (fun _ => rfl) ?_
                exact ih l1 (l2 + (1 : Int32)) (some (.inl (-1 : Int32))) (rf_work A js).1 (rf_work A js).2 hg hk hE
              · skip
                refine ra.s (pc' := 183) (st' := [.inl l1]) (fun _ => rfl) ?_
                refine ra.s (pc' := 184) (st' := [.inl (2 : Int32), .inl l1]) (fun _ => rfl) ?_
                refine ra.bn (c := l1 = (2 : Int32)) (cd := .ne) (x := l1) (y := (2 : Int32)) 207 187 (st' := []) (fun _ => rfl) (y_cne _ _) hk hg (fun h37 hg hk => ?_) (fun h37 hg hk => ?_)
                · skip
                  refine ra.s (pc' := 188) (st' := [.inl (-1 : Int32)]) (fun _ => rfl) ?_
                  refine ra.s (pc' := 189) (st' := [.inl (5 : Int32), .inl (-1 : Int32)]) (fun _ => rfl) ?_
                  refine ra.bt (cd := .ne) (x := (-1 : Int32)) (y := (5 : Int32)) 207 192 (st' := []) (fun _ => rfl) (y_cne _ _) (by decide) ?_
                  refine ra.s (pc' := 208) (st' := [.inl l1]) (fun _ => rfl) ?_
                  refine ra.s (pc' := 209) (st' := [.inl (3 : Int32), .inl l1]) (fun _ => rfl) ?_
                  refine ra.bt (cd := .ne) (x := l1) (y := (3 : Int32)) 238 212 (st' := []) (fun _ => rfl) (y_cne _ _) (fun z => absurd (h37.symm.trans z) (by decide)) ?_
                  refine ra.s (pc' := 239) (st' := [.inr (some (11, 0))]) (fun _ => rfl) ?_
                  obtain ⟨h38, hg⟩ := hg
                  refine ra.cV (F := (rf_work A js)) (m := 132) (as := [.inr (some (11, 0))]) (nx := 242) (L' := [some (.inr (some (11, 0))), some (.inl l1), some (.inl l2), some (.inl (-1 : Int32))]) (st' := []) (fun _ => rfl) (rh_workf (by omega) h38) ?_
                  show ra _ _ _ _ [] (rf_work A js).1 (rf_work A js).2 _
                  refine ra.s (pc' := 245) (L' := [some (.inr (some (11, 0))), some (.inl l1), some (.inl (l2 + (1 : Int32))), some (.inl (-1 : Int32))]) (st' := []) (fun _ => rfl) ?_
                  refine ra.s (pc' := 95) (st' := []) (fun _ => rfl) ?_
                  exact ih l1 (l2 + (1 : Int32)) (some (.inl (-1 : Int32))) (rf_work A js).1 (rf_work A js).2 hg hk hE
                · skip
                  refine ra.s (pc' := 208) (st' := [.inl l1]) (fun _ => rfl) ?_
                  refine ra.s (pc' := 209) (st' := [.inl (3 : Int32), .inl l1]) (fun _ => rfl) ?_
                  refine ra.bn (c := l1 = (3 : Int32)) (cd := .ne) (x := l1) (y := (3 : Int32)) 238 212 (st' := []) (fun _ => rfl) (y_cne _ _) hk hg (fun h39 hg hk => ?_) (fun h39 hg hk => ?_)
                  · skip
                    refine ra.s (pc' := 213) (st' := [.inl (-1 : Int32)]) (fun _ => rfl) ?_
                    refine ra.s (pc' := 214) (st' := [.inl (4 : Int32), .inl (-1 : Int32)]) (fun _ => rfl) ?_
                    refine ra.bt (cd := .ne) (x := (-1 : Int32)) (y := (4 : Int32)) 238 217 (st' := []) (fun _ => rfl) (y_cne _ _) (by decide) ?_
                    refine ra.s (pc' := 239) (st' := [.inr (some (11, 0))]) (fun _ => rfl) ?_
                    obtain ⟨h40, hg⟩ := hg
                    refine ra.cV (F := (rf_work A js)) (m := 132) (as := [.inr (some (11, 0))]) (nx := 242) (L' := [some (.inr (some (11, 0))), some (.inl l1), some (.inl l2), some (.inl (-1 : Int32))]) (st' := []) (fun _ => rfl) (rh_workf (by omega) h40) ?_
                    show ra _ _ _ _ [] (rf_work A js).1 (rf_work A js).2 _
                    refine ra.s (pc' := 245) (L' := [some (.inr (some (11, 0))), some (.inl l1), some (.inl (l2 + (1 : Int32))), some (.inl (-1 : Int32))]) (st' := []) (fun _ => rfl) ?_
                    refine ra.s (pc' := 95) (st' := []) (fun _ => rfl) ?_
                    exact ih l1 (l2 + (1 : Int32)) (some (.inl (-1 : Int32))) (rf_work A js).1 (rf_work A js).2 hg hk hE
                  · skip
                    refine ra.s (pc' := 239) (st' := [.inr (some (11, 0))]) (fun _ => rfl) ?_
                    obtain ⟨h41, hg⟩ := hg
                    refine ra.cV (F := (rf_work A js)) (m := 132) (as := [.inr (some (11, 0))]) (nx := 242) (L' := [some (.inr (some (11, 0))), some (.inl l1), some (.inl l2), some (.inl (-1 : Int32))]) (st' := []) (fun _ => rfl) (rh_workf (by omega) h41) ?_
                    show ra _ _ _ _ [] (rf_work A js).1 (rf_work A js).2 _
                    refine ra.s (pc' := 245) (L' := [some (.inr (some (11, 0))), some (.inl l1), some (.inl (l2 + (1 : Int32))), some (.inl (-1 : Int32))]) (st' := []) (fun _ => rfl) ?_
                    refine ra.s (pc' := 95) (st' := []) (fun _ => rfl) ?_
                    exact ih l1 (l2 + (1 : Int32)) (some (.inl (-1 : Int32))) (rf_work A js).1 (rf_work A js).2 hg hk hE
        · skip
          refine ra.s (pc' := 242) (st' := []) (fun _ => rfl) ?_
          refine ra.s (pc' := 245) (L' := [some (.inr (some (11, 0))), some (.inl l1), some (.inl (l2 + (1 : Int32))), e3]) (st' := []) (fun _ => rfl) ?_
          refine ra.s (pc' := 95) (st' := []) (fun _ => rfl) ?_
          exact ih l1 (l2 + (1 : Int32)) e3 A js hg hk hE
      · skip
        refine ra.s (pc' := 245) (L' := [some (.inr (some (11, 0))), some (.inl l1), some (.inl (l2 + (1 : Int32))), e3]) (st' := []) (fun _ => rfl) ?_
        refine ra.s (pc' := 95) (st' := []) (fun _ => rfl) ?_
        exact ih l1 (l2 + (1 : Int32)) e3 A js hg hk hE
noncomputable def rf_tick_88 : Nat → Int32 → y_A → List y_J → Int32 × y_A × List y_J
  | 0, _, A, js => (0, A, js)
  | n + 1, l1, A, js => (if (4 : Int32) ≤ l1 then (l1, A, js) else (rf_tick_88 n (l1 + (1 : Int32)) (rf_tick_95 20000 l1 (0 : Int32) A js).2.1 (rf_tick_95 20000 l1 (0 : Int32) A js).2.2))
def rg_tick_88 : Nat → Int32 → y_A → List y_J → Prop
  | 0, _, _, _ => False
  | n + 1, l1, A, js => (((4 : Int32) ≤ l1 → True) ∧ (¬ (4 : Int32) ≤ l1 → (rg_tick_95 20000 l1 (0 : Int32) A js) ∧ (rg_tick_88 n (l1 + (1 : Int32)) (rf_tick_95 20000 l1 (0 : Int32) A js).2.1 (rf_tick_95 20000 l1 (0 : Int32) A js).2.2)))
theorem rh_tick_88 {d : Nat} (hd : 9 ≤ d) {Q : Option xm_V → y_A → List y_J → Prop} {F : Int32 × y_A × List y_J} (n : Nat) : ∀ (l1 : Int32) (e2 e3 : Option xm_V) (A : y_A) (js : List y_J), rg_tick_88 n l1 A js → rf_tick_88 n l1 A js = F → (∀ (z2 z3 : Option xm_V), ra d 164 254 [some (.inr (some (11, 0))), some (.inl F.1), z2, z3] [] F.2.1 F.2.2 Q) → ra d 164 88 [some (.inr (some (11, 0))), some (.inl l1), e2, e3] [] A js Q := by
  obtain ⟨d, rfl⟩ := Nat.exists_eq_add_of_le' hd
  induction n with
  | zero => intro l1 e2 e3 A js hg; exact hg.elim
  | succ n ih =>
    intro l1 e2 e3 A js hg hk hE
    unfold rg_tick_88 at hg
    unfold rf_tick_88 at hk
    refine ra.s (pc' := 89) (st' := [.inl l1]) (fun _ => rfl) ?_
    refine ra.s (pc' := 90) (st' := [.inl (4 : Int32), .inl l1]) (fun _ => rfl) ?_
    refine ra.b (c := (4 : Int32) ≤ l1) (cd := .ge) (x := l1) (y := (4 : Int32)) 254 93 (st' := []) (fun _ => rfl) (y_cge _ _) hk hg (fun h1 hg hk => ?_) (fun h1 hg hk => ?_)
    · skip
      subst hk
      exact hE e2 e3
    · skip
      refine ra.s (pc' := 94) (st' := [.inl (0 : Int32)]) (fun _ => rfl) ?_
      refine ra.s (pc' := 95) (L' := [some (.inr (some (11, 0))), some (.inl l1), some (.inl (0 : Int32)), e3]) (st' := []) (fun _ => rfl) ?_
      obtain ⟨h2, hg⟩ := hg
      refine rh_tick_95 (by omega) 20000 l1 (0 : Int32) e3 A js h2 rfl ?_
      intro e1x
      refine ra.s (pc' := 251) (L' := [some (.inr (some (11, 0))), some (.inl (l1 + (1 : Int32))), some (.inl (rf_tick_95 20000 l1 (0 : Int32) A js).1), e1x]) (st' := []) (fun _ => rfl) ?_
      refine ra.s (pc' := 88) (st' := []) (fun _ => rfl) ?_
      exact ih (l1 + (1 : Int32)) (some (.inl (rf_tick_95 20000 l1 (0 : Int32) A js).1)) e1x (rf_tick_95 20000 l1 (0 : Int32) A js).2.1 (rf_tick_95 20000 l1 (0 : Int32) A js).2.2 hg hk hE
noncomputable def rf_tick_320 : Nat → Int32 → Int32 → Int32 → y_A → Int32 × y_A
  | 0, _, _, _, A => (0, A)
  | n + 1, l1, l2, l3, A => (if (A 40 (y_ix l1)) ≤ l3 then (l3, A) else (rf_tick_320 n l1 l2 (l3 + (1 : Int32)) (xm_u2 A 43 (y_ix (((10 : Int32) * l1) + l3)) (A 43 (y_ix ((((10 : Int32) * l1) + l3) + (1 : Int32)))))))
def rg_tick_320 : Nat → Int32 → Int32 → Int32 → y_A → Prop
  | 0, _, _, _, _ => False
  | n + 1, l1, l2, l3, A => (y_in l1 24) ∧ (((A 40 (y_ix l1)) ≤ l3 → True) ∧ (¬ (A 40 (y_ix l1)) ≤ l3 → (y_in ((((10 : Int32) * l1) + l3) + (1 : Int32)) 240) ∧ (y_in (((10 : Int32) * l1) + l3) 240) ∧ (rg_tick_320 n l1 l2 (l3 + (1 : Int32)) (xm_u2 A 43 (y_ix (((10 : Int32) * l1) + l3)) (A 43 (y_ix ((((10 : Int32) * l1) + l3) + (1 : Int32))))))))
theorem rh_tick_320 {d : Nat} (hd : 9 ≤ d) {Q : Option xm_V → y_A → List y_J → Prop} {F : Int32 × y_A} (n : Nat) : ∀ (l1 l2 l3 : Int32) (A : y_A) (js : List y_J), rg_tick_320 n l1 l2 l3 A → rf_tick_320 n l1 l2 l3 A = F → (ra d 164 360 [some (.inr (some (11, 0))), some (.inl l1), some (.inl l2), some (.inl F.1)] [] F.2 js Q) → ra d 164 320 [some (.inr (some (11, 0))), some (.inl l1), some (.inl l2), some (.inl l3)] [] A js Q := by
  obtain ⟨d, rfl⟩ := Nat.exists_eq_add_of_le' hd
  induction n with
  | zero => intro l1 l2 l3 A js hg; exact hg.elim
  | succ n ih =>
    intro l1 l2 l3 A js hg hk hE
    unfold rg_tick_320 at hg
    unfold rf_tick_320 at hk
    refine ra.s (pc' := 321) (st' := [.inl l3]) (fun _ => rfl) ?_
    refine ra.s (pc' := 322) (st' := [.inr (some (11, 0)), .inl l3]) (fun _ => rfl) ?_
    refine ra.ga (x := 40) (nx := 325) (c := 13) (i := 33) rfl rfl ?_
    refine ra.s (pc' := 326) (st' := [.inl l1, .inr (some (13, 33)), .inl l3]) (fun _ => rfl) ?_
    obtain ⟨h1, hg⟩ := hg
    refine ra.ld (nx := 327) (v := (A 40 (y_ix l1))) 40 24 rfl rfl h1 rfl ?_
    refine ra.b (c := (A 40 (y_ix l1)) ≤ l3) (cd := .ge) (x := l3) (y := (A 40 (y_ix l1))) 360 330 (st' := []) (fun _ => rfl) (y_cge _ _) hk hg (fun h2 hg hk => ?_) (fun h2 hg hk => ?_)
    · skip
      subst hk
      exact hE
    · skip
      refine ra.s (pc' := 331) (st' := [.inr (some (11, 0))]) (fun _ => rfl) ?_
      refine ra.ga (x := 43) (nx := 334) (c := 13) (i := 36) rfl rfl ?_
      refine ra.s (pc' := 336) (st' := [.inl (10 : Int32), .inr (some (13, 36))]) (fun _ => rfl) ?_
      refine ra.s (pc' := 337) (st' := [.inl l1, .inl (10 : Int32), .inr (some (13, 36))]) (fun _ => rfl) ?_
      refine ra.s (pc' := 338) (st' := [.inl ((10 : Int32) * l1), .inr (some (13, 36))]) (fun _ => rfl) ?_
      refine ra.s (pc' := 339) (st' := [.inl l3, .inl ((10 : Int32) * l1), .inr (some (13, 36))]) (fun _ => rfl) ?_
      refine ra.s (pc' := 340) (st' := [.inl (((10 : Int32) * l1) + l3), .inr (some (13, 36))]) (fun _ => rfl) ?_
      refine ra.s (pc' := 341) (st' := [.inr (some (11, 0)), .inl (((10 : Int32) * l1) + l3), .inr (some (13, 36))]) (fun _ => rfl) ?_
      refine ra.ga (x := 43) (nx := 344) (c := 13) (i := 36) rfl rfl ?_
      refine ra.s (pc' := 346) (st' := [.inl (10 : Int32), .inr (some (13, 36)), .inl (((10 : Int32) * l1) + l3), .inr (some (13, 36))]) (fun _ => rfl) ?_
      refine ra.s (pc' := 347) (st' := [.inl l1, .inl (10 : Int32), .inr (some (13, 36)), .inl (((10 : Int32) * l1) + l3), .inr (some (13, 36))]) (fun _ => rfl) ?_
      refine ra.s (pc' := 348) (st' := [.inl ((10 : Int32) * l1), .inr (some (13, 36)), .inl (((10 : Int32) * l1) + l3), .inr (some (13, 36))]) (fun _ => rfl) ?_
      refine ra.s (pc' := 349) (st' := [.inl l3, .inl ((10 : Int32) * l1), .inr (some (13, 36)), .inl (((10 : Int32) * l1) + l3), .inr (some (13, 36))]) (fun _ => rfl) ?_
      refine ra.s (pc' := 350) (st' := [.inl (((10 : Int32) * l1) + l3), .inr (some (13, 36)), .inl (((10 : Int32) * l1) + l3), .inr (some (13, 36))]) (fun _ => rfl) ?_
      refine ra.s (pc' := 351) (st' := [.inl (1 : Int32), .inl (((10 : Int32) * l1) + l3), .inr (some (13, 36)), .inl (((10 : Int32) * l1) + l3), .inr (some (13, 36))]) (fun _ => rfl) ?_
      refine ra.s (pc' := 352) (st' := [.inl ((((10 : Int32) * l1) + l3) + (1 : Int32)), .inr (some (13, 36)), .inl (((10 : Int32) * l1) + l3), .inr (some (13, 36))]) (fun _ => rfl) ?_
      obtain ⟨h3, hg⟩ := hg
      refine ra.ld (nx := 353) (v := (A 43 (y_ix ((((10 : Int32) * l1) + l3) + (1 : Int32))))) 43 240 rfl rfl h3 rfl ?_
      obtain ⟨h4, hg⟩ := hg
      refine ra.si (nx := 354) 43 240 rfl rfl h4 ?_
      refine ra.s (pc' := 357) (L' := [some (.inr (some (11, 0))), some (.inl l1), some (.inl l2), some (.inl (l3 + (1 : Int32)))]) (st' := []) (fun _ => rfl) ?_
      refine ra.s (pc' := 320) (st' := []) (fun _ => rfl) ?_
      exact ih l1 l2 (l3 + (1 : Int32)) (xm_u2 A 43 (y_ix (((10 : Int32) * l1) + l3)) (A 43 (y_ix ((((10 : Int32) * l1) + l3) + (1 : Int32))))) js hg hk hE
noncomputable def rf_tick_264 : Nat → Int32 → y_A → List y_J → y_A × List y_J
  | 0, _, A, js => (A, js)
  | n + 1, l1, A, js => (if (A 31 (y_ix l1)) = (1 : Int32) then (if (A 32 (y_ix l1)) ≤ (A 39 (y_ix l1)) then (A, js) else (if (A 40 (y_ix l1)) ≤ (0 : Int32) then (A, js) else (rf_tick_264 n l1 (rf_work (xm_u2 (xm_u2 (xm_u2 (rf_tick_320 20000 l1 (A 43 (y_ix ((10 : Int32) * l1))) (0 : Int32) (xm_u2 A 40 (y_ix l1) ((A 40 (y_ix l1)) - (1 : Int32)))).2 75 (y_ix (A 43 (y_ix ((10 : Int32) * l1)))) (0 : Int32)) 77 (y_ix (A 43 (y_ix ((10 : Int32) * l1)))) (1 : Int32)) 39 (y_ix l1) (((rf_tick_320 20000 l1 (A 43 (y_ix ((10 : Int32) * l1))) (0 : Int32) (xm_u2 A 40 (y_ix l1) ((A 40 (y_ix l1)) - (1 : Int32)))).2 39 (y_ix l1)) + (1 : Int32))) (((0 : Int32), ((rf_tick_320 20000 l1 (A 43 (y_ix ((10 : Int32) * l1))) (0 : Int32) (xm_u2 A 40 (y_ix l1) ((A 40 (y_ix l1)) - (1 : Int32)))).2 62 (y_ix (A 43 (y_ix ((10 : Int32) * l1))))), (((rf_tick_320 20000 l1 (A 43 (y_ix ((10 : Int32) * l1))) (0 : Int32) (xm_u2 A 40 (y_ix l1) ((A 40 (y_ix l1)) - (1 : Int32)))).2 63 (y_ix (A 43 (y_ix ((10 : Int32) * l1))))) + (1 : Int32)), (A 43 (y_ix ((10 : Int32) * l1))), (-1 : Int32)) :: js)).1 (rf_work (xm_u2 (xm_u2 (xm_u2 (rf_tick_320 20000 l1 (A 43 (y_ix ((10 : Int32) * l1))) (0 : Int32) (xm_u2 A 40 (y_ix l1) ((A 40 (y_ix l1)) - (1 : Int32)))).2 75 (y_ix (A 43 (y_ix ((10 : Int32) * l1)))) (0 : Int32)) 77 (y_ix (A 43 (y_ix ((10 : Int32) * l1)))) (1 : Int32)) 39 (y_ix l1) (((rf_tick_320 20000 l1 (A 43 (y_ix ((10 : Int32) * l1))) (0 : Int32) (xm_u2 A 40 (y_ix l1) ((A 40 (y_ix l1)) - (1 : Int32)))).2 39 (y_ix l1)) + (1 : Int32))) (((0 : Int32), ((rf_tick_320 20000 l1 (A 43 (y_ix ((10 : Int32) * l1))) (0 : Int32) (xm_u2 A 40 (y_ix l1) ((A 40 (y_ix l1)) - (1 : Int32)))).2 62 (y_ix (A 43 (y_ix ((10 : Int32) * l1))))), (((rf_tick_320 20000 l1 (A 43 (y_ix ((10 : Int32) * l1))) (0 : Int32) (xm_u2 A 40 (y_ix l1) ((A 40 (y_ix l1)) - (1 : Int32)))).2 63 (y_ix (A 43 (y_ix ((10 : Int32) * l1))))) + (1 : Int32)), (A 43 (y_ix ((10 : Int32) * l1))), (-1 : Int32)) :: js)).2))) else (A, js))
def rg_tick_264 : Nat → Int32 → y_A → List y_J → Prop
  | 0, _, _, _ => False
  | n + 1, l1, A, js => (y_in l1 24) ∧ (((A 31 (y_ix l1)) = (1 : Int32) → (((A 32 (y_ix l1)) ≤ (A 39 (y_ix l1)) → True) ∧ (¬ (A 32 (y_ix l1)) ≤ (A 39 (y_ix l1)) → (((A 40 (y_ix l1)) ≤ (0 : Int32) → True) ∧ (¬ (A 40 (y_ix l1)) ≤ (0 : Int32) → (y_in ((10 : Int32) * l1) 240) ∧ (rg_tick_320 20000 l1 (A 43 (y_ix ((10 : Int32) * l1))) (0 : Int32) (xm_u2 A 40 (y_ix l1) ((A 40 (y_ix l1)) - (1 : Int32)))) ∧ (y_in (A 43 (y_ix ((10 : Int32) * l1))) 4400) ∧ (rg_setToWork (A 43 (y_ix ((10 : Int32) * l1))) l1 (xm_u2 (rf_tick_320 20000 l1 (A 43 (y_ix ((10 : Int32) * l1))) (0 : Int32) (xm_u2 A 40 (y_ix l1) ((A 40 (y_ix l1)) - (1 : Int32)))).2 75 (y_ix (A 43 (y_ix ((10 : Int32) * l1)))) (0 : Int32)) js) ∧ (rg_work (xm_u2 (xm_u2 (xm_u2 (rf_tick_320 20000 l1 (A 43 (y_ix ((10 : Int32) * l1))) (0 : Int32) (xm_u2 A 40 (y_ix l1) ((A 40 (y_ix l1)) - (1 : Int32)))).2 75 (y_ix (A 43 (y_ix ((10 : Int32) * l1)))) (0 : Int32)) 77 (y_ix (A 43 (y_ix ((10 : Int32) * l1)))) (1 : Int32)) 39 (y_ix l1) (((rf_tick_320 20000 l1 (A 43 (y_ix ((10 : Int32) * l1))) (0 : Int32) (xm_u2 A 40 (y_ix l1) ((A 40 (y_ix l1)) - (1 : Int32)))).2 39 (y_ix l1)) + (1 : Int32))) (((0 : Int32), ((rf_tick_320 20000 l1 (A 43 (y_ix ((10 : Int32) * l1))) (0 : Int32) (xm_u2 A 40 (y_ix l1) ((A 40 (y_ix l1)) - (1 : Int32)))).2 62 (y_ix (A 43 (y_ix ((10 : Int32) * l1))))), (((rf_tick_320 20000 l1 (A 43 (y_ix ((10 : Int32) * l1))) (0 : Int32) (xm_u2 A 40 (y_ix l1) ((A 40 (y_ix l1)) - (1 : Int32)))).2 63 (y_ix (A 43 (y_ix ((10 : Int32) * l1))))) + (1 : Int32)), (A 43 (y_ix ((10 : Int32) * l1))), (-1 : Int32)) :: js)) ∧ (rg_tick_264 n l1 (rf_work (xm_u2 (xm_u2 (xm_u2 (rf_tick_320 20000 l1 (A 43 (y_ix ((10 : Int32) * l1))) (0 : Int32) (xm_u2 A 40 (y_ix l1) ((A 40 (y_ix l1)) - (1 : Int32)))).2 75 (y_ix (A 43 (y_ix ((10 : Int32) * l1)))) (0 : Int32)) 77 (y_ix (A 43 (y_ix ((10 : Int32) * l1)))) (1 : Int32)) 39 (y_ix l1) (((rf_tick_320 20000 l1 (A 43 (y_ix ((10 : Int32) * l1))) (0 : Int32) (xm_u2 A 40 (y_ix l1) ((A 40 (y_ix l1)) - (1 : Int32)))).2 39 (y_ix l1)) + (1 : Int32))) (((0 : Int32), ((rf_tick_320 20000 l1 (A 43 (y_ix ((10 : Int32) * l1))) (0 : Int32) (xm_u2 A 40 (y_ix l1) ((A 40 (y_ix l1)) - (1 : Int32)))).2 62 (y_ix (A 43 (y_ix ((10 : Int32) * l1))))), (((rf_tick_320 20000 l1 (A 43 (y_ix ((10 : Int32) * l1))) (0 : Int32) (xm_u2 A 40 (y_ix l1) ((A 40 (y_ix l1)) - (1 : Int32)))).2 63 (y_ix (A 43 (y_ix ((10 : Int32) * l1))))) + (1 : Int32)), (A 43 (y_ix ((10 : Int32) * l1))), (-1 : Int32)) :: js)).1 (rf_work (xm_u2 (xm_u2 (xm_u2 (rf_tick_320 20000 l1 (A 43 (y_ix ((10 : Int32) * l1))) (0 : Int32) (xm_u2 A 40 (y_ix l1) ((A 40 (y_ix l1)) - (1 : Int32)))).2 75 (y_ix (A 43 (y_ix ((10 : Int32) * l1)))) (0 : Int32)) 77 (y_ix (A 43 (y_ix ((10 : Int32) * l1)))) (1 : Int32)) 39 (y_ix l1) (((rf_tick_320 20000 l1 (A 43 (y_ix ((10 : Int32) * l1))) (0 : Int32) (xm_u2 A 40 (y_ix l1) ((A 40 (y_ix l1)) - (1 : Int32)))).2 39 (y_ix l1)) + (1 : Int32))) (((0 : Int32), ((rf_tick_320 20000 l1 (A 43 (y_ix ((10 : Int32) * l1))) (0 : Int32) (xm_u2 A 40 (y_ix l1) ((A 40 (y_ix l1)) - (1 : Int32)))).2 62 (y_ix (A 43 (y_ix ((10 : Int32) * l1))))), (((rf_tick_320 20000 l1 (A 43 (y_ix ((10 : Int32) * l1))) (0 : Int32) (xm_u2 A 40 (y_ix l1) ((A 40 (y_ix l1)) - (1 : Int32)))).2 63 (y_ix (A 43 (y_ix ((10 : Int32) * l1))))) + (1 : Int32)), (A 43 (y_ix ((10 : Int32) * l1))), (-1 : Int32)) :: js)).2)))))) ∧ (¬ (A 31 (y_ix l1)) = (1 : Int32) → True))
theorem rh_tick_264 {d : Nat} (hd : 9 ≤ d) {Q : Option xm_V → y_A → List y_J → Prop} {F : y_A × List y_J} (n : Nat) : ∀ (l1 : Int32) (e2 e3 : Option xm_V) (A : y_A) (js : List y_J), rg_tick_264 n l1 A js → rf_tick_264 n l1 A js = F → (∀ (z2 z3 : Option xm_V), ra d 164 380 [some (.inr (some (11, 0))), some (.inl l1), z2, z3] [] F.1 F.2 Q) → ra d 164 264 [some (.inr (some (11, 0))), some (.inl l1), e2, e3] [] A js Q := by
  obtain ⟨d, rfl⟩ := Nat.exists_eq_add_of_le' hd
  induction n with
  | zero => intro l1 e2 e3 A js hg; exact hg.elim
  | succ n ih =>
    intro l1 e2 e3 A js hg hk hE
    unfold rg_tick_264 at hg
    unfold rf_tick_264 at hk
    refine ra.s (pc' := 265) (st' := [.inr (some (11, 0))]) (fun _ => rfl) ?_
    refine ra.ga (x := 31) (nx := 268) (c := 13) (i := 24) rfl rfl ?_
    refine ra.s (pc' := 269) (st' := [.inl l1, .inr (some (13, 24))]) (fun _ => rfl) ?_
    obtain ⟨h1, hg⟩ := hg
    refine ra.ld (nx := 270) (v := (A 31 (y_ix l1))) 31 24 rfl rfl h1 rfl ?_
    refine ra.s (pc' := 271) (st' := [.inl (1 : Int32), .inl (A 31 (y_ix l1))]) (fun _ => rfl) ?_
    refine ra.bn (c := (A 31 (y_ix l1)) = (1 : Int32)) (cd := .ne) (x := (A 31 (y_ix l1))) (y := (1 : Int32)) 380 274 (st' := []) (fun _ => rfl) (y_cne _ _) hk hg (fun h2 hg hk => ?_) (fun h2 hg hk => ?_)
    · skip
      refine ra.s (pc' := 275) (st' := [.inr (some (11, 0))]) (fun _ => rfl) ?_
      refine ra.ga (x := 39) (nx := 278) (c := 13) (i := 32) rfl rfl ?_
      refine ra.s (pc' := 279) (st' := [.inl l1, .inr (some (13, 32))]) (fun _ => rfl) ?_
      refine ra.ld (nx := 280) (v := (A 39 (y_ix l1))) 39 24 rfl rfl h1 rfl ?_
      refine ra.s (pc' := 281) (st' := [.inr (some (11, 0)), .inl (A 39 (y_ix l1))]) (fun _ => rfl) ?_
      refine ra.ga (x := 32) (nx := 284) (c := 13) (i := 25) rfl rfl ?_
      refine ra.s (pc' := 285) (st' := [.inl l1, .inr (some (13, 25)), .inl (A 39 (y_ix l1))]) (fun _ => rfl) ?_
      refine ra.ld (nx := 286) (v := (A 32 (y_ix l1))) 32 24 rfl rfl h1 rfl ?_
      refine ra.b (c := (A 32 (y_ix l1)) ≤ (A 39 (y_ix l1))) (cd := .ge) (x := (A 39 (y_ix l1))) (y := (A 32 (y_ix l1))) 380 289 (st' := []) (fun _ => rfl) (y_cge _ _) hk hg (fun h3 hg hk => ?_) (fun h3 hg hk => ?_)
      · skip
        subst hk
        exact hE e2 e3
      · skip
        refine ra.s (pc' := 290) (st' := [.inr (some (11, 0))]) (fun _ => rfl) ?_
        refine ra.ga (x := 40) (nx := 293) (c := 13) (i := 33) rfl rfl ?_
        refine ra.s (pc' := 294) (st' := [.inl l1, .inr (some (13, 33))]) (fun _ => rfl) ?_
        refine ra.ld (nx := 295) (v := (A 40 (y_ix l1))) 40 24 rfl rfl h1 rfl ?_
        refine ra.b (c := (A 40 (y_ix l1)) ≤ (0 : Int32)) (cd := .le) (x := (A 40 (y_ix l1))) (y := (0 : Int32)) 380 298 (st' := []) (fun _ => rfl) (y_cle _ _) hk hg (fun h4 hg hk => ?_) (fun h4 hg hk => ?_)
        · skip
          subst hk
          exact hE e2 e3
        · skip
          refine ra.s (pc' := 299) (st' := [.inr (some (11, 0))]) (fun _ => rfl) ?_
          refine ra.ga (x := 43) (nx := 302) (c := 13) (i := 36) rfl rfl ?_
          refine ra.s (pc' := 304) (st' := [.inl (10 : Int32), .inr (some (13, 36))]) (fun _ => rfl) ?_
          refine ra.s (pc' := 305) (st' := [.inl l1, .inl (10 : Int32), .inr (some (13, 36))]) (fun _ => rfl) ?_
          refine ra.s (pc' := 306) (st' := [.inl ((10 : Int32) * l1), .inr (some (13, 36))]) (fun _ => rfl) ?_
          obtain ⟨h5, hg⟩ := hg
          refine ra.ld (nx := 307) (v := (A 43 (y_ix ((10 : Int32) * l1)))) 43 240 rfl rfl h5 rfl ?_
          refine ra.s (pc' := 308) (L' := [some (.inr (some (11, 0))), some (.inl l1), some (.inl (A 43 (y_ix ((10 : Int32) * l1)))), e3]) (st' := []) (fun _ => rfl) ?_
          refine ra.s (pc' := 309) (st' := [.inr (some (11, 0))]) (fun _ => rfl) ?_
          refine ra.ga (x := 40) (nx := 312) (c := 13) (i := 33) rfl rfl ?_
          refine ra.s (pc' := 313) (st' := [.inl l1, .inr (some (13, 33))]) (fun _ => rfl) ?_
          refine ra.s (pc' := 314) (st' := [.inl l1, .inr (some (13, 33)), .inl l1, .inr (some (13, 33))]) (fun _ => rfl) ?_
          refine ra.ld (nx := 315) (v := (A 40 (y_ix l1))) 40 24 rfl rfl h1 rfl ?_
          refine ra.s (pc' := 316) (st' := [.inl (1 : Int32), .inl (A 40 (y_ix l1)), .inl l1, .inr (some (13, 33))]) (fun _ => rfl) ?_
          refine ra.s (pc' := 317) (st' := [.inl ((A 40 (y_ix l1)) - (1 : Int32)), .inl l1, .inr (some (13, 33))]) (fun _ => rfl) ?_
          refine ra.si (nx := 318) 40 24 rfl rfl h1 ?_
          refine ra.s (pc' := 319) (st' := [.inl (0 : Int32)]) (fun _ => rfl) ?_
          refine ra.s (pc' := 320) (L' := [some (.inr (some (11, 0))), some (.inl l1), some (.inl (A 43 (y_ix ((10 : Int32) * l1)))), some (.inl (0 : Int32))]) (st' := []) (fun _ => rfl) ?_
          obtain ⟨h6, hg⟩ := hg
          refine rh_tick_320 (by omega) 20000 l1 (A 43 (y_ix ((10 : Int32) * l1))) (0 : Int32) (xm_u2 A 40 (y_ix l1) ((A 40 (y_ix l1)) - (1 : Int32))) js h6 rfl ?_
          refine ra.s (pc' := 361) (st' := [.inr (some (11, 0))]) (fun _ => rfl) ?_
          refine ra.ga (x := 75) (nx := 364) (c := 14) (i := 2) rfl rfl ?_
          refine ra.s (pc' := 365) (st' := [.inl (A 43 (y_ix ((10 : Int32) * l1))), .inr (some (14, 2))]) (fun _ => rfl) ?_
          refine ra.s (pc' := 366) (st' := [.inl (0 : Int32), .inl (A 43 (y_ix ((10 : Int32) * l1))), .inr (some (14, 2))]) (fun _ => rfl) ?_
          obtain ⟨h7, hg⟩ := hg
          refine ra.sz (nx := 367) 75 4400 rfl rfl h7 (Or.inl rfl) ?_
          refine ra.s (pc' := 368) (st' := [.inr (some (11, 0))]) (fun _ => rfl) ?_
          refine ra.s (pc' := 369) (st' := [.inl (A 43 (y_ix ((10 : Int32) * l1))), .inr (some (11, 0))]) (fun _ => rfl) ?_
          refine ra.s (pc' := 370) (st' := [.inl l1, .inl (A 43 (y_ix ((10 : Int32) * l1))), .inr (some (11, 0))]) (fun _ => rfl) ?_
          obtain ⟨h8, hg⟩ := hg
          refine ra.cV (F := (rf_setToWork (A 43 (y_ix ((10 : Int32) * l1))) l1 (xm_u2 (rf_tick_320 20000 l1 (A 43 (y_ix ((10 : Int32) * l1))) (0 : Int32) (xm_u2 A 40 (y_ix l1) ((A 40 (y_ix l1)) - (1 : Int32)))).2 75 (y_ix (A 43 (y_ix ((10 : Int32) * l1)))) (0 : Int32)) js)) (m := 137) (as := [.inr (some (11, 0)), .inl (A 43 (y_ix ((10 : Int32) * l1))), .inl l1]) (nx := 373) (L' := [some (.inr (some (11, 0))), some (.inl l1), some (.inl (A 43 (y_ix ((10 : Int32) * l1)))), some (.inl (rf_tick_320 20000 l1 (A 43 (y_ix ((10 : Int32) * l1))) (0 : Int32) (xm_u2 A 40 (y_ix l1) ((A 40 (y_ix l1)) - (1 : Int32)))).1)]) (st' := []) (fun _ => rfl) (rh_setToWork (by omega) h8) ?_
          show ra _ _ _ _ [] (xm_u2 (xm_u2 (xm_u2 (rf_tick_320 20000 l1 (A 43 (y_ix ((10 : Int32) * l1))) (0 : Int32) (xm_u2 A 40 (y_ix l1) ((A 40 (y_ix l1)) - (1 : Int32)))).2 75 (y_ix (A 43 (y_ix ((10 : Int32) * l1)))) (0 : Int32)) 77 (y_ix (A 43 (y_ix ((10 : Int32) * l1)))) (1 : Int32)) 39 (y_ix l1) (((rf_tick_320 20000 l1 (A 43 (y_ix ((10 : Int32) * l1))) (0 : Int32) (xm_u2 A 40 (y_ix l1) ((A 40 (y_ix l1)) - (1 : Int32)))).2 39 (y_ix l1)) + (1 : Int32))) (((0 : Int32), ((rf_tick_320 20000 l1 (A 43 (y_ix ((10 : Int32) * l1))) (0 : Int32) (xm_u2 A 40 (y_ix l1) ((A 40 (y_ix l1)) - (1 : Int32)))).2 62 (y_ix (A 43 (y_ix ((10 : Int32) * l1))))), (((rf_tick_320 20000 l1 (A 43 (y_ix ((10 : Int32) * l1))) (0 : Int32) (xm_u2 A 40 (y_ix l1) ((A 40 (y_ix l1)) - (1 : Int32)))).2 63 (y_ix (A 43 (y_ix ((10 : Int32) * l1))))) + (1 : Int32)), (A 43 (y_ix ((10 : Int32) * l1))), (-1 : Int32)) :: js) _
          refine ra.s (pc' := 374) (st' := [.inr (some (11, 0))]) (fun _ => rfl) ?_
          obtain ⟨h9, hg⟩ := hg
          refine ra.cV (F := (rf_work (xm_u2 (xm_u2 (xm_u2 (rf_tick_320 20000 l1 (A 43 (y_ix ((10 : Int32) * l1))) (0 : Int32) (xm_u2 A 40 (y_ix l1) ((A 40 (y_ix l1)) - (1 : Int32)))).2 75 (y_ix (A 43 (y_ix ((10 : Int32) * l1)))) (0 : Int32)) 77 (y_ix (A 43 (y_ix ((10 : Int32) * l1)))) (1 : Int32)) 39 (y_ix l1) (((rf_tick_320 20000 l1 (A 43 (y_ix ((10 : Int32) * l1))) (0 : Int32) (xm_u2 A 40 (y_ix l1) ((A 40 (y_ix l1)) - (1 : Int32)))).2 39 (y_ix l1)) + (1 : Int32))) (((0 : Int32), ((rf_tick_320 20000 l1 (A 43 (y_ix ((10 : Int32) * l1))) (0 : Int32) (xm_u2 A 40 (y_ix l1) ((A 40 (y_ix l1)) - (1 : Int32)))).2 62 (y_ix (A 43 (y_ix ((10 : Int32) * l1))))), (((rf_tick_320 20000 l1 (A 43 (y_ix ((10 : Int32) * l1))) (0 : Int32) (xm_u2 A 40 (y_ix l1) ((A 40 (y_ix l1)) - (1 : Int32)))).2 63 (y_ix (A 43 (y_ix ((10 : Int32) * l1))))) + (1 : Int32)), (A 43 (y_ix ((10 : Int32) * l1))), (-1 : Int32)) :: js))) (m := 132) (as := [.inr (some (11, 0))]) (nx := 377) (L' := [some (.inr (some (11, 0))), some (.inl l1), some (.inl (A 43 (y_ix ((10 : Int32) * l1)))), some (.inl (rf_tick_320 20000 l1 (A 43 (y_ix ((10 : Int32) * l1))) (0 : Int32) (xm_u2 A 40 (y_ix l1) ((A 40 (y_ix l1)) - (1 : Int32)))).1)]) (st' := []) (fun _ => rfl) (rh_workf (by omega) h9) ?_
          show ra _ _ _ _ [] (rf_work (xm_u2 (xm_u2 (xm_u2 (rf_tick_320 20000 l1 (A 43 (y_ix ((10 : Int32) * l1))) (0 : Int32) (xm_u2 A 40 (y_ix l1) ((A 40 (y_ix l1)) - (1 : Int32)))).2 75 (y_ix (A 43 (y_ix ((10 : Int32) * l1)))) (0 : Int32)) 77 (y_ix (A 43 (y_ix ((10 : Int32) * l1)))) (1 : Int32)) 39 (y_ix l1) (((rf_tick_320 20000 l1 (A 43 (y_ix ((10 : Int32) * l1))) (0 : Int32) (xm_u2 A 40 (y_ix l1) ((A 40 (y_ix l1)) - (1 : Int32)))).2 39 (y_ix l1)) + (1 : Int32))) (((0 : Int32), ((rf_tick_320 20000 l1 (A 43 (y_ix ((10 : Int32) * l1))) (0 : Int32) (xm_u2 A 40 (y_ix l1) ((A 40 (y_ix l1)) - (1 : Int32)))).2 62 (y_ix (A 43 (y_ix ((10 : Int32) * l1))))), (((rf_tick_320 20000 l1 (A 43 (y_ix ((10 : Int32) * l1))) (0 : Int32) (xm_u2 A 40 (y_ix l1) ((A 40 (y_ix l1)) - (1 : Int32)))).2 63 (y_ix (A 43 (y_ix ((10 : Int32) * l1))))) + (1 : Int32)), (A 43 (y_ix ((10 : Int32) * l1))), (-1 : Int32)) :: js)).1 (rf_work (xm_u2 (xm_u2 (xm_u2 (rf_tick_320 20000 l1 (A 43 (y_ix ((10 : Int32) * l1))) (0 : Int32) (xm_u2 A 40 (y_ix l1) ((A 40 (y_ix l1)) - (1 : Int32)))).2 75 (y_ix (A 43 (y_ix ((10 : Int32) * l1)))) (0 : Int32)) 77 (y_ix (A 43 (y_ix ((10 : Int32) * l1)))) (1 : Int32)) 39 (y_ix l1) (((rf_tick_320 20000 l1 (A 43 (y_ix ((10 : Int32) * l1))) (0 : Int32) (xm_u2 A 40 (y_ix l1) ((A 40 (y_ix l1)) - (1 : Int32)))).2 39 (y_ix l1)) + (1 : Int32))) (((0 : Int32), ((rf_tick_320 20000 l1 (A 43 (y_ix ((10 : Int32) * l1))) (0 : Int32) (xm_u2 A 40 (y_ix l1) ((A 40 (y_ix l1)) - (1 : Int32)))).2 62 (y_ix (A 43 (y_ix ((10 : Int32) * l1))))), (((rf_tick_320 20000 l1 (A 43 (y_ix ((10 : Int32) * l1))) (0 : Int32) (xm_u2 A 40 (y_ix l1) ((A 40 (y_ix l1)) - (1 : Int32)))).2 63 (y_ix (A 43 (y_ix ((10 : Int32) * l1))))) + (1 : Int32)), (A 43 (y_ix ((10 : Int32) * l1))), (-1 : Int32)) :: js)).2 _
          refine ra.s (pc' := 264) (st' := []) (fun _ => rfl) ?_
          exact ih l1 (some (.inl (A 43 (y_ix ((10 : Int32) * l1))))) (some (.inl (rf_tick_320 20000 l1 (A 43 (y_ix ((10 : Int32) * l1))) (0 : Int32) (xm_u2 A 40 (y_ix l1) ((A 40 (y_ix l1)) - (1 : Int32)))).1)) (rf_work (xm_u2 (xm_u2 (xm_u2 (rf_tick_320 20000 l1 (A 43 (y_ix ((10 : Int32) * l1))) (0 : Int32) (xm_u2 A 40 (y_ix l1) ((A 40 (y_ix l1)) - (1 : Int32)))).2 75 (y_ix (A 43 (y_ix ((10 : Int32) * l1)))) (0 : Int32)) 77 (y_ix (A 43 (y_ix ((10 : Int32) * l1)))) (1 : Int32)) 39 (y_ix l1) (((rf_tick_320 20000 l1 (A 43 (y_ix ((10 : Int32) * l1))) (0 : Int32) (xm_u2 A 40 (y_ix l1) ((A 40 (y_ix l1)) - (1 : Int32)))).2 39 (y_ix l1)) + (1 : Int32))) (((0 : Int32), ((rf_tick_320 20000 l1 (A 43 (y_ix ((10 : Int32) * l1))) (0 : Int32) (xm_u2 A 40 (y_ix l1) ((A 40 (y_ix l1)) - (1 : Int32)))).2 62 (y_ix (A 43 (y_ix ((10 : Int32) * l1))))), (((rf_tick_320 20000 l1 (A 43 (y_ix ((10 : Int32) * l1))) (0 : Int32) (xm_u2 A 40 (y_ix l1) ((A 40 (y_ix l1)) - (1 : Int32)))).2 63 (y_ix (A 43 (y_ix ((10 : Int32) * l1))))) + (1 : Int32)), (A 43 (y_ix ((10 : Int32) * l1))), (-1 : Int32)) :: js)).1 (rf_work (xm_u2 (xm_u2 (xm_u2 (rf_tick_320 20000 l1 (A 43 (y_ix ((10 : Int32) * l1))) (0 : Int32) (xm_u2 A 40 (y_ix l1) ((A 40 (y_ix l1)) - (1 : Int32)))).2 75 (y_ix (A 43 (y_ix ((10 : Int32) * l1)))) (0 : Int32)) 77 (y_ix (A 43 (y_ix ((10 : Int32) * l1)))) (1 : Int32)) 39 (y_ix l1) (((rf_tick_320 20000 l1 (A 43 (y_ix ((10 : Int32) * l1))) (0 : Int32) (xm_u2 A 40 (y_ix l1) ((A 40 (y_ix l1)) - (1 : Int32)))).2 39 (y_ix l1)) + (1 : Int32))) (((0 : Int32), ((rf_tick_320 20000 l1 (A 43 (y_ix ((10 : Int32) * l1))) (0 : Int32) (xm_u2 A 40 (y_ix l1) ((A 40 (y_ix l1)) - (1 : Int32)))).2 62 (y_ix (A 43 (y_ix ((10 : Int32) * l1))))), (((rf_tick_320 20000 l1 (A 43 (y_ix ((10 : Int32) * l1))) (0 : Int32) (xm_u2 A 40 (y_ix l1) ((A 40 (y_ix l1)) - (1 : Int32)))).2 63 (y_ix (A 43 (y_ix ((10 : Int32) * l1))))) + (1 : Int32)), (A 43 (y_ix ((10 : Int32) * l1))), (-1 : Int32)) :: js)).2 hg hk hE
    · skip
      subst hk
      exact hE e2 e3
noncomputable def rf_tick_256 : Nat → Int32 → y_A → List y_J → Int32 × y_A × List y_J
  | 0, _, A, js => (0, A, js)
  | n + 1, l1, A, js => (if (A 30 0) ≤ l1 then (l1, A, js) else (rf_tick_256 n (l1 + (1 : Int32)) (rf_tick_264 20000 l1 A js).1 (rf_tick_264 20000 l1 A js).2))
def rg_tick_256 : Nat → Int32 → y_A → List y_J → Prop
  | 0, _, _, _ => False
  | n + 1, l1, A, js => (((A 30 0) ≤ l1 → True) ∧ (¬ (A 30 0) ≤ l1 → (rg_tick_264 20000 l1 A js) ∧ (rg_tick_256 n (l1 + (1 : Int32)) (rf_tick_264 20000 l1 A js).1 (rf_tick_264 20000 l1 A js).2)))
theorem rh_tick_256 {d : Nat} (hd : 9 ≤ d) {Q : Option xm_V → y_A → List y_J → Prop} {F : Int32 × y_A × List y_J} (n : Nat) : ∀ (l1 : Int32) (e2 e3 : Option xm_V) (A : y_A) (js : List y_J), rg_tick_256 n l1 A js → rf_tick_256 n l1 A js = F → (∀ (z2 z3 : Option xm_V), ra d 164 386 [some (.inr (some (11, 0))), some (.inl F.1), z2, z3] [] F.2.1 F.2.2 Q) → ra d 164 256 [some (.inr (some (11, 0))), some (.inl l1), e2, e3] [] A js Q := by
  obtain ⟨d, rfl⟩ := Nat.exists_eq_add_of_le' hd
  induction n with
  | zero => intro l1 e2 e3 A js hg; exact hg.elim
  | succ n ih =>
    intro l1 e2 e3 A js hg hk hE
    unfold rg_tick_256 at hg
    unfold rf_tick_256 at hk
    refine ra.s (pc' := 257) (st' := [.inl l1]) (fun _ => rfl) ?_
    refine ra.s (pc' := 258) (st' := [.inr (some (11, 0)), .inl l1]) (fun _ => rfl) ?_
    refine ra.gi (x := 30) (nx := 261) (v := (A 30 0)) rfl rfl rfl ?_
    refine ra.b (c := (A 30 0) ≤ l1) (cd := .ge) (x := l1) (y := (A 30 0)) 386 264 (st' := []) (fun _ => rfl) (y_cge _ _) hk hg (fun h1 hg hk => ?_) (fun h1 hg hk => ?_)
    · skip
      subst hk
      exact hE e2 e3
    · skip
      obtain ⟨h2, hg⟩ := hg
      refine rh_tick_264 (by omega) 20000 l1 e2 e3 A js h2 rfl ?_
      intro e1x e2x
      refine ra.s (pc' := 383) (L' := [some (.inr (some (11, 0))), some (.inl (l1 + (1 : Int32))), e1x, e2x]) (st' := []) (fun _ => rfl) ?_
      refine ra.s (pc' := 256) (st' := []) (fun _ => rfl) ?_
      exact ih (l1 + (1 : Int32)) e1x e2x (rf_tick_264 20000 l1 A js).1 (rf_tick_264 20000 l1 A js).2 hg hk hE
noncomputable def rf_tick_388 : Nat → Int32 → y_A → List y_J → Int32 × y_A × List y_J
  | 0, _, A, js => (0, A, js)
  | n + 1, l1, A, js => (if (A 89 0) ≤ l1 then (l1, A, js) else (rf_tick_388 n (l1 + (1 : Int32)) (rf_planDue l1 A js).1 (rf_planDue l1 A js).2))
def rg_tick_388 : Nat → Int32 → y_A → List y_J → Prop
  | 0, _, _, _ => False
  | n + 1, l1, A, js => (((A 89 0) ≤ l1 → True) ∧ (¬ (A 89 0) ≤ l1 → (rg_planDue l1 A js) ∧ (rg_tick_388 n (l1 + (1 : Int32)) (rf_planDue l1 A js).1 (rf_planDue l1 A js).2)))
theorem rh_tick_388 {d : Nat} (hd : 9 ≤ d) {Q : Option xm_V → y_A → List y_J → Prop} {F : Int32 × y_A × List y_J} (n : Nat) : ∀ (l1 : Int32) (e2 e3 : Option xm_V) (A : y_A) (js : List y_J), rg_tick_388 n l1 A js → rf_tick_388 n l1 A js = F → (∀ (z2 z3 : Option xm_V), ra d 164 407 [some (.inr (some (11, 0))), some (.inl F.1), z2, z3] [] F.2.1 F.2.2 Q) → ra d 164 388 [some (.inr (some (11, 0))), some (.inl l1), e2, e3] [] A js Q := by
  obtain ⟨d, rfl⟩ := Nat.exists_eq_add_of_le' hd
  induction n with
  | zero => intro l1 e2 e3 A js hg; exact hg.elim
  | succ n ih =>
    intro l1 e2 e3 A js hg hk hE
    unfold rg_tick_388 at hg
    unfold rf_tick_388 at hk
    refine ra.s (pc' := 389) (st' := [.inl l1]) (fun _ => rfl) ?_
    refine ra.s (pc' := 390) (st' := [.inr (some (11, 0)), .inl l1]) (fun _ => rfl) ?_
    refine ra.gi (x := 89) (nx := 393) (v := (A 89 0)) rfl rfl rfl ?_
    refine ra.b (c := (A 89 0) ≤ l1) (cd := .ge) (x := l1) (y := (A 89 0)) 407 396 (st' := []) (fun _ => rfl) (y_cge _ _) hk hg (fun h1 hg hk => ?_) (fun h1 hg hk => ?_)
    · skip
      subst hk
      exact hE e2 e3
    · skip
      refine ra.s (pc' := 397) (st' := [.inr (some (11, 0))]) (fun _ => rfl) ?_
      refine ra.s (pc' := 398) (st' := [.inl l1, .inr (some (11, 0))]) (fun _ => rfl) ?_
      obtain ⟨h2, hg⟩ := hg
      refine ra.cV (F := (rf_planDue l1 A js)) (m := 167) (as := [.inr (some (11, 0)), .inl l1]) (nx := 401) (L' := [some (.inr (some (11, 0))), some (.inl l1), e2, e3]) (st' := []) (fun _ => rfl) (rh_planDue (by omega) h2) ?_
      show ra _ _ _ _ [] (rf_planDue l1 A js).1 (rf_planDue l1 A js).2 _
      refine ra.s (pc' := 404) (L' := [some (.inr (some (11, 0))), some (.inl (l1 + (1 : Int32))), e2, e3]) (st' := []) (fun _ => rfl) ?_
      refine ra.s (pc' := 388) (st' := []) (fun _ => rfl) ?_
      exact ih (l1 + (1 : Int32)) e2 e3 (rf_planDue l1 A js).1 (rf_planDue l1 A js).2 hg hk hE
noncomputable def rf_tick_409 : Nat → Int32 → y_A → Int32 × y_A
  | 0, _, A => (0, A)
  | n + 1, l1, A => (if (A 103 0) ≤ l1 then (l1, A) else (if (rf_isSo l1 A) = (0 : Int32) then (rf_tick_409 n (l1 + (1 : Int32)) (xm_u2 A 109 (y_ix l1) (rf_isSo l1 A))) else (if (A 109 (y_ix l1)) = (0 : Int32) then (rf_tick_409 n (l1 + (1 : Int32)) (xm_u2 (xm_u2 (xm_u2 A 107 (y_ix l1) ((A 107 (y_ix l1)) + (1 : Int32))) 108 (y_ix l1) (A 0 0)) 109 (y_ix l1) (rf_isSo l1 A))) else (rf_tick_409 n (l1 + (1 : Int32)) (xm_u2 A 109 (y_ix l1) (rf_isSo l1 A))))))
def rg_tick_409 : Nat → Int32 → y_A → Prop
  | 0, _, _ => False
  | n + 1, l1, A => (((A 103 0) ≤ l1 → True) ∧ (¬ (A 103 0) ≤ l1 → (rg_isSo l1 A) ∧ (((rf_isSo l1 A) = (0 : Int32) → (y_in l1 10) ∧ ((rf_isSo l1 A) = 0 ∨ (rf_isSo l1 A) = 1) ∧ (rg_tick_409 n (l1 + (1 : Int32)) (xm_u2 A 109 (y_ix l1) (rf_isSo l1 A)))) ∧ (¬ (rf_isSo l1 A) = (0 : Int32) → (y_in l1 10) ∧ (((A 109 (y_ix l1)) = (0 : Int32) → ((rf_isSo l1 A) = 0 ∨ (rf_isSo l1 A) = 1) ∧ (rg_tick_409 n (l1 + (1 : Int32)) (xm_u2 (xm_u2 (xm_u2 A 107 (y_ix l1) ((A 107 (y_ix l1)) + (1 : Int32))) 108 (y_ix l1) (A 0 0)) 109 (y_ix l1) (rf_isSo l1 A)))) ∧ (¬ (A 109 (y_ix l1)) = (0 : Int32) → ((rf_isSo l1 A) = 0 ∨ (rf_isSo l1 A) = 1) ∧ (rg_tick_409 n (l1 + (1 : Int32)) (xm_u2 A 109 (y_ix l1) (rf_isSo l1 A)))))))))
theorem rh_tick_409 {d : Nat} (hd : 9 ≤ d) {Q : Option xm_V → y_A → List y_J → Prop} {F : Int32 × y_A} (n : Nat) : ∀ (l1 : Int32) (e2 e3 : Option xm_V) (A : y_A) (js : List y_J), rg_tick_409 n l1 A → rf_tick_409 n l1 A = F → (∀ (z2 z3 : Option xm_V), ra d 164 469 [some (.inr (some (11, 0))), some (.inl F.1), z2, z3] [] F.2 js Q) → ra d 164 409 [some (.inr (some (11, 0))), some (.inl l1), e2, e3] [] A js Q := by
  obtain ⟨d, rfl⟩ := Nat.exists_eq_add_of_le' hd
  induction n with
  | zero => intro l1 e2 e3 A js hg; exact hg.elim
  | succ n ih =>
    intro l1 e2 e3 A js hg hk hE
    unfold rg_tick_409 at hg
    unfold rf_tick_409 at hk
    refine ra.s (pc' := 410) (st' := [.inl l1]) (fun _ => rfl) ?_
    refine ra.s (pc' := 411) (st' := [.inr (some (11, 0)), .inl l1]) (fun _ => rfl) ?_
    refine ra.gi (x := 103) (nx := 414) (v := (A 103 0)) rfl rfl rfl ?_
    refine ra.b (c := (A 103 0) ≤ l1) (cd := .ge) (x := l1) (y := (A 103 0)) 469 417 (st' := []) (fun _ => rfl) (y_cge _ _) hk hg (fun h1 hg hk => ?_) (fun h1 hg hk => ?_)
    · skip
      subst hk
      exact hE e2 e3
    · skip
      refine ra.s (pc' := 418) (st' := [.inr (some (11, 0))]) (fun _ => rfl) ?_
      refine ra.s (pc' := 419) (st' := [.inl l1, .inr (some (11, 0))]) (fun _ => rfl) ?_
      obtain ⟨h2, hg⟩ := hg
      refine ra.cP (f := (rf_isSo l1 A)) (m := 168) (as := [.inr (some (11, 0)), .inl l1]) (nx := 422) (L' := [some (.inr (some (11, 0))), some (.inl l1), e2, e3]) (st' := []) (fun _ => rfl) (rh_isSo (by omega) h2) ?_
      refine ra.s (pc' := 423) (L' := [some (.inr (some (11, 0))), some (.inl l1), some (.inl (rf_isSo l1 A)), e3]) (st' := []) (fun _ => rfl) ?_
      refine ra.s (pc' := 424) (st' := [.inl (rf_isSo l1 A)]) (fun _ => rfl) ?_
      refine ra.b (c := (rf_isSo l1 A) = (0 : Int32)) (cd := .eq) (x := (rf_isSo l1 A)) (y := (0 : Int32)) 456 427 (st' := []) (fun _ => rfl) (y_ceq _ _) hk hg (fun h3 hg hk => ?_) (fun h3 hg hk => ?_)
      · skip
        refine ra.s (pc' := 457) (st' := [.inr (some (11, 0))]) (fun _ => rfl) ?_
        refine ra.ga (x := 109) (nx := 460) (c := 14) (i := 9) rfl rfl ?_
        refine ra.s (pc' := 461) (st' := [.inl l1, .inr (some (14, 9))]) (fun _ => rfl) ?_
        refine ra.s (pc' := 462) (st' := [.inl (rf_isSo l1 A), .inl l1, .inr (some (14, 9))]) (fun _ => rfl) ?_
        obtain ⟨h4, hg⟩ := hg
        obtain ⟨h5, hg⟩ := hg
        refine ra.sz (nx := 463) 109 10 rfl rfl h4 h5 ?_
        refine ra.s (pc' := 466) (L' := [some (.inr (some (11, 0))), some (.inl (l1 + (1 : Int32))), some (.inl (rf_isSo l1 A)), e3]) (st' := []) (fun _ => rfl) ?_
        refine ra.s (pc' := 409) (st' := []) (fun _ => rfl) ?_
        exact ih (l1 + (1 : Int32)) (some (.inl (rf_isSo l1 A))) e3 (xm_u2 A 109 (y_ix l1) (rf_isSo l1 A)) js hg hk hE
      · skip
        refine ra.s (pc' := 428) (st' := [.inr (some (11, 0))]) (fun _ => rfl) ?_
        refine ra.ga (x := 109) (nx := 431) (c := 14) (i := 9) rfl rfl ?_
        refine ra.s (pc' := 432) (st' := [.inl l1, .inr (some (14, 9))]) (fun _ => rfl) ?_
        obtain ⟨h6, hg⟩ := hg
        refine ra.lz (nx := 433) (v := (A 109 (y_ix l1))) 109 10 rfl rfl h6 rfl ?_
        refine ra.bn (c := (A 109 (y_ix l1)) = (0 : Int32)) (cd := .ne) (x := (A 109 (y_ix l1))) (y := (0 : Int32)) 456 436 (st' := []) (fun _ => rfl) (y_cne _ _) hk hg (fun h7 hg hk => ?_) (fun h7 hg hk => ?_)
        · skip
          refine ra.s (pc' := 437) (st' := [.inr (some (11, 0))]) (fun _ => rfl) ?_
          refine ra.ga (x := 107) (nx := 440) (c := 13) (i := 83) rfl rfl ?_
          refine ra.s (pc' := 441) (st' := [.inl l1, .inr (some (13, 83))]) (fun _ => rfl) ?_
          refine ra.s (pc' := 442) (st' := [.inl l1, .inr (some (13, 83)), .inl l1, .inr (some (13, 83))]) (fun _ => rfl) ?_
          refine ra.ld (nx := 443) (v := (A 107 (y_ix l1))) 107 10 rfl rfl h6 rfl ?_
          refine ra.s (pc' := 444) (st' := [.inl (1 : Int32), .inl (A 107 (y_ix l1)), .inl l1, .inr (some (13, 83))]) (fun _ => rfl) ?_
          refine ra.s (pc' := 445) (st' := [.inl ((A 107 (y_ix l1)) + (1 : Int32)), .inl l1, .inr (some (13, 83))]) (fun _ => rfl) ?_
          refine ra.si (nx := 446) 107 10 rfl rfl h6 ?_
          refine ra.s (pc' := 447) (st' := [.inr (some (11, 0))]) (fun _ => rfl) ?_
          refine ra.ga (x := 108) (nx := 450) (c := 13) (i := 84) rfl rfl ?_
          refine ra.s (pc' := 451) (st' := [.inl l1, .inr (some (13, 84))]) (fun _ => rfl) ?_
          refine ra.s (pc' := 452) (st' := [.inr (some (11, 0)), .inl l1, .inr (some (13, 84))]) (fun _ => rfl) ?_
          refine ra.gi (x := 0) (nx := 455) (v := (A 0 0)) rfl rfl rfl ?_
          refine ra.si (nx := 456) 108 10 rfl rfl h6 ?_
          refine ra.s (pc' := 457) (st' := [.inr (some (11, 0))]) (fun _ => rfl) ?_
          refine ra.ga (x := 109) (nx := 460) (c := 14) (i := 9) rfl rfl ?_
          refine ra.s (pc' := 461) (st' := [.inl l1, .inr (some (14, 9))]) (fun _ => rfl) ?_
          refine ra.s (pc' := 462) (st' := [.inl (rf_isSo l1 A), .inl l1, .inr (some (14, 9))]) (fun _ => rfl) ?_
          obtain ⟨h8, hg⟩ := hg
          refine ra.sz (nx := 463) 109 10 rfl rfl h6 h8 ?_
          refine ra.s (pc' := 466) (L' := [some (.inr (some (11, 0))), some (.inl (l1 + (1 : Int32))), some (.inl (rf_isSo l1 A)), e3]) (st' := []) (fun _ => rfl) ?_
          refine ra.s (pc' := 409) (st' := []) (fun _ => rfl) ?_
          exact ih (l1 + (1 : Int32)) (some (.inl (rf_isSo l1 A))) e3 (xm_u2 (xm_u2 (xm_u2 A 107 (y_ix l1) ((A 107 (y_ix l1)) + (1 : Int32))) 108 (y_ix l1) (A 0 0)) 109 (y_ix l1) (rf_isSo l1 A)) js hg hk hE
        · skip
          refine ra.s (pc' := 457) (st' := [.inr (some (11, 0))]) (fun _ => rfl) ?_
          refine ra.ga (x := 109) (nx := 460) (c := 14) (i := 9) rfl rfl ?_
          refine ra.s (pc' := 461) (st' := [.inl l1, .inr (some (14, 9))]) (fun _ => rfl) ?_
          refine ra.s (pc' := 462) (st' := [.inl (rf_isSo l1 A), .inl l1, .inr (some (14, 9))]) (fun _ => rfl) ?_
          obtain ⟨h9, hg⟩ := hg
          refine ra.sz (nx := 463) 109 10 rfl rfl h6 h9 ?_
          refine ra.s (pc' := 466) (L' := [some (.inr (some (11, 0))), some (.inl (l1 + (1 : Int32))), some (.inl (rf_isSo l1 A)), e3]) (st' := []) (fun _ => rfl) ?_
          refine ra.s (pc' := 409) (st' := []) (fun _ => rfl) ?_
          exact ih (l1 + (1 : Int32)) (some (.inl (rf_isSo l1 A))) e3 (xm_u2 A 109 (y_ix l1) (rf_isSo l1 A)) js hg hk hE
end
