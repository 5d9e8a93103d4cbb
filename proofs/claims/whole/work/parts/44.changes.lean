/-! ===== THE REFERENCE: members that change (printed by wip/whole/gen42.py out of the bytecode) ===== -/
section
/-- station -/
def rf_station (a1 a2 a3 : Int32) (A : y_A) : Int32 × y_A := (if a2 < (0 : Int32) then ((-2 : Int32), A) else (if (1000000 : Int32) < a2 then ((-2 : Int32), A) else (if a1 < (0 : Int32) then ((-2 : Int32), A) else (if a2 < a1 then ((-2 : Int32), A) else (if a3 < (1 : Int32) then ((-2 : Int32), A) else (if a3 ≤ (100 : Int32) then (if (A 1 0) = (8 : Int32) then ((-3 : Int32), A) else ((((A 1 0) + (1 : Int32)) - (1 : Int32)), (xm_u2 (xm_u2 (xm_u2 (xm_u2 A 2 (y_ix (A 1 0)) a1) 3 (y_ix (A 1 0)) a2) 4 (y_ix (A 1 0)) a3) 1 0 ((A 1 0) + (1 : Int32))))) else ((-2 : Int32), A)))))))
def rg_station (a1 a2 a3 : Int32) (A : y_A) : Prop := ((a2 < (0 : Int32) → True) ∧ (¬ a2 < (0 : Int32) → (((1000000 : Int32) < a2 → True) ∧ (¬ (1000000 : Int32) < a2 → ((a1 < (0 : Int32) → True) ∧ (¬ a1 < (0 : Int32) → ((a2 < a1 → True) ∧ (¬ a2 < a1 → ((a3 < (1 : Int32) → True) ∧ (¬ a3 < (1 : Int32) → ((a3 ≤ (100 : Int32) → (((A 1 0) = (8 : Int32) → True) ∧ (¬ (A 1 0) = (8 : Int32) → (y_in (A 1 0) 8) ∧ True))) ∧ (¬ a3 ≤ (100 : Int32) → True))))))))))))
theorem rh_station {d : Nat} (hd : 0 ≤ d) {a1 a2 a3 : Int32} {A : y_A} {js : List y_J} (hg : rg_station a1 a2 a3 A) : rc d 113 [.inr (some (11, 0)), .inl a1, .inl a2, .inl a3] A js (y_I ((rf_station a1 a2 a3 A).1, (rf_station a1 a2 a3 A).2, js)) := by
  obtain ⟨F, hk⟩ : ∃ F, rf_station a1 a2 a3 A = F := ⟨_, rfl⟩
  rw [hk]
  show ra _ _ _ [some (.inr (some (11, 0))), some (.inl a1), some (.inl a2), some (.inl a3)] _ _ _ _
  unfold rg_station at hg
  unfold rf_station at hk
  refine ra.s (pc' := 1) (st' := [.inl a2]) (fun _ => rfl) ?_
  refine ra.b (c := a2 < (0 : Int32)) (cd := .lt) (x := a2) (y := (0 : Int32)) 31 4 (st' := []) (fun _ => rfl) (y_clt _ _) hk hg (fun h1 hg hk => ?_) (fun h1 hg hk => ?_)
  · skip
    refine ra.s (pc' := 33) (st' := [.inl (-2 : Int32)]) (fun _ => rfl) ?_
    subst hk
    exact ra.ret (r := some (.inl (-2 : Int32))) (fun _ => rfl) ⟨rfl, rfl, rfl⟩
  · skip
    refine ra.s (pc' := 5) (st' := [.inl a2]) (fun _ => rfl) ?_
    refine ra.s (pc' := 8) (st' := [.inl (1000000 : Int32), .inl a2]) (fun _ => rfl) ?_
    refine ra.b (c := (1000000 : Int32) < a2) (cd := .gt) (x := a2) (y := (1000000 : Int32)) 31 11 (st' := []) (fun _ => rfl) (y_cgt _ _) hk hg (fun h2 hg hk => ?_) (fun h2 hg hk => ?_)
    · skip
      refine ra.s (pc' := 33) (st' := [.inl (-2 : Int32)]) (fun _ => rfl) ?_
      subst hk
      exact ra.ret (r := some (.inl (-2 : Int32))) (fun _ => rfl) ⟨rfl, rfl, rfl⟩
    · skip
      refine ra.s (pc' := 12) (st' := [.inl a1]) (fun _ => rfl) ?_
      refine ra.b (c := a1 < (0 : Int32)) (cd := .lt) (x := a1) (y := (0 : Int32)) 31 15 (st' := []) (fun _ => rfl) (y_clt _ _) hk hg (fun h3 hg hk => ?_) (fun h3 hg hk => ?_)
      · skip
        refine ra.s (pc' := 33) (st' := [.inl (-2 : Int32)]) (fun _ => rfl) ?_
        subst hk
        exact ra.ret (r := some (.inl (-2 : Int32))) (fun _ => rfl) ⟨rfl, rfl, rfl⟩
      · skip
        refine ra.s (pc' := 16) (st' := [.inl a1]) (fun _ => rfl) ?_
        refine ra.s (pc' := 17) (st' := [.inl a2, .inl a1]) (fun _ => rfl) ?_
        refine ra.b (c := a2 < a1) (cd := .gt) (x := a1) (y := a2) 31 20 (st' := []) (fun _ => rfl) (y_cgt _ _) hk hg (fun h4 hg hk => ?_) (fun h4 hg hk => ?_)
        · skip
          refine ra.s (pc' := 33) (st' := [.inl (-2 : Int32)]) (fun _ => rfl) ?_
          subst hk
          exact ra.ret (r := some (.inl (-2 : Int32))) (fun _ => rfl) ⟨rfl, rfl, rfl⟩
        · skip
          refine ra.s (pc' := 21) (st' := [.inl a3]) (fun _ => rfl) ?_
          refine ra.s (pc' := 22) (st' := [.inl (1 : Int32), .inl a3]) (fun _ => rfl) ?_
          refine ra.b (c := a3 < (1 : Int32)) (cd := .lt) (x := a3) (y := (1 : Int32)) 31 25 (st' := []) (fun _ => rfl) (y_clt _ _) hk hg (fun h5 hg hk => ?_) (fun h5 hg hk => ?_)
          · skip
            refine ra.s (pc' := 33) (st' := [.inl (-2 : Int32)]) (fun _ => rfl) ?_
            subst hk
            exact ra.ret (r := some (.inl (-2 : Int32))) (fun _ => rfl) ⟨rfl, rfl, rfl⟩
          · skip
            refine ra.s (pc' := 26) (st' := [.inl a3]) (fun _ => rfl) ?_
            refine ra.s (pc' := 28) (st' := [.inl (100 : Int32), .inl a3]) (fun _ => rfl) ?_
            refine ra.b (c := a3 ≤ (100 : Int32)) (cd := .le) (x := a3) (y := (100 : Int32)) 34 31 (st' := []) (fun _ => rfl) (y_cle _ _) hk hg (fun h6 hg hk => ?_) (fun h6 hg hk => ?_)
            · skip
              refine ra.s (pc' := 35) (st' := [.inr (some (11, 0))]) (fun _ => rfl) ?_
              refine ra.gi (x := 1) (nx := 38) (v := (A 1 0)) rfl rfl rfl ?_
              refine ra.s (pc' := 40) (st' := [.inl (8 : Int32), .inl (A 1 0)]) (fun _ => rfl) ?_
              refine ra.bn (c := (A 1 0) = (8 : Int32)) (cd := .ne) (x := (A 1 0)) (y := (8 : Int32)) 46 43 (st' := []) (fun _ => rfl) (y_cne _ _) hk hg (fun h7 hg hk => ?_) (fun h7 hg hk => ?_)
              · skip
                refine ra.s (pc' := 45) (st' := [.inl (-3 : Int32)]) (fun _ => rfl) ?_
                subst hk
                exact ra.ret (r := some (.inl (-3 : Int32))) (fun _ => rfl) ⟨rfl, rfl, rfl⟩
              · skip
                refine ra.s (pc' := 47) (st' := [.inr (some (11, 0))]) (fun _ => rfl) ?_
                refine ra.ga (x := 2) (nx := 50) (c := 13) (i := 0) rfl rfl ?_
                refine ra.s (pc' := 51) (st' := [.inr (some (11, 0)), .inr (some (13, 0))]) (fun _ => rfl) ?_
                refine ra.gi (x := 1) (nx := 54) (v := (A 1 0)) rfl rfl rfl ?_
                refine ra.s (pc' := 55) (st' := [.inl a1, .inl (A 1 0), .inr (some (13, 0))]) (fun _ => rfl) ?_
                obtain ⟨h8, hg⟩ := hg
                refine ra.si (nx := 56) 2 8 rfl rfl h8 ?_
                refine ra.s (pc' := 57) (st' := [.inr (some (11, 0))]) (fun _ => rfl) ?_
                refine ra.ga (x := 3) (nx := 60) (c := 13) (i := 1) rfl rfl ?_
                refine ra.s (pc' := 61) (st' := [.inr (some (11, 0)), .inr (some (13, 1))]) (fun _ => rfl) ?_
                refine ra.gi (x := 1) (nx := 64) (v := (A 1 0)) rfl rfl rfl ?_
                refine ra.s (pc' := 65) (st' := [.inl a2, .inl (A 1 0), .inr (some (13, 1))]) (fun _ => rfl) ?_
                refine ra.si (nx := 66) 3 8 rfl rfl h8 ?_
                refine ra.s (pc' := 67) (st' := [.inr (some (11, 0))]) (fun _ => rfl) ?_
                refine ra.ga (x := 4) (nx := 70) (c := 13) (i := 2) rfl rfl ?_
                refine ra.s (pc' := 71) (st' := [.inr (some (11, 0)), .inr (some (13, 2))]) (fun _ => rfl) ?_
                refine ra.gi (x := 1) (nx := 74) (v := (A 1 0)) rfl rfl rfl ?_
                refine ra.s (pc' := 75) (st' := [.inl a3, .inl (A 1 0), .inr (some (13, 2))]) (fun _ => rfl) ?_
                refine ra.si (nx := 76) 4 8 rfl rfl h8 ?_
                refine ra.s (pc' := 77) (st' := [.inr (some (11, 0))]) (fun _ => rfl) ?_
                refine ra.s (pc' := 78) (st' := [.inr (some (11, 0)), .inr (some (11, 0))]) (fun _ => rfl) ?_
                refine ra.gi (x := 1) (nx := 81) (v := (A 1 0)) rfl rfl rfl ?_
                refine ra.s (pc' := 82) (st' := [.inl (1 : Int32), .inl (A 1 0), .inr (some (11, 0))]) (fun _ => rfl) ?_
                refine ra.s (pc' := 83) (st' := [.inl ((A 1 0) + (1 : Int32)), .inr (some (11, 0))]) (fun _ => rfl) ?_
                refine ra.pi (x := 1) (nx := 86) rfl rfl ?_
                refine ra.s (pc' := 87) (st' := [.inr (some (11, 0))]) (fun _ => rfl) ?_
                refine ra.gi (x := 1) (nx := 90) (v := ((A 1 0) + (1 : Int32))) rfl rfl rfl ?_
                refine ra.s (pc' := 91) (st' := [.inl (1 : Int32), .inl ((A 1 0) + (1 : Int32))]) (fun _ => rfl) ?_
                refine ra.s (pc' := 92) (st' := [.inl (((A 1 0) + (1 : Int32)) - (1 : Int32))]) (fun _ => rfl) ?_
                subst hk
                exact ra.ret (r := some (.inl (((A 1 0) + (1 : Int32)) - (1 : Int32)))) (fun _ => rfl) ⟨rfl, rfl, rfl⟩
            · skip
              refine ra.s (pc' := 33) (st' := [.inl (-2 : Int32)]) (fun _ => rfl) ?_
              subst hk
              exact ra.ret (r := some (.inl (-2 : Int32))) (fun _ => rfl) ⟨rfl, rfl, rfl⟩
/-- fault -/
def rf_fault (a1 a2 a3 a4 a5 : Int32) (A : y_A) : Int32 × y_A := (if (rf_isStation a1 A) = (0 : Int32) then ((-1 : Int32), A) else (if (rf_isAct a2 A) = (0 : Int32) then ((-2 : Int32), A) else (if a3 < (0 : Int32) then ((-2 : Int32), A) else (if a4 < a3 then ((-2 : Int32), A) else (if a5 < (1 : Int32) then ((-2 : Int32), A) else (if a5 ≤ (7 : Int32) then (if (A 5 0) = (30 : Int32) then ((-3 : Int32), A) else (((A 5 0) + (1 : Int32)), (xm_u2 (xm_u2 (xm_u2 (xm_u2 (xm_u2 (xm_u2 A 6 (y_ix (A 5 0)) a1) 7 (y_ix (A 5 0)) a2) 8 (y_ix (A 5 0)) a3) 9 (y_ix (A 5 0)) a4) 10 (y_ix (A 5 0)) a5) 5 0 ((A 5 0) + (1 : Int32))))) else ((-2 : Int32), A)))))))
def rg_fault (a1 a2 a3 a4 a5 : Int32) (A : y_A) : Prop := (rg_isStation a1 A) ∧ (((rf_isStation a1 A) = (0 : Int32) → True) ∧ (¬ (rf_isStation a1 A) = (0 : Int32) → (rg_isAct a2 A) ∧ (((rf_isAct a2 A) = (0 : Int32) → True) ∧ (¬ (rf_isAct a2 A) = (0 : Int32) → ((a3 < (0 : Int32) → True) ∧ (¬ a3 < (0 : Int32) → ((a4 < a3 → True) ∧ (¬ a4 < a3 → ((a5 < (1 : Int32) → True) ∧ (¬ a5 < (1 : Int32) → ((a5 ≤ (7 : Int32) → (((A 5 0) = (30 : Int32) → True) ∧ (¬ (A 5 0) = (30 : Int32) → (y_in (A 5 0) 30) ∧ True))) ∧ (¬ a5 ≤ (7 : Int32) → True))))))))))))
theorem rh_fault {d : Nat} (hd : 1 ≤ d) {a1 a2 a3 a4 a5 : Int32} {A : y_A} {js : List y_J} (hg : rg_fault a1 a2 a3 a4 a5 A) : rc d 114 [.inr (some (11, 0)), .inl a1, .inl a2, .inl a3, .inl a4, .inl a5] A js (y_I ((rf_fault a1 a2 a3 a4 a5 A).1, (rf_fault a1 a2 a3 a4 a5 A).2, js)) := by
  obtain ⟨d, rfl⟩ := Nat.exists_eq_add_of_le' hd
  obtain ⟨F, hk⟩ : ∃ F, rf_fault a1 a2 a3 a4 a5 A = F := ⟨_, rfl⟩
  rw [hk]
  show ra _ _ _ [some (.inr (some (11, 0))), some (.inl a1), some (.inl a2), some (.inl a3), some (.inl a4), some (.inl a5)] _ _ _ _
  unfold rg_fault at hg
  unfold rf_fault at hk
  refine ra.s (pc' := 1) (st' := [.inr (some (11, 0))]) (fun _ => rfl) ?_
  refine ra.s (pc' := 2) (st' := [.inl a1, .inr (some (11, 0))]) (fun _ => rfl) ?_
  obtain ⟨h1, hg⟩ := hg
  refine ra.cP (f := (rf_isStation a1 A)) (m := 115) (as := [.inr (some (11, 0)), .inl a1]) (nx := 5) (L' := [some (.inr (some (11, 0))), some (.inl a1), some (.inl a2), some (.inl a3), some (.inl a4), some (.inl a5)]) (st' := []) (fun _ => rfl) (rh_isStation (by omega) h1) ?_
  refine ra.bn (c := (rf_isStation a1 A) = (0 : Int32)) (cd := .ne) (x := (rf_isStation a1 A)) (y := (0 : Int32)) 10 8 (st' := []) (fun _ => rfl) (y_cne _ _) hk hg (fun h2 hg hk => ?_) (fun h2 hg hk => ?_)
  · skip
    refine ra.s (pc' := 9) (st' := [.inl (-1 : Int32)]) (fun _ => rfl) ?_
    subst hk
    exact ra.ret (r := some (.inl (-1 : Int32))) (fun _ => rfl) ⟨rfl, rfl, rfl⟩
  · skip
    refine ra.s (pc' := 11) (st' := [.inr (some (11, 0))]) (fun _ => rfl) ?_
    refine ra.s (pc' := 12) (st' := [.inl a2, .inr (some (11, 0))]) (fun _ => rfl) ?_
    obtain ⟨h3, hg⟩ := hg
    refine ra.cP (f := (rf_isAct a2 A)) (m := 116) (as := [.inr (some (11, 0)), .inl a2]) (nx := 15) (L' := [some (.inr (some (11, 0))), some (.inl a1), some (.inl a2), some (.inl a3), some (.inl a4), some (.inl a5)]) (st' := []) (fun _ => rfl) (rh_isAct (by omega) h3) ?_
    refine ra.b (c := (rf_isAct a2 A) = (0 : Int32)) (cd := .eq) (x := (rf_isAct a2 A)) (y := (0 : Int32)) 41 18 (st' := []) (fun _ => rfl) (y_ceq _ _) hk hg (fun h4 hg hk => ?_) (fun h4 hg hk => ?_)
    · skip
      refine ra.s (pc' := 43) (st' := [.inl (-2 : Int32)]) (fun _ => rfl) ?_
      subst hk
      exact ra.ret (r := some (.inl (-2 : Int32))) (fun _ => rfl) ⟨rfl, rfl, rfl⟩
    · skip
      refine ra.s (pc' := 19) (st' := [.inl a3]) (fun _ => rfl) ?_
      refine ra.b (c := a3 < (0 : Int32)) (cd := .lt) (x := a3) (y := (0 : Int32)) 41 22 (st' := []) (fun _ => rfl) (y_clt _ _) hk hg (fun h5 hg hk => ?_) (fun h5 hg hk => ?_)
      · skip
        refine ra.s (pc' := 43) (st' := [.inl (-2 : Int32)]) (fun _ => rfl) ?_
        subst hk
        exact ra.ret (r := some (.inl (-2 : Int32))) (fun _ => rfl) ⟨rfl, rfl, rfl⟩
      · skip
        refine ra.s (pc' := 24) (st' := [.inl a4]) (fun _ => rfl) ?_
        refine ra.s (pc' := 25) (st' := [.inl a3, .inl a4]) (fun _ => rfl) ?_
        refine ra.b (c := a4 < a3) (cd := .lt) (x := a4) (y := a3) 41 28 (st' := []) (fun _ => rfl) (y_clt _ _) hk hg (fun h6 hg hk => ?_) (fun h6 hg hk => ?_)
        · skip
          refine ra.s (pc' := 43) (st' := [.inl (-2 : Int32)]) (fun _ => rfl) ?_
          subst hk
          exact ra.ret (r := some (.inl (-2 : Int32))) (fun _ => rfl) ⟨rfl, rfl, rfl⟩
        · skip
          refine ra.s (pc' := 30) (st' := [.inl a5]) (fun _ => rfl) ?_
          refine ra.s (pc' := 31) (st' := [.inl (1 : Int32), .inl a5]) (fun _ => rfl) ?_
          refine ra.b (c := a5 < (1 : Int32)) (cd := .lt) (x := a5) (y := (1 : Int32)) 41 34 (st' := []) (fun _ => rfl) (y_clt _ _) hk hg (fun h7 hg hk => ?_) (fun h7 hg hk => ?_)
          · skip
            refine ra.s (pc' := 43) (st' := [.inl (-2 : Int32)]) (fun _ => rfl) ?_
            subst hk
            exact ra.ret (r := some (.inl (-2 : Int32))) (fun _ => rfl) ⟨rfl, rfl, rfl⟩
          · skip
            refine ra.s (pc' := 36) (st' := [.inl a5]) (fun _ => rfl) ?_
            refine ra.s (pc' := 38) (st' := [.inl (7 : Int32), .inl a5]) (fun _ => rfl) ?_
            refine ra.b (c := a5 ≤ (7 : Int32)) (cd := .le) (x := a5) (y := (7 : Int32)) 44 41 (st' := []) (fun _ => rfl) (y_cle _ _) hk hg (fun h8 hg hk => ?_) (fun h8 hg hk => ?_)
            · skip
              refine ra.s (pc' := 45) (st' := [.inr (some (11, 0))]) (fun _ => rfl) ?_
              refine ra.gi (x := 5) (nx := 48) (v := (A 5 0)) rfl rfl rfl ?_
              refine ra.s (pc' := 50) (st' := [.inl (30 : Int32), .inl (A 5 0)]) (fun _ => rfl) ?_
              refine ra.bn (c := (A 5 0) = (30 : Int32)) (cd := .ne) (x := (A 5 0)) (y := (30 : Int32)) 56 53 (st' := []) (fun _ => rfl) (y_cne _ _) hk hg (fun h9 hg hk => ?_) (fun h9 hg hk => ?_)
              · skip
                refine ra.s (pc' := 55) (st' := [.inl (-3 : Int32)]) (fun _ => rfl) ?_
                subst hk
                exact ra.ret (r := some (.inl (-3 : Int32))) (fun _ => rfl) ⟨rfl, rfl, rfl⟩
              · skip
                refine ra.s (pc' := 57) (st' := [.inr (some (11, 0))]) (fun _ => rfl) ?_
                refine ra.ga (x := 6) (nx := 60) (c := 13) (i := 3) rfl rfl ?_
                refine ra.s (pc' := 61) (st' := [.inr (some (11, 0)), .inr (some (13, 3))]) (fun _ => rfl) ?_
                refine ra.gi (x := 5) (nx := 64) (v := (A 5 0)) rfl rfl rfl ?_
                refine ra.s (pc' := 65) (st' := [.inl a1, .inl (A 5 0), .inr (some (13, 3))]) (fun _ => rfl) ?_
                obtain ⟨h10, hg⟩ := hg
                refine ra.si (nx := 66) 6 30 rfl rfl h10 ?_
                refine ra.s (pc' := 67) (st' := [.inr (some (11, 0))]) (fun _ => rfl) ?_
                refine ra.ga (x := 7) (nx := 70) (c := 13) (i := 4) rfl rfl ?_
                refine ra.s (pc' := 71) (st' := [.inr (some (11, 0)), .inr (some (13, 4))]) (fun _ => rfl) ?_
                refine ra.gi (x := 5) (nx := 74) (v := (A 5 0)) rfl rfl rfl ?_
                refine ra.s (pc' := 75) (st' := [.inl a2, .inl (A 5 0), .inr (some (13, 4))]) (fun _ => rfl) ?_
                refine ra.si (nx := 76) 7 30 rfl rfl h10 ?_
                refine ra.s (pc' := 77) (st' := [.inr (some (11, 0))]) (fun _ => rfl) ?_
                refine ra.ga (x := 8) (nx := 80) (c := 13) (i := 5) rfl rfl ?_
                refine ra.s (pc' := 81) (st' := [.inr (some (11, 0)), .inr (some (13, 5))]) (fun _ => rfl) ?_
                refine ra.gi (x := 5) (nx := 84) (v := (A 5 0)) rfl rfl rfl ?_
                refine ra.s (pc' := 85) (st' := [.inl a3, .inl (A 5 0), .inr (some (13, 5))]) (fun _ => rfl) ?_
                refine ra.si (nx := 86) 8 30 rfl rfl h10 ?_
                refine ra.s (pc' := 87) (st' := [.inr (some (11, 0))]) (fun _ => rfl) ?_
                refine ra.ga (x := 9) (nx := 90) (c := 13) (i := 6) rfl rfl ?_
                refine ra.s (pc' := 91) (st' := [.inr (some (11, 0)), .inr (some (13, 6))]) (fun _ => rfl) ?_
                refine ra.gi (x := 5) (nx := 94) (v := (A 5 0)) rfl rfl rfl ?_
                refine ra.s (pc' := 96) (st' := [.inl a4, .inl (A 5 0), .inr (some (13, 6))]) (fun _ => rfl) ?_
                refine ra.si (nx := 97) 9 30 rfl rfl h10 ?_
                refine ra.s (pc' := 98) (st' := [.inr (some (11, 0))]) (fun _ => rfl) ?_
                refine ra.ga (x := 10) (nx := 101) (c := 13) (i := 7) rfl rfl ?_
                refine ra.s (pc' := 102) (st' := [.inr (some (11, 0)), .inr (some (13, 7))]) (fun _ => rfl) ?_
                refine ra.gi (x := 5) (nx := 105) (v := (A 5 0)) rfl rfl rfl ?_
                refine ra.s (pc' := 107) (st' := [.inl a5, .inl (A 5 0), .inr (some (13, 7))]) (fun _ => rfl) ?_
                refine ra.si (nx := 108) 10 30 rfl rfl h10 ?_
                refine ra.s (pc' := 109) (st' := [.inr (some (11, 0))]) (fun _ => rfl) ?_
                refine ra.s (pc' := 110) (st' := [.inr (some (11, 0)), .inr (some (11, 0))]) (fun _ => rfl) ?_
                refine ra.gi (x := 5) (nx := 113) (v := (A 5 0)) rfl rfl rfl ?_
                refine ra.s (pc' := 114) (st' := [.inl (1 : Int32), .inl (A 5 0), .inr (some (11, 0))]) (fun _ => rfl) ?_
                refine ra.s (pc' := 115) (st' := [.inl ((A 5 0) + (1 : Int32)), .inr (some (11, 0))]) (fun _ => rfl) ?_
                refine ra.pi (x := 5) (nx := 118) rfl rfl ?_
                refine ra.s (pc' := 119) (st' := [.inr (some (11, 0))]) (fun _ => rfl) ?_
                refine ra.gi (x := 5) (nx := 122) (v := ((A 5 0) + (1 : Int32))) rfl rfl rfl ?_
                subst hk
                exact ra.ret (r := some (.inl ((A 5 0) + (1 : Int32)))) (fun _ => rfl) ⟨rfl, rfl, rfl⟩
            · skip
              refine ra.s (pc' := 43) (st' := [.inl (-2 : Int32)]) (fun _ => rfl) ?_
              subst hk
              exact ra.ret (r := some (.inl (-2 : Int32))) (fun _ => rfl) ⟨rfl, rfl, rfl⟩
/-- slow -/
def rf_slow (a1 a2 a3 a4 a5 : Int32) (A : y_A) : Int32 × y_A := (if (rf_isStation a1 A) = (0 : Int32) then ((-1 : Int32), A) else (if (rf_isAct a2 A) = (0 : Int32) then ((-2 : Int32), A) else (if a3 < (0 : Int32) then ((-2 : Int32), A) else (if a4 < a3 then ((-2 : Int32), A) else (if a5 < (1 : Int32) then ((-2 : Int32), A) else (if a5 ≤ (1000 : Int32) then (if (A 11 0) = (30 : Int32) then ((-3 : Int32), A) else (((A 11 0) + (1 : Int32)), (xm_u2 (xm_u2 (xm_u2 (xm_u2 (xm_u2 (xm_u2 A 12 (y_ix (A 11 0)) a1) 13 (y_ix (A 11 0)) a2) 14 (y_ix (A 11 0)) a3) 15 (y_ix (A 11 0)) a4) 16 (y_ix (A 11 0)) a5) 11 0 ((A 11 0) + (1 : Int32))))) else ((-2 : Int32), A)))))))
def rg_slow (a1 a2 a3 a4 a5 : Int32) (A : y_A) : Prop := (rg_isStation a1 A) ∧ (((rf_isStation a1 A) = (0 : Int32) → True) ∧ (¬ (rf_isStation a1 A) = (0 : Int32) → (rg_isAct a2 A) ∧ (((rf_isAct a2 A) = (0 : Int32) → True) ∧ (¬ (rf_isAct a2 A) = (0 : Int32) → ((a3 < (0 : Int32) → True) ∧ (¬ a3 < (0 : Int32) → ((a4 < a3 → True) ∧ (¬ a4 < a3 → ((a5 < (1 : Int32) → True) ∧ (¬ a5 < (1 : Int32) → ((a5 ≤ (1000 : Int32) → (((A 11 0) = (30 : Int32) → True) ∧ (¬ (A 11 0) = (30 : Int32) → (y_in (A 11 0) 30) ∧ True))) ∧ (¬ a5 ≤ (1000 : Int32) → True))))))))))))
theorem rh_slow {d : Nat} (hd : 1 ≤ d) {a1 a2 a3 a4 a5 : Int32} {A : y_A} {js : List y_J} (hg : rg_slow a1 a2 a3 a4 a5 A) : rc d 117 [.inr (some (11, 0)), .inl a1, .inl a2, .inl a3, .inl a4, .inl a5] A js (y_I ((rf_slow a1 a2 a3 a4 a5 A).1, (rf_slow a1 a2 a3 a4 a5 A).2, js)) := by
  obtain ⟨d, rfl⟩ := Nat.exists_eq_add_of_le' hd
  obtain ⟨F, hk⟩ : ∃ F, rf_slow a1 a2 a3 a4 a5 A = F := ⟨_, rfl⟩
  rw [hk]
  show ra _ _ _ [some (.inr (some (11, 0))), some (.inl a1), some (.inl a2), some (.inl a3), some (.inl a4), some (.inl a5)] _ _ _ _
  unfold rg_slow at hg
  unfold rf_slow at hk
  refine ra.s (pc' := 1) (st' := [.inr (some (11, 0))]) (fun _ => rfl) ?_
  refine ra.s (pc' := 2) (st' := [.inl a1, .inr (some (11, 0))]) (fun _ => rfl) ?_
  obtain ⟨h1, hg⟩ := hg
  refine ra.cP (f := (rf_isStation a1 A)) (m := 115) (as := [.inr (some (11, 0)), .inl a1]) (nx := 5) (L' := [some (.inr (some (11, 0))), some (.inl a1), some (.inl a2), some (.inl a3), some (.inl a4), some (.inl a5)]) (st' := []) (fun _ => rfl) (rh_isStation (by omega) h1) ?_
  refine ra.bn (c := (rf_isStation a1 A) = (0 : Int32)) (cd := .ne) (x := (rf_isStation a1 A)) (y := (0 : Int32)) 10 8 (st' := []) (fun _ => rfl) (y_cne _ _) hk hg (fun h2 hg hk => ?_) (fun h2 hg hk => ?_)
  · skip
    refine ra.s (pc' := 9) (st' := [.inl (-1 : Int32)]) (fun _ => rfl) ?_
    subst hk
    exact ra.ret (r := some (.inl (-1 : Int32))) (fun _ => rfl) ⟨rfl, rfl, rfl⟩
  · skip
    refine ra.s (pc' := 11) (st' := [.inr (some (11, 0))]) (fun _ => rfl) ?_
    refine ra.s (pc' := 12) (st' := [.inl a2, .inr (some (11, 0))]) (fun _ => rfl) ?_
    obtain ⟨h3, hg⟩ := hg
    refine ra.cP (f := (rf_isAct a2 A)) (m := 116) (as := [.inr (some (11, 0)), .inl a2]) (nx := 15) (L' := [some (.inr (some (11, 0))), some (.inl a1), some (.inl a2), some (.inl a3), some (.inl a4), some (.inl a5)]) (st' := []) (fun _ => rfl) (rh_isAct (by omega) h3) ?_
    refine ra.b (c := (rf_isAct a2 A) = (0 : Int32)) (cd := .eq) (x := (rf_isAct a2 A)) (y := (0 : Int32)) 42 18 (st' := []) (fun _ => rfl) (y_ceq _ _) hk hg (fun h4 hg hk => ?_) (fun h4 hg hk => ?_)
    · skip
      refine ra.s (pc' := 44) (st' := [.inl (-2 : Int32)]) (fun _ => rfl) ?_
      subst hk
      exact ra.ret (r := some (.inl (-2 : Int32))) (fun _ => rfl) ⟨rfl, rfl, rfl⟩
    · skip
      refine ra.s (pc' := 19) (st' := [.inl a3]) (fun _ => rfl) ?_
      refine ra.b (c := a3 < (0 : Int32)) (cd := .lt) (x := a3) (y := (0 : Int32)) 42 22 (st' := []) (fun _ => rfl) (y_clt _ _) hk hg (fun h5 hg hk => ?_) (fun h5 hg hk => ?_)
      · skip
        refine ra.s (pc' := 44) (st' := [.inl (-2 : Int32)]) (fun _ => rfl) ?_
        subst hk
        exact ra.ret (r := some (.inl (-2 : Int32))) (fun _ => rfl) ⟨rfl, rfl, rfl⟩
      · skip
        refine ra.s (pc' := 24) (st' := [.inl a4]) (fun _ => rfl) ?_
        refine ra.s (pc' := 25) (st' := [.inl a3, .inl a4]) (fun _ => rfl) ?_
        refine ra.b (c := a4 < a3) (cd := .lt) (x := a4) (y := a3) 42 28 (st' := []) (fun _ => rfl) (y_clt _ _) hk hg (fun h6 hg hk => ?_) (fun h6 hg hk => ?_)
        · skip
          refine ra.s (pc' := 44) (st' := [.inl (-2 : Int32)]) (fun _ => rfl) ?_
          subst hk
          exact ra.ret (r := some (.inl (-2 : Int32))) (fun _ => rfl) ⟨rfl, rfl, rfl⟩
        · skip
          refine ra.s (pc' := 30) (st' := [.inl a5]) (fun _ => rfl) ?_
          refine ra.s (pc' := 31) (st' := [.inl (1 : Int32), .inl a5]) (fun _ => rfl) ?_
          refine ra.b (c := a5 < (1 : Int32)) (cd := .lt) (x := a5) (y := (1 : Int32)) 42 34 (st' := []) (fun _ => rfl) (y_clt _ _) hk hg (fun h7 hg hk => ?_) (fun h7 hg hk => ?_)
          · skip
            refine ra.s (pc' := 44) (st' := [.inl (-2 : Int32)]) (fun _ => rfl) ?_
            subst hk
            exact ra.ret (r := some (.inl (-2 : Int32))) (fun _ => rfl) ⟨rfl, rfl, rfl⟩
          · skip
            refine ra.s (pc' := 36) (st' := [.inl a5]) (fun _ => rfl) ?_
            refine ra.s (pc' := 39) (st' := [.inl (1000 : Int32), .inl a5]) (fun _ => rfl) ?_
            refine ra.b (c := a5 ≤ (1000 : Int32)) (cd := .le) (x := a5) (y := (1000 : Int32)) 45 42 (st' := []) (fun _ => rfl) (y_cle _ _) hk hg (fun h8 hg hk => ?_) (fun h8 hg hk => ?_)
            · skip
              refine ra.s (pc' := 46) (st' := [.inr (some (11, 0))]) (fun _ => rfl) ?_
              refine ra.gi (x := 11) (nx := 49) (v := (A 11 0)) rfl rfl rfl ?_
              refine ra.s (pc' := 51) (st' := [.inl (30 : Int32), .inl (A 11 0)]) (fun _ => rfl) ?_
              refine ra.bn (c := (A 11 0) = (30 : Int32)) (cd := .ne) (x := (A 11 0)) (y := (30 : Int32)) 57 54 (st' := []) (fun _ => rfl) (y_cne _ _) hk hg (fun h9 hg hk => ?_) (fun h9 hg hk => ?_)
              · skip
                refine ra.s (pc' := 56) (st' := [.inl (-3 : Int32)]) (fun _ => rfl) ?_
                subst hk
                exact ra.ret (r := some (.inl (-3 : Int32))) (fun _ => rfl) ⟨rfl, rfl, rfl⟩
              · skip
                refine ra.s (pc' := 58) (st' := [.inr (some (11, 0))]) (fun _ => rfl) ?_
                refine ra.ga (x := 12) (nx := 61) (c := 13) (i := 8) rfl rfl ?_
                refine ra.s (pc' := 62) (st' := [.inr (some (11, 0)), .inr (some (13, 8))]) (fun _ => rfl) ?_
                refine ra.gi (x := 11) (nx := 65) (v := (A 11 0)) rfl rfl rfl ?_
                refine ra.s (pc' := 66) (st' := [.inl a1, .inl (A 11 0), .inr (some (13, 8))]) (fun _ => rfl) ?_
                obtain ⟨h10, hg⟩ := hg
                refine ra.si (nx := 67) 12 30 rfl rfl h10 ?_
                refine ra.s (pc' := 68) (st' := [.inr (some (11, 0))]) (fun _ => rfl) ?_
                refine ra.ga (x := 13) (nx := 71) (c := 13) (i := 9) rfl rfl ?_
                refine ra.s (pc' := 72) (st' := [.inr (some (11, 0)), .inr (some (13, 9))]) (fun _ => rfl) ?_
                refine ra.gi (x := 11) (nx := 75) (v := (A 11 0)) rfl rfl rfl ?_
                refine ra.s (pc' := 76) (st' := [.inl a2, .inl (A 11 0), .inr (some (13, 9))]) (fun _ => rfl) ?_
                refine ra.si (nx := 77) 13 30 rfl rfl h10 ?_
                refine ra.s (pc' := 78) (st' := [.inr (some (11, 0))]) (fun _ => rfl) ?_
                refine ra.ga (x := 14) (nx := 81) (c := 13) (i := 10) rfl rfl ?_
                refine ra.s (pc' := 82) (st' := [.inr (some (11, 0)), .inr (some (13, 10))]) (fun _ => rfl) ?_
                refine ra.gi (x := 11) (nx := 85) (v := (A 11 0)) rfl rfl rfl ?_
                refine ra.s (pc' := 86) (st' := [.inl a3, .inl (A 11 0), .inr (some (13, 10))]) (fun _ => rfl) ?_
                refine ra.si (nx := 87) 14 30 rfl rfl h10 ?_
                refine ra.s (pc' := 88) (st' := [.inr (some (11, 0))]) (fun _ => rfl) ?_
                refine ra.ga (x := 15) (nx := 91) (c := 13) (i := 11) rfl rfl ?_
                refine ra.s (pc' := 92) (st' := [.inr (some (11, 0)), .inr (some (13, 11))]) (fun _ => rfl) ?_
                refine ra.gi (x := 11) (nx := 95) (v := (A 11 0)) rfl rfl rfl ?_
                refine ra.s (pc' := 97) (st' := [.inl a4, .inl (A 11 0), .inr (some (13, 11))]) (fun _ => rfl) ?_
                refine ra.si (nx := 98) 15 30 rfl rfl h10 ?_
                refine ra.s (pc' := 99) (st' := [.inr (some (11, 0))]) (fun _ => rfl) ?_
                refine ra.ga (x := 16) (nx := 102) (c := 13) (i := 12) rfl rfl ?_
                refine ra.s (pc' := 103) (st' := [.inr (some (11, 0)), .inr (some (13, 12))]) (fun _ => rfl) ?_
                refine ra.gi (x := 11) (nx := 106) (v := (A 11 0)) rfl rfl rfl ?_
                refine ra.s (pc' := 108) (st' := [.inl a5, .inl (A 11 0), .inr (some (13, 12))]) (fun _ => rfl) ?_
                refine ra.si (nx := 109) 16 30 rfl rfl h10 ?_
                refine ra.s (pc' := 110) (st' := [.inr (some (11, 0))]) (fun _ => rfl) ?_
                refine ra.s (pc' := 111) (st' := [.inr (some (11, 0)), .inr (some (11, 0))]) (fun _ => rfl) ?_
                refine ra.gi (x := 11) (nx := 114) (v := (A 11 0)) rfl rfl rfl ?_
                refine ra.s (pc' := 115) (st' := [.inl (1 : Int32), .inl (A 11 0), .inr (some (11, 0))]) (fun _ => rfl) ?_
                refine ra.s (pc' := 116) (st' := [.inl ((A 11 0) + (1 : Int32)), .inr (some (11, 0))]) (fun _ => rfl) ?_
                refine ra.pi (x := 11) (nx := 119) rfl rfl ?_
                refine ra.s (pc' := 120) (st' := [.inr (some (11, 0))]) (fun _ => rfl) ?_
                refine ra.gi (x := 11) (nx := 123) (v := ((A 11 0) + (1 : Int32))) rfl rfl rfl ?_
                subst hk
                exact ra.ret (r := some (.inl ((A 11 0) + (1 : Int32)))) (fun _ => rfl) ⟨rfl, rfl, rfl⟩
            · skip
              refine ra.s (pc' := 44) (st' := [.inl (-2 : Int32)]) (fun _ => rfl) ?_
              subst hk
              exact ra.ret (r := some (.inl (-2 : Int32))) (fun _ => rfl) ⟨rfl, rfl, rfl⟩
def rf_guard_213 : Nat → Int32 → Int32 → Int32 → Int32 → Int32 → Int32 → Int32 → Int32 → y_A → Int32 × y_A
  | 0, _, _, _, _, _, _, _, _, A => (0, A)
  | n + 1, l1, l2, l3, l4, l5, l6, l7, l8, A => (if (8 : Int32) ≤ l8 then (l8, A) else (rf_guard_213 n l1 l2 l3 l4 l5 l6 l7 (l8 + (1 : Int32)) (xm_u2 A 45 (y_ix (((8 : Int32) * l7) + l8)) (-1 : Int32))))
def rg_guard_213 : Nat → Int32 → Int32 → Int32 → Int32 → Int32 → Int32 → Int32 → Int32 → y_A → Prop
  | 0, _, _, _, _, _, _, _, _, _ => False
  | n + 1, l1, l2, l3, l4, l5, l6, l7, l8, A => (((8 : Int32) ≤ l8 → True) ∧ (¬ (8 : Int32) ≤ l8 → (y_in (((8 : Int32) * l7) + l8) 192) ∧ (rg_guard_213 n l1 l2 l3 l4 l5 l6 l7 (l8 + (1 : Int32)) (xm_u2 A 45 (y_ix (((8 : Int32) * l7) + l8)) (-1 : Int32)))))
theorem rh_guard_213 {d : Nat} (hd : 2 ≤ d) {Q : Option xm_V → y_A → List y_J → Prop} {F : Int32 × y_A} (n : Nat) : ∀ (l1 l2 l3 l4 l5 l6 l7 l8 : Int32) (A : y_A) (js : List y_J), rg_guard_213 n l1 l2 l3 l4 l5 l6 l7 l8 A → rf_guard_213 n l1 l2 l3 l4 l5 l6 l7 l8 A = F → (ra d 122 240 [some (.inr (some (11, 0))), some (.inl l1), some (.inl l2), some (.inl l3), some (.inl l4), some (.inl l5), some (.inl l6), some (.inl l7), some (.inl F.1)] [] F.2 js Q) → ra d 122 213 [some (.inr (some (11, 0))), some (.inl l1), some (.inl l2), some (.inl l3), some (.inl l4), some (.inl l5), some (.inl l6), some (.inl l7), some (.inl l8)] [] A js Q := by
  obtain ⟨d, rfl⟩ := Nat.exists_eq_add_of_le' hd
  induction n with
  | zero => intro l1 l2 l3 l4 l5 l6 l7 l8 A js hg; exact hg.elim
  | succ n ih =>
    intro l1 l2 l3 l4 l5 l6 l7 l8 A js hg hk hE
    unfold rg_guard_213 at hg
    unfold rf_guard_213 at hk
    refine ra.s (pc' := 215) (st' := [.inl l8]) (fun _ => rfl) ?_
    refine ra.s (pc' := 217) (st' := [.inl (8 : Int32), .inl l8]) (fun _ => rfl) ?_
    refine ra.b (c := (8 : Int32) ≤ l8) (cd := .ge) (x := l8) (y := (8 : Int32)) 240 220 (st' := []) (fun _ => rfl) (y_cge _ _) hk hg (fun h1 hg hk => ?_) (fun h1 hg hk => ?_)
    · skip
      subst hk
      exact hE
    · skip
      refine ra.s (pc' := 221) (st' := [.inr (some (11, 0))]) (fun _ => rfl) ?_
      refine ra.ga (x := 45) (nx := 224) (c := 13) (i := 38) rfl rfl ?_
      refine ra.s (pc' := 226) (st' := [.inl (8 : Int32), .inr (some (13, 38))]) (fun _ => rfl) ?_
      refine ra.s (pc' := 228) (st' := [.inl l7, .inl (8 : Int32), .inr (some (13, 38))]) (fun _ => rfl) ?_
      refine ra.s (pc' := 229) (st' := [.inl ((8 : Int32) * l7), .inr (some (13, 38))]) (fun _ => rfl) ?_
      refine ra.s (pc' := 231) (st' := [.inl l8, .inl ((8 : Int32) * l7), .inr (some (13, 38))]) (fun _ => rfl) ?_
      refine ra.s (pc' := 232) (st' := [.inl (((8 : Int32) * l7) + l8), .inr (some (13, 38))]) (fun _ => rfl) ?_
      refine ra.s (pc' := 233) (st' := [.inl (-1 : Int32), .inl (((8 : Int32) * l7) + l8), .inr (some (13, 38))]) (fun _ => rfl) ?_
      obtain ⟨h2, hg⟩ := hg
      refine ra.si (nx := 234) 45 192 rfl rfl h2 ?_
      refine ra.s (pc' := 237) (L' := [some (.inr (some (11, 0))), some (.inl l1), some (.inl l2), some (.inl l3), some (.inl l4), some (.inl l5), some (.inl l6), some (.inl l7), some (.inl (l8 + (1 : Int32)))]) (st' := []) (fun _ => rfl) ?_
      refine ra.s (pc' := 213) (st' := []) (fun _ => rfl) ?_
      exact ih l1 l2 l3 l4 l5 l6 l7 (l8 + (1 : Int32)) (xm_u2 A 45 (y_ix (((8 : Int32) * l7) + l8)) (-1 : Int32)) js hg hk hE
/-- guard -/
def rf_guard (a1 a2 a3 a4 a5 : Int32) (A : y_A) : Int32 × y_A := (if a1 = (6 : Int32) then (if a2 = (1 : Int32) then (if (rf_isStation a3 A) = (0 : Int32) then ((-1 : Int32), A) else (if (rf_isGood a1 a2 a3 a4 A) = (0 : Int32) then ((-2 : Int32), A) else (if (rf_in a5 (0 : Int32) (15 : Int32) A) = (0 : Int32) then ((-2 : Int32), A) else (if (A 30 0) = (24 : Int32) then ((-3 : Int32), A) else ((A 30 0), (xm_u2 (rf_guard_213 20000 a1 a2 a3 a4 a5 (1 : Int32) (A 30 0) (0 : Int32) (xm_u2 (xm_u2 (xm_u2 (xm_u2 (xm_u2 (xm_u2 (xm_u2 (xm_u2 (xm_u2 (xm_u2 (xm_u2 (xm_u2 A 31 (y_ix (A 30 0)) a1) 32 (y_ix (A 30 0)) a2) 33 (y_ix (A 30 0)) a3) 34 (y_ix (A 30 0)) a4) 35 (y_ix (A 30 0)) a5) 36 (y_ix (A 30 0)) (0 : Int32)) 37 (y_ix (A 30 0)) (0 : Int32)) 38 (y_ix (A 30 0)) (0 : Int32)) 39 (y_ix (A 30 0)) (0 : Int32)) 40 (y_ix (A 30 0)) (0 : Int32)) 41 (y_ix (A 30 0)) (0 : Int32)) 42 (y_ix (A 30 0)) (0 : Int32))).2 30 0 (((rf_guard_213 20000 a1 a2 a3 a4 a5 (1 : Int32) (A 30 0) (0 : Int32) (xm_u2 (xm_u2 (xm_u2 (xm_u2 (xm_u2 (xm_u2 (xm_u2 (xm_u2 (xm_u2 (xm_u2 (xm_u2 (xm_u2 A 31 (y_ix (A 30 0)) a1) 32 (y_ix (A 30 0)) a2) 33 (y_ix (A 30 0)) a3) 34 (y_ix (A 30 0)) a4) 35 (y_ix (A 30 0)) a5) 36 (y_ix (A 30 0)) (0 : Int32)) 37 (y_ix (A 30 0)) (0 : Int32)) 38 (y_ix (A 30 0)) (0 : Int32)) 39 (y_ix (A 30 0)) (0 : Int32)) 40 (y_ix (A 30 0)) (0 : Int32)) 41 (y_ix (A 30 0)) (0 : Int32)) 42 (y_ix (A 30 0)) (0 : Int32))).2 30 0) + (1 : Int32)))))))) else (if (rf_isGood a1 a2 a3 a4 A) = (0 : Int32) then ((-2 : Int32), A) else (if (rf_in a5 (0 : Int32) (15 : Int32) A) = (0 : Int32) then ((-2 : Int32), A) else (if (A 30 0) = (24 : Int32) then ((-3 : Int32), A) else ((A 30 0), (xm_u2 (rf_guard_213 20000 a1 a2 a3 a4 a5 (1 : Int32) (A 30 0) (0 : Int32) (xm_u2 (xm_u2 (xm_u2 (xm_u2 (xm_u2 (xm_u2 (xm_u2 (xm_u2 (xm_u2 (xm_u2 (xm_u2 (xm_u2 A 31 (y_ix (A 30 0)) a1) 32 (y_ix (A 30 0)) a2) 33 (y_ix (A 30 0)) a3) 34 (y_ix (A 30 0)) a4) 35 (y_ix (A 30 0)) a5) 36 (y_ix (A 30 0)) (0 : Int32)) 37 (y_ix (A 30 0)) (0 : Int32)) 38 (y_ix (A 30 0)) (0 : Int32)) 39 (y_ix (A 30 0)) (0 : Int32)) 40 (y_ix (A 30 0)) (0 : Int32)) 41 (y_ix (A 30 0)) (0 : Int32)) 42 (y_ix (A 30 0)) (0 : Int32))).2 30 0 (((rf_guard_213 20000 a1 a2 a3 a4 a5 (1 : Int32) (A 30 0) (0 : Int32) (xm_u2 (xm_u2 (xm_u2 (xm_u2 (xm_u2 (xm_u2 (xm_u2 (xm_u2 (xm_u2 (xm_u2 (xm_u2 (xm_u2 A 31 (y_ix (A 30 0)) a1) 32 (y_ix (A 30 0)) a2) 33 (y_ix (A 30 0)) a3) 34 (y_ix (A 30 0)) a4) 35 (y_ix (A 30 0)) a5) 36 (y_ix (A 30 0)) (0 : Int32)) 37 (y_ix (A 30 0)) (0 : Int32)) 38 (y_ix (A 30 0)) (0 : Int32)) 39 (y_ix (A 30 0)) (0 : Int32)) 40 (y_ix (A 30 0)) (0 : Int32)) 41 (y_ix (A 30 0)) (0 : Int32)) 42 (y_ix (A 30 0)) (0 : Int32))).2 30 0) + (1 : Int32)))))))) else (if a1 = (0 : Int32) then (if (rf_isGood a1 a2 a3 a4 A) = (0 : Int32) then ((-2 : Int32), A) else (if (rf_in a5 (0 : Int32) (15 : Int32) A) = (0 : Int32) then ((-2 : Int32), A) else (if (A 30 0) = (24 : Int32) then ((-3 : Int32), A) else ((A 30 0), (xm_u2 (rf_guard_213 20000 a1 a2 a3 a4 a5 (1 : Int32) (A 30 0) (0 : Int32) (xm_u2 (xm_u2 (xm_u2 (xm_u2 (xm_u2 (xm_u2 (xm_u2 (xm_u2 (xm_u2 (xm_u2 (xm_u2 (xm_u2 A 31 (y_ix (A 30 0)) a1) 32 (y_ix (A 30 0)) a2) 33 (y_ix (A 30 0)) a3) 34 (y_ix (A 30 0)) a4) 35 (y_ix (A 30 0)) a5) 36 (y_ix (A 30 0)) (0 : Int32)) 37 (y_ix (A 30 0)) (0 : Int32)) 38 (y_ix (A 30 0)) (0 : Int32)) 39 (y_ix (A 30 0)) (0 : Int32)) 40 (y_ix (A 30 0)) (0 : Int32)) 41 (y_ix (A 30 0)) (0 : Int32)) 42 (y_ix (A 30 0)) (0 : Int32))).2 30 0 (((rf_guard_213 20000 a1 a2 a3 a4 a5 (1 : Int32) (A 30 0) (0 : Int32) (xm_u2 (xm_u2 (xm_u2 (xm_u2 (xm_u2 (xm_u2 (xm_u2 (xm_u2 (xm_u2 (xm_u2 (xm_u2 (xm_u2 A 31 (y_ix (A 30 0)) a1) 32 (y_ix (A 30 0)) a2) 33 (y_ix (A 30 0)) a3) 34 (y_ix (A 30 0)) a4) 35 (y_ix (A 30 0)) a5) 36 (y_ix (A 30 0)) (0 : Int32)) 37 (y_ix (A 30 0)) (0 : Int32)) 38 (y_ix (A 30 0)) (0 : Int32)) 39 (y_ix (A 30 0)) (0 : Int32)) 40 (y_ix (A 30 0)) (0 : Int32)) 41 (y_ix (A 30 0)) (0 : Int32)) 42 (y_ix (A 30 0)) (0 : Int32))).2 30 0) + (1 : Int32))))))) else (if a1 = (4 : Int32) then (if (rf_isGood a1 a2 a3 a4 A) = (0 : Int32) then ((-2 : Int32), A) else (if (rf_in a5 (0 : Int32) (15 : Int32) A) = (0 : Int32) then ((-2 : Int32), A) else (if (A 30 0) = (24 : Int32) then ((-3 : Int32), A) else ((A 30 0), (xm_u2 (rf_guard_213 20000 a1 a2 a3 a4 a5 (1 : Int32) (A 30 0) (0 : Int32) (xm_u2 (xm_u2 (xm_u2 (xm_u2 (xm_u2 (xm_u2 (xm_u2 (xm_u2 (xm_u2 (xm_u2 (xm_u2 (xm_u2 A 31 (y_ix (A 30 0)) a1) 32 (y_ix (A 30 0)) a2) 33 (y_ix (A 30 0)) a3) 34 (y_ix (A 30 0)) a4) 35 (y_ix (A 30 0)) a5) 36 (y_ix (A 30 0)) (0 : Int32)) 37 (y_ix (A 30 0)) (0 : Int32)) 38 (y_ix (A 30 0)) (0 : Int32)) 39 (y_ix (A 30 0)) (0 : Int32)) 40 (y_ix (A 30 0)) (0 : Int32)) 41 (y_ix (A 30 0)) (0 : Int32)) 42 (y_ix (A 30 0)) (0 : Int32))).2 30 0 (((rf_guard_213 20000 a1 a2 a3 a4 a5 (1 : Int32) (A 30 0) (0 : Int32) (xm_u2 (xm_u2 (xm_u2 (xm_u2 (xm_u2 (xm_u2 (xm_u2 (xm_u2 (xm_u2 (xm_u2 (xm_u2 (xm_u2 A 31 (y_ix (A 30 0)) a1) 32 (y_ix (A 30 0)) a2) 33 (y_ix (A 30 0)) a3) 34 (y_ix (A 30 0)) a4) 35 (y_ix (A 30 0)) a5) 36 (y_ix (A 30 0)) (0 : Int32)) 37 (y_ix (A 30 0)) (0 : Int32)) 38 (y_ix (A 30 0)) (0 : Int32)) 39 (y_ix (A 30 0)) (0 : Int32)) 40 (y_ix (A 30 0)) (0 : Int32)) 41 (y_ix (A 30 0)) (0 : Int32)) 42 (y_ix (A 30 0)) (0 : Int32))).2 30 0) + (1 : Int32))))))) else (if a1 = (9 : Int32) then (if (rf_isGood a1 a2 a3 a4 A) = (0 : Int32) then ((-2 : Int32), A) else (if (rf_in a5 (0 : Int32) (15 : Int32) A) = (0 : Int32) then ((-2 : Int32), A) else (if (A 30 0) = (24 : Int32) then ((-3 : Int32), A) else ((A 30 0), (xm_u2 (rf_guard_213 20000 a1 a2 a3 a4 a5 (1 : Int32) (A 30 0) (0 : Int32) (xm_u2 (xm_u2 (xm_u2 (xm_u2 (xm_u2 (xm_u2 (xm_u2 (xm_u2 (xm_u2 (xm_u2 (xm_u2 (xm_u2 A 31 (y_ix (A 30 0)) a1) 32 (y_ix (A 30 0)) a2) 33 (y_ix (A 30 0)) a3) 34 (y_ix (A 30 0)) a4) 35 (y_ix (A 30 0)) a5) 36 (y_ix (A 30 0)) (0 : Int32)) 37 (y_ix (A 30 0)) (0 : Int32)) 38 (y_ix (A 30 0)) (0 : Int32)) 39 (y_ix (A 30 0)) (0 : Int32)) 40 (y_ix (A 30 0)) (0 : Int32)) 41 (y_ix (A 30 0)) (0 : Int32)) 42 (y_ix (A 30 0)) (0 : Int32))).2 30 0 (((rf_guard_213 20000 a1 a2 a3 a4 a5 (1 : Int32) (A 30 0) (0 : Int32) (xm_u2 (xm_u2 (xm_u2 (xm_u2 (xm_u2 (xm_u2 (xm_u2 (xm_u2 (xm_u2 (xm_u2 (xm_u2 (xm_u2 A 31 (y_ix (A 30 0)) a1) 32 (y_ix (A 30 0)) a2) 33 (y_ix (A 30 0)) a3) 34 (y_ix (A 30 0)) a4) 35 (y_ix (A 30 0)) a5) 36 (y_ix (A 30 0)) (0 : Int32)) 37 (y_ix (A 30 0)) (0 : Int32)) 38 (y_ix (A 30 0)) (0 : Int32)) 39 (y_ix (A 30 0)) (0 : Int32)) 40 (y_ix (A 30 0)) (0 : Int32)) 41 (y_ix (A 30 0)) (0 : Int32)) 42 (y_ix (A 30 0)) (0 : Int32))).2 30 0) + (1 : Int32))))))) else (if (rf_isGood a1 a2 a3 a4 A) = (0 : Int32) then ((-2 : Int32), A) else (if (rf_in a5 (0 : Int32) (0 : Int32) A) = (0 : Int32) then ((-2 : Int32), A) else (if (A 30 0) = (24 : Int32) then ((-3 : Int32), A) else (if a1 = (2 : Int32) then ((A 30 0), (xm_u2 (rf_guard_213 20000 a1 a2 a3 a4 a5 (0 : Int32) (A 30 0) (0 : Int32) (xm_u2 (xm_u2 (xm_u2 (xm_u2 (xm_u2 (xm_u2 (xm_u2 (xm_u2 (xm_u2 (xm_u2 (xm_u2 (xm_u2 A 31 (y_ix (A 30 0)) a1) 32 (y_ix (A 30 0)) a2) 33 (y_ix (A 30 0)) a3) 34 (y_ix (A 30 0)) a4) 35 (y_ix (A 30 0)) a5) 36 (y_ix (A 30 0)) (0 : Int32)) 37 (y_ix (A 30 0)) (0 : Int32)) 38 (y_ix (A 30 0)) (0 : Int32)) 39 (y_ix (A 30 0)) (0 : Int32)) 40 (y_ix (A 30 0)) (0 : Int32)) 41 (y_ix (A 30 0)) (0 : Int32)) 42 (y_ix (A 30 0)) a2)).2 30 0 (((rf_guard_213 20000 a1 a2 a3 a4 a5 (0 : Int32) (A 30 0) (0 : Int32) (xm_u2 (xm_u2 (xm_u2 (xm_u2 (xm_u2 (xm_u2 (xm_u2 (xm_u2 (xm_u2 (xm_u2 (xm_u2 (xm_u2 A 31 (y_ix (A 30 0)) a1) 32 (y_ix (A 30 0)) a2) 33 (y_ix (A 30 0)) a3) 34 (y_ix (A 30 0)) a4) 35 (y_ix (A 30 0)) a5) 36 (y_ix (A 30 0)) (0 : Int32)) 37 (y_ix (A 30 0)) (0 : Int32)) 38 (y_ix (A 30 0)) (0 : Int32)) 39 (y_ix (A 30 0)) (0 : Int32)) 40 (y_ix (A 30 0)) (0 : Int32)) 41 (y_ix (A 30 0)) (0 : Int32)) 42 (y_ix (A 30 0)) a2)).2 30 0) + (1 : Int32)))) else ((A 30 0), (xm_u2 (rf_guard_213 20000 a1 a2 a3 a4 a5 (0 : Int32) (A 30 0) (0 : Int32) (xm_u2 (xm_u2 (xm_u2 (xm_u2 (xm_u2 (xm_u2 (xm_u2 (xm_u2 (xm_u2 (xm_u2 (xm_u2 (xm_u2 A 31 (y_ix (A 30 0)) a1) 32 (y_ix (A 30 0)) a2) 33 (y_ix (A 30 0)) a3) 34 (y_ix (A 30 0)) a4) 35 (y_ix (A 30 0)) a5) 36 (y_ix (A 30 0)) (0 : Int32)) 37 (y_ix (A 30 0)) (0 : Int32)) 38 (y_ix (A 30 0)) (0 : Int32)) 39 (y_ix (A 30 0)) (0 : Int32)) 40 (y_ix (A 30 0)) (0 : Int32)) 41 (y_ix (A 30 0)) (0 : Int32)) 42 (y_ix (A 30 0)) (0 : Int32))).2 30 0 (((rf_guard_213 20000 a1 a2 a3 a4 a5 (0 : Int32) (A 30 0) (0 : Int32) (xm_u2 (xm_u2 (xm_u2 (xm_u2 (xm_u2 (xm_u2 (xm_u2 (xm_u2 (xm_u2 (xm_u2 (xm_u2 (xm_u2 A 31 (y_ix (A 30 0)) a1) 32 (y_ix (A 30 0)) a2) 33 (y_ix (A 30 0)) a3) 34 (y_ix (A 30 0)) a4) 35 (y_ix (A 30 0)) a5) 36 (y_ix (A 30 0)) (0 : Int32)) 37 (y_ix (A 30 0)) (0 : Int32)) 38 (y_ix (A 30 0)) (0 : Int32)) 39 (y_ix (A 30 0)) (0 : Int32)) 40 (y_ix (A 30 0)) (0 : Int32)) 41 (y_ix (A 30 0)) (0 : Int32)) 42 (y_ix (A 30 0)) (0 : Int32))).2 30 0) + (1 : Int32))))))))))))
def rg_guard (a1 a2 a3 a4 a5 : Int32) (A : y_A) : Prop := ((a1 = (6 : Int32) → ((a2 = (1 : Int32) → (rg_isStation a3 A) ∧ (((rf_isStation a3 A) = (0 : Int32) → True) ∧ (¬ (rf_isStation a3 A) = (0 : Int32) → (rg_isGood a1 a2 a3 a4 A) ∧ (((rf_isGood a1 a2 a3 a4 A) = (0 : Int32) → True) ∧ (¬ (rf_isGood a1 a2 a3 a4 A) = (0 : Int32) → (rg_in a5 (0 : Int32) (15 : Int32) A) ∧ (((rf_in a5 (0 : Int32) (15 : Int32) A) = (0 : Int32) → True) ∧ (¬ (rf_in a5 (0 : Int32) (15 : Int32) A) = (0 : Int32) → (((A 30 0) = (24 : Int32) → True) ∧ (¬ (A 30 0) = (24 : Int32) → (y_in (A 30 0) 24) ∧ (rg_guard_213 20000 a1 a2 a3 a4 a5 (1 : Int32) (A 30 0) (0 : Int32) (xm_u2 (xm_u2 (xm_u2 (xm_u2 (xm_u2 (xm_u2 (xm_u2 (xm_u2 (xm_u2 (xm_u2 (xm_u2 (xm_u2 A 31 (y_ix (A 30 0)) a1) 32 (y_ix (A 30 0)) a2) 33 (y_ix (A 30 0)) a3) 34 (y_ix (A 30 0)) a4) 35 (y_ix (A 30 0)) a5) 36 (y_ix (A 30 0)) (0 : Int32)) 37 (y_ix (A 30 0)) (0 : Int32)) 38 (y_ix (A 30 0)) (0 : Int32)) 39 (y_ix (A 30 0)) (0 : Int32)) 40 (y_ix (A 30 0)) (0 : Int32)) 41 (y_ix (A 30 0)) (0 : Int32)) 42 (y_ix (A 30 0)) (0 : Int32))) ∧ True))))))))) ∧ (¬ a2 = (1 : Int32) → (rg_isGood a1 a2 a3 a4 A) ∧ (((rf_isGood a1 a2 a3 a4 A) = (0 : Int32) → True) ∧ (¬ (rf_isGood a1 a2 a3 a4 A) = (0 : Int32) → (rg_in a5 (0 : Int32) (15 : Int32) A) ∧ (((rf_in a5 (0 : Int32) (15 : Int32) A) = (0 : Int32) → True) ∧ (¬ (rf_in a5 (0 : Int32) (15 : Int32) A) = (0 : Int32) → (((A 30 0) = (24 : Int32) → True) ∧ (¬ (A 30 0) = (24 : Int32) → (y_in (A 30 0) 24) ∧ (rg_guard_213 20000 a1 a2 a3 a4 a5 (1 : Int32) (A 30 0) (0 : Int32) (xm_u2 (xm_u2 (xm_u2 (xm_u2 (xm_u2 (xm_u2 (xm_u2 (xm_u2 (xm_u2 (xm_u2 (xm_u2 (xm_u2 A 31 (y_ix (A 30 0)) a1) 32 (y_ix (A 30 0)) a2) 33 (y_ix (A 30 0)) a3) 34 (y_ix (A 30 0)) a4) 35 (y_ix (A 30 0)) a5) 36 (y_ix (A 30 0)) (0 : Int32)) 37 (y_ix (A 30 0)) (0 : Int32)) 38 (y_ix (A 30 0)) (0 : Int32)) 39 (y_ix (A 30 0)) (0 : Int32)) 40 (y_ix (A 30 0)) (0 : Int32)) 41 (y_ix (A 30 0)) (0 : Int32)) 42 (y_ix (A 30 0)) (0 : Int32))) ∧ True))))))))) ∧ (¬ a1 = (6 : Int32) → ((a1 = (0 : Int32) → (rg_isGood a1 a2 a3 a4 A) ∧ (((rf_isGood a1 a2 a3 a4 A) = (0 : Int32) → True) ∧ (¬ (rf_isGood a1 a2 a3 a4 A) = (0 : Int32) → (rg_in a5 (0 : Int32) (15 : Int32) A) ∧ (((rf_in a5 (0 : Int32) (15 : Int32) A) = (0 : Int32) → True) ∧ (¬ (rf_in a5 (0 : Int32) (15 : Int32) A) = (0 : Int32) → (((A 30 0) = (24 : Int32) → True) ∧ (¬ (A 30 0) = (24 : Int32) → (y_in (A 30 0) 24) ∧ (rg_guard_213 20000 a1 a2 a3 a4 a5 (1 : Int32) (A 30 0) (0 : Int32) (xm_u2 (xm_u2 (xm_u2 (xm_u2 (xm_u2 (xm_u2 (xm_u2 (xm_u2 (xm_u2 (xm_u2 (xm_u2 (xm_u2 A 31 (y_ix (A 30 0)) a1) 32 (y_ix (A 30 0)) a2) 33 (y_ix (A 30 0)) a3) 34 (y_ix (A 30 0)) a4) 35 (y_ix (A 30 0)) a5) 36 (y_ix (A 30 0)) (0 : Int32)) 37 (y_ix (A 30 0)) (0 : Int32)) 38 (y_ix (A 30 0)) (0 : Int32)) 39 (y_ix (A 30 0)) (0 : Int32)) 40 (y_ix (A 30 0)) (0 : Int32)) 41 (y_ix (A 30 0)) (0 : Int32)) 42 (y_ix (A 30 0)) (0 : Int32))) ∧ True))))))) ∧ (¬ a1 = (0 : Int32) → ((a1 = (4 : Int32) → (rg_isGood a1 a2 a3 a4 A) ∧ (((rf_isGood a1 a2 a3 a4 A) = (0 : Int32) → True) ∧ (¬ (rf_isGood a1 a2 a3 a4 A) = (0 : Int32) → (rg_in a5 (0 : Int32) (15 : Int32) A) ∧ (((rf_in a5 (0 : Int32) (15 : Int32) A) = (0 : Int32) → True) ∧ (¬ (rf_in a5 (0 : Int32) (15 : Int32) A) = (0 : Int32) → (((A 30 0) = (24 : Int32) → True) ∧ (¬ (A 30 0) = (24 : Int32) → (y_in (A 30 0) 24) ∧ (rg_guard_213 20000 a1 a2 a3 a4 a5 (1 : Int32) (A 30 0) (0 : Int32) (xm_u2 (xm_u2 (xm_u2 (xm_u2 (xm_u2 (xm_u2 (xm_u2 (xm_u2 (xm_u2 (xm_u2 (xm_u2 (xm_u2 A 31 (y_ix (A 30 0)) a1) 32 (y_ix (A 30 0)) a2) 33 (y_ix (A 30 0)) a3) 34 (y_ix (A 30 0)) a4) 35 (y_ix (A 30 0)) a5) 36 (y_ix (A 30 0)) (0 : Int32)) 37 (y_ix (A 30 0)) (0 : Int32)) 38 (y_ix (A 30 0)) (0 : Int32)) 39 (y_ix (A 30 0)) (0 : Int32)) 40 (y_ix (A 30 0)) (0 : Int32)) 41 (y_ix (A 30 0)) (0 : Int32)) 42 (y_ix (A 30 0)) (0 : Int32))) ∧ True))))))) ∧ (¬ a1 = (4 : Int32) → ((a1 = (9 : Int32) → (rg_isGood a1 a2 a3 a4 A) ∧ (((rf_isGood a1 a2 a3 a4 A) = (0 : Int32) → True) ∧ (¬ (rf_isGood a1 a2 a3 a4 A) = (0 : Int32) → (rg_in a5 (0 : Int32) (15 : Int32) A) ∧ (((rf_in a5 (0 : Int32) (15 : Int32) A) = (0 : Int32) → True) ∧ (¬ (rf_in a5 (0 : Int32) (15 : Int32) A) = (0 : Int32) → (((A 30 0) = (24 : Int32) → True) ∧ (¬ (A 30 0) = (24 : Int32) → (y_in (A 30 0) 24) ∧ (rg_guard_213 20000 a1 a2 a3 a4 a5 (1 : Int32) (A 30 0) (0 : Int32) (xm_u2 (xm_u2 (xm_u2 (xm_u2 (xm_u2 (xm_u2 (xm_u2 (xm_u2 (xm_u2 (xm_u2 (xm_u2 (xm_u2 A 31 (y_ix (A 30 0)) a1) 32 (y_ix (A 30 0)) a2) 33 (y_ix (A 30 0)) a3) 34 (y_ix (A 30 0)) a4) 35 (y_ix (A 30 0)) a5) 36 (y_ix (A 30 0)) (0 : Int32)) 37 (y_ix (A 30 0)) (0 : Int32)) 38 (y_ix (A 30 0)) (0 : Int32)) 39 (y_ix (A 30 0)) (0 : Int32)) 40 (y_ix (A 30 0)) (0 : Int32)) 41 (y_ix (A 30 0)) (0 : Int32)) 42 (y_ix (A 30 0)) (0 : Int32))) ∧ True))))))) ∧ (¬ a1 = (9 : Int32) → (rg_isGood a1 a2 a3 a4 A) ∧ (((rf_isGood a1 a2 a3 a4 A) = (0 : Int32) → True) ∧ (¬ (rf_isGood a1 a2 a3 a4 A) = (0 : Int32) → (rg_in a5 (0 : Int32) (0 : Int32) A) ∧ (((rf_in a5 (0 : Int32) (0 : Int32) A) = (0 : Int32) → True) ∧ (¬ (rf_in a5 (0 : Int32) (0 : Int32) A) = (0 : Int32) → (((A 30 0) = (24 : Int32) → True) ∧ (¬ (A 30 0) = (24 : Int32) → (y_in (A 30 0) 24) ∧ ((a1 = (2 : Int32) → (rg_guard_213 20000 a1 a2 a3 a4 a5 (0 : Int32) (A 30 0) (0 : Int32) (xm_u2 (xm_u2 (xm_u2 (xm_u2 (xm_u2 (xm_u2 (xm_u2 (xm_u2 (xm_u2 (xm_u2 (xm_u2 (xm_u2 A 31 (y_ix (A 30 0)) a1) 32 (y_ix (A 30 0)) a2) 33 (y_ix (A 30 0)) a3) 34 (y_ix (A 30 0)) a4) 35 (y_ix (A 30 0)) a5) 36 (y_ix (A 30 0)) (0 : Int32)) 37 (y_ix (A 30 0)) (0 : Int32)) 38 (y_ix (A 30 0)) (0 : Int32)) 39 (y_ix (A 30 0)) (0 : Int32)) 40 (y_ix (A 30 0)) (0 : Int32)) 41 (y_ix (A 30 0)) (0 : Int32)) 42 (y_ix (A 30 0)) a2)) ∧ True) ∧ (¬ a1 = (2 : Int32) → (rg_guard_213 20000 a1 a2 a3 a4 a5 (0 : Int32) (A 30 0) (0 : Int32) (xm_u2 (xm_u2 (xm_u2 (xm_u2 (xm_u2 (xm_u2 (xm_u2 (xm_u2 (xm_u2 (xm_u2 (xm_u2 (xm_u2 A 31 (y_ix (A 30 0)) a1) 32 (y_ix (A 30 0)) a2) 33 (y_ix (A 30 0)) a3) 34 (y_ix (A 30 0)) a4) 35 (y_ix (A 30 0)) a5) 36 (y_ix (A 30 0)) (0 : Int32)) 37 (y_ix (A 30 0)) (0 : Int32)) 38 (y_ix (A 30 0)) (0 : Int32)) 39 (y_ix (A 30 0)) (0 : Int32)) 40 (y_ix (A 30 0)) (0 : Int32)) 41 (y_ix (A 30 0)) (0 : Int32)) 42 (y_ix (A 30 0)) (0 : Int32))) ∧ True))))))))))))))))
theorem rh_guard {d : Nat} (hd : 2 ≤ d) {a1 a2 a3 a4 a5 : Int32} {A : y_A} {js : List y_J} (hg : rg_guard a1 a2 a3 a4 a5 A) : rc d 122 [.inr (some (11, 0)), .inl a1, .inl a2, .inl a3, .inl a4, .inl a5] A js (y_I ((rf_guard a1 a2 a3 a4 a5 A).1, (rf_guard a1 a2 a3 a4 a5 A).2, js)) := by
  obtain ⟨d, rfl⟩ := Nat.exists_eq_add_of_le' hd
  obtain ⟨F, hk⟩ : ∃ F, rf_guard a1 a2 a3 a4 a5 A = F := ⟨_, rfl⟩
  rw [hk]
  show ra _ _ _ [some (.inr (some (11, 0))), some (.inl a1), some (.inl a2), some (.inl a3), some (.inl a4), some (.inl a5), none, none, none] _ _ _ _
  unfold rg_guard at hg
  unfold rf_guard at hk
  refine ra.s (pc' := 1) (st' := [.inl a1]) (fun _ => rfl) ?_
  refine ra.s (pc' := 3) (st' := [.inl (6 : Int32), .inl a1]) (fun _ => rfl) ?_
  refine ra.bn (c := a1 = (6 : Int32)) (cd := .ne) (x := a1) (y := (6 : Int32)) 21 6 (st' := []) (fun _ => rfl) (y_cne _ _) hk hg (fun h1 hg hk => ?_) (fun h1 hg hk => ?_)
  · skip
    refine ra.s (pc' := 7) (st' := [.inl a2]) (fun _ => rfl) ?_
    refine ra.s (pc' := 8) (st' := [.inl (1 : Int32), .inl a2]) (fun _ => rfl) ?_
    refine ra.bn (c := a2 = (1 : Int32)) (cd := .ne) (x := a2) (y := (1 : Int32)) 21 11 (st' := []) (fun _ => rfl) (y_cne _ _) hk hg (fun h2 hg hk => ?_) (fun h2 hg hk => ?_)
    · skip
      refine ra.s (pc' := 12) (st' := [.inr (some (11, 0))]) (fun _ => rfl) ?_
      refine ra.s (pc' := 13) (st' := [.inl a3, .inr (some (11, 0))]) (fun _ => rfl) ?_
      obtain ⟨h3, hg⟩ := hg
      refine ra.cP (f := (rf_isStation a3 A)) (m := 115) (as := [.inr (some (11, 0)), .inl a3]) (nx := 16) (L' := [some (.inr (some (11, 0))), some (.inl a1), some (.inl a2), some (.inl a3), some (.inl a4), some (.inl a5), none, none, none]) (st' := []) (fun _ => rfl) (rh_isStation (by omega) h3) ?_
      refine ra.bn (c := (rf_isStation a3 A) = (0 : Int32)) (cd := .ne) (x := (rf_isStation a3 A)) (y := (0 : Int32)) 21 19 (st' := []) (fun _ => rfl) (y_cne _ _) hk hg (fun h4 hg hk => ?_) (fun h4 hg hk => ?_)
      · skip
        refine ra.s (pc' := 20) (st' := [.inl (-1 : Int32)]) (fun _ => rfl) ?_
        subst hk
        exact ra.ret (r := some (.inl (-1 : Int32))) (fun _ => rfl) ⟨rfl, rfl, rfl⟩
      · skip
        refine ra.s (pc' := 22) (st' := [.inl a1]) (fun _ => rfl) ?_
        refine ra.bf (cd := .eq) (x := a1) (y := (0 : Int32)) 42 25 (st' := []) (fun _ => rfl) (y_ceq _ _) (fun z => absurd (h1.symm.trans z) (by decide)) ?_
        refine ra.s (pc' := 26) (st' := [.inl a1]) (fun _ => rfl) ?_
        refine ra.s (pc' := 27) (st' := [.inl (4 : Int32), .inl a1]) (fun _ => rfl) ?_
        refine ra.bf (cd := .eq) (x := a1) (y := (4 : Int32)) 42 30 (st' := []) (fun _ => rfl) (y_ceq _ _) (fun z => absurd (h1.symm.trans z) (by decide)) ?_
        refine ra.s (pc' := 31) (st' := [.inl a1]) (fun _ => rfl) ?_
        refine ra.s (pc' := 33) (st' := [.inl (6 : Int32), .inl a1]) (fun _ => rfl) ?_
        refine ra.bt (cd := .eq) (x := a1) (y := (6 : Int32)) 42 36 (st' := []) (fun _ => rfl) (y_ceq _ _) h1 ?_
        refine ra.s (pc' := 43) (st' := [.inl (1 : Int32)]) (fun _ => rfl) ?_
        refine ra.s (pc' := 47) (st' := [.inl (1 : Int32)]) (fun _ => rfl) ?_
        refine ra.s (pc' := 49) (L' := [some (.inr (some (11, 0))), some (.inl a1), some (.inl a2), some (.inl a3), some (.inl a4), some (.inl a5), some (.inl (1 : Int32)), none, none]) (st' := []) (fun _ => rfl) ?_
        refine ra.s (pc' := 50) (st' := [.inr (some (11, 0))]) (fun _ => rfl) ?_
        refine ra.s (pc' := 51) (st' := [.inl a1, .inr (some (11, 0))]) (fun _ => rfl) ?_
        refine ra.s (pc' := 52) (st' := [.inl a2, .inl a1, .inr (some (11, 0))]) (fun _ => rfl) ?_
        refine ra.s (pc' := 53) (st' := [.inl a3, .inl a2, .inl a1, .inr (some (11, 0))]) (fun _ => rfl) ?_
        refine ra.s (pc' := 55) (st' := [.inl a4, .inl a3, .inl a2, .inl a1, .inr (some (11, 0))]) (fun _ => rfl) ?_
        obtain ⟨h5, hg⟩ := hg
        refine ra.cP (f := (rf_isGood a1 a2 a3 a4 A)) (m := 123) (as := [.inr (some (11, 0)), .inl a1, .inl a2, .inl a3, .inl a4]) (nx := 58) (L' := [some (.inr (some (11, 0))), some (.inl a1), some (.inl a2), some (.inl a3), some (.inl a4), some (.inl a5), some (.inl (1 : Int32)), none, none]) (st' := []) (fun _ => rfl) (rh_isGood (by omega) h5) ?_
        refine ra.b (c := (rf_isGood a1 a2 a3 a4 A) = (0 : Int32)) (cd := .eq) (x := (rf_isGood a1 a2 a3 a4 A)) (y := (0 : Int32)) 82 61 (st' := []) (fun _ => rfl) (y_ceq _ _) hk hg (fun h6 hg hk => ?_) (fun h6 hg hk => ?_)
        · skip
          refine ra.s (pc' := 84) (st' := [.inl (-2 : Int32)]) (fun _ => rfl) ?_
          subst hk
          exact ra.ret (r := some (.inl (-2 : Int32))) (fun _ => rfl) ⟨rfl, rfl, rfl⟩
        · skip
          refine ra.s (pc' := 62) (st' := [.inr (some (11, 0))]) (fun _ => rfl) ?_
          refine ra.s (pc' := 64) (st' := [.inl a5, .inr (some (11, 0))]) (fun _ => rfl) ?_
          refine ra.s (pc' := 65) (st' := [.inl (0 : Int32), .inl a5, .inr (some (11, 0))]) (fun _ => rfl) ?_
          refine ra.s (pc' := 67) (st' := [.inl (1 : Int32), .inl (0 : Int32), .inl a5, .inr (some (11, 0))]) (fun _ => rfl) ?_
          refine ra.bf (cd := .eq) (x := (1 : Int32)) (y := (0 : Int32)) 75 70 (st' := [.inl (0 : Int32), .inl a5, .inr (some (11, 0))]) (fun _ => rfl) (y_ceq _ _) (by decide) ?_
          refine ra.s (pc' := 72) (st' := [.inl (15 : Int32), .inl (0 : Int32), .inl a5, .inr (some (11, 0))]) (fun _ => rfl) ?_
          refine ra.s (pc' := 76) (st' := [.inl (15 : Int32), .inl (0 : Int32), .inl a5, .inr (some (11, 0))]) (fun _ => rfl) ?_
          obtain ⟨h7, hg⟩ := hg
          refine ra.cP (f := (rf_in a5 (0 : Int32) (15 : Int32) A)) (m := 124) (as := [.inr (some (11, 0)), .inl a5, .inl (0 : Int32), .inl (15 : Int32)]) (nx := 79) (L' := [some (.inr (some (11, 0))), some (.inl a1), some (.inl a2), some (.inl a3), some (.inl a4), some (.inl a5), some (.inl (1 : Int32)), none, none]) (st' := []) (fun _ => rfl) (rh_in (by omega) h7) ?_
          refine ra.bn (c := (rf_in a5 (0 : Int32) (15 : Int32) A) = (0 : Int32)) (cd := .ne) (x := (rf_in a5 (0 : Int32) (15 : Int32) A)) (y := (0 : Int32)) 85 82 (st' := []) (fun _ => rfl) (y_cne _ _) hk hg (fun h8 hg hk => ?_) (fun h8 hg hk => ?_)
          · skip
            refine ra.s (pc' := 84) (st' := [.inl (-2 : Int32)]) (fun _ => rfl) ?_
            subst hk
            exact ra.ret (r := some (.inl (-2 : Int32))) (fun _ => rfl) ⟨rfl, rfl, rfl⟩
          · skip
            refine ra.s (pc' := 86) (st' := [.inr (some (11, 0))]) (fun _ => rfl) ?_
            refine ra.gi (x := 30) (nx := 89) (v := (A 30 0)) rfl rfl rfl ?_
            refine ra.s (pc' := 91) (st' := [.inl (24 : Int32), .inl (A 30 0)]) (fun _ => rfl) ?_
            refine ra.bn (c := (A 30 0) = (24 : Int32)) (cd := .ne) (x := (A 30 0)) (y := (24 : Int32)) 97 94 (st' := []) (fun _ => rfl) (y_cne _ _) hk hg (fun h9 hg hk => ?_) (fun h9 hg hk => ?_)
            · skip
              refine ra.s (pc' := 96) (st' := [.inl (-3 : Int32)]) (fun _ => rfl) ?_
              subst hk
              exact ra.ret (r := some (.inl (-3 : Int32))) (fun _ => rfl) ⟨rfl, rfl, rfl⟩
            · skip
              refine ra.s (pc' := 98) (st' := [.inr (some (11, 0))]) (fun _ => rfl) ?_
              refine ra.gi (x := 30) (nx := 101) (v := (A 30 0)) rfl rfl rfl ?_
              refine ra.s (pc' := 103) (L' := [some (.inr (some (11, 0))), some (.inl a1), some (.inl a2), some (.inl a3), some (.inl a4), some (.inl a5), some (.inl (1 : Int32)), some (.inl (A 30 0)), none]) (st' := []) (fun _ => rfl) ?_
              refine ra.s (pc' := 104) (st' := [.inr (some (11, 0))]) (fun _ => rfl) ?_
              refine ra.ga (x := 31) (nx := 107) (c := 13) (i := 24) rfl rfl ?_
              refine ra.s (pc' := 109) (st' := [.inl (A 30 0), .inr (some (13, 24))]) (fun _ => rfl) ?_
              refine ra.s (pc' := 110) (st' := [.inl a1, .inl (A 30 0), .inr (some (13, 24))]) (fun _ => rfl) ?_
              obtain ⟨h10, hg⟩ := hg
              refine ra.si (nx := 111) 31 24 rfl rfl h10 ?_
              refine ra.s (pc' := 112) (st' := [.inr (some (11, 0))]) (fun _ => rfl) ?_
              refine ra.ga (x := 32) (nx := 115) (c := 13) (i := 25) rfl rfl ?_
              refine ra.s (pc' := 117) (st' := [.inl (A 30 0), .inr (some (13, 25))]) (fun _ => rfl) ?_
              refine ra.s (pc' := 118) (st' := [.inl a2, .inl (A 30 0), .inr (some (13, 25))]) (fun _ => rfl) ?_
              refine ra.si (nx := 119) 32 24 rfl rfl h10 ?_
              refine ra.s (pc' := 120) (st' := [.inr (some (11, 0))]) (fun _ => rfl) ?_
              refine ra.ga (x := 33) (nx := 123) (c := 13) (i := 26) rfl rfl ?_
              refine ra.s (pc' := 125) (st' := [.inl (A 30 0), .inr (some (13, 26))]) (fun _ => rfl) ?_
              refine ra.s (pc' := 126) (st' := [.inl a3, .inl (A 30 0), .inr (some (13, 26))]) (fun _ => rfl) ?_
              refine ra.si (nx := 127) 33 24 rfl rfl h10 ?_
              refine ra.s (pc' := 128) (st' := [.inr (some (11, 0))]) (fun _ => rfl) ?_
              refine ra.ga (x := 34) (nx := 131) (c := 13) (i := 27) rfl rfl ?_
              refine ra.s (pc' := 133) (st' := [.inl (A 30 0), .inr (some (13, 27))]) (fun _ => rfl) ?_
              refine ra.s (pc' := 135) (st' := [.inl a4, .inl (A 30 0), .inr (some (13, 27))]) (fun _ => rfl) ?_
              refine ra.si (nx := 136) 34 24 rfl rfl h10 ?_
              refine ra.s (pc' := 137) (st' := [.inr (some (11, 0))]) (fun _ => rfl) ?_
              refine ra.ga (x := 35) (nx := 140) (c := 13) (i := 28) rfl rfl ?_
              refine ra.s (pc' := 142) (st' := [.inl (A 30 0), .inr (some (13, 28))]) (fun _ => rfl) ?_
              refine ra.s (pc' := 144) (st' := [.inl a5, .inl (A 30 0), .inr (some (13, 28))]) (fun _ => rfl) ?_
              refine ra.si (nx := 145) 35 24 rfl rfl h10 ?_
              refine ra.s (pc' := 146) (st' := [.inr (some (11, 0))]) (fun _ => rfl) ?_
              refine ra.ga (x := 36) (nx := 149) (c := 13) (i := 29) rfl rfl ?_
              refine ra.s (pc' := 151) (st' := [.inl (A 30 0), .inr (some (13, 29))]) (fun _ => rfl) ?_
              refine ra.s (pc' := 152) (st' := [.inl (0 : Int32), .inl (A 30 0), .inr (some (13, 29))]) (fun _ => rfl) ?_
              refine ra.si (nx := 153) 36 24 rfl rfl h10 ?_
              refine ra.s (pc' := 154) (st' := [.inr (some (11, 0))]) (fun _ => rfl) ?_
              refine ra.ga (x := 37) (nx := 157) (c := 13) (i := 30) rfl rfl ?_
              refine ra.s (pc' := 159) (st' := [.inl (A 30 0), .inr (some (13, 30))]) (fun _ => rfl) ?_
              refine ra.s (pc' := 160) (st' := [.inl (0 : Int32), .inl (A 30 0), .inr (some (13, 30))]) (fun _ => rfl) ?_
              refine ra.si (nx := 161) 37 24 rfl rfl h10 ?_
              refine ra.s (pc' := 162) (st' := [.inr (some (11, 0))]) (fun _ => rfl) ?_
              refine ra.ga (x := 38) (nx := 165) (c := 13) (i := 31) rfl rfl ?_
              refine ra.s (pc' := 167) (st' := [.inl (A 30 0), .inr (some (13, 31))]) (fun _ => rfl) ?_
              refine ra.s (pc' := 168) (st' := [.inl (0 : Int32), .inl (A 30 0), .inr (some (13, 31))]) (fun _ => rfl) ?_
              refine ra.si (nx := 169) 38 24 rfl rfl h10 ?_
              refine ra.s (pc' := 170) (st' := [.inr (some (11, 0))]) (fun _ => rfl) ?_
              refine ra.ga (x := 39) (nx := 173) (c := 13) (i := 32) rfl rfl ?_
              refine ra.s (pc' := 175) (st' := [.inl (A 30 0), .inr (some (13, 32))]) (fun _ => rfl) ?_
              refine ra.s (pc' := 176) (st' := [.inl (0 : Int32), .inl (A 30 0), .inr (some (13, 32))]) (fun _ => rfl) ?_
              refine ra.si (nx := 177) 39 24 rfl rfl h10 ?_
              refine ra.s (pc' := 178) (st' := [.inr (some (11, 0))]) (fun _ => rfl) ?_
              refine ra.ga (x := 40) (nx := 181) (c := 13) (i := 33) rfl rfl ?_
              refine ra.s (pc' := 183) (st' := [.inl (A 30 0), .inr (some (13, 33))]) (fun _ => rfl) ?_
              refine ra.s (pc' := 184) (st' := [.inl (0 : Int32), .inl (A 30 0), .inr (some (13, 33))]) (fun _ => rfl) ?_
              refine ra.si (nx := 185) 40 24 rfl rfl h10 ?_
              refine ra.s (pc' := 186) (st' := [.inr (some (11, 0))]) (fun _ => rfl) ?_
              refine ra.ga (x := 41) (nx := 189) (c := 13) (i := 34) rfl rfl ?_
              refine ra.s (pc' := 191) (st' := [.inl (A 30 0), .inr (some (13, 34))]) (fun _ => rfl) ?_
              refine ra.s (pc' := 192) (st' := [.inl (0 : Int32), .inl (A 30 0), .inr (some (13, 34))]) (fun _ => rfl) ?_
              refine ra.si (nx := 193) 41 24 rfl rfl h10 ?_
              refine ra.s (pc' := 194) (st' := [.inr (some (11, 0))]) (fun _ => rfl) ?_
              refine ra.ga (x := 42) (nx := 197) (c := 13) (i := 35) rfl rfl ?_
              refine ra.s (pc' := 199) (st' := [.inl (A 30 0), .inr (some (13, 35))]) (fun _ => rfl) ?_
              refine ra.s (pc' := 200) (st' := [.inl a1, .inl (A 30 0), .inr (some (13, 35))]) (fun _ => rfl) ?_
              refine ra.s (pc' := 201) (st' := [.inl (2 : Int32), .inl a1, .inl (A 30 0), .inr (some (13, 35))]) (fun _ => rfl) ?_
              refine ra.bt (cd := .ne) (x := a1) (y := (2 : Int32)) 208 204 (st' := [.inl (A 30 0), .inr (some (13, 35))]) (fun _ => rfl) (y_cne _ _) (fun z => absurd (h1.symm.trans z) (by decide)) ?_
              refine ra.s (pc' := 209) (st' := [.inl (0 : Int32), .inl (A 30 0), .inr (some (13, 35))]) (fun _ => rfl) ?_
              refine ra.si (nx := 210) 42 24 rfl rfl h10 ?_
              refine ra.s (pc' := 211) (st' := [.inl (0 : Int32)]) (fun _ => rfl) ?_
              refine ra.s (pc' := 213) (L' := [some (.inr (some (11, 0))), some (.inl a1), some (.inl a2), some (.inl a3), some (.inl a4), some (.inl a5), some (.inl (1 : Int32)), some (.inl (A 30 0)), some (.inl (0 : Int32))]) (st' := []) (fun _ => rfl) ?_
              obtain ⟨h11, hg⟩ := hg
              refine rh_guard_213 (by omega) 20000 a1 a2 a3 a4 a5 (1 : Int32) (A 30 0) (0 : Int32) (xm_u2 (xm_u2 (xm_u2 (xm_u2 (xm_u2 (xm_u2 (xm_u2 (xm_u2 (xm_u2 (xm_u2 (xm_u2 (xm_u2 A 31 (y_ix (A 30 0)) a1) 32 (y_ix (A 30 0)) a2) 33 (y_ix (A 30 0)) a3) 34 (y_ix (A 30 0)) a4) 35 (y_ix (A 30 0)) a5) 36 (y_ix (A 30 0)) (0 : Int32)) 37 (y_ix (A 30 0)) (0 : Int32)) 38 (y_ix (A 30 0)) (0 : Int32)) 39 (y_ix (A 30 0)) (0 : Int32)) 40 (y_ix (A 30 0)) (0 : Int32)) 41 (y_ix (A 30 0)) (0 : Int32)) 42 (y_ix (A 30 0)) (0 : Int32)) js h11 rfl ?_
              refine ra.s (pc' := 241) (st' := [.inr (some (11, 0))]) (fun _ => rfl) ?_
              refine ra.s (pc' := 242) (st' := [.inr (some (11, 0)), .inr (some (11, 0))]) (fun _ => rfl) ?_
              refine ra.gi (x := 30) (nx := 245) (v := ((rf_guard_213 20000 a1 a2 a3 a4 a5 (1 : Int32) (A 30 0) (0 : Int32) (xm_u2 (xm_u2 (xm_u2 (xm_u2 (xm_u2 (xm_u2 (xm_u2 (xm_u2 (xm_u2 (xm_u2 (xm_u2 (xm_u2 A 31 (y_ix (A 30 0)) a1) 32 (y_ix (A 30 0)) a2) 33 (y_ix (A 30 0)) a3) 34 (y_ix (A 30 0)) a4) 35 (y_ix (A 30 0)) a5) 36 (y_ix (A 30 0)) (0 : Int32)) 37 (y_ix (A 30 0)) (0 : Int32)) 38 (y_ix (A 30 0)) (0 : Int32)) 39 (y_ix (A 30 0)) (0 : Int32)) 40 (y_ix (A 30 0)) (0 : Int32)) 41 (y_ix (A 30 0)) (0 : Int32)) 42 (y_ix (A 30 0)) (0 : Int32))).2 30 0)) rfl rfl rfl ?_
              refine ra.s (pc' := 246) (st' := [.inl (1 : Int32), .inl ((rf_guard_213 20000 a1 a2 a3 a4 a5 (1 : Int32) (A 30 0) (0 : Int32) (xm_u2 (xm_u2 (xm_u2 (xm_u2 (xm_u2 (xm_u2 (xm_u2 (xm_u2 (xm_u2 (xm_u2 (xm_u2 (xm_u2 A 31 (y_ix (A 30 0)) a1) 32 (y_ix (A 30 0)) a2) 33 (y_ix (A 30 0)) a3) 34 (y_ix (A 30 0)) a4) 35 (y_ix (A 30 0)) a5) 36 (y_ix (A 30 0)) (0 : Int32)) 37 (y_ix (A 30 0)) (0 : Int32)) 38 (y_ix (A 30 0)) (0 : Int32)) 39 (y_ix (A 30 0)) (0 : Int32)) 40 (y_ix (A 30 0)) (0 : Int32)) 41 (y_ix (A 30 0)) (0 : Int32)) 42 (y_ix (A 30 0)) (0 : Int32))).2 30 0), .inr (some (11, 0))]) (fun _ => rfl) ?_
              refine ra.s (pc' := 247) (st' := [.inl (((rf_guard_213 20000 a1 a2 a3 a4 a5 (1 : Int32) (A 30 0) (0 : Int32) (xm_u2 (xm_u2 (xm_u2 (xm_u2 (xm_u2 (xm_u2 (xm_u2 (xm_u2 (xm_u2 (xm_u2 (xm_u2 (xm_u2 A 31 (y_ix (A 30 0)) a1) 32 (y_ix (A 30 0)) a2) 33 (y_ix (A 30 0)) a3) 34 (y_ix (A 30 0)) a4) 35 (y_ix (A 30 0)) a5) 36 (y_ix (A 30 0)) (0 : Int32)) 37 (y_ix (A 30 0)) (0 : Int32)) 38 (y_ix (A 30 0)) (0 : Int32)) 39 (y_ix (A 30 0)) (0 : Int32)) 40 (y_ix (A 30 0)) (0 : Int32)) 41 (y_ix (A 30 0)) (0 : Int32)) 42 (y_ix (A 30 0)) (0 : Int32))).2 30 0) + (1 : Int32)), .inr (some (11, 0))]) (fun _ => rfl) ?_
              refine ra.pi (x := 30) (nx := 250) rfl rfl ?_
              refine ra.s (pc' := 252) (st' := [.inl (A 30 0)]) (fun _ => rfl) ?_
              subst hk
              exact ra.ret (r := some (.inl (A 30 0))) (fun _ => rfl) ⟨rfl, rfl, rfl⟩
    · skip
      refine ra.s (pc' := 22) (st' := [.inl a1]) (fun _ => rfl) ?_
      refine ra.bf (cd := .eq) (x := a1) (y := (0 : Int32)) 42 25 (st' := []) (fun _ => rfl) (y_ceq _ _) (fun z => absurd (h1.symm.trans z) (by decide)) ?_
      refine ra.s (pc' := 26) (st' := [.inl a1]) (fun _ => rfl) ?_
      refine ra.s (pc' := 27) (st' := [.inl (4 : Int32), .inl a1]) (fun _ => rfl) ?_
      refine ra.bf (cd := .eq) (x := a1) (y := (4 : Int32)) 42 30 (st' := []) (fun _ => rfl) (y_ceq _ _) (fun z => absurd (h1.symm.trans z) (by decide)) ?_
      refine ra.s (pc' := 31) (st' := [.inl a1]) (fun _ => rfl) ?_
      refine ra.s (pc' := 33) (st' := [.inl (6 : Int32), .inl a1]) (fun _ => rfl) ?_
      refine ra.bt (cd := .eq) (x := a1) (y := (6 : Int32)) 42 36 (st' := []) (fun _ => rfl) (y_ceq _ _) h1 ?_
      refine ra.s (pc' := 43) (st' := [.inl (1 : Int32)]) (fun _ => rfl) ?_
      refine ra.s (pc' := 47) (st' := [.inl (1 : Int32)]) (fun _ => rfl) ?_
      refine ra.s (pc' := 49) (L' := [some (.inr (some (11, 0))), some (.inl a1), some (.inl a2), some (.inl a3), some (.inl a4), some (.inl a5), some (.inl (1 : Int32)), none, none]) (st' := []) (fun _ => rfl) ?_
      refine ra.s (pc' := 50) (st' := [.inr (some (11, 0))]) (fun _ => rfl) ?_
      refine ra.s (pc' := 51) (st' := [.inl a1, .inr (some (11, 0))]) (fun _ => rfl) ?_
      refine ra.s (pc' := 52) (st' := [.inl a2, .inl a1, .inr (some (11, 0))]) (fun _ => rfl) ?_
      refine ra.s (pc' := 53) (st' := [.inl a3, .inl a2, .inl a1, .inr (some (11, 0))]) (fun _ => rfl) ?_
      refine ra.s (pc' := 55) (st' := [.inl a4, .inl a3, .inl a2, .inl a1, .inr (some (11, 0))]) (fun _ => rfl) ?_
      obtain ⟨h12, hg⟩ := hg
      refine ra.cP (f := (rf_isGood a1 a2 a3 a4 A)) (m := 123) (as := [.inr (some (11, 0)), .inl a1, .inl a2, .inl a3, .inl a4]) (nx := 58) (L' := [some (.inr (some (11, 0))), some (.inl a1), some (.inl a2), some (.inl a3), some (.inl a4), some (.inl a5), some (.inl (1 : Int32)), none, none]) (st' := []) (fun _ => rfl) (rh_isGood (by omega) h12) ?_
      refine ra.b (c := (rf_isGood a1 a2 a3 a4 A) = (0 : Int32)) (cd := .eq) (x := (rf_isGood a1 a2 a3 a4 A)) (y := (0 : Int32)) 82 61 (st' := []) (fun _ => rfl) (y_ceq _ _) hk hg (fun h13 hg hk => ?_) (fun h13 hg hk => ?_)
      · skip
        refine ra.s (pc' := 84) (st' := [.inl (-2 : Int32)]) (fun _ => rfl) ?_
        subst hk
        exact ra.ret (r := some (.inl (-2 : Int32))) (fun _ => rfl) ⟨rfl, rfl, rfl⟩
      · skip
        refine ra.s (pc' := 62) (st' := [.inr (some (11, 0))]) (fun _ => rfl) ?_
        refine ra.s (pc' := 64) (st' := [.inl a5, .inr (some (11, 0))]) (fun _ => rfl) ?_
        refine ra.s (pc' := 65) (st' := [.inl (0 : Int32), .inl a5, .inr (some (11, 0))]) (fun _ => rfl) ?_
        refine ra.s (pc' := 67) (st' := [.inl (1 : Int32), .inl (0 : Int32), .inl a5, .inr (some (11, 0))]) (fun _ => rfl) ?_
        refine ra.bf (cd := .eq) (x := (1 : Int32)) (y := (0 : Int32)) 75 70 (st' := [.inl (0 : Int32), .inl a5, .inr (some (11, 0))]) (fun _ => rfl) (y_ceq _ _) (by decide) ?_
        refine ra.s (pc' := 72) (st' := [.inl (15 : Int32), .inl (0 : Int32), .inl a5, .inr (some (11, 0))]) (fun _ => rfl) ?_
        refine ra.s (pc' := 76) (st' := [.inl (15 : Int32), .inl (0 : Int32), .inl a5, .inr (some (11, 0))]) (fun _ => rfl) ?_
        obtain ⟨h14, hg⟩ := hg
        refine ra.cP (f := (rf_in a5 (0 : Int32) (15 : Int32) A)) (m := 124) (as := [.inr (some (11, 0)), .inl a5, .inl (0 : Int32), .inl (15 : Int32)]) (nx := 79) (L' := [some (.inr (some (11, 0))), some (.inl a1), some (.inl a2), some (.inl a3), some (.inl a4), some (.inl a5), some (.inl (1 : Int32)), none, none]) (st' := []) (fun _ => rfl) (rh_in (by omega) h14) ?_
        refine ra.bn (c := (rf_in a5 (0 : Int32) (15 : Int32) A) = (0 : Int32)) (cd := .ne) (x := (rf_in a5 (0 : Int32) (15 : Int32) A)) (y := (0 : Int32)) 85 82 (st' := []) (fun _ => rfl) (y_cne _ _) hk hg (fun h15 hg hk => ?_) (fun h15 hg hk => ?_)
        · skip
          refine ra.s (pc' := 84) (st' := [.inl (-2 : Int32)]) (fun _ => rfl) ?_
          subst hk
          exact ra.ret (r := some (.inl (-2 : Int32))) (fun _ => rfl) ⟨rfl, rfl, rfl⟩
        · skip
          refine ra.s (pc' := 86) (st' := [.inr (some (11, 0))]) (fun _ => rfl) ?_
          refine ra.gi (x := 30) (nx := 89) (v := (A 30 0)) rfl rfl rfl ?_
          refine ra.s (pc' := 91) (st' := [.inl (24 : Int32), .inl (A 30 0)]) (fun _ => rfl) ?_
          refine ra.bn (c := (A 30 0) = (24 : Int32)) (cd := .ne) (x := (A 30 0)) (y := (24 : Int32)) 97 94 (st' := []) (fun _ => rfl) (y_cne _ _) hk hg (fun h16 hg hk => ?_) (fun h16 hg hk => ?_)
          · skip
            refine ra.s (pc' := 96) (st' := [.inl (-3 : Int32)]) (fun _ => rfl) ?_
            subst hk
            exact ra.ret (r := some (.inl (-3 : Int32))) (fun _ => rfl) ⟨rfl, rfl, rfl⟩
          · skip
            refine ra.s (pc' := 98) (st' := [.inr (some (11, 0))]) (fun _ => rfl) ?_
            refine ra.gi (x := 30) (nx := 101) (v := (A 30 0)) rfl rfl rfl ?_
            refine ra.s (pc' := 103) (L' := [some (.inr (some (11, 0))), some (.inl a1), some (.inl a2), some (.inl a3), some (.inl a4), some (.inl a5), some (.inl (1 : Int32)), some (.inl (A 30 0)), none]) (st' := []) (fun _ => rfl) ?_
            refine ra.s (pc' := 104) (st' := [.inr (some (11, 0))]) (fun _ => rfl) ?_
            refine ra.ga (x := 31) (nx := 107) (c := 13) (i := 24) rfl rfl ?_
            refine ra.s (pc' := 109) (st' := [.inl (A 30 0), .inr (some (13, 24))]) (fun _ => rfl) ?_
            refine ra.s (pc' := 110) (st' := [.inl a1, .inl (A 30 0), .inr (some (13, 24))]) (fun _ => rfl) ?_
            obtain ⟨h17, hg⟩ := hg
            refine ra.si (nx := 111) 31 24 rfl rfl h17 ?_
            refine ra.s (pc' := 112) (st' := [.inr (some (11, 0))]) (fun _ => rfl) ?_
            refine ra.ga (x := 32) (nx := 115) (c := 13) (i := 25) rfl rfl ?_
            refine ra.s (pc' := 117) (st' := [.inl (A 30 0), .inr (some (13, 25))]) (fun _ => rfl) ?_
            refine ra.s (pc' := 118) (st' := [.inl a2, .inl (A 30 0), .inr (some (13, 25))]) (fun _ => rfl) ?_
            refine ra.si (nx := 119) 32 24 rfl rfl h17 ?_
            refine ra.s (pc' := 120) (st' := [.inr (some (11, 0))]) (fun _ => rfl) ?_
            refine ra.ga (x := 33) (nx := 123) (c := 13) (i := 26) rfl rfl ?_
            refine ra.s (pc' := 125) (st' := [.inl (A 30 0), .inr (some (13, 26))]) (fun _ => rfl) ?_
            refine ra.s (pc' := 126) (st' := [.inl a3, .inl (A 30 0), .inr (some (13, 26))]) (fun _ => rfl) ?_
            refine ra.si (nx := 127) 33 24 rfl rfl h17 ?_
            refine ra.s (pc' := 128) (st' := [.inr (some (11, 0))]) (fun _ => rfl) ?_
            refine ra.ga (x := 34) (nx := 131) (c := 13) (i := 27) rfl rfl ?_
            refine ra.s (pc' := 133) (st' := [.inl (A 30 0), .inr (some (13, 27))]) (fun _ => rfl) ?_
            refine ra.s (pc' := 135) (st' := [.inl a4, .inl (A 30 0), .inr (some (13, 27))]) (fun _ => rfl) ?_
            refine ra.si (nx := 136) 34 24 rfl rfl h17 ?_
            refine ra.s (pc' := 137) (st' := [.inr (some (11, 0))]) (fun _ => rfl) ?_
            refine ra.ga (x := 35) (nx := 140) (c := 13) (i := 28) rfl rfl ?_
            refine ra.s (pc' := 142) (st' := [.inl (A 30 0), .inr (some (13, 28))]) (fun _ => rfl) ?_
            refine ra.s (pc' := 144) (st' := [.inl a5, .inl (A 30 0), .inr (some (13, 28))]) (fun _ => rfl) ?_
            refine ra.si (nx := 145) 35 24 rfl rfl h17 ?_
            refine ra.s (pc' := 146) (st' := [.inr (some (11, 0))]) (fun _ => rfl) ?_
            refine ra.ga (x := 36) (nx := 149) (c := 13) (i := 29) rfl rfl ?_
            refine ra.s (pc' := 151) (st' := [.inl (A 30 0), .inr (some (13, 29))]) (fun _ => rfl) ?_
            refine ra.s (pc' := 152) (st' := [.inl (0 : Int32), .inl (A 30 0), .inr (some (13, 29))]) (fun _ => rfl) ?_
            refine ra.si (nx := 153) 36 24 rfl rfl h17 ?_
            refine ra.s (pc' := 154) (st' := [.inr (some (11, 0))]) (fun _ => rfl) ?_
            refine ra.ga (x := 37) (nx := 157) (c := 13) (i := 30) rfl rfl ?_
            refine ra.s (pc' := 159) (st' := [.inl (A 30 0), .inr (some (13, 30))]) (fun _ => rfl) ?_
            refine ra.s (pc' := 160) (st' := [.inl (0 : Int32), .inl (A 30 0), .inr (some (13, 30))]) (fun _ => rfl) ?_
            refine ra.si (nx := 161) 37 24 rfl rfl h17 ?_
            refine ra.s (pc' := 162) (st' := [.inr (some (11, 0))]) (fun _ => rfl) ?_
            refine ra.ga (x := 38) (nx := 165) (c := 13) (i := 31) rfl rfl ?_
            refine ra.s (pc' := 167) (st' := [.inl (A 30 0), .inr (some (13, 31))]) (fun _ => rfl) ?_
            refine ra.s (pc' := 168) (st' := [.inl (0 : Int32), .inl (A 30 0), .inr (some (13, 31))]) (fun _ => rfl) ?_
            refine ra.si (nx := 169) 38 24 rfl rfl h17 ?_
            refine ra.s (pc' := 170) (st' := [.inr (some (11, 0))]) (fun _ => rfl) ?_
            refine ra.ga (x := 39) (nx := 173) (c := 13) (i := 32) rfl rfl ?_
            refine ra.s (pc' := 175) (st' := [.inl (A 30 0), .inr (some (13, 32))]) (fun _ => rfl) ?_
            refine ra.s (pc' := 176) (st' := [.inl (0 : Int32), .inl (A 30 0), .inr (some (13, 32))]) (fun _ => rfl) ?_
            refine ra.si (nx := 177) 39 24 rfl rfl h17 ?_
            refine ra.s (pc' := 178) (st' := [.inr (some (11, 0))]) (fun _ => rfl) ?_
            refine ra.ga (x := 40) (nx := 181) (c := 13) (i := 33) rfl rfl ?_
            refine ra.s (pc' := 183) (st' := [.inl (A 30 0), .inr (some (13, 33))]) (fun _ => rfl) ?_
            refine ra.s (pc' := 184) (st' := [.inl (0 : Int32), .inl (A 30 0), .inr (some (13, 33))]) (fun _ => rfl) ?_
            refine ra.si (nx := 185) 40 24 rfl rfl h17 ?_
            refine ra.s (pc' := 186) (st' := [.inr (some (11, 0))]) (fun _ => rfl) ?_
            refine ra.ga (x := 41) (nx := 189) (c := 13) (i := 34) rfl rfl ?_
            refine ra.s (pc' := 191) (st' := [.inl (A 30 0), .inr (some (13, 34))]) (fun _ => rfl) ?_
            refine ra.s (pc' := 192) (st' := [.inl (0 : Int32), .inl (A 30 0), .inr (some (13, 34))]) (fun _ => rfl) ?_
            refine ra.si (nx := 193) 41 24 rfl rfl h17 ?_
            refine ra.s (pc' := 194) (st' := [.inr (some (11, 0))]) (fun _ => rfl) ?_
            refine ra.ga (x := 42) (nx := 197) (c := 13) (i := 35) rfl rfl ?_
            refine ra.s (pc' := 199) (st' := [.inl (A 30 0), .inr (some (13, 35))]) (fun _ => rfl) ?_
            refine ra.s (pc' := 200) (st' := [.inl a1, .inl (A 30 0), .inr (some (13, 35))]) (fun _ => rfl) ?_
            refine ra.s (pc' := 201) (st' := [.inl (2 : Int32), .inl a1, .inl (A 30 0), .inr (some (13, 35))]) (fun _ => rfl) ?_
            refine ra.bt (cd := .ne) (x := a1) (y := (2 : Int32)) 208 204 (st' := [.inl (A 30 0), .inr (some (13, 35))]) (fun _ => rfl) (y_cne _ _) (fun z => absurd (h1.symm.trans z) (by decide)) ?_
            refine ra.s (pc' := 209) (st' := [.inl (0 : Int32), .inl (A 30 0), .inr (some (13, 35))]) (fun _ => rfl) ?_
            refine ra.si (nx := 210) 42 24 rfl rfl h17 ?_
            refine ra.s (pc' := 211) (st' := [.inl (0 : Int32)]) (fun _ => rfl) ?_
            refine ra.s (pc' := 213) (L' := [some (.inr (some (11, 0))), some (.inl a1), some (.inl a2), some (.inl a3), some (.inl a4), some (.inl a5), some (.inl (1 : Int32)), some (.inl (A 30 0)), some (.inl (0 : Int32))]) (st' := []) (fun _ => rfl) ?_
            obtain ⟨h18, hg⟩ := hg
            refine rh_guard_213 (by omega) 20000 a1 a2 a3 a4 a5 (1 : Int32) (A 30 0) (0 : Int32) (xm_u2 (xm_u2 (xm_u2 (xm_u2 (xm_u2 (xm_u2 (xm_u2 (xm_u2 (xm_u2 (xm_u2 (xm_u2 (xm_u2 A 31 (y_ix (A 30 0)) a1) 32 (y_ix (A 30 0)) a2) 33 (y_ix (A 30 0)) a3) 34 (y_ix (A 30 0)) a4) 35 (y_ix (A 30 0)) a5) 36 (y_ix (A 30 0)) (0 : Int32)) 37 (y_ix (A 30 0)) (0 : Int32)) 38 (y_ix (A 30 0)) (0 : Int32)) 39 (y_ix (A 30 0)) (0 : Int32)) 40 (y_ix (A 30 0)) (0 : Int32)) 41 (y_ix (A 30 0)) (0 : Int32)) 42 (y_ix (A 30 0)) (0 : Int32)) js h18 rfl ?_
            refine ra.s (pc' := 241) (st' := [.inr (some (11, 0))]) (fun _ => rfl) ?_
            refine ra.s (pc' := 242) (st' := [.inr (some (11, 0)), .inr (some (11, 0))]) (fun _ => rfl) ?_
            refine ra.gi (x := 30) (nx := 245) (v := ((rf_guard_213 20000 a1 a2 a3 a4 a5 (1 : Int32) (A 30 0) (0 : Int32) (xm_u2 (xm_u2 (xm_u2 (xm_u2 (xm_u2 (xm_u2 (xm_u2 (xm_u2 (xm_u2 (xm_u2 (xm_u2 (xm_u2 A 31 (y_ix (A 30 0)) a1) 32 (y_ix (A 30 0)) a2) 33 (y_ix (A 30 0)) a3) 34 (y_ix (A 30 0)) a4) 35 (y_ix (A 30 0)) a5) 36 (y_ix (A 30 0)) (0 : Int32)) 37 (y_ix (A 30 0)) (0 : Int32)) 38 (y_ix (A 30 0)) (0 : Int32)) 39 (y_ix (A 30 0)) (0 : Int32)) 40 (y_ix (A 30 0)) (0 : Int32)) 41 (y_ix (A 30 0)) (0 : Int32)) 42 (y_ix (A 30 0)) (0 : Int32))).2 30 0)) rfl rfl rfl ?_
            refine ra.s (pc' := 246) (st' := [.inl (1 : Int32), .inl ((rf_guard_213 20000 a1 a2 a3 a4 a5 (1 : Int32) (A 30 0) (0 : Int32) (xm_u2 (xm_u2 (xm_u2 (xm_u2 (xm_u2 (xm_u2 (xm_u2 (xm_u2 (xm_u2 (xm_u2 (xm_u2 (xm_u2 A 31 (y_ix (A 30 0)) a1) 32 (y_ix (A 30 0)) a2) 33 (y_ix (A 30 0)) a3) 34 (y_ix (A 30 0)) a4) 35 (y_ix (A 30 0)) a5) 36 (y_ix (A 30 0)) (0 : Int32)) 37 (y_ix (A 30 0)) (0 : Int32)) 38 (y_ix (A 30 0)) (0 : Int32)) 39 (y_ix (A 30 0)) (0 : Int32)) 40 (y_ix (A 30 0)) (0 : Int32)) 41 (y_ix (A 30 0)) (0 : Int32)) 42 (y_ix (A 30 0)) (0 : Int32))).2 30 0), .inr (some (11, 0))]) (fun _ => rfl) ?_
            refine ra.s (pc' := 247) (st' := [.inl (((rf_guard_213 20000 a1 a2 a3 a4 a5 (1 : Int32) (A 30 0) (0 : Int32) (xm_u2 (xm_u2 (xm_u2 (xm_u2 (xm_u2 (xm_u2 (xm_u2 (xm_u2 (xm_u2 (xm_u2 (xm_u2 (xm_u2 A 31 (y_ix (A 30 0)) a1) 32 (y_ix (A 30 0)) a2) 33 (y_ix (A 30 0)) a3) 34 (y_ix (A 30 0)) a4) 35 (y_ix (A 30 0)) a5) 36 (y_ix (A 30 0)) (0 : Int32)) 37 (y_ix (A 30 0)) (0 : Int32)) 38 (y_ix (A 30 0)) (0 : Int32)) 39 (y_ix (A 30 0)) (0 : Int32)) 40 (y_ix (A 30 0)) (0 : Int32)) 41 (y_ix (A 30 0)) (0 : Int32)) 42 (y_ix (A 30 0)) (0 : Int32))).2 30 0) + (1 : Int32)), .inr (some (11, 0))]) (fun _ => rfl) ?_
            refine ra.pi (x := 30) (nx := 250) rfl rfl ?_
            refine ra.s (pc' := 252) (st' := [.inl (A 30 0)]) (fun _ => rfl) ?_
            subst hk
            exact ra.ret (r := some (.inl (A 30 0))) (fun _ => rfl) ⟨rfl, rfl, rfl⟩
  · skip
    refine ra.s (pc' := 22) (st' := [.inl a1]) (fun _ => rfl) ?_
    refine ra.b (c := a1 = (0 : Int32)) (cd := .eq) (x := a1) (y := (0 : Int32)) 42 25 (st' := []) (fun _ => rfl) (y_ceq _ _) hk hg (fun h19 hg hk => ?_) (fun h19 hg hk => ?_)
    · skip
      refine ra.s (pc' := 43) (st' := [.inl (1 : Int32)]) (fun _ => rfl) ?_
      refine ra.s (pc' := 47) (st' := [.inl (1 : Int32)]) (fun _ => rfl) ?_
      refine ra.s (pc' := 49) (L' := [some (.inr (some (11, 0))), some (.inl a1), some (.inl a2), some (.inl a3), some (.inl a4), some (.inl a5), some (.inl (1 : Int32)), none, none]) (st' := []) (fun _ => rfl) ?_
      refine ra.s (pc' := 50) (st' := [.inr (some (11, 0))]) (fun _ => rfl) ?_
      refine ra.s (pc' := 51) (st' := [.inl a1, .inr (some (11, 0))]) (fun _ => rfl) ?_
      refine ra.s (pc' := 52) (st' := [.inl a2, .inl a1, .inr (some (11, 0))]) (fun _ => rfl) ?_
      refine ra.s (pc' := 53) (st' := [.inl a3, .inl a2, .inl a1, .inr (some (11, 0))]) (fun _ => rfl) ?_
      refine ra.s (pc' := 55) (st' := [.inl a4, .inl a3, .inl a2, .inl a1, .inr (some (11, 0))]) (fun _ => rfl) ?_
      obtain ⟨h20, hg⟩ := hg
      refine ra.cP (f := (rf_isGood a1 a2 a3 a4 A)) (m := 123) (as := [.inr (some (11, 0)), .inl a1, .inl a2, .inl a3, .inl a4]) (nx := 58) (L' := [some (.inr (some (11, 0))), some (.inl a1), some (.inl a2), some (.inl a3), some (.inl a4), some (.inl a5), some (.inl (1 : Int32)), none, none]) (st' := []) (fun _ => rfl) (rh_isGood (by omega) h20) ?_
      refine ra.b (c := (rf_isGood a1 a2 a3 a4 A) = (0 : Int32)) (cd := .eq) (x := (rf_isGood a1 a2 a3 a4 A)) (y := (0 : Int32)) 82 61 (st' := []) (fun _ => rfl) (y_ceq _ _) hk hg (fun h21 hg hk => ?_) (fun h21 hg hk => ?_)
      · skip
        refine ra.s (pc' := 84) (st' := [.inl (-2 : Int32)]) (fun _ => rfl) ?_
        subst hk
        exact ra.ret (r := some (.inl (-2 : Int32))) (fun _ => rfl) ⟨rfl, rfl, rfl⟩
      · skip
        refine ra.s (pc' := 62) (st' := [.inr (some (11, 0))]) (fun _ => rfl) ?_
        refine ra.s (pc' := 64) (st' := [.inl a5, .inr (some (11, 0))]) (fun _ => rfl) ?_
        refine ra.s (pc' := 65) (st' := [.inl (0 : Int32), .inl a5, .inr (some (11, 0))]) (fun _ => rfl) ?_
        refine ra.s (pc' := 67) (st' := [.inl (1 : Int32), .inl (0 : Int32), .inl a5, .inr (some (11, 0))]) (fun _ => rfl) ?_
        refine ra.bf (cd := .eq) (x := (1 : Int32)) (y := (0 : Int32)) 75 70 (st' := [.inl (0 : Int32), .inl a5, .inr (some (11, 0))]) (fun _ => rfl) (y_ceq _ _) (by decide) ?_
        refine ra.s (pc' := 72) (st' := [.inl (15 : Int32), .inl (0 : Int32), .inl a5, .inr (some (11, 0))]) (fun _ => rfl) ?_
        refine ra.s (pc' := 76) (st' := [.inl (15 : Int32), .inl (0 : Int32), .inl a5, .inr (some (11, 0))]) (fun _ => rfl) ?_
        obtain ⟨h22, hg⟩ := hg
        refine ra.cP (f := (rf_in a5 (0 : Int32) (15 : Int32) A)) (m := 124) (as := [.inr (some (11, 0)), .inl a5, .inl (0 : Int32), .inl (15 : Int32)]) (nx := 79) (L' := [some (.inr (some (11, 0))), some (.inl a1), some (.inl a2), some (.inl a3), some (.inl a4), some (.inl a5), some (.inl (1 : Int32)), none, none]) (st' := []) (fun _ => rfl) (rh_in (by omega) h22) ?_
        refine ra.bn (c := (rf_in a5 (0 : Int32) (15 : Int32) A) = (0 : Int32)) (cd := .ne) (x := (rf_in a5 (0 : Int32) (15 : Int32) A)) (y := (0 : Int32)) 85 82 (st' := []) (fun _ => rfl) (y_cne _ _) hk hg (fun h23 hg hk => ?_) (fun h23 hg hk => ?_)
        · skip
          refine ra.s (pc' := 84) (st' := [.inl (-2 : Int32)]) (fun _ => rfl) ?_
          subst hk
          exact ra.ret (r := some (.inl (-2 : Int32))) (fun _ => rfl) ⟨rfl, rfl, rfl⟩
        · skip
          refine ra.s (pc' := 86) (st' := [.inr (some (11, 0))]) (fun _ => rfl) ?_
          refine ra.gi (x := 30) (nx := 89) (v := (A 30 0)) rfl rfl rfl ?_
          refine ra.s (pc' := 91) (st' := [.inl (24 : Int32), .inl (A 30 0)]) (fun _ => rfl) ?_
          refine ra.bn (c := (A 30 0) = (24 : Int32)) (cd := .ne) (x := (A 30 0)) (y := (24 : Int32)) 97 94 (st' := []) (fun _ => rfl) (y_cne _ _) hk hg (fun h24 hg hk => ?_) (fun h24 hg hk => ?_)
          · skip
            refine ra.s (pc' := 96) (st' := [.inl (-3 : Int32)]) (fun _ => rfl) ?_
            subst hk
            exact ra.ret (r := some (.inl (-3 : Int32))) (fun _ => rfl) ⟨rfl, rfl, rfl⟩
          · skip
            refine ra.s (pc' := 98) (st' := [.inr (some (11, 0))]) (fun _ => rfl) ?_
            refine ra.gi (x := 30) (nx := 101) (v := (A 30 0)) rfl rfl rfl ?_
            refine ra.s (pc' := 103) (L' := [some (.inr (some (11, 0))), some (.inl a1), some (.inl a2), some (.inl a3), some (.inl a4), some (.inl a5), some (.inl (1 : Int32)), some (.inl (A 30 0)), none]) (st' := []) (fun _ => rfl) ?_
            refine ra.s (pc' := 104) (st' := [.inr (some (11, 0))]) (fun _ => rfl) ?_
            refine ra.ga (x := 31) (nx := 107) (c := 13) (i := 24) rfl rfl ?_
            refine ra.s (pc' := 109) (st' := [.inl (A 30 0), .inr (some (13, 24))]) (fun _ => rfl) ?_
            refine ra.s (pc' := 110) (st' := [.inl a1, .inl (A 30 0), .inr (some (13, 24))]) (fun _ => rfl) ?_
            obtain ⟨h25, hg⟩ := hg
            refine ra.si (nx := 111) 31 24 rfl rfl h25 ?_
            refine ra.s (pc' := 112) (st' := [.inr (some (11, 0))]) (fun _ => rfl) ?_
            refine ra.ga (x := 32) (nx := 115) (c := 13) (i := 25) rfl rfl ?_
            refine ra.s (pc' := 117) (st' := [.inl (A 30 0), .inr (some (13, 25))]) (fun _ => rfl) ?_
            refine ra.s (pc' := 118) (st' := [.inl a2, .inl (A 30 0), .inr (some (13, 25))]) (fun _ => rfl) ?_
            refine ra.si (nx := 119) 32 24 rfl rfl h25 ?_
            refine ra.s (pc' := 120) (st' := [.inr (some (11, 0))]) (fun _ => rfl) ?_
            refine ra.ga (x := 33) (nx := 123) (c := 13) (i := 26) rfl rfl ?_
            refine ra.s (pc' := 125) (st' := [.inl (A 30 0), .inr (some (13, 26))]) (fun _ => rfl) ?_
            refine ra.s (pc' := 126) (st' := [.inl a3, .inl (A 30 0), .inr (some (13, 26))]) (fun _ => rfl) ?_
            refine ra.si (nx := 127) 33 24 rfl rfl h25 ?_
            refine ra.s (pc' := 128) (st' := [.inr (some (11, 0))]) (fun _ => rfl) ?_
            refine ra.ga (x := 34) (nx := 131) (c := 13) (i := 27) rfl rfl ?_
            refine ra.s (pc' := 133) (st' := [.inl (A 30 0), .inr (some (13, 27))]) (fun _ => rfl) ?_
            refine ra.s (pc' := 135) (st' := [.inl a4, .inl (A 30 0), .inr (some (13, 27))]) (fun _ => rfl) ?_
            refine ra.si (nx := 136) 34 24 rfl rfl h25 ?_
            refine ra.s (pc' := 137) (st' := [.inr (some (11, 0))]) (fun _ => rfl) ?_
            refine ra.ga (x := 35) (nx := 140) (c := 13) (i := 28) rfl rfl ?_
            refine ra.s (pc' := 142) (st' := [.inl (A 30 0), .inr (some (13, 28))]) (fun _ => rfl) ?_
            refine ra.s (pc' := 144) (st' := [.inl a5, .inl (A 30 0), .inr (some (13, 28))]) (fun _ => rfl) ?_
            refine ra.si (nx := 145) 35 24 rfl rfl h25 ?_
            refine ra.s (pc' := 146) (st' := [.inr (some (11, 0))]) (fun _ => rfl) ?_
            refine ra.ga (x := 36) (nx := 149) (c := 13) (i := 29) rfl rfl ?_
            refine ra.s (pc' := 151) (st' := [.inl (A 30 0), .inr (some (13, 29))]) (fun _ => rfl) ?_
            refine ra.s (pc' := 152) (st' := [.inl (0 : Int32), .inl (A 30 0), .inr (some (13, 29))]) (fun _ => rfl) ?_
            refine ra.si (nx := 153) 36 24 rfl rfl h25 ?_
            refine ra.s (pc' := 154) (st' := [.inr (some (11, 0))]) (fun _ => rfl) ?_
            refine ra.ga (x := 37) (nx := 157) (c := 13) (i := 30) rfl rfl ?_
            refine ra.s (pc' := 159) (st' := [.inl (A 30 0), .inr (some (13, 30))]) (fun _ => rfl) ?_
            refine ra.s (pc' := 160) (st' := [.inl (0 : Int32), .inl (A 30 0), .inr (some (13, 30))]) (fun _ => rfl) ?_
            refine ra.si (nx := 161) 37 24 rfl rfl h25 ?_
            refine ra.s (pc' := 162) (st' := [.inr (some (11, 0))]) (fun _ => rfl) ?_
            refine ra.ga (x := 38) (nx := 165) (c := 13) (i := 31) rfl rfl ?_
            refine ra.s (pc' := 167) (st' := [.inl (A 30 0), .inr (some (13, 31))]) (fun _ => rfl) ?_
            refine ra.s (pc' := 168) (st' := [.inl (0 : Int32), .inl (A 30 0), .inr (some (13, 31))]) (fun _ => rfl) ?_
            refine ra.si (nx := 169) 38 24 rfl rfl h25 ?_
            refine ra.s (pc' := 170) (st' := [.inr (some (11, 0))]) (fun _ => rfl) ?_
            refine ra.ga (x := 39) (nx := 173) (c := 13) (i := 32) rfl rfl ?_
            refine ra.s (pc' := 175) (st' := [.inl (A 30 0), .inr (some (13, 32))]) (fun _ => rfl) ?_
            refine ra.s (pc' := 176) (st' := [.inl (0 : Int32), .inl (A 30 0), .inr (some (13, 32))]) (fun _ => rfl) ?_
            refine ra.si (nx := 177) 39 24 rfl rfl h25 ?_
            refine ra.s (pc' := 178) (st' := [.inr (some (11, 0))]) (fun _ => rfl) ?_
            refine ra.ga (x := 40) (nx := 181) (c := 13) (i := 33) rfl rfl ?_
            refine ra.s (pc' := 183) (st' := [.inl (A 30 0), .inr (some (13, 33))]) (fun _ => rfl) ?_
            refine ra.s (pc' := 184) (st' := [.inl (0 : Int32), .inl (A 30 0), .inr (some (13, 33))]) (fun _ => rfl) ?_
            refine ra.si (nx := 185) 40 24 rfl rfl h25 ?_
            refine ra.s (pc' := 186) (st' := [.inr (some (11, 0))]) (fun _ => rfl) ?_
            refine ra.ga (x := 41) (nx := 189) (c := 13) (i := 34) rfl rfl ?_
            refine ra.s (pc' := 191) (st' := [.inl (A 30 0), .inr (some (13, 34))]) (fun _ => rfl) ?_
            refine ra.s (pc' := 192) (st' := [.inl (0 : Int32), .inl (A 30 0), .inr (some (13, 34))]) (fun _ => rfl) ?_
            refine ra.si (nx := 193) 41 24 rfl rfl h25 ?_
            refine ra.s (pc' := 194) (st' := [.inr (some (11, 0))]) (fun _ => rfl) ?_
            refine ra.ga (x := 42) (nx := 197) (c := 13) (i := 35) rfl rfl ?_
            refine ra.s (pc' := 199) (st' := [.inl (A 30 0), .inr (some (13, 35))]) (fun _ => rfl) ?_
            refine ra.s (pc' := 200) (st' := [.inl a1, .inl (A 30 0), .inr (some (13, 35))]) (fun _ => rfl) ?_
            refine ra.s (pc' := 201) (st' := [.inl (2 : Int32), .inl a1, .inl (A 30 0), .inr (some (13, 35))]) (fun _ => rfl) ?_
            refine ra.bt (cd := .ne) (x := a1) (y := (2 : Int32)) 208 204 (st' := [.inl (A 30 0), .inr (some (13, 35))]) (fun _ => rfl) (y_cne _ _) (fun z => absurd (h19.symm.trans z) (by decide)) ?_
            refine ra.s (pc' := 209) (st' := [.inl (0 : Int32), .inl (A 30 0), .inr (some (13, 35))]) (fun _ => rfl) ?_
            refine ra.si (nx := 210) 42 24 rfl rfl h25 ?_
            refine ra.s (pc' := 211) (st' := [.inl (0 : Int32)]) (fun _ => rfl) ?_
            refine ra.s (pc' := 213) (L' := [some (.inr (some (11, 0))), some (.inl a1), some (.inl a2), some (.inl a3), some (.inl a4), some (.inl a5), some (.inl (1 : Int32)), some (.inl (A 30 0)), some (.inl (0 : Int32))]) (st' := []) (fun _ => rfl) ?_
            obtain ⟨h26, hg⟩ := hg
            refine rh_guard_213 (by omega) 20000 a1 a2 a3 a4 a5 (1 : Int32) (A 30 0) (0 : Int32) (xm_u2 (xm_u2 (xm_u2 (xm_u2 (xm_u2 (xm_u2 (xm_u2 (xm_u2 (xm_u2 (xm_u2 (xm_u2 (xm_u2 A 31 (y_ix (A 30 0)) a1) 32 (y_ix (A 30 0)) a2) 33 (y_ix (A 30 0)) a3) 34 (y_ix (A 30 0)) a4) 35 (y_ix (A 30 0)) a5) 36 (y_ix (A 30 0)) (0 : Int32)) 37 (y_ix (A 30 0)) (0 : Int32)) 38 (y_ix (A 30 0)) (0 : Int32)) 39 (y_ix (A 30 0)) (0 : Int32)) 40 (y_ix (A 30 0)) (0 : Int32)) 41 (y_ix (A 30 0)) (0 : Int32)) 42 (y_ix (A 30 0)) (0 : Int32)) js h26 rfl ?_
            refine ra.s (pc' := 241) (st' := [.inr (some (11, 0))]) (fun _ => rfl) ?_
            refine ra.s (pc' := 242) (st' := [.inr (some (11, 0)), .inr (some (11, 0))]) (fun _ => rfl) ?_
            refine ra.gi (x := 30) (nx := 245) (v := ((rf_guard_213 20000 a1 a2 a3 a4 a5 (1 : Int32) (A 30 0) (0 : Int32) (xm_u2 (xm_u2 (xm_u2 (xm_u2 (xm_u2 (xm_u2 (xm_u2 (xm_u2 (xm_u2 (xm_u2 (xm_u2 (xm_u2 A 31 (y_ix (A 30 0)) a1) 32 (y_ix (A 30 0)) a2) 33 (y_ix (A 30 0)) a3) 34 (y_ix (A 30 0)) a4) 35 (y_ix (A 30 0)) a5) 36 (y_ix (A 30 0)) (0 : Int32)) 37 (y_ix (A 30 0)) (0 : Int32)) 38 (y_ix (A 30 0)) (0 : Int32)) 39 (y_ix (A 30 0)) (0 : Int32)) 40 (y_ix (A 30 0)) (0 : Int32)) 41 (y_ix (A 30 0)) (0 : Int32)) 42 (y_ix (A 30 0)) (0 : Int32))).2 30 0)) rfl rfl rfl ?_
            refine ra.s (pc' := 246) (st' := [.inl (1 : Int32), .inl ((rf_guard_213 20000 a1 a2 a3 a4 a5 (1 : Int32) (A 30 0) (0 : Int32) (xm_u2 (xm_u2 (xm_u2 (xm_u2 (xm_u2 (xm_u2 (xm_u2 (xm_u2 (xm_u2 (xm_u2 (xm_u2 (xm_u2 A 31 (y_ix (A 30 0)) a1) 32 (y_ix (A 30 0)) a2) 33 (y_ix (A 30 0)) a3) 34 (y_ix (A 30 0)) a4) 35 (y_ix (A 30 0)) a5) 36 (y_ix (A 30 0)) (0 : Int32)) 37 (y_ix (A 30 0)) (0 : Int32)) 38 (y_ix (A 30 0)) (0 : Int32)) 39 (y_ix (A 30 0)) (0 : Int32)) 40 (y_ix (A 30 0)) (0 : Int32)) 41 (y_ix (A 30 0)) (0 : Int32)) 42 (y_ix (A 30 0)) (0 : Int32))).2 30 0), .inr (some (11, 0))]) (fun _ => rfl) ?_
            refine ra.s (pc' := 247) (st' := [.inl (((rf_guard_213 20000 a1 a2 a3 a4 a5 (1 : Int32) (A 30 0) (0 : Int32) (xm_u2 (xm_u2 (xm_u2 (xm_u2 (xm_u2 (xm_u2 (xm_u2 (xm_u2 (xm_u2 (xm_u2 (xm_u2 (xm_u2 A 31 (y_ix (A 30 0)) a1) 32 (y_ix (A 30 0)) a2) 33 (y_ix (A 30 0)) a3) 34 (y_ix (A 30 0)) a4) 35 (y_ix (A 30 0)) a5) 36 (y_ix (A 30 0)) (0 : Int32)) 37 (y_ix (A 30 0)) (0 : Int32)) 38 (y_ix (A 30 0)) (0 : Int32)) 39 (y_ix (A 30 0)) (0 : Int32)) 40 (y_ix (A 30 0)) (0 : Int32)) 41 (y_ix (A 30 0)) (0 : Int32)) 42 (y_ix (A 30 0)) (0 : Int32))).2 30 0) + (1 : Int32)), .inr (some (11, 0))]) (fun _ => rfl) ?_
            refine ra.pi (x := 30) (nx := 250) rfl rfl ?_
            refine ra.s (pc' := 252) (st' := [.inl (A 30 0)]) (fun _ => rfl) ?_
            subst hk
            exact ra.ret (r := some (.inl (A 30 0))) (fun _ => rfl) ⟨rfl, rfl, rfl⟩
    · skip
      refine ra.s (pc' := 26) (st' := [.inl a1]) (fun _ => rfl) ?_
      refine ra.s (pc' := 27) (st' := [.inl (4 : Int32), .inl a1]) (fun _ => rfl) ?_
      refine ra.b (c := a1 = (4 : Int32)) (cd := .eq) (x := a1) (y := (4 : Int32)) 42 30 (st' := []) (fun _ => rfl) (y_ceq _ _) hk hg (fun h27 hg hk => ?_) (fun h27 hg hk => ?_)
      · skip
        refine ra.s (pc' := 43) (st' := [.inl (1 : Int32)]) (fun _ => rfl) ?_
        refine ra.s (pc' := 47) (st' := [.inl (1 : Int32)]) (fun _ => rfl) ?_
        refine ra.s (pc' := 49) (L' := [some (.inr (some (11, 0))), some (.inl a1), some (.inl a2), some (.inl a3), some (.inl a4), some (.inl a5), some (.inl (1 : Int32)), none, none]) (st' := []) (fun _ => rfl) ?_
        refine ra.s (pc' := 50) (st' := [.inr (some (11, 0))]) (fun _ => rfl) ?_
        refine ra.s (pc' := 51) (st' := [.inl a1, .inr (some (11, 0))]) (fun _ => rfl) ?_
        refine ra.s (pc' := 52) (st' := [.inl a2, .inl a1, .inr (some (11, 0))]) (fun _ => rfl) ?_
        refine ra.s (pc' := 53) (st' := [.inl a3, .inl a2, .inl a1, .inr (some (11, 0))]) (fun _ => rfl) ?_
        refine ra.s (pc' := 55) (st' := [.inl a4, .inl a3, .inl a2, .inl a1, .inr (some (11, 0))]) (fun _ => rfl) ?_
        obtain ⟨h28, hg⟩ := hg
        refine ra.cP (f := (rf_isGood a1 a2 a3 a4 A)) (m := 123) (as := [.inr (some (11, 0)), .inl a1, .inl a2, .inl a3, .inl a4]) (nx := 58) (L' := [some (.inr (some (11, 0))), some (.inl a1), some (.inl a2), some (.inl a3), some (.inl a4), some (.inl a5), some (.inl (1 : Int32)), none, none]) (st' := []) (fun _ => rfl) (rh_isGood (by omega) h28) ?_
        refine ra.b (c := (rf_isGood a1 a2 a3 a4 A) = (0 : Int32)) (cd := .eq) (x := (rf_isGood a1 a2 a3 a4 A)) (y := (0 : Int32)) 82 61 (st' := []) (fun _ => rfl) (y_ceq _ _) hk hg (fun h29 hg hk => ?_) (fun h29 hg hk => ?_)
        · skip
          refine ra.s (pc' := 84) (st' := [.inl (-2 : Int32)]) (fun _ => rfl) ?_
          subst hk
          exact ra.ret (r := some (.inl (-2 : Int32))) (fun _ => rfl) ⟨rfl, rfl, rfl⟩
        · skip
          refine ra.s (pc' := 62) (st' := [.inr (some (11, 0))]) (fun _ => rfl) ?_
          refine ra.s (pc' := 64) (st' := [.inl a5, .inr (some (11, 0))]) (fun _ => rfl) ?_
          refine ra.s (pc' := 65) (st' := [.inl (0 : Int32), .inl a5, .inr (some (11, 0))]) (fun _ => rfl) ?_
          refine ra.s (pc' := 67) (st' := [.inl (1 : Int32), .inl (0 : Int32), .inl a5, .inr (some (11, 0))]) (fun _ => rfl) ?_
          refine ra.bf (cd := .eq) (x := (1 : Int32)) (y := (0 : Int32)) 75 70 (st' := [.inl (0 : Int32), .inl a5, .inr (some (11, 0))]) (fun _ => rfl) (y_ceq _ _) (by decide) ?_
          refine ra.s (pc' := 72) (st' := [.inl (15 : Int32), .inl (0 : Int32), .inl a5, .inr (some (11, 0))]) (fun _ => rfl) ?_
          refine ra.s (pc' := 76) (st' := [.inl (15 : Int32), .inl (0 : Int32), .inl a5, .inr (some (11, 0))]) (fun _ => rfl) ?_
          obtain ⟨h30, hg⟩ := hg
          refine ra.cP (f := (rf_in a5 (0 : Int32) (15 : Int32) A)) (m := 124) (as := [.inr (some (11, 0)), .inl a5, .inl (0 : Int32), .inl (15 : Int32)]) (nx := 79) (L' := [some (.inr (some (11, 0))), some (.inl a1), some (.inl a2), some (.inl a3), some (.inl a4), some (.inl a5), some (.inl (1 : Int32)), none, none]) (st' := []) (fun _ => rfl) (rh_in (by omega) h30) ?_
          refine ra.bn (c := (rf_in a5 (0 : Int32) (15 : Int32) A) = (0 : Int32)) (cd := .ne) (x := (rf_in a5 (0 : Int32) (15 : Int32) A)) (y := (0 : Int32)) 85 82 (st' := []) (fun _ => rfl) (y_cne _ _) hk hg (fun h31 hg hk => ?_) (fun h31 hg hk => ?_)
          · skip
            refine ra.s (pc' := 84) (st' := [.inl (-2 : Int32)]) (fun _ => rfl) ?_
            subst hk
            exact ra.ret (r := some (.inl (-2 : Int32))) (fun _ => rfl) ⟨rfl, rfl, rfl⟩
          · skip
            refine ra.s (pc' := 86) (st' := [.inr (some (11, 0))]) (fun _ => rfl) ?_
            refine ra.gi (x := 30) (nx := 89) (v := (A 30 0)) rfl rfl rfl ?_
            refine ra.s (pc' := 91) (st' := [.inl (24 : Int32), .inl (A 30 0)]) (fun _ => rfl) ?_
            refine ra.bn (c := (A 30 0) = (24 : Int32)) (cd := .ne) (x := (A 30 0)) (y := (24 : Int32)) 97 94 (st' := []) (fun _ => rfl) (y_cne _ _) hk hg (fun h32 hg hk => ?_) (fun h32 hg hk => ?_)
            · skip
              refine ra.s (pc' := 96) (st' := [.inl (-3 : Int32)]) (fun _ => rfl) ?_
              subst hk
              exact ra.ret (r := some (.inl (-3 : Int32))) (fun _ => rfl) ⟨rfl, rfl, rfl⟩
            · skip
              refine ra.s (pc' := 98) (st' := [.inr (some (11, 0))]) (fun _ => rfl) ?_
              refine ra.gi (x := 30) (nx := 101) (v := (A 30 0)) rfl rfl rfl ?_
              refine ra.s (pc' := 103) (L' := [some (.inr (some (11, 0))), some (.inl a1), some (.inl a2), some (.inl a3), some (.inl a4), some (.inl a5), some (.inl (1 : Int32)), some (.inl (A 30 0)), none]) (st' := []) (fun _ => rfl) ?_
              refine ra.s (pc' := 104) (st' := [.inr (some (11, 0))]) (fun _ => rfl) ?_
              refine ra.ga (x := 31) (nx := 107) (c := 13) (i := 24) rfl rfl ?_
              refine ra.s (pc' := 109) (st' := [.inl (A 30 0), .inr (some (13, 24))]) (fun _ => rfl) ?_
              refine ra.s (pc' := 110) (st' := [.inl a1, .inl (A 30 0), .inr (some (13, 24))]) (fun _ => rfl) ?_
              obtain ⟨h33, hg⟩ := hg
              refine ra.si (nx := 111) 31 24 rfl rfl h33 ?_
              refine ra.s (pc' := 112) (st' := [.inr (some (11, 0))]) (fun _ => rfl) ?_
              refine ra.ga (x := 32) (nx := 115) (c := 13) (i := 25) rfl rfl ?_
              refine ra.s (pc' := 117) (st' := [.inl (A 30 0), .inr (some (13, 25))]) (fun _ => rfl) ?_
              refine ra.s (pc' := 118) (st' := [.inl a2, .inl (A 30 0), .inr (some (13, 25))]) (fun _ => rfl) ?_
              refine ra.si (nx := 119) 32 24 rfl rfl h33 ?_
              refine ra.s (pc' := 120) (st' := [.inr (some (11, 0))]) (fun _ => rfl) ?_
              refine ra.ga (x := 33) (nx := 123) (c := 13) (i := 26) rfl rfl ?_
              refine ra.s (pc' := 125) (st' := [.inl (A 30 0), .inr (some (13, 26))]) (fun _ => rfl) ?_
              refine ra.s (pc' := 126) (st' := [.inl a3, .inl (A 30 0), .inr (some (13, 26))]) (fun _ => rfl) ?_
              refine ra.si (nx := 127) 33 24 rfl rfl h33 ?_
              refine ra.s (pc' := 128) (st' := [.inr (some (11, 0))]) (fun _ => rfl) ?_
              refine ra.ga (x := 34) (nx := 131) (c := 13) (i := 27) rfl rfl ?_
              refine ra.s (pc' := 133) (st' := [.inl (A 30 0), .inr (some (13, 27))]) (fun _ => rfl) ?_
              refine ra.s (pc' := 135) (st' := [.inl a4, .inl (A 30 0), .inr (some (13, 27))]) (fun _ => rfl) ?_
              refine ra.si (nx := 136) 34 24 rfl rfl h33 ?_
              refine ra.s (pc' := 137) (st' := [.inr (some (11, 0))]) (fun _ => rfl) ?_
              refine ra.ga (x := 35) (nx := 140) (c := 13) (i := 28) rfl rfl ?_
              refine ra.s (pc' := 142) (st' := [.inl (A 30 0), .inr (some (13, 28))]) (fun _ => rfl) ?_
              refine ra.s (pc' := 144) (st' := [.inl a5, .inl (A 30 0), .inr (some (13, 28))]) (fun _ => rfl) ?_
              refine ra.si (nx := 145) 35 24 rfl rfl h33 ?_
              refine ra.s (pc' := 146) (st' := [.inr (some (11, 0))]) (fun _ => rfl) ?_
              refine ra.ga (x := 36) (nx := 149) (c := 13) (i := 29) rfl rfl ?_
              refine ra.s (pc' := 151) (st' := [.inl (A 30 0), .inr (some (13, 29))]) (fun _ => rfl) ?_
              refine ra.s (pc' := 152) (st' := [.inl (0 : Int32), .inl (A 30 0), .inr (some (13, 29))]) (fun _ => rfl) ?_
              refine ra.si (nx := 153) 36 24 rfl rfl h33 ?_
              refine ra.s (pc' := 154) (st' := [.inr (some (11, 0))]) (fun _ => rfl) ?_
              refine ra.ga (x := 37) (nx := 157) (c := 13) (i := 30) rfl rfl ?_
              refine ra.s (pc' := 159) (st' := [.inl (A 30 0), .inr (some (13, 30))]) (fun _ => rfl) ?_
              refine ra.s (pc' := 160) (st' := [.inl (0 : Int32), .inl (A 30 0), .inr (some (13, 30))]) (fun _ => rfl) ?_
              refine ra.si (nx := 161) 37 24 rfl rfl h33 ?_
              refine ra.s (pc' := 162) (st' := [.inr (some (11, 0))]) (fun _ => rfl) ?_
              refine ra.ga (x := 38) (nx := 165) (c := 13) (i := 31) rfl rfl ?_
              refine ra.s (pc' := 167) (st' := [.inl (A 30 0), .inr (some (13, 31))]) (fun _ => rfl) ?_
              refine ra.s (pc' := 168) (st' := [.inl (0 : Int32), .inl (A 30 0), .inr (some (13, 31))]) (fun _ => rfl) ?_
              refine ra.si (nx := 169) 38 24 rfl rfl h33 ?_
              refine ra.s (pc' := 170) (st' := [.inr (some (11, 0))]) (fun _ => rfl) ?_
              refine ra.ga (x := 39) (nx := 173) (c := 13) (i := 32) rfl rfl ?_
              refine ra.s (pc' := 175) (st' := [.inl (A 30 0), .inr (some (13, 32))]) (fun _ => rfl) ?_
              refine ra.s (pc' := 176) (st' := [.inl (0 : Int32), .inl (A 30 0), .inr (some (13, 32))]) (fun _ => rfl) ?_
              refine ra.si (nx := 177) 39 24 rfl rfl h33 ?_
              refine ra.s (pc' := 178) (st' := [.inr (some (11, 0))]) (fun _ => rfl) ?_
              refine ra.ga (x := 40) (nx := 181) (c := 13) (i := 33) rfl rfl ?_
              refine ra.s (pc' := 183) (st' := [.inl (A 30 0), .inr (some (13, 33))]) (fun _ => rfl) ?_
              refine ra.s (pc' := 184) (st' := [.inl (0 : Int32), .inl (A 30 0), .inr (some (13, 33))]) (fun _ => rfl) ?_
              refine ra.si (nx := 185) 40 24 rfl rfl h33 ?_
              refine ra.s (pc' := 186) (st' := [.inr (some (11, 0))]) (fun _ => rfl) ?_
              refine ra.ga (x := 41) (nx := 189) (c := 13) (i := 34) rfl rfl ?_
              refine ra.s (pc' := 191) (st' := [.inl (A 30 0), .inr (some (13, 34))]) (fun _ => rfl) ?_
              refine ra.s (pc' := 192) (st' := [.inl (0 : Int32), .inl (A 30 0), .inr (some (13, 34))]) (fun _ => rfl) ?_
              refine ra.si (nx := 193) 41 24 rfl rfl h33 ?_
              refine ra.s (pc' := 194) (st' := [.inr (some (11, 0))]) (fun _ => rfl) ?_
              refine ra.ga (x := 42) (nx := 197) (c := 13) (i := 35) rfl rfl ?_
              refine ra.s (pc' := 199) (st' := [.inl (A 30 0), .inr (some (13, 35))]) (fun _ => rfl) ?_
              refine ra.s (pc' := 200) (st' := [.inl a1, .inl (A 30 0), .inr (some (13, 35))]) (fun _ => rfl) ?_
              refine ra.s (pc' := 201) (st' := [.inl (2 : Int32), .inl a1, .inl (A 30 0), .inr (some (13, 35))]) (fun _ => rfl) ?_
              refine ra.bt (cd := .ne) (x := a1) (y := (2 : Int32)) 208 204 (st' := [.inl (A 30 0), .inr (some (13, 35))]) (fun _ => rfl) (y_cne _ _) (fun z => absurd (h27.symm.trans z) (by decide)) ?_
              refine ra.s (pc' := 209) (st' := [.inl (0 : Int32), .inl (A 30 0), .inr (some (13, 35))]) (fun _ => rfl) ?_
              refine ra.si (nx := 210) 42 24 rfl rfl h33 ?_
              refine ra.s (pc' := 211) (st' := [.inl (0 : Int32)]) (fun _ => rfl) ?_
              refine ra.s (pc' := 213) (L' := [some (.inr (some (11, 0))), some (.inl a1), some (.inl a2), some (.inl a3), some (.inl a4), some (.inl a5), some (.inl (1 : Int32)), some (.inl (A 30 0)), some (.inl (0 : Int32))]) (st' := []) (fun _ => rfl) ?_
              obtain ⟨h34, hg⟩ := hg
              refine rh_guard_213 (by omega) 20000 a1 a2 a3 a4 a5 (1 : Int32) (A 30 0) (0 : Int32) (xm_u2 (xm_u2 (xm_u2 (xm_u2 (xm_u2 (xm_u2 (xm_u2 (xm_u2 (xm_u2 (xm_u2 (xm_u2 (xm_u2 A 31 (y_ix (A 30 0)) a1) 32 (y_ix (A 30 0)) a2) 33 (y_ix (A 30 0)) a3) 34 (y_ix (A 30 0)) a4) 35 (y_ix (A 30 0)) a5) 36 (y_ix (A 30 0)) (0 : Int32)) 37 (y_ix (A 30 0)) (0 : Int32)) 38 (y_ix (A 30 0)) (0 : Int32)) 39 (y_ix (A 30 0)) (0 : Int32)) 40 (y_ix (A 30 0)) (0 : Int32)) 41 (y_ix (A 30 0)) (0 : Int32)) 42 (y_ix (A 30 0)) (0 : Int32)) js h34 rfl ?_
              refine ra.s (pc' := 241) (st' := [.inr (some (11, 0))]) (fun _ => rfl) ?_
              refine ra.s (pc' := 242) (st' := [.inr (some (11, 0)), .inr (some (11, 0))]) (fun _ => rfl) ?_
              refine ra.gi (x := 30) (nx := 245) (v := ((rf_guard_213 20000 a1 a2 a3 a4 a5 (1 : Int32) (A 30 0) (0 : Int32) (xm_u2 (xm_u2 (xm_u2 (xm_u2 (xm_u2 (xm_u2 (xm_u2 (xm_u2 (xm_u2 (xm_u2 (xm_u2 (xm_u2 A 31 (y_ix (A 30 0)) a1) 32 (y_ix (A 30 0)) a2) 33 (y_ix (A 30 0)) a3) 34 (y_ix (A 30 0)) a4) 35 (y_ix (A 30 0)) a5) 36 (y_ix (A 30 0)) (0 : Int32)) 37 (y_ix (A 30 0)) (0 : Int32)) 38 (y_ix (A 30 0)) (0 : Int32)) 39 (y_ix (A 30 0)) (0 : Int32)) 40 (y_ix (A 30 0)) (0 : Int32)) 41 (y_ix (A 30 0)) (0 : Int32)) 42 (y_ix (A 30 0)) (0 : Int32))).2 30 0)) rfl rfl rfl ?_
              refine ra.s (pc' := 246) (st' := [.inl (1 : Int32), .inl ((rf_guard_213 20000 a1 a2 a3 a4 a5 (1 : Int32) (A 30 0) (0 : Int32) (xm_u2 (xm_u2 (xm_u2 (xm_u2 (xm_u2 (xm_u2 (xm_u2 (xm_u2 (xm_u2 (xm_u2 (xm_u2 (xm_u2 A 31 (y_ix (A 30 0)) a1) 32 (y_ix (A 30 0)) a2) 33 (y_ix (A 30 0)) a3) 34 (y_ix (A 30 0)) a4) 35 (y_ix (A 30 0)) a5) 36 (y_ix (A 30 0)) (0 : Int32)) 37 (y_ix (A 30 0)) (0 : Int32)) 38 (y_ix (A 30 0)) (0 : Int32)) 39 (y_ix (A 30 0)) (0 : Int32)) 40 (y_ix (A 30 0)) (0 : Int32)) 41 (y_ix (A 30 0)) (0 : Int32)) 42 (y_ix (A 30 0)) (0 : Int32))).2 30 0), .inr (some (11, 0))]) (fun _ => rfl) ?_
              refine ra.s (pc' := 247) (st' := [.inl (((rf_guard_213 20000 a1 a2 a3 a4 a5 (1 : Int32) (A 30 0) (0 : Int32) (xm_u2 (xm_u2 (xm_u2 (xm_u2 (xm_u2 (xm_u2 (xm_u2 (xm_u2 (xm_u2 (xm_u2 (xm_u2 (xm_u2 A 31 (y_ix (A 30 0)) a1) 32 (y_ix (A 30 0)) a2) 33 (y_ix (A 30 0)) a3) 34 (y_ix (A 30 0)) a4) 35 (y_ix (A 30 0)) a5) 36 (y_ix (A 30 0)) (0 : Int32)) 37 (y_ix (A 30 0)) (0 : Int32)) 38 (y_ix (A 30 0)) (0 : Int32)) 39 (y_ix (A 30 0)) (0 : Int32)) 40 (y_ix (A 30 0)) (0 : Int32)) 41 (y_ix (A 30 0)) (0 : Int32)) 42 (y_ix (A 30 0)) (0 : Int32))).2 30 0) + (1 : Int32)), .inr (some (11, 0))]) (fun _ => rfl) ?_
              refine ra.pi (x := 30) (nx := 250) rfl rfl ?_
              refine ra.s (pc' := 252) (st' := [.inl (A 30 0)]) (fun _ => rfl) ?_
              subst hk
              exact ra.ret (r := some (.inl (A 30 0))) (fun _ => rfl) ⟨rfl, rfl, rfl⟩
      · skip
        refine ra.s (pc' := 31) (st' := [.inl a1]) (fun _ => rfl) ?_
        refine ra.s (pc' := 33) (st' := [.inl (6 : Int32), .inl a1]) (fun _ => rfl) ?_
        refine ra.bf (cd := .eq) (x := a1) (y := (6 : Int32)) 42 36 (st' := []) (fun _ => rfl) (y_ceq _ _) h1 ?_
        refine ra.s (pc' := 37) (st' := [.inl a1]) (fun _ => rfl) ?_
        refine ra.s (pc' := 39) (st' := [.inl (9 : Int32), .inl a1]) (fun _ => rfl) ?_
        refine ra.bn (c := a1 = (9 : Int32)) (cd := .ne) (x := a1) (y := (9 : Int32)) 46 42 (st' := []) (fun _ => rfl) (y_cne _ _) hk hg (fun h35 hg hk => ?_) (fun h35 hg hk => ?_)
        · skip
          refine ra.s (pc' := 43) (st' := [.inl (1 : Int32)]) (fun _ => rfl) ?_
          refine ra.s (pc' := 47) (st' := [.inl (1 : Int32)]) (fun _ => rfl) ?_
          refine ra.s (pc' := 49) (L' := [some (.inr (some (11, 0))), some (.inl a1), some (.inl a2), some (.inl a3), some (.inl a4), some (.inl a5), some (.inl (1 : Int32)), none, none]) (st' := []) (fun _ => rfl) ?_
          refine ra.s (pc' := 50) (st' := [.inr (some (11, 0))]) (fun _ => rfl) ?_
          refine ra.s (pc' := 51) (st' := [.inl a1, .inr (some (11, 0))]) (fun _ => rfl) ?_
          refine ra.s (pc' := 52) (st' := [.inl a2, .inl a1, .inr (some (11, 0))]) (fun _ => rfl) ?_
          refine ra.s (pc' := 53) (st' := [.inl a3, .inl a2, .inl a1, .inr (some (11, 0))]) (fun _ => rfl) ?_
          refine ra.s (pc' := 55) (st' := [.inl a4, .inl a3, .inl a2, .inl a1, .inr (some (11, 0))]) (fun _ => rfl) ?_
          obtain ⟨h36, hg⟩ := hg
          refine ra.cP (f := (rf_isGood a1 a2 a3 a4 A)) (m := 123) (as := [.inr (some (11, 0)), .inl a1, .inl a2, .inl a3, .inl a4]) (nx := 58) (L' := [some (.inr (some (11, 0))), some (.inl a1), some (.inl a2), some (.inl a3), some (.inl a4), some (.inl a5), some (.inl (1 : Int32)), none, none]) (st' := []) (fun _ => rfl) (rh_isGood (by omega) h36) ?_
          refine ra.b (c := (rf_isGood a1 a2 a3 a4 A) = (0 : Int32)) (cd := .eq) (x := (rf_isGood a1 a2 a3 a4 A)) (y := (0 : Int32)) 82 61 (st' := []) (fun _ => rfl) (y_ceq _ _) hk hg (fun h37 hg hk => ?_) (fun h37 hg hk => ?_)
          · skip
            refine ra.s (pc' := 84) (st' := [.inl (-2 : Int32)]) (fun _ => rfl) ?_
            subst hk
            exact ra.ret (r := some (.inl (-2 : Int32))) (fun _ => rfl) ⟨rfl, rfl, rfl⟩
          · skip
            refine ra.s (pc' := 62) (st' := [.inr (some (11, 0))]) (fun _ => rfl) ?_
            refine ra.s (pc' := 64) (st' := [.inl a5, .inr (some (11, 0))]) (fun _ => rfl) ?_
            refine ra.s (pc' := 65) (st' := [.inl (0 : Int32), .inl a5, .inr (some (11, 0))]) (fun _ => rfl) ?_
            refine ra.s (pc' := 67) (st' := [.inl (1 : Int32), .inl (0 : Int32), .inl a5, .inr (some (11, 0))]) (fun _ => rfl) ?_
            refine ra.bf (cd := .eq) (x := (1 : Int32)) (y := (0 : Int32)) 75 70 (st' := [.inl (0 : Int32), .inl a5, .inr (some (11, 0))]) (fun _ => rfl) (y_ceq _ _) (by decide) ?_
            refine ra.s (pc' := 72) (st' := [.inl (15 : Int32), .inl (0 : Int32), .inl a5, .inr (some (11, 0))]) (fun _ => rfl) ?_
            refine ra.s (pc' := 76) (st' := [.inl (15 : Int32), .inl (0 : Int32), .inl a5, .inr (some (11, 0))]) (fun _ => rfl) ?_
            obtain ⟨h38, hg⟩ := hg
            refine ra.cP (f := (rf_in a5 (0 : Int32) (15 : Int32) A)) (m := 124) (as := [.inr (some (11, 0)), .inl a5, .inl (0 : Int32), .inl (15 : Int32)]) (nx := 79) (L' := [some (.inr (some (11, 0))), some (.inl a1), some (.inl a2), some (.inl a3), some (.inl a4), some (.inl a5), some (.inl (1 : Int32)), none, none]) (st' := []) (fun _ => rfl) (rh_in (by omega) h38) ?_
            refine ra.bn (c := (rf_in a5 (0 : Int32) (15 : Int32) A) = (0 : Int32)) (cd := .ne) (x := (rf_in a5 (0 : Int32) (15 : Int32) A)) (y := (0 : Int32)) 85 82 (st' := []) (fun _ => rfl) (y_cne _ _) hk hg (fun h39 hg hk => ?_) (fun h39 hg hk => ?_)
            · skip
              refine ra.s (pc' := 84) (st' := [.inl (-2 : Int32)]) (fun _ => rfl) ?_
              subst hk
              exact ra.ret (r := some (.inl (-2 : Int32))) (fun _ => rfl) ⟨rfl, rfl, rfl⟩
            · skip
              refine ra.s (pc' := 86) (st' := [.inr (some (11, 0))]) (fun _ => rfl) ?_
              refine ra.gi (x := 30) (nx := 89) (v := (A 30 0)) rfl rfl rfl ?_
              refine ra.s (pc' := 91) (st' := [.inl (24 : Int32), .inl (A 30 0)]) (fun _ => rfl) ?_
              refine ra.bn (c := (A 30 0) = (24 : Int32)) (cd := .ne) (x := (A 30 0)) (y := (24 : Int32)) 97 94 (st' := []) (fun _ => rfl) (y_cne _ _) hk hg (fun h40 hg hk => ?_) (fun h40 hg hk => ?_)
              · skip
                refine ra.s (pc' := 96) (st' := [.inl (-3 : Int32)]) (fun _ => rfl) ?_
                subst hk
                exact ra.ret (r := some (.inl (-3 : Int32))) (fun _ => rfl) ⟨rfl, rfl, rfl⟩
              · skip
                refine ra.s (pc' := 98) (st' := [.inr (some (11, 0))]) (fun _ => rfl) ?_
                refine ra.gi (x := 30) (nx := 101) (v := (A 30 0)) rfl rfl rfl ?_
                refine ra.s (pc' := 103) (L' := [some (.inr (some (11, 0))), some (.inl a1), some (.inl a2), some (.inl a3), some (.inl a4), some (.inl a5), some (.inl (1 : Int32)), some (.inl (A 30 0)), none]) (st' := []) (fun _ => rfl) ?_
                refine ra.s (pc' := 104) (st' := [.inr (some (11, 0))]) (fun _ => rfl) ?_
                refine ra.ga (x := 31) (nx := 107) (c := 13) (i := 24) rfl rfl ?_
                refine ra.s (pc' := 109) (st' := [.inl (A 30 0), .inr (some (13, 24))]) (fun _ => rfl) ?_
                refine ra.s (pc' := 110) (st' := [.inl a1, .inl (A 30 0), .inr (some (13, 24))]) (fun _ => rfl) ?_
                obtain ⟨h41, hg⟩ := hg
                refine ra.si (nx := 111) 31 24 rfl rfl h41 ?_
                refine ra.s (pc' := 112) (st' := [.inr (some (11, 0))]) (fun _ => rfl) ?_
                refine ra.ga (x := 32) (nx := 115) (c := 13) (i := 25) rfl rfl ?_
                refine ra.s (pc' := 117) (st' := [.inl (A 30 0), .inr (some (13, 25))]) (fun _ => rfl) ?_
                refine ra.s (pc' := 118) (st' := [.inl a2, .inl (A 30 0), .inr (some (13, 25))]) (fun _ => rfl) ?_
                refine ra.si (nx := 119) 32 24 rfl rfl h41 ?_
                refine ra.s (pc' := 120) (st' := [.inr (some (11, 0))]) (fun _ => rfl) ?_
                refine ra.ga (x := 33) (nx := 123) (c := 13) (i := 26) rfl rfl ?_
                refine ra.s (pc' := 125) (st' := [.inl (A 30 0), .inr (some (13, 26))]) (fun _ => rfl) ?_
                refine ra.s (pc' := 126) (st' := [.inl a3, .inl (A 30 0), .inr (some (13, 26))]) (fun _ => rfl) ?_
                refine ra.si (nx := 127) 33 24 rfl rfl h41 ?_
                refine ra.s (pc' := 128) (st' := [.inr (some (11, 0))]) (fun _ => rfl) ?_
                refine ra.ga (x := 34) (nx := 131) (c := 13) (i := 27) rfl rfl ?_
                refine ra.s (pc' := 133) (st' := [.inl (A 30 0), .inr (some (13, 27))]) (fun _ => rfl) ?_
                refine ra.s (pc' := 135) (st' := [.inl a4, .inl (A 30 0), .inr (some (13, 27))]) (fun _ => rfl) ?_
                refine ra.si (nx := 136) 34 24 rfl rfl h41 ?_
                refine ra.s (pc' := 137) (st' := [.inr (some (11, 0))]) (fun _ => rfl) ?_
                refine ra.ga (x := 35) (nx := 140) (c := 13) (i := 28) rfl rfl ?_
                refine ra.s (pc' := 142) (st' := [.inl (A 30 0), .inr (some (13, 28))]) (fun _ => rfl) ?_
                refine ra.s (pc' := 144) (st' := [.inl a5, .inl (A 30 0), .inr (some (13, 28))]) (fun _ => rfl) ?_
                refine ra.si (nx := 145) 35 24 rfl rfl h41 ?_
                refine ra.s (pc' := 146) (st' := [.inr (some (11, 0))]) (fun _ => rfl) ?_
                refine ra.ga (x := 36) (nx := 149) (c := 13) (i := 29) rfl rfl ?_
                refine ra.s (pc' := 151) (st' := [.inl (A 30 0), .inr (some (13, 29))]) (fun _ => rfl) ?_
                refine ra.s (pc' := 152) (st' := [.inl (0 : Int32), .inl (A 30 0), .inr (some (13, 29))]) (fun _ => rfl) ?_
                refine ra.si (nx := 153) 36 24 rfl rfl h41 ?_
                refine ra.s (pc' := 154) (st' := [.inr (some (11, 0))]) (fun _ => rfl) ?_
                refine ra.ga (x := 37) (nx := 157) (c := 13) (i := 30) rfl rfl ?_
                refine ra.s (pc' := 159) (st' := [.inl (A 30 0), .inr (some (13, 30))]) (fun _ => rfl) ?_
                refine ra.s (pc' := 160) (st' := [.inl (0 : Int32), .inl (A 30 0), .inr (some (13, 30))]) (fun _ => rfl) ?_
                refine ra.si (nx := 161) 37 24 rfl rfl h41 ?_
                refine ra.s (pc' := 162) (st' := [.inr (some (11, 0))]) (fun _ => rfl) ?_
                refine ra.ga (x := 38) (nx := 165) (c := 13) (i := 31) rfl rfl ?_
                refine ra.s (pc' := 167) (st' := [.inl (A 30 0), .inr (some (13, 31))]) (fun _ => rfl) ?_
                refine ra.s (pc' := 168) (st' := [.inl (0 : Int32), .inl (A 30 0), .inr (some (13, 31))]) (fun _ => rfl) ?_
                refine ra.si (nx := 169) 38 24 rfl rfl h41 ?_
                refine ra.s (pc' := 170) (st' := [.inr (some (11, 0))]) (fun _ => rfl) ?_
                refine ra.ga (x := 39) (nx := 173) (c := 13) (i := 32) rfl rfl ?_
                refine ra.s (pc' := 175) (st' := [.inl (A 30 0), .inr (some (13, 32))]) (fun _ => rfl) ?_
                refine ra.s (pc' := 176) (st' := [.inl (0 : Int32), .inl (A 30 0), .inr (some (13, 32))]) (fun _ => rfl) ?_
                refine ra.si (nx := 177) 39 24 rfl rfl h41 ?_
                refine ra.s (pc' := 178) (st' := [.inr (some (11, 0))]) (fun _ => rfl) ?_
                refine ra.ga (x := 40) (nx := 181) (c := 13) (i := 33) rfl rfl ?_
                refine ra.s (pc' := 183) (st' := [.inl (A 30 0), .inr (some (13, 33))]) (fun _ => rfl) ?_
                refine ra.s (pc' := 184) (st' := [.inl (0 : Int32), .inl (A 30 0), .inr (some (13, 33))]) (fun _ => rfl) ?_
                refine ra.si (nx := 185) 40 24 rfl rfl h41 ?_
                refine ra.s (pc' := 186) (st' := [.inr (some (11, 0))]) (fun _ => rfl) ?_
                refine ra.ga (x := 41) (nx := 189) (c := 13) (i := 34) rfl rfl ?_
                refine ra.s (pc' := 191) (st' := [.inl (A 30 0), .inr (some (13, 34))]) (fun _ => rfl) ?_
                refine ra.s (pc' := 192) (st' := [.inl (0 : Int32), .inl (A 30 0), .inr (some (13, 34))]) (fun _ => rfl) ?_
                refine ra.si (nx := 193) 41 24 rfl rfl h41 ?_
                refine ra.s (pc' := 194) (st' := [.inr (some (11, 0))]) (fun _ => rfl) ?_
                refine ra.ga (x := 42) (nx := 197) (c := 13) (i := 35) rfl rfl ?_
                refine ra.s (pc' := 199) (st' := [.inl (A 30 0), .inr (some (13, 35))]) (fun _ => rfl) ?_
                refine ra.s (pc' := 200) (st' := [.inl a1, .inl (A 30 0), .inr (some (13, 35))]) (fun _ => rfl) ?_
                refine ra.s (pc' := 201) (st' := [.inl (2 : Int32), .inl a1, .inl (A 30 0), .inr (some (13, 35))]) (fun _ => rfl) ?_
                refine ra.bt (cd := .ne) (x := a1) (y := (2 : Int32)) 208 204 (st' := [.inl (A 30 0), .inr (some (13, 35))]) (fun _ => rfl) (y_cne _ _) (fun z => absurd (h35.symm.trans z) (by decide)) ?_
                refine ra.s (pc' := 209) (st' := [.inl (0 : Int32), .inl (A 30 0), .inr (some (13, 35))]) (fun _ => rfl) ?_
                refine ra.si (nx := 210) 42 24 rfl rfl h41 ?_
                refine ra.s (pc' := 211) (st' := [.inl (0 : Int32)]) (fun _ => rfl) ?_
                refine ra.s (pc' := 213) (L' := [some (.inr (some (11, 0))), some (.inl a1), some (.inl a2), some (.inl a3), some (.inl a4), some (.inl a5), some (.inl (1 : Int32)), some (.inl (A 30 0)), some (.inl (0 : Int32))]) (st' := []) (fun _ => rfl) ?_
                obtain ⟨h42, hg⟩ := hg
                refine rh_guard_213 (by omega) 20000 a1 a2 a3 a4 a5 (1 : Int32) (A 30 0) (0 : Int32) (xm_u2 (xm_u2 (xm_u2 (xm_u2 (xm_u2 (xm_u2 (xm_u2 (xm_u2 (xm_u2 (xm_u2 (xm_u2 (xm_u2 A 31 (y_ix (A 30 0)) a1) 32 (y_ix (A 30 0)) a2) 33 (y_ix (A 30 0)) a3) 34 (y_ix (A 30 0)) a4) 35 (y_ix (A 30 0)) a5) 36 (y_ix (A 30 0)) (0 : Int32)) 37 (y_ix (A 30 0)) (0 : Int32)) 38 (y_ix (A 30 0)) (0 : Int32)) 39 (y_ix (A 30 0)) (0 : Int32)) 40 (y_ix (A 30 0)) (0 : Int32)) 41 (y_ix (A 30 0)) (0 : Int32)) 42 (y_ix (A 30 0)) (0 : Int32)) js h42 rfl ?_
                refine ra.s (pc' := 241) (st' := [.inr (some (11, 0))]) (fun _ => rfl) ?_
                refine ra.s (pc' := 242) (st' := [.inr (some (11, 0)), .inr (some (11, 0))]) (fun _ => rfl) ?_
                refine ra.gi (x := 30) (nx := 245) (v := ((rf_guard_213 20000 a1 a2 a3 a4 a5 (1 : Int32) (A 30 0) (0 : Int32) (xm_u2 (xm_u2 (xm_u2 (xm_u2 (xm_u2 (xm_u2 (xm_u2 (xm_u2 (xm_u2 (xm_u2 (xm_u2 (xm_u2 A 31 (y_ix (A 30 0)) a1) 32 (y_ix (A 30 0)) a2) 33 (y_ix (A 30 0)) a3) 34 (y_ix (A 30 0)) a4) 35 (y_ix (A 30 0)) a5) 36 (y_ix (A 30 0)) (0 : Int32)) 37 (y_ix (A 30 0)) (0 : Int32)) 38 (y_ix (A 30 0)) (0 : Int32)) 39 (y_ix (A 30 0)) (0 : Int32)) 40 (y_ix (A 30 0)) (0 : Int32)) 41 (y_ix (A 30 0)) (0 : Int32)) 42 (y_ix (A 30 0)) (0 : Int32))).2 30 0)) rfl rfl rfl ?_
                refine ra.s (pc' := 246) (st' := [.inl (1 : Int32), .inl ((rf_guard_213 20000 a1 a2 a3 a4 a5 (1 : Int32) (A 30 0) (0 : Int32) (xm_u2 (xm_u2 (xm_u2 (xm_u2 (xm_u2 (xm_u2 (xm_u2 (xm_u2 (xm_u2 (xm_u2 (xm_u2 (xm_u2 A 31 (y_ix (A 30 0)) a1) 32 (y_ix (A 30 0)) a2) 33 (y_ix (A 30 0)) a3) 34 (y_ix (A 30 0)) a4) 35 (y_ix (A 30 0)) a5) 36 (y_ix (A 30 0)) (0 : Int32)) 37 (y_ix (A 30 0)) (0 : Int32)) 38 (y_ix (A 30 0)) (0 : Int32)) 39 (y_ix (A 30 0)) (0 : Int32)) 40 (y_ix (A 30 0)) (0 : Int32)) 41 (y_ix (A 30 0)) (0 : Int32)) 42 (y_ix (A 30 0)) (0 : Int32))).2 30 0), .inr (some (11, 0))]) (fun _ => rfl) ?_
                refine ra.s (pc' := 247) (st' := [.inl (((rf_guard_213 20000 a1 a2 a3 a4 a5 (1 : Int32) (A 30 0) (0 : Int32) (xm_u2 (xm_u2 (xm_u2 (xm_u2 (xm_u2 (xm_u2 (xm_u2 (xm_u2 (xm_u2 (xm_u2 (xm_u2 (xm_u2 A 31 (y_ix (A 30 0)) a1) 32 (y_ix (A 30 0)) a2) 33 (y_ix (A 30 0)) a3) 34 (y_ix (A 30 0)) a4) 35 (y_ix (A 30 0)) a5) 36 (y_ix (A 30 0)) (0 : Int32)) 37 (y_ix (A 30 0)) (0 : Int32)) 38 (y_ix (A 30 0)) (0 : Int32)) 39 (y_ix (A 30 0)) (0 : Int32)) 40 (y_ix (A 30 0)) (0 : Int32)) 41 (y_ix (A 30 0)) (0 : Int32)) 42 (y_ix (A 30 0)) (0 : Int32))).2 30 0) + (1 : Int32)), .inr (some (11, 0))]) (fun _ => rfl) ?_
                refine ra.pi (x := 30) (nx := 250) rfl rfl ?_
                refine ra.s (pc' := 252) (st' := [.inl (A 30 0)]) (fun _ => rfl) ?_
                subst hk
                exact ra.ret (r := some (.inl (A 30 0))) (fun _ => rfl) ⟨rfl, rfl, rfl⟩
        · skip
          refine ra.s (pc' := 47) (st' := [.inl (0 : Int32)]) (fun _ => rfl) ?_
          refine ra.s (pc' := 49) (L' := [some (.inr (some (11, 0))), some (.inl a1), some (.inl a2), some (.inl a3), some (.inl a4), some (.inl a5), some (.inl (0 : Int32)), none, none]) (st' := []) (fun _ => rfl) ?_
          refine ra.s (pc' := 50) (st' := [.inr (some (11, 0))]) (fun _ => rfl) ?_
          refine ra.s (pc' := 51) (st' := [.inl a1, .inr (some (11, 0))]) (fun _ => rfl) ?_
          refine ra.s (pc' := 52) (st' := [.inl a2, .inl a1, .inr (some (11, 0))]) (fun _ => rfl) ?_
          refine ra.s (pc' := 53) (st' := [.inl a3, .inl a2, .inl a1, .inr (some (11, 0))]) (fun _ => rfl) ?_
          refine ra.s (pc' := 55) (st' := [.inl a4, .inl a3, .inl a2, .inl a1, .inr (some (11, 0))]) (fun _ => rfl) ?_
          obtain ⟨h43, hg⟩ := hg
          refine ra.cP (f := (rf_isGood a1 a2 a3 a4 A)) (m := 123) (as := [.inr (some (11, 0)), .inl a1, .inl a2, .inl a3, .inl a4]) (nx := 58) (L' := [some (.inr (some (11, 0))), some (.inl a1), some (.inl a2), some (.inl a3), some (.inl a4), some (.inl a5), some (.inl (0 : Int32)), none, none]) (st' := []) (fun _ => rfl) (rh_isGood (by omega) h43) ?_
          refine ra.b (c := (rf_isGood a1 a2 a3 a4 A) = (0 : Int32)) (cd := .eq) (x := (rf_isGood a1 a2 a3 a4 A)) (y := (0 : Int32)) 82 61 (st' := []) (fun _ => rfl) (y_ceq _ _) hk hg (fun h44 hg hk => ?_) (fun h44 hg hk => ?_)
          · skip
            refine ra.s (pc' := 84) (st' := [.inl (-2 : Int32)]) (fun _ => rfl) ?_
            subst hk
            exact ra.ret (r := some (.inl (-2 : Int32))) (fun _ => rfl) ⟨rfl, rfl, rfl⟩
          · skip
            refine ra.s (pc' := 62) (st' := [.inr (some (11, 0))]) (fun _ => rfl) ?_
            refine ra.s (pc' := 64) (st' := [.inl a5, .inr (some (11, 0))]) (fun _ => rfl) ?_
            refine ra.s (pc' := 65) (st' := [.inl (0 : Int32), .inl a5, .inr (some (11, 0))]) (fun _ => rfl) ?_
            refine ra.s (pc' := 67) (st' := [.inl (0 : Int32), .inl (0 : Int32), .inl a5, .inr (some (11, 0))]) (fun _ => rfl) ?_
            refine ra.bt (cd := .eq) (x := (0 : Int32)) (y := (0 : Int32)) 75 70 (st' := [.inl (0 : Int32), .inl a5, .inr (some (11, 0))]) (fun _ => rfl) (y_ceq _ _) (by decide) ?_
            refine ra.s (pc' := 76) (st' := [.inl (0 : Int32), .inl (0 : Int32), .inl a5, .inr (some (11, 0))]) (fun _ => rfl) ?_
            obtain ⟨h45, hg⟩ := hg
            refine ra.cP (f := (rf_in a5 (0 : Int32) (0 : Int32) A)) (m := 124) (as := [.inr (some (11, 0)), .inl a5, .inl (0 : Int32), .inl (0 : Int32)]) (nx := 79) (L' := [some (.inr (some (11, 0))), some (.inl a1), some (.inl a2), some (.inl a3), some (.inl a4), some (.inl a5), some (.inl (0 : Int32)), none, none]) (st' := []) (fun _ => rfl) (rh_in (by omega) h45) ?_
            refine ra.bn (c := (rf_in a5 (0 : Int32) (0 : Int32) A) = (0 : Int32)) (cd := .ne) (x := (rf_in a5 (0 : Int32) (0 : Int32) A)) (y := (0 : Int32)) 85 82 (st' := []) (fun _ => rfl) (y_cne _ _) hk hg (fun h46 hg hk => ?_) (fun h46 hg hk => ?_)
            · skip
              refine ra.s (pc' := 84) (st' := [.inl (-2 : Int32)]) (fun _ => rfl) ?_
              subst hk
              exact ra.ret (r := some (.inl (-2 : Int32))) (fun _ => rfl) ⟨rfl, rfl, rfl⟩
            · skip
              refine ra.s (pc' := 86) (st' := [.inr (some (11, 0))]) (fun _ => rfl) ?_
              refine ra.gi (x := 30) (nx := 89) (v := (A 30 0)) rfl rfl rfl ?_
              refine ra.s (pc' := 91) (st' := [.inl (24 : Int32), .inl (A 30 0)]) (fun _ => rfl) ?_
              refine ra.bn (c := (A 30 0) = (24 : Int32)) (cd := .ne) (x := (A 30 0)) (y := (24 : Int32)) 97 94 (st' := []) (fun _ => rfl) (y_cne _ _) hk hg (fun h47 hg hk => ?_) (fun h47 hg hk => ?_)
              · skip
                refine ra.s (pc' := 96) (st' := [.inl (-3 : Int32)]) (fun _ => rfl) ?_
                subst hk
                exact ra.ret (r := some (.inl (-3 : Int32))) (fun _ => rfl) ⟨rfl, rfl, rfl⟩
              · skip
                refine ra.s (pc' := 98) (st' := [.inr (some (11, 0))]) (fun _ => rfl) ?_
                refine ra.gi (x := 30) (nx := 101) (v := (A 30 0)) rfl rfl rfl ?_
                refine ra.s (pc' := 103) (L' := [some (.inr (some (11, 0))), some (.inl a1), some (.inl a2), some (.inl a3), some (.inl a4), some (.inl a5), some (.inl (0 : Int32)), some (.inl (A 30 0)), none]) (st' := []) (fun _ => rfl) ?_
                refine ra.s (pc' := 104) (st' := [.inr (some (11, 0))]) (fun _ => rfl) ?_
                refine ra.ga (x := 31) (nx := 107) (c := 13) (i := 24) rfl rfl ?_
                refine ra.s (pc' := 109) (st' := [.inl (A 30 0), .inr (some (13, 24))]) (fun _ => rfl) ?_
                refine ra.s (pc' := 110) (st' := [.inl a1, .inl (A 30 0), .inr (some (13, 24))]) (fun _ => rfl) ?_
                obtain ⟨h48, hg⟩ := hg
                refine ra.si (nx := 111) 31 24 rfl rfl h48 ?_
                refine ra.s (pc' := 112) (st' := [.inr (some (11, 0))]) (fun _ => rfl) ?_
                refine ra.ga (x := 32) (nx := 115) (c := 13) (i := 25) rfl rfl ?_
                refine ra.s (pc' := 117) (st' := [.inl (A 30 0), .inr (some (13, 25))]) (fun _ => rfl) ?_
                refine ra.s (pc' := 118) (st' := [.inl a2, .inl (A 30 0), .inr (some (13, 25))]) (fun _ => rfl) ?_
                refine ra.si (nx := 119) 32 24 rfl rfl h48 ?_
                refine ra.s (pc' := 120) (st' := [.inr (some (11, 0))]) (fun _ => rfl) ?_
                refine ra.ga (x := 33) (nx := 123) (c := 13) (i := 26) rfl rfl ?_
                refine ra.s (pc' := 125) (st' := [.inl (A 30 0), .inr (some (13, 26))]) (fun _ => rfl) ?_
                refine ra.s (pc' := 126) (st' := [.inl a3, .inl (A 30 0), .inr (some (13, 26))]) (fun _ => rfl) ?_
                refine ra.si (nx := 127) 33 24 rfl rfl h48 ?_
                refine ra.s (pc' := 128) (st' := [.inr (some (11, 0))]) (fun _ => rfl) ?_
                refine ra.ga (x := 34) (nx := 131) (c := 13) (i := 27) rfl rfl ?_
                refine ra.s (pc' := 133) (st' := [.inl (A 30 0), .inr (some (13, 27))]) (fun _ => rfl) ?_
                refine ra.s (pc' := 135) (st' := [.inl a4, .inl (A 30 0), .inr (some (13, 27))]) (fun _ => rfl) ?_
                refine ra.si (nx := 136) 34 24 rfl rfl h48 ?_
                refine ra.s (pc' := 137) (st' := [.inr (some (11, 0))]) (fun _ => rfl) ?_
                refine ra.ga (x := 35) (nx := 140) (c := 13) (i := 28) rfl rfl ?_
                refine ra.s (pc' := 142) (st' := [.inl (A 30 0), .inr (some (13, 28))]) (fun _ => rfl) ?_
                refine ra.s (pc' := 144) (st' := [.inl a5, .inl (A 30 0), .inr (some (13, 28))]) (fun _ => rfl) ?_
                refine ra.si (nx := 145) 35 24 rfl rfl h48 ?_
                refine ra.s (pc' := 146) (st' := [.inr (some (11, 0))]) (fun _ => rfl) ?_
                refine ra.ga (x := 36) (nx := 149) (c := 13) (i := 29) rfl rfl ?_
                refine ra.s (pc' := 151) (st' := [.inl (A 30 0), .inr (some (13, 29))]) (fun _ => rfl) ?_
                refine ra.s (pc' := 152) (st' := [.inl (0 : Int32), .inl (A 30 0), .inr (some (13, 29))]) (fun _ => rfl) ?_
                refine ra.si (nx := 153) 36 24 rfl rfl h48 ?_
                refine ra.s (pc' := 154) (st' := [.inr (some (11, 0))]) (fun _ => rfl) ?_
                refine ra.ga (x := 37) (nx := 157) (c := 13) (i := 30) rfl rfl ?_
                refine ra.s (pc' := 159) (st' := [.inl (A 30 0), .inr (some (13, 30))]) (fun _ => rfl) ?_
                refine ra.s (pc' := 160) (st' := [.inl (0 : Int32), .inl (A 30 0), .inr (some (13, 30))]) (fun _ => rfl) ?_
                refine ra.si (nx := 161) 37 24 rfl rfl h48 ?_
                refine ra.s (pc' := 162) (st' := [.inr (some (11, 0))]) (fun _ => rfl) ?_
                refine ra.ga (x := 38) (nx := 165) (c := 13) (i := 31) rfl rfl ?_
                refine ra.s (pc' := 167) (st' := [.inl (A 30 0), .inr (some (13, 31))]) (fun _ => rfl) ?_
                refine ra.s (pc' := 168) (st' := [.inl (0 : Int32), .inl (A 30 0), .inr (some (13, 31))]) (fun _ => rfl) ?_
                refine ra.si (nx := 169) 38 24 rfl rfl h48 ?_
                refine ra.s (pc' := 170) (st' := [.inr (some (11, 0))]) (fun _ => rfl) ?_
                refine ra.ga (x := 39) (nx := 173) (c := 13) (i := 32) rfl rfl ?_
                refine ra.s (pc' := 175) (st' := [.inl (A 30 0), .inr (some (13, 32))]) (fun _ => rfl) ?_
                refine ra.s (pc' := 176) (st' := [.inl (0 : Int32), .inl (A 30 0), .inr (some (13, 32))]) (fun _ => rfl) ?_
                refine ra.si (nx := 177) 39 24 rfl rfl h48 ?_
                refine ra.s (pc' := 178) (st' := [.inr (some (11, 0))]) (fun _ => rfl) ?_
                refine ra.ga (x := 40) (nx := 181) (c := 13) (i := 33) rfl rfl ?_
                refine ra.s (pc' := 183) (st' := [.inl (A 30 0), .inr (some (13, 33))]) (fun _ => rfl) ?_
                refine ra.s (pc' := 184) (st' := [.inl (0 : Int32), .inl (A 30 0), .inr (some (13, 33))]) (fun _ => rfl) ?_
                refine ra.si (nx := 185) 40 24 rfl rfl h48 ?_
                refine ra.s (pc' := 186) (st' := [.inr (some (11, 0))]) (fun _ => rfl) ?_
                refine ra.ga (x := 41) (nx := 189) (c := 13) (i := 34) rfl rfl ?_
                refine ra.s (pc' := 191) (st' := [.inl (A 30 0), .inr (some (13, 34))]) (fun _ => rfl) ?_
                refine ra.s (pc' := 192) (st' := [.inl (0 : Int32), .inl (A 30 0), .inr (some (13, 34))]) (fun _ => rfl) ?_
                refine ra.si (nx := 193) 41 24 rfl rfl h48 ?_
                refine ra.s (pc' := 194) (st' := [.inr (some (11, 0))]) (fun _ => rfl) ?_
                refine ra.ga (x := 42) (nx := 197) (c := 13) (i := 35) rfl rfl ?_
                refine ra.s (pc' := 199) (st' := [.inl (A 30 0), .inr (some (13, 35))]) (fun _ => rfl) ?_
                refine ra.s (pc' := 200) (st' := [.inl a1, .inl (A 30 0), .inr (some (13, 35))]) (fun _ => rfl) ?_
                refine ra.s (pc' := 201) (st' := [.inl (2 : Int32), .inl a1, .inl (A 30 0), .inr (some (13, 35))]) (fun _ => rfl) ?_
                refine ra.bn (c := a1 = (2 : Int32)) (cd := .ne) (x := a1) (y := (2 : Int32)) 208 204 (st' := [.inl (A 30 0), .inr (some (13, 35))]) (fun _ => rfl) (y_cne _ _) hk hg (fun h49 hg hk => ?_) (fun h49 hg hk => ?_)
                · skip
                  refine ra.s (pc' := 205) (st' := [.inl a2, .inl (A 30 0), .inr (some (13, 35))]) (fun _ => rfl) ?_
                  refine ra.s (pc' := 209) (st' := [.inl a2, .inl (A 30 0), .inr (some (13, 35))]) (fun _ => rfl) ?_
                  refine ra.si (nx := 210) 42 24 rfl rfl h48 ?_
                  refine ra.s (pc' := 211) (st' := [.inl (0 : Int32)]) (fun _ => rfl) ?_
                  refine ra.s (pc' := 213) (L' := [some (.inr (some (11, 0))), some (.inl a1), some (.inl a2), some (.inl a3), some (.inl a4), some (.inl a5), some (.inl (0 : Int32)), some (.inl (A 30 0)), some (.inl (0 : Int32))]) (st' := []) (fun _ => rfl) ?_
                  obtain ⟨h50, hg⟩ := hg
                  refine rh_guard_213 (by omega) 20000 a1 a2 a3 a4 a5 (0 : Int32) (A 30 0) (0 : Int32) (xm_u2 (xm_u2 (xm_u2 (xm_u2 (xm_u2 (xm_u2 (xm_u2 (xm_u2 (xm_u2 (xm_u2 (xm_u2 (xm_u2 A 31 (y_ix (A 30 0)) a1) 32 (y_ix (A 30 0)) a2) 33 (y_ix (A 30 0)) a3) 34 (y_ix (A 30 0)) a4) 35 (y_ix (A 30 0)) a5) 36 (y_ix (A 30 0)) (0 : Int32)) 37 (y_ix (A 30 0)) (0 : Int32)) 38 (y_ix (A 30 0)) (0 : Int32)) 39 (y_ix (A 30 0)) (0 : Int32)) 40 (y_ix (A 30 0)) (0 : Int32)) 41 (y_ix (A 30 0)) (0 : Int32)) 42 (y_ix (A 30 0)) a2) js h50 rfl ?_
                  refine ra.s (pc' := 241) (st' := [.inr (some (11, 0))]) (fun _ => rfl) ?_
                  refine ra.s (pc' := 242) (st' := [.inr (some (11, 0)), .inr (some (11, 0))]) (fun _ => rfl) ?_
                  refine ra.gi (x := 30) (nx := 245) (v := ((rf_guard_213 20000 a1 a2 a3 a4 a5 (0 : Int32) (A 30 0) (0 : Int32) (xm_u2 (xm_u2 (xm_u2 (xm_u2 (xm_u2 (xm_u2 (xm_u2 (xm_u2 (xm_u2 (xm_u2 (xm_u2 (xm_u2 A 31 (y_ix (A 30 0)) a1) 32 (y_ix (A 30 0)) a2) 33 (y_ix (A 30 0)) a3) 34 (y_ix (A 30 0)) a4) 35 (y_ix (A 30 0)) a5) 36 (y_ix (A 30 0)) (0 : Int32)) 37 (y_ix (A 30 0)) (0 : Int32)) 38 (y_ix (A 30 0)) (0 : Int32)) 39 (y_ix (A 30 0)) (0 : Int32)) 40 (y_ix (A 30 0)) (0 : Int32)) 41 (y_ix (A 30 0)) (0 : Int32)) 42 (y_ix (A 30 0)) a2)).2 30 0)) rfl rfl rfl ?_
                  refine ra.s (pc' := 246) (st' := [.inl (1 : Int32), .inl ((rf_guard_213 20000 a1 a2 a3 a4 a5 (0 : Int32) (A 30 0) (0 : Int32) (xm_u2 (xm_u2 (xm_u2 (xm_u2 (xm_u2 (xm_u2 (xm_u2 (xm_u2 (xm_u2 (xm_u2 (xm_u2 (xm_u2 A 31 (y_ix (A 30 0)) a1) 32 (y_ix (A 30 0)) a2) 33 (y_ix (A 30 0)) a3) 34 (y_ix (A 30 0)) a4) 35 (y_ix (A 30 0)) a5) 36 (y_ix (A 30 0)) (0 : Int32)) 37 (y_ix (A 30 0)) (0 : Int32)) 38 (y_ix (A 30 0)) (0 : Int32)) 39 (y_ix (A 30 0)) (0 : Int32)) 40 (y_ix (A 30 0)) (0 : Int32)) 41 (y_ix (A 30 0)) (0 : Int32)) 42 (y_ix (A 30 0)) a2)).2 30 0), .inr (some (11, 0))]) (fun _ => rfl) ?_
                  refine ra.s (pc' := 247) (st' := [.inl (((rf_guard_213 20000 a1 a2 a3 a4 a5 (0 : Int32) (A 30 0) (0 : Int32) (xm_u2 (xm_u2 (xm_u2 (xm_u2 (xm_u2 (xm_u2 (xm_u2 (xm_u2 (xm_u2 (xm_u2 (xm_u2 (xm_u2 A 31 (y_ix (A 30 0)) a1) 32 (y_ix (A 30 0)) a2) 33 (y_ix (A 30 0)) a3) 34 (y_ix (A 30 0)) a4) 35 (y_ix (A 30 0)) a5) 36 (y_ix (A 30 0)) (0 : Int32)) 37 (y_ix (A 30 0)) (0 : Int32)) 38 (y_ix (A 30 0)) (0 : Int32)) 39 (y_ix (A 30 0)) (0 : Int32)) 40 (y_ix (A 30 0)) (0 : Int32)) 41 (y_ix (A 30 0)) (0 : Int32)) 42 (y_ix (A 30 0)) a2)).2 30 0) + (1 : Int32)), .inr (some (11, 0))]) (fun _ => rfl) ?_
                  refine ra.pi (x := 30) (nx := 250) rfl rfl ?_
                  refine ra.s (pc' := 252) (st' := [.inl (A 30 0)]) (fun _ => rfl) ?_
                  subst hk
                  exact ra.ret (r := some (.inl (A 30 0))) (fun _ => rfl) ⟨rfl, rfl, rfl⟩
                · skip
                  refine ra.s (pc' := 209) (st' := [.inl (0 : Int32), .inl (A 30 0), .inr (some (13, 35))]) (fun _ => rfl) ?_
                  refine ra.si (nx := 210) 42 24 rfl rfl h48 ?_
                  refine ra.s (pc' := 211) (st' := [.inl (0 : Int32)]) (fun _ => rfl) ?_
                  refine ra.s (pc' := 213) (L' := [some (.inr (some (11, 0))), some (.inl a1), some (.inl a2), some (.inl a3), some (.inl a4), some (.inl a5), some (.inl (0 : Int32)), some (.inl (A 30 0)), some (.inl (0 : Int32))]) (st' := []) (fun _ => rfl) ?_
                  obtain ⟨h51, hg⟩ := hg
                  refine rh_guard_213 (by omega) 20000 a1 a2 a3 a4 a5 (0 : Int32) (A 30 0) (0 : Int32) (xm_u2 (xm_u2 (xm_u2 (xm_u2 (xm_u2 (xm_u2 (xm_u2 (xm_u2 (xm_u2 (xm_u2 (xm_u2 (xm_u2 A 31 (y_ix (A 30 0)) a1) 32 (y_ix (A 30 0)) a2) 33 (y_ix (A 30 0)) a3) 34 (y_ix (A 30 0)) a4) 35 (y_ix (A 30 0)) a5) 36 (y_ix (A 30 0)) (0 : Int32)) 37 (y_ix (A 30 0)) (0 : Int32)) 38 (y_ix (A 30 0)) (0 : Int32)) 39 (y_ix (A 30 0)) (0 : Int32)) 40 (y_ix (A 30 0)) (0 : Int32)) 41 (y_ix (A 30 0)) (0 : Int32)) 42 (y_ix (A 30 0)) (0 : Int32)) js h51 rfl ?_
                  refine ra.s (pc' := 241) (st' := [.inr (some (11, 0))]) (fun _ => rfl) ?_
                  refine ra.s (pc' := 242) (st' := [.inr (some (11, 0)), .inr (some (11, 0))]) (fun _ => rfl) ?_
                  refine ra.gi (x := 30) (nx := 245) (v := ((rf_guard_213 20000 a1 a2 a3 a4 a5 (0 : Int32) (A 30 0) (0 : Int32) (xm_u2 (xm_u2 (xm_u2 (xm_u2 (xm_u2 (xm_u2 (xm_u2 (xm_u2 (xm_u2 (xm_u2 (xm_u2 (xm_u2 A 31 (y_ix (A 30 0)) a1) 32 (y_ix (A 30 0)) a2) 33 (y_ix (A 30 0)) a3) 34 (y_ix (A 30 0)) a4) 35 (y_ix (A 30 0)) a5) 36 (y_ix (A 30 0)) (0 : Int32)) 37 (y_ix (A 30 0)) (0 : Int32)) 38 (y_ix (A 30 0)) (0 : Int32)) 39 (y_ix (A 30 0)) (0 : Int32)) 40 (y_ix (A 30 0)) (0 : Int32)) 41 (y_ix (A 30 0)) (0 : Int32)) 42 (y_ix (A 30 0)) (0 : Int32))).2 30 0)) rfl rfl rfl ?_
                  refine ra.s (pc' := 246) (st' := [.inl (1 : Int32), .inl ((rf_guard_213 20000 a1 a2 a3 a4 a5 (0 : Int32) (A 30 0) (0 : Int32) (xm_u2 (xm_u2 (xm_u2 (xm_u2 (xm_u2 (xm_u2 (xm_u2 (xm_u2 (xm_u2 (xm_u2 (xm_u2 (xm_u2 A 31 (y_ix (A 30 0)) a1) 32 (y_ix (A 30 0)) a2) 33 (y_ix (A 30 0)) a3) 34 (y_ix (A 30 0)) a4) 35 (y_ix (A 30 0)) a5) 36 (y_ix (A 30 0)) (0 : Int32)) 37 (y_ix (A 30 0)) (0 : Int32)) 38 (y_ix (A 30 0)) (0 : Int32)) 39 (y_ix (A 30 0)) (0 : Int32)) 40 (y_ix (A 30 0)) (0 : Int32)) 41 (y_ix (A 30 0)) (0 : Int32)) 42 (y_ix (A 30 0)) (0 : Int32))).2 30 0), .inr (some (11, 0))]) (fun _ => rfl) ?_
                  refine ra.s (pc' := 247) (st' := [.inl (((rf_guard_213 20000 a1 a2 a3 a4 a5 (0 : Int32) (A 30 0) (0 : Int32) (xm_u2 (xm_u2 (xm_u2 (xm_u2 (xm_u2 (xm_u2 (xm_u2 (xm_u2 (xm_u2 (xm_u2 (xm_u2 (xm_u2 A 31 (y_ix (A 30 0)) a1) 32 (y_ix (A 30 0)) a2) 33 (y_ix (A 30 0)) a3) 34 (y_ix (A 30 0)) a4) 35 (y_ix (A 30 0)) a5) 36 (y_ix (A 30 0)) (0 : Int32)) 37 (y_ix (A 30 0)) (0 : Int32)) 38 (y_ix (A 30 0)) (0 : Int32)) 39 (y_ix (A 30 0)) (0 : Int32)) 40 (y_ix (A 30 0)) (0 : Int32)) 41 (y_ix (A 30 0)) (0 : Int32)) 42 (y_ix (A 30 0)) (0 : Int32))).2 30 0) + (1 : Int32)), .inr (some (11, 0))]) (fun _ => rfl) ?_
                  refine ra.pi (x := 30) (nx := 250) rfl rfl ?_
                  refine ra.s (pc' := 252) (st' := [.inl (A 30 0)]) (fun _ => rfl) ?_
                  subst hk
                  exact ra.ret (r := some (.inl (A 30 0))) (fun _ => rfl) ⟨rfl, rfl, rfl⟩
def rf_on_16 : Nat → Int32 → Int32 → y_A → Int32 × y_A
  | 0, _, _, A => (0, A)
  | n + 1, l1, l2, A => (if (A 48 (y_ix (10 : Int32))) ≤ l2 then (if (A 48 (y_ix (10 : Int32))) = (5 : Int32) then ((-3 : Int32), A) else (((A 48 (y_ix (10 : Int32))) + (1 : Int32)), (xm_u2 (xm_u2 A 49 (y_ix ((50 : Int32) + (A 48 (y_ix (10 : Int32))))) l1) 48 (y_ix (10 : Int32)) ((A 48 (y_ix (10 : Int32))) + (1 : Int32))))) else (if (A 31 (y_ix (A 49 (y_ix ((50 : Int32) + l2))))) = (A 31 (y_ix l1)) then ((-2 : Int32), A) else (rf_on_16 n l1 (l2 + (1 : Int32)) A)))
def rg_on_16 : Nat → Int32 → Int32 → y_A → Prop
  | 0, _, _, _ => False
  | n + 1, l1, l2, A => (((A 48 (y_ix (10 : Int32))) ≤ l2 → (((A 48 (y_ix (10 : Int32))) = (5 : Int32) → True) ∧ (¬ (A 48 (y_ix (10 : Int32))) = (5 : Int32) → (y_in ((50 : Int32) + (A 48 (y_ix (10 : Int32)))) 55) ∧ True))) ∧ (¬ (A 48 (y_ix (10 : Int32))) ≤ l2 → (y_in ((50 : Int32) + l2) 55) ∧ (y_in (A 49 (y_ix ((50 : Int32) + l2))) 24) ∧ (y_in l1 24) ∧ (((A 31 (y_ix (A 49 (y_ix ((50 : Int32) + l2))))) = (A 31 (y_ix l1)) → True) ∧ (¬ (A 31 (y_ix (A 49 (y_ix ((50 : Int32) + l2))))) = (A 31 (y_ix l1)) → (rg_on_16 n l1 (l2 + (1 : Int32)) A)))))
theorem rh_on_16 {d : Nat} (hd : 0 ≤ d) {F : Int32 × y_A} (n : Nat) : ∀ (l1 l2 : Int32) (A : y_A) (js : List y_J), rg_on_16 n l1 l2 A → rf_on_16 n l1 l2 A = F → ra d 125 16 [some (.inr (some (11, 0))), some (.inl l1), some (.inl l2)] [] A js (y_I (F.1, F.2, js)) := by
  induction n with
  | zero => intro l1 l2 A js hg; exact hg.elim
  | succ n ih =>
    intro l1 l2 A js hg hk
    unfold rg_on_16 at hg
    unfold rf_on_16 at hk
    refine ra.s (pc' := 17) (st' := [.inl l2]) (fun _ => rfl) ?_
    refine ra.s (pc' := 18) (st' := [.inr (some (11, 0)), .inl l2]) (fun _ => rfl) ?_
    refine ra.ga (x := 48) (nx := 21) (c := 13) (i := 39) rfl rfl ?_
    refine ra.s (pc' := 23) (st' := [.inl (10 : Int32), .inr (some (13, 39)), .inl l2]) (fun _ => rfl) ?_
    refine ra.ld (nx := 24) (v := (A 48 (y_ix (10 : Int32)))) 48 11 rfl rfl ⟨by decide, by decide⟩ rfl ?_
    refine ra.b (c := (A 48 (y_ix (10 : Int32))) ≤ l2) (cd := .ge) (x := l2) (y := (A 48 (y_ix (10 : Int32)))) 59 27 (st' := []) (fun _ => rfl) (y_cge _ _) hk hg (fun h1 hg hk => ?_) (fun h1 hg hk => ?_)
    · skip
      refine ra.s (pc' := 60) (st' := [.inr (some (11, 0))]) (fun _ => rfl) ?_
      refine ra.ga (x := 48) (nx := 63) (c := 13) (i := 39) rfl rfl ?_
      refine ra.s (pc' := 65) (st' := [.inl (10 : Int32), .inr (some (13, 39))]) (fun _ => rfl) ?_
      refine ra.ld (nx := 66) (v := (A 48 (y_ix (10 : Int32)))) 48 11 rfl rfl ⟨by decide, by decide⟩ rfl ?_
      refine ra.s (pc' := 67) (st' := [.inl (5 : Int32), .inl (A 48 (y_ix (10 : Int32)))]) (fun _ => rfl) ?_
      refine ra.bn (c := (A 48 (y_ix (10 : Int32))) = (5 : Int32)) (cd := .ne) (x := (A 48 (y_ix (10 : Int32)))) (y := (5 : Int32)) 73 70 (st' := []) (fun _ => rfl) (y_cne _ _) hk hg (fun h2 hg hk => ?_) (fun h2 hg hk => ?_)
      · skip
        refine ra.s (pc' := 72) (st' := [.inl (-3 : Int32)]) (fun _ => rfl) ?_
        subst hk
        exact ra.ret (r := some (.inl (-3 : Int32))) (fun _ => rfl) ⟨rfl, rfl, rfl⟩
      · skip
        refine ra.s (pc' := 74) (st' := [.inr (some (11, 0))]) (fun _ => rfl) ?_
        refine ra.ga (x := 49) (nx := 77) (c := 13) (i := 40) rfl rfl ?_
        refine ra.s (pc' := 79) (st' := [.inl (50 : Int32), .inr (some (13, 40))]) (fun _ => rfl) ?_
        refine ra.s (pc' := 80) (st' := [.inr (some (11, 0)), .inl (50 : Int32), .inr (some (13, 40))]) (fun _ => rfl) ?_
        refine ra.ga (x := 48) (nx := 83) (c := 13) (i := 39) rfl rfl ?_
        refine ra.s (pc' := 85) (st' := [.inl (10 : Int32), .inr (some (13, 39)), .inl (50 : Int32), .inr (some (13, 40))]) (fun _ => rfl) ?_
        refine ra.ld (nx := 86) (v := (A 48 (y_ix (10 : Int32)))) 48 11 rfl rfl ⟨by decide, by decide⟩ rfl ?_
        refine ra.s (pc' := 87) (st' := [.inl ((50 : Int32) + (A 48 (y_ix (10 : Int32)))), .inr (some (13, 40))]) (fun _ => rfl) ?_
        refine ra.s (pc' := 88) (st' := [.inl l1, .inl ((50 : Int32) + (A 48 (y_ix (10 : Int32)))), .inr (some (13, 40))]) (fun _ => rfl) ?_
        obtain ⟨h3, hg⟩ := hg
        refine ra.si (nx := 89) 49 55 rfl rfl h3 ?_
        refine ra.s (pc' := 90) (st' := [.inr (some (11, 0))]) (fun _ => rfl) ?_
        refine ra.ga (x := 48) (nx := 93) (c := 13) (i := 39) rfl rfl ?_
        refine ra.s (pc' := 95) (st' := [.inl (10 : Int32), .inr (some (13, 39))]) (fun _ => rfl) ?_
        refine ra.s (pc' := 96) (st' := [.inl (10 : Int32), .inr (some (13, 39)), .inl (10 : Int32), .inr (some (13, 39))]) (fun _ => rfl) ?_
        refine ra.ld (nx := 97) (v := (A 48 (y_ix (10 : Int32)))) 48 11 rfl rfl ⟨by decide, by decide⟩ rfl ?_
        refine ra.s (pc' := 98) (st' := [.inl (1 : Int32), .inl (A 48 (y_ix (10 : Int32))), .inl (10 : Int32), .inr (some (13, 39))]) (fun _ => rfl) ?_
        refine ra.s (pc' := 99) (st' := [.inl ((A 48 (y_ix (10 : Int32))) + (1 : Int32)), .inl (10 : Int32), .inr (some (13, 39))]) (fun _ => rfl) ?_
        refine ra.si (nx := 100) 48 11 rfl rfl ⟨by decide, by decide⟩ ?_
        refine ra.s (pc' := 101) (st' := [.inr (some (11, 0))]) (fun _ => rfl) ?_
        refine ra.ga (x := 48) (nx := 104) (c := 13) (i := 39) rfl rfl ?_
        refine ra.s (pc' := 106) (st' := [.inl (10 : Int32), .inr (some (13, 39))]) (fun _ => rfl) ?_
        refine ra.ld (nx := 107) (v := ((A 48 (y_ix (10 : Int32))) + (1 : Int32))) 48 11 rfl rfl ⟨by decide, by decide⟩ (y_same _ _ _ _) ?_
        subst hk
        exact ra.ret (r := some (.inl ((A 48 (y_ix (10 : Int32))) + (1 : Int32)))) (fun _ => rfl) ⟨rfl, rfl, rfl⟩
    · skip
      refine ra.s (pc' := 28) (st' := [.inr (some (11, 0))]) (fun _ => rfl) ?_
      refine ra.ga (x := 31) (nx := 31) (c := 13) (i := 24) rfl rfl ?_
      refine ra.s (pc' := 32) (st' := [.inr (some (11, 0)), .inr (some (13, 24))]) (fun _ => rfl) ?_
      refine ra.ga (x := 49) (nx := 35) (c := 13) (i := 40) rfl rfl ?_
      refine ra.s (pc' := 37) (st' := [.inl (50 : Int32), .inr (some (13, 40)), .inr (some (13, 24))]) (fun _ => rfl) ?_
      refine ra.s (pc' := 38) (st' := [.inl l2, .inl (50 : Int32), .inr (some (13, 40)), .inr (some (13, 24))]) (fun _ => rfl) ?_
      refine ra.s (pc' := 39) (st' := [.inl ((50 : Int32) + l2), .inr (some (13, 40)), .inr (some (13, 24))]) (fun _ => rfl) ?_
      obtain ⟨h4, hg⟩ := hg
      refine ra.ld (nx := 40) (v := (A 49 (y_ix ((50 : Int32) + l2)))) 49 55 rfl rfl h4 rfl ?_
      obtain ⟨h5, hg⟩ := hg
      refine ra.ld (nx := 41) (v := (A 31 (y_ix (A 49 (y_ix ((50 : Int32) + l2)))))) 31 24 rfl rfl h5 rfl ?_
      refine ra.s (pc' := 42) (st' := [.inr (some (11, 0)), .inl (A 31 (y_ix (A 49 (y_ix ((50 : Int32) + l2)))))]) (fun _ => rfl) ?_
      refine ra.ga (x := 31) (nx := 45) (c := 13) (i := 24) rfl rfl ?_
      refine ra.s (pc' := 46) (st' := [.inl l1, .inr (some (13, 24)), .inl (A 31 (y_ix (A 49 (y_ix ((50 : Int32) + l2)))))]) (fun _ => rfl) ?_
      obtain ⟨h6, hg⟩ := hg
      refine ra.ld (nx := 47) (v := (A 31 (y_ix l1))) 31 24 rfl rfl h6 rfl ?_
      refine ra.bn (c := (A 31 (y_ix (A 49 (y_ix ((50 : Int32) + l2))))) = (A 31 (y_ix l1))) (cd := .ne) (x := (A 31 (y_ix (A 49 (y_ix ((50 : Int32) + l2)))))) (y := (A 31 (y_ix l1))) 53 50 (st' := []) (fun _ => rfl) (y_cne _ _) hk hg (fun h7 hg hk => ?_) (fun h7 hg hk => ?_)
      · skip
        refine ra.s (pc' := 52) (st' := [.inl (-2 : Int32)]) (fun _ => rfl) ?_
        subst hk
        exact ra.ret (r := some (.inl (-2 : Int32))) (fun _ => rfl) ⟨rfl, rfl, rfl⟩
      · skip
        refine ra.s (pc' := 56) (L' := [some (.inr (some (11, 0))), some (.inl l1), some (.inl (l2 + (1 : Int32)))]) (st' := []) (fun _ => rfl) ?_
        refine ra.s (pc' := 16) (st' := []) (fun _ => rfl) ?_
        exact ih l1 (l2 + (1 : Int32)) A js hg hk
/-- on -/
def rf_on (a1 : Int32) (A : y_A) : Int32 × y_A := (if a1 < (0 : Int32) then ((-1 : Int32), A) else (if a1 < (A 30 0) then (rf_on_16 20000 a1 (0 : Int32) A) else ((-1 : Int32), A)))
def rg_on (a1 : Int32) (A : y_A) : Prop := ((a1 < (0 : Int32) → True) ∧ (¬ a1 < (0 : Int32) → ((a1 < (A 30 0) → (rg_on_16 20000 a1 (0 : Int32) A)) ∧ (¬ a1 < (A 30 0) → True))))
theorem rh_on {d : Nat} (hd : 0 ≤ d) {a1 : Int32} {A : y_A} {js : List y_J} (hg : rg_on a1 A) : rc d 125 [.inr (some (11, 0)), .inl a1] A js (y_I ((rf_on a1 A).1, (rf_on a1 A).2, js)) := by
  obtain ⟨F, hk⟩ : ∃ F, rf_on a1 A = F := ⟨_, rfl⟩
  rw [hk]
  show ra _ _ _ [some (.inr (some (11, 0))), some (.inl a1), none] _ _ _ _
  unfold rg_on at hg
  unfold rf_on at hk
  refine ra.s (pc' := 1) (st' := [.inl a1]) (fun _ => rfl) ?_
  refine ra.b (c := a1 < (0 : Int32)) (cd := .lt) (x := a1) (y := (0 : Int32)) 12 4 (st' := []) (fun _ => rfl) (y_clt _ _) hk hg (fun h1 hg hk => ?_) (fun h1 hg hk => ?_)
  · skip
    refine ra.s (pc' := 13) (st' := [.inl (-1 : Int32)]) (fun _ => rfl) ?_
    subst hk
    exact ra.ret (r := some (.inl (-1 : Int32))) (fun _ => rfl) ⟨rfl, rfl, rfl⟩
  · skip
    refine ra.s (pc' := 5) (st' := [.inl a1]) (fun _ => rfl) ?_
    refine ra.s (pc' := 6) (st' := [.inr (some (11, 0)), .inl a1]) (fun _ => rfl) ?_
    refine ra.gi (x := 30) (nx := 9) (v := (A 30 0)) rfl rfl rfl ?_
    refine ra.b (c := a1 < (A 30 0)) (cd := .lt) (x := a1) (y := (A 30 0)) 14 12 (st' := []) (fun _ => rfl) (y_clt _ _) hk hg (fun h2 hg hk => ?_) (fun h2 hg hk => ?_)
    · skip
      refine ra.s (pc' := 15) (st' := [.inl (0 : Int32)]) (fun _ => rfl) ?_
      refine ra.s (pc' := 16) (L' := [some (.inr (some (11, 0))), some (.inl a1), some (.inl (0 : Int32))]) (st' := []) (fun _ => rfl) ?_
      exact rh_on_16 (by omega) 20000 a1 (0 : Int32) A js hg hk
    · skip
      refine ra.s (pc' := 13) (st' := [.inl (-1 : Int32)]) (fun _ => rfl) ?_
      subst hk
      exact ra.ret (r := some (.inl (-1 : Int32))) (fun _ => rfl) ⟨rfl, rfl, rfl⟩
def rf_tower_30 : Nat → Int32 → y_A → Int32 × y_A
  | 0, _, A => (0, A)
  | n + 1, l1, A => (if (A 48 (y_ix (10 : Int32))) ≤ l1 then (l1, A) else (rf_tower_30 n (l1 + (1 : Int32)) (xm_u2 A 49 (y_ix (((5 : Int32) * (A 47 0)) + l1)) (A 49 (y_ix ((50 : Int32) + l1))))))
def rg_tower_30 : Nat → Int32 → y_A → Prop
  | 0, _, _ => False
  | n + 1, l1, A => (((A 48 (y_ix (10 : Int32))) ≤ l1 → True) ∧ (¬ (A 48 (y_ix (10 : Int32))) ≤ l1 → (y_in ((50 : Int32) + l1) 55) ∧ (y_in (((5 : Int32) * (A 47 0)) + l1) 55) ∧ (rg_tower_30 n (l1 + (1 : Int32)) (xm_u2 A 49 (y_ix (((5 : Int32) * (A 47 0)) + l1)) (A 49 (y_ix ((50 : Int32) + l1)))))))
theorem rh_tower_30 {d : Nat} (hd : 0 ≤ d) {Q : Option xm_V → y_A → List y_J → Prop} {F : Int32 × y_A} (n : Nat) : ∀ (l1 : Int32) (A : y_A) (js : List y_J), rg_tower_30 n l1 A → rf_tower_30 n l1 A = F → (ra d 126 69 [some (.inr (some (11, 0))), some (.inl F.1)] [] F.2 js Q) → ra d 126 30 [some (.inr (some (11, 0))), some (.inl l1)] [] A js Q := by
  induction n with
  | zero => intro l1 A js hg; exact hg.elim
  | succ n ih =>
    intro l1 A js hg hk hE
    unfold rg_tower_30 at hg
    unfold rf_tower_30 at hk
    refine ra.s (pc' := 31) (st' := [.inl l1]) (fun _ => rfl) ?_
    refine ra.s (pc' := 32) (st' := [.inr (some (11, 0)), .inl l1]) (fun _ => rfl) ?_
    refine ra.ga (x := 48) (nx := 35) (c := 13) (i := 39) rfl rfl ?_
    refine ra.s (pc' := 37) (st' := [.inl (10 : Int32), .inr (some (13, 39)), .inl l1]) (fun _ => rfl) ?_
    refine ra.ld (nx := 38) (v := (A 48 (y_ix (10 : Int32)))) 48 11 rfl rfl ⟨by decide, by decide⟩ rfl ?_
    refine ra.b (c := (A 48 (y_ix (10 : Int32))) ≤ l1) (cd := .ge) (x := l1) (y := (A 48 (y_ix (10 : Int32)))) 69 41 (st' := []) (fun _ => rfl) (y_cge _ _) hk hg (fun h1 hg hk => ?_) (fun h1 hg hk => ?_)
    · skip
      subst hk
      exact hE
    · skip
      refine ra.s (pc' := 42) (st' := [.inr (some (11, 0))]) (fun _ => rfl) ?_
      refine ra.ga (x := 49) (nx := 45) (c := 13) (i := 40) rfl rfl ?_
      refine ra.s (pc' := 46) (st' := [.inl (5 : Int32), .inr (some (13, 40))]) (fun _ => rfl) ?_
      refine ra.s (pc' := 47) (st' := [.inr (some (11, 0)), .inl (5 : Int32), .inr (some (13, 40))]) (fun _ => rfl) ?_
      refine ra.gi (x := 47) (nx := 50) (v := (A 47 0)) rfl rfl rfl ?_
      refine ra.s (pc' := 51) (st' := [.inl ((5 : Int32) * (A 47 0)), .inr (some (13, 40))]) (fun _ => rfl) ?_
      refine ra.s (pc' := 52) (st' := [.inl l1, .inl ((5 : Int32) * (A 47 0)), .inr (some (13, 40))]) (fun _ => rfl) ?_
      refine ra.s (pc' := 53) (st' := [.inl (((5 : Int32) * (A 47 0)) + l1), .inr (some (13, 40))]) (fun _ => rfl) ?_
      refine ra.s (pc' := 54) (st' := [.inr (some (11, 0)), .inl (((5 : Int32) * (A 47 0)) + l1), .inr (some (13, 40))]) (fun _ => rfl) ?_
      refine ra.ga (x := 49) (nx := 57) (c := 13) (i := 40) rfl rfl ?_
      refine ra.s (pc' := 59) (st' := [.inl (50 : Int32), .inr (some (13, 40)), .inl (((5 : Int32) * (A 47 0)) + l1), .inr (some (13, 40))]) (fun _ => rfl) ?_
      refine ra.s (pc' := 60) (st' := [.inl l1, .inl (50 : Int32), .inr (some (13, 40)), .inl (((5 : Int32) * (A 47 0)) + l1), .inr (some (13, 40))]) (fun _ => rfl) ?_
      refine ra.s (pc' := 61) (st' := [.inl ((50 : Int32) + l1), .inr (some (13, 40)), .inl (((5 : Int32) * (A 47 0)) + l1), .inr (some (13, 40))]) (fun _ => rfl) ?_
      obtain ⟨h2, hg⟩ := hg
      refine ra.ld (nx := 62) (v := (A 49 (y_ix ((50 : Int32) + l1)))) 49 55 rfl rfl h2 rfl ?_
      obtain ⟨h3, hg⟩ := hg
      refine ra.si (nx := 63) 49 55 rfl rfl h3 ?_
      refine ra.s (pc' := 66) (L' := [some (.inr (some (11, 0))), some (.inl (l1 + (1 : Int32)))]) (st' := []) (fun _ => rfl) ?_
      refine ra.s (pc' := 30) (st' := []) (fun _ => rfl) ?_
      exact ih (l1 + (1 : Int32)) (xm_u2 A 49 (y_ix (((5 : Int32) * (A 47 0)) + l1)) (A 49 (y_ix ((50 : Int32) + l1)))) js hg hk hE
/-- tower -/
def rf_tower (A : y_A) : Int32 × y_A := (if (A 47 0) = (10 : Int32) then ((-3 : Int32), A) else (((((rf_tower_30 20000 (0 : Int32) (xm_u2 A 48 (y_ix (A 47 0)) (A 48 (y_ix (10 : Int32))))).2 47 0) + (1 : Int32)) - (1 : Int32)), (xm_u2 (xm_u2 (rf_tower_30 20000 (0 : Int32) (xm_u2 A 48 (y_ix (A 47 0)) (A 48 (y_ix (10 : Int32))))).2 48 (y_ix (10 : Int32)) (0 : Int32)) 47 0 (((rf_tower_30 20000 (0 : Int32) (xm_u2 A 48 (y_ix (A 47 0)) (A 48 (y_ix (10 : Int32))))).2 47 0) + (1 : Int32)))))
def rg_tower (A : y_A) : Prop := (((A 47 0) = (10 : Int32) → True) ∧ (¬ (A 47 0) = (10 : Int32) → (y_in (A 47 0) 11) ∧ (rg_tower_30 20000 (0 : Int32) (xm_u2 A 48 (y_ix (A 47 0)) (A 48 (y_ix (10 : Int32))))) ∧ True))
theorem rh_tower {d : Nat} (hd : 0 ≤ d) {A : y_A} {js : List y_J} (hg : rg_tower A) : rc d 126 [.inr (some (11, 0))] A js (y_I ((rf_tower A).1, (rf_tower A).2, js)) := by
  obtain ⟨F, hk⟩ : ∃ F, rf_tower A = F := ⟨_, rfl⟩
  rw [hk]
  show ra _ _ _ [some (.inr (some (11, 0))), none] _ _ _ _
  unfold rg_tower at hg
  unfold rf_tower at hk
  refine ra.s (pc' := 1) (st' := [.inr (some (11, 0))]) (fun _ => rfl) ?_
  refine ra.gi (x := 47) (nx := 4) (v := (A 47 0)) rfl rfl rfl ?_
  refine ra.s (pc' := 6) (st' := [.inl (10 : Int32), .inl (A 47 0)]) (fun _ => rfl) ?_
  refine ra.bn (c := (A 47 0) = (10 : Int32)) (cd := .ne) (x := (A 47 0)) (y := (10 : Int32)) 12 9 (st' := []) (fun _ => rfl) (y_cne _ _) hk hg (fun h1 hg hk => ?_) (fun h1 hg hk => ?_)
  · skip
    refine ra.s (pc' := 11) (st' := [.inl (-3 : Int32)]) (fun _ => rfl) ?_
    subst hk
    exact ra.ret (r := some (.inl (-3 : Int32))) (fun _ => rfl) ⟨rfl, rfl, rfl⟩
  · skip
    refine ra.s (pc' := 13) (st' := [.inr (some (11, 0))]) (fun _ => rfl) ?_
    refine ra.ga (x := 48) (nx := 16) (c := 13) (i := 39) rfl rfl ?_
    refine ra.s (pc' := 17) (st' := [.inr (some (11, 0)), .inr (some (13, 39))]) (fun _ => rfl) ?_
    refine ra.gi (x := 47) (nx := 20) (v := (A 47 0)) rfl rfl rfl ?_
    refine ra.s (pc' := 21) (st' := [.inr (some (11, 0)), .inl (A 47 0), .inr (some (13, 39))]) (fun _ => rfl) ?_
    refine ra.ga (x := 48) (nx := 24) (c := 13) (i := 39) rfl rfl ?_
    refine ra.s (pc' := 26) (st' := [.inl (10 : Int32), .inr (some (13, 39)), .inl (A 47 0), .inr (some (13, 39))]) (fun _ => rfl) ?_
    refine ra.ld (nx := 27) (v := (A 48 (y_ix (10 : Int32)))) 48 11 rfl rfl ⟨by decide, by decide⟩ rfl ?_
    obtain ⟨h2, hg⟩ := hg
    refine ra.si (nx := 28) 48 11 rfl rfl h2 ?_
    refine ra.s (pc' := 29) (st' := [.inl (0 : Int32)]) (fun _ => rfl) ?_
    refine ra.s (pc' := 30) (L' := [some (.inr (some (11, 0))), some (.inl (0 : Int32))]) (st' := []) (fun _ => rfl) ?_
    obtain ⟨h3, hg⟩ := hg
    refine rh_tower_30 (by omega) 20000 (0 : Int32) (xm_u2 A 48 (y_ix (A 47 0)) (A 48 (y_ix (10 : Int32)))) js h3 rfl ?_
    refine ra.s (pc' := 70) (st' := [.inr (some (11, 0))]) (fun _ => rfl) ?_
    refine ra.ga (x := 48) (nx := 73) (c := 13) (i := 39) rfl rfl ?_
    refine ra.s (pc' := 75) (st' := [.inl (10 : Int32), .inr (some (13, 39))]) (fun _ => rfl) ?_
    refine ra.s (pc' := 76) (st' := [.inl (0 : Int32), .inl (10 : Int32), .inr (some (13, 39))]) (fun _ => rfl) ?_
    refine ra.si (nx := 77) 48 11 rfl rfl ⟨by decide, by decide⟩ ?_
    refine ra.s (pc' := 78) (st' := [.inr (some (11, 0))]) (fun _ => rfl) ?_
    refine ra.s (pc' := 79) (st' := [.inr (some (11, 0)), .inr (some (11, 0))]) (fun _ => rfl) ?_
    refine ra.gi (x := 47) (nx := 82) (v := ((rf_tower_30 20000 (0 : Int32) (xm_u2 A 48 (y_ix (A 47 0)) (A 48 (y_ix (10 : Int32))))).2 47 0)) rfl rfl rfl ?_
    refine ra.s (pc' := 83) (st' := [.inl (1 : Int32), .inl ((rf_tower_30 20000 (0 : Int32) (xm_u2 A 48 (y_ix (A 47 0)) (A 48 (y_ix (10 : Int32))))).2 47 0), .inr (some (11, 0))]) (fun _ => rfl) ?_
    refine ra.s (pc' := 84) (st' := [.inl (((rf_tower_30 20000 (0 : Int32) (xm_u2 A 48 (y_ix (A 47 0)) (A 48 (y_ix (10 : Int32))))).2 47 0) + (1 : Int32)), .inr (some (11, 0))]) (fun _ => rfl) ?_
    refine ra.pi (x := 47) (nx := 87) rfl rfl ?_
    refine ra.s (pc' := 88) (st' := [.inr (some (11, 0))]) (fun _ => rfl) ?_
    refine ra.gi (x := 47) (nx := 91) (v := (((rf_tower_30 20000 (0 : Int32) (xm_u2 A 48 (y_ix (A 47 0)) (A 48 (y_ix (10 : Int32))))).2 47 0) + (1 : Int32))) rfl rfl rfl ?_
    refine ra.s (pc' := 92) (st' := [.inl (1 : Int32), .inl (((rf_tower_30 20000 (0 : Int32) (xm_u2 A 48 (y_ix (A 47 0)) (A 48 (y_ix (10 : Int32))))).2 47 0) + (1 : Int32))]) (fun _ => rfl) ?_
    refine ra.s (pc' := 93) (st' := [.inl ((((rf_tower_30 20000 (0 : Int32) (xm_u2 A 48 (y_ix (A 47 0)) (A 48 (y_ix (10 : Int32))))).2 47 0) + (1 : Int32)) - (1 : Int32))]) (fun _ => rfl) ?_
    subst hk
    exact ra.ret (r := some (.inl ((((rf_tower_30 20000 (0 : Int32) (xm_u2 A 48 (y_ix (A 47 0)) (A 48 (y_ix (10 : Int32))))).2 47 0) + (1 : Int32)) - (1 : Int32)))) (fun _ => rfl) ⟨rfl, rfl, rfl⟩
/-- goesIn -/
def rf_goesIn (a1 : Int32) (A : y_A) (js : List y_J) : y_A × List y_J := (A, (((0 : Int32), (A 62 (y_ix a1)), ((A 63 (y_ix a1)) + (1 : Int32)), a1, (-1 : Int32)) :: js))
def rg_goesIn (a1 : Int32) (A : y_A) (js : List y_J) : Prop := (y_in a1 4400) ∧ (js.length < 20000) ∧ True
theorem rh_goesIn {d : Nat} (hd : 1 ≤ d) {a1 : Int32} {A : y_A} {js : List y_J} (hg : rg_goesIn a1 A js) : rc d 136 [.inr (some (11, 0)), .inl a1] A js (y_V (rf_goesIn a1 A js)) := by
  obtain ⟨d, rfl⟩ := Nat.exists_eq_add_of_le' hd
  obtain ⟨F, hk⟩ : ∃ F, rf_goesIn a1 A js = F := ⟨_, rfl⟩
  rw [hk]
  show ra _ _ _ [some (.inr (some (11, 0))), some (.inl a1)] _ _ _ _
  unfold rg_goesIn at hg
  unfold rf_goesIn at hk
  refine ra.s (pc' := 1) (st' := [.inr (some (11, 0))]) (fun _ => rfl) ?_
  refine ra.s (pc' := 2) (st' := [.inl (0 : Int32), .inr (some (11, 0))]) (fun _ => rfl) ?_
  refine ra.s (pc' := 3) (st' := [.inr (some (11, 0)), .inl (0 : Int32), .inr (some (11, 0))]) (fun _ => rfl) ?_
  refine ra.ga (x := 62) (nx := 6) (c := 13) (i := 50) rfl rfl ?_
  refine ra.s (pc' := 7) (st' := [.inl a1, .inr (some (13, 50)), .inl (0 : Int32), .inr (some (11, 0))]) (fun _ => rfl) ?_
  obtain ⟨h1, hg⟩ := hg
  refine ra.ld (nx := 8) (v := (A 62 (y_ix a1))) 62 4400 rfl rfl h1 rfl ?_
  refine ra.s (pc' := 9) (st' := [.inr (some (11, 0)), .inl (A 62 (y_ix a1)), .inl (0 : Int32), .inr (some (11, 0))]) (fun _ => rfl) ?_
  refine ra.ga (x := 63) (nx := 12) (c := 13) (i := 51) rfl rfl ?_
  refine ra.s (pc' := 13) (st' := [.inl a1, .inr (some (13, 51)), .inl (A 62 (y_ix a1)), .inl (0 : Int32), .inr (some (11, 0))]) (fun _ => rfl) ?_
  refine ra.ld (nx := 14) (v := (A 63 (y_ix a1))) 63 4400 rfl rfl h1 rfl ?_
  refine ra.s (pc' := 15) (st' := [.inl (1 : Int32), .inl (A 63 (y_ix a1)), .inl (A 62 (y_ix a1)), .inl (0 : Int32), .inr (some (11, 0))]) (fun _ => rfl) ?_
  refine ra.s (pc' := 16) (st' := [.inl ((A 63 (y_ix a1)) + (1 : Int32)), .inl (A 62 (y_ix a1)), .inl (0 : Int32), .inr (some (11, 0))]) (fun _ => rfl) ?_
  refine ra.s (pc' := 17) (st' := [.inl a1, .inl ((A 63 (y_ix a1)) + (1 : Int32)), .inl (A 62 (y_ix a1)), .inl (0 : Int32), .inr (some (11, 0))]) (fun _ => rfl) ?_
  refine ra.s (pc' := 18) (st' := [.inl (-1 : Int32), .inl a1, .inl ((A 63 (y_ix a1)) + (1 : Int32)), .inl (A 62 (y_ix a1)), .inl (0 : Int32), .inr (some (11, 0))]) (fun _ => rfl) ?_
  obtain ⟨h2, hg⟩ := hg
  refine ra.cV (m := 131) (as := [.inr (some (11, 0)), .inl (0 : Int32), .inl (A 62 (y_ix a1)), .inl ((A 63 (y_ix a1)) + (1 : Int32)), .inl a1, .inl (-1 : Int32)]) (nx := 21) (L' := [some (.inr (some (11, 0))), some (.inl a1)]) (st' := []) (fun _ => rfl) (rh_add h2) ?_
  show ra _ _ _ _ _ A (((0 : Int32), (A 62 (y_ix a1)), ((A 63 (y_ix a1)) + (1 : Int32)), a1, (-1 : Int32)) :: js) _
  subst hk
  exact ra.ret (r := none) (fun _ => rfl) ⟨rfl, rfl, rfl⟩
/-- setToWork -/
def rf_setToWork (a1 a2 : Int32) (A : y_A) (js : List y_J) : y_A × List y_J := ((xm_u2 (xm_u2 A 77 (y_ix a1) (1 : Int32)) 39 (y_ix a2) ((A 39 (y_ix a2)) + (1 : Int32))), (((0 : Int32), (A 62 (y_ix a1)), ((A 63 (y_ix a1)) + (1 : Int32)), a1, (-1 : Int32)) :: js))
def rg_setToWork (a1 a2 : Int32) (A : y_A) (js : List y_J) : Prop := (y_in a1 4400) ∧ (y_in a2 24) ∧ (rg_goesIn a1 (xm_u2 (xm_u2 A 77 (y_ix a1) (1 : Int32)) 39 (y_ix a2) ((A 39 (y_ix a2)) + (1 : Int32))) js) ∧ True
theorem rh_setToWork {d : Nat} (hd : 2 ≤ d) {a1 a2 : Int32} {A : y_A} {js : List y_J} (hg : rg_setToWork a1 a2 A js) : rc d 137 [.inr (some (11, 0)), .inl a1, .inl a2] A js (y_V (rf_setToWork a1 a2 A js)) := by
  obtain ⟨d, rfl⟩ := Nat.exists_eq_add_of_le' hd
  obtain ⟨F, hk⟩ : ∃ F, rf_setToWork a1 a2 A js = F := ⟨_, rfl⟩
  rw [hk]
  show ra _ _ _ [some (.inr (some (11, 0))), some (.inl a1), some (.inl a2)] _ _ _ _
  unfold rg_setToWork at hg
  unfold rf_setToWork at hk
  refine ra.s (pc' := 1) (st' := [.inr (some (11, 0))]) (fun _ => rfl) ?_
  refine ra.ga (x := 77) (nx := 4) (c := 14) (i := 4) rfl rfl ?_
  refine ra.s (pc' := 5) (st' := [.inl a1, .inr (some (14, 4))]) (fun _ => rfl) ?_
  refine ra.s (pc' := 6) (st' := [.inl (1 : Int32), .inl a1, .inr (some (14, 4))]) (fun _ => rfl) ?_
  obtain ⟨h1, hg⟩ := hg
  refine ra.sz (nx := 7) 77 4400 rfl rfl h1 (Or.inr rfl) ?_
  refine ra.s (pc' := 8) (st' := [.inr (some (11, 0))]) (fun _ => rfl) ?_
  refine ra.ga (x := 39) (nx := 11) (c := 13) (i := 32) rfl rfl ?_
  refine ra.s (pc' := 12) (st' := [.inl a2, .inr (some (13, 32))]) (fun _ => rfl) ?_
  refine ra.s (pc' := 13) (st' := [.inl a2, .inr (some (13, 32)), .inl a2, .inr (some (13, 32))]) (fun _ => rfl) ?_
  obtain ⟨h2, hg⟩ := hg
  refine ra.ld (nx := 14) (v := (A 39 (y_ix a2))) 39 24 rfl rfl h2 rfl ?_
  refine ra.s (pc' := 15) (st' := [.inl (1 : Int32), .inl (A 39 (y_ix a2)), .inl a2, .inr (some (13, 32))]) (fun _ => rfl) ?_
  refine ra.s (pc' := 16) (st' := [.inl ((A 39 (y_ix a2)) + (1 : Int32)), .inl a2, .inr (some (13, 32))]) (fun _ => rfl) ?_
  refine ra.si (nx := 17) 39 24 rfl rfl h2 ?_
  refine ra.s (pc' := 18) (st' := [.inr (some (11, 0))]) (fun _ => rfl) ?_
  refine ra.s (pc' := 19) (st' := [.inl a1, .inr (some (11, 0))]) (fun _ => rfl) ?_
  obtain ⟨h3, hg⟩ := hg
  refine ra.cV (F := (rf_goesIn a1 (xm_u2 (xm_u2 A 77 (y_ix a1) (1 : Int32)) 39 (y_ix a2) ((A 39 (y_ix a2)) + (1 : Int32))) js)) (m := 136) (as := [.inr (some (11, 0)), .inl a1]) (nx := 22) (L' := [some (.inr (some (11, 0))), some (.inl a1), some (.inl a2)]) (st' := []) (fun _ => rfl) (rh_goesIn (by omega) h3) ?_
  show ra _ _ _ _ [] (xm_u2 (xm_u2 A 77 (y_ix a1) (1 : Int32)) 39 (y_ix a2) ((A 39 (y_ix a2)) + (1 : Int32))) (((0 : Int32), (A 62 (y_ix a1)), ((A 63 (y_ix a1)) + (1 : Int32)), a1, (-1 : Int32)) :: js) _
  subst hk
  exact ra.ret (r := none) (fun _ => rfl) ⟨rfl, rfl, rfl⟩
def rf_entered_429 : Nat → Int32 → Int32 → Int32 → Int32 → y_A → Int32 × y_A
  | 0, _, _, _, _, A => (0, A)
  | n + 1, l1, l2, l3, l4, A => (if l4 < (0 : Int32) then (l4, A) else (if l4 = l1 then (rf_entered_429 n l1 l2 l3 (l4 + (-1 : Int32)) A) else (if (A 69 (y_ix l4)) = (0 : Int32) then (if (A 65 (y_ix l4)) = l2 then (if (A 78 (y_ix l4)) = (0 : Int32) then (rf_entered_429 n l1 l2 l3 (l4 + (-1 : Int32)) A) else (if (rf_isAlike (A 62 (y_ix l4)) l3 A) = (0 : Int32) then (rf_entered_429 n l1 l2 l3 (l4 + (-1 : Int32)) A) else (rf_entered_429 n l1 l2 l3 (l4 + (-1 : Int32)) (xm_u2 A 74 (y_ix l1) l4)))) else (rf_entered_429 n l1 l2 l3 (l4 + (-1 : Int32)) A)) else (rf_entered_429 n l1 l2 l3 (l4 + (-1 : Int32)) A))))
def rg_entered_429 : Nat → Int32 → Int32 → Int32 → Int32 → y_A → Prop
  | 0, _, _, _, _, _ => False
  | n + 1, l1, l2, l3, l4, A => ((l4 < (0 : Int32) → True) ∧ (¬ l4 < (0 : Int32) → ((l4 = l1 → (rg_entered_429 n l1 l2 l3 (l4 + (-1 : Int32)) A)) ∧ (¬ l4 = l1 → (y_in l4 4400) ∧ (((A 69 (y_ix l4)) = (0 : Int32) → (((A 65 (y_ix l4)) = l2 → (((A 78 (y_ix l4)) = (0 : Int32) → (rg_entered_429 n l1 l2 l3 (l4 + (-1 : Int32)) A)) ∧ (¬ (A 78 (y_ix l4)) = (0 : Int32) → (rg_isAlike (A 62 (y_ix l4)) l3 A) ∧ (((rf_isAlike (A 62 (y_ix l4)) l3 A) = (0 : Int32) → (rg_entered_429 n l1 l2 l3 (l4 + (-1 : Int32)) A)) ∧ (¬ (rf_isAlike (A 62 (y_ix l4)) l3 A) = (0 : Int32) → (y_in l1 4400) ∧ (rg_entered_429 n l1 l2 l3 (l4 + (-1 : Int32)) (xm_u2 A 74 (y_ix l1) l4))))))) ∧ (¬ (A 65 (y_ix l4)) = l2 → (rg_entered_429 n l1 l2 l3 (l4 + (-1 : Int32)) A)))) ∧ (¬ (A 69 (y_ix l4)) = (0 : Int32) → (rg_entered_429 n l1 l2 l3 (l4 + (-1 : Int32)) A)))))))
theorem rh_entered_429 {d : Nat} (hd : 3 ≤ d) {Q : Option xm_V → y_A → List y_J → Prop} {F : Int32 × y_A} (n : Nat) : ∀ (l1 l2 l3 l4 : Int32) (A : y_A) (js : List y_J), rg_entered_429 n l1 l2 l3 l4 A → rf_entered_429 n l1 l2 l3 l4 A = F → (ra d 135 500 [some (.inr (some (11, 0))), some (.inl l1), some (.inl l2), some (.inl l3), some (.inl F.1)] [] F.2 js Q) → ra d 135 429 [some (.inr (some (11, 0))), some (.inl l1), some (.inl l2), some (.inl l3), some (.inl l4)] [] A js Q := by
  obtain ⟨d, rfl⟩ := Nat.exists_eq_add_of_le' hd
  induction n with
  | zero => intro l1 l2 l3 l4 A js hg; exact hg.elim
  | succ n ih =>
    intro l1 l2 l3 l4 A js hg hk hE
    unfold rg_entered_429 at hg
    unfold rf_entered_429 at hk
    refine ra.s (pc' := 431) (st' := [.inl l4]) (fun _ => rfl) ?_
    refine ra.b (c := l4 < (0 : Int32)) (cd := .lt) (x := l4) (y := (0 : Int32)) 500 434 (st' := []) (fun _ => rfl) (y_clt _ _) hk hg (fun h1 hg hk => ?_) (fun h1 hg hk => ?_)
    · skip
      subst hk
      exact hE
    · skip
      refine ra.s (pc' := 436) (st' := [.inl l4]) (fun _ => rfl) ?_
      refine ra.s (pc' := 437) (st' := [.inl l1, .inl l4]) (fun _ => rfl) ?_
      refine ra.b (c := l4 = l1) (cd := .eq) (x := l4) (y := l1) 494 440 (st' := []) (fun _ => rfl) (y_ceq _ _) hk hg (fun h2 hg hk => ?_) (fun h2 hg hk => ?_)
      · skip
        refine ra.s (pc' := 497) (L' := [some (.inr (some (11, 0))), some (.inl l1), some (.inl l2), some (.inl l3), some (.inl (l4 + (-1 : Int32)))]) (st' := []) (fun _ => rfl) ?_
        refine ra.s (pc' := 429) (st' := []) (fun _ => rfl) ?_
        exact ih l1 l2 l3 (l4 + (-1 : Int32)) A js hg hk hE
      · skip
        refine ra.s (pc' := 441) (st' := [.inr (some (11, 0))]) (fun _ => rfl) ?_
        refine ra.ga (x := 69) (nx := 444) (c := 13) (i := 57) rfl rfl ?_
        refine ra.s (pc' := 446) (st' := [.inl l4, .inr (some (13, 57))]) (fun _ => rfl) ?_
        obtain ⟨h3, hg⟩ := hg
        refine ra.ld (nx := 447) (v := (A 69 (y_ix l4))) 69 4400 rfl rfl h3 rfl ?_
        refine ra.bn (c := (A 69 (y_ix l4)) = (0 : Int32)) (cd := .ne) (x := (A 69 (y_ix l4))) (y := (0 : Int32)) 494 450 (st' := []) (fun _ => rfl) (y_cne _ _) hk hg (fun h4 hg hk => ?_) (fun h4 hg hk => ?_)
        · skip
          refine ra.s (pc' := 451) (st' := [.inr (some (11, 0))]) (fun _ => rfl) ?_
          refine ra.ga (x := 65) (nx := 454) (c := 13) (i := 53) rfl rfl ?_
          refine ra.s (pc' := 456) (st' := [.inl l4, .inr (some (13, 53))]) (fun _ => rfl) ?_
          refine ra.ld (nx := 457) (v := (A 65 (y_ix l4))) 65 4400 rfl rfl h3 rfl ?_
          refine ra.s (pc' := 458) (st' := [.inl l2, .inl (A 65 (y_ix l4))]) (fun _ => rfl) ?_
          refine ra.bn (c := (A 65 (y_ix l4)) = l2) (cd := .ne) (x := (A 65 (y_ix l4))) (y := l2) 494 461 (st' := []) (fun _ => rfl) (y_cne _ _) hk hg (fun h5 hg hk => ?_) (fun h5 hg hk => ?_)
          · skip
            refine ra.s (pc' := 462) (st' := [.inr (some (11, 0))]) (fun _ => rfl) ?_
            refine ra.ga (x := 78) (nx := 465) (c := 14) (i := 5) rfl rfl ?_
            refine ra.s (pc' := 467) (st' := [.inl l4, .inr (some (14, 5))]) (fun _ => rfl) ?_
            refine ra.lz (nx := 468) (v := (A 78 (y_ix l4))) 78 4400 rfl rfl h3 rfl ?_
            refine ra.b (c := (A 78 (y_ix l4)) = (0 : Int32)) (cd := .eq) (x := (A 78 (y_ix l4))) (y := (0 : Int32)) 494 471 (st' := []) (fun _ => rfl) (y_ceq _ _) hk hg (fun h6 hg hk => ?_) (fun h6 hg hk => ?_)
            · skip
              refine ra.s (pc' := 497) (L' := [some (.inr (some (11, 0))), some (.inl l1), some (.inl l2), some (.inl l3), some (.inl (l4 + (-1 : Int32)))]) (st' := []) (fun _ => rfl) ?_
              refine ra.s (pc' := 429) (st' := []) (fun _ => rfl) ?_
              exact ih l1 l2 l3 (l4 + (-1 : Int32)) A js hg hk hE
            · skip
              refine ra.s (pc' := 472) (st' := [.inr (some (11, 0))]) (fun _ => rfl) ?_
              refine ra.s (pc' := 473) (st' := [.inr (some (11, 0)), .inr (some (11, 0))]) (fun _ => rfl) ?_
              refine ra.ga (x := 62) (nx := 476) (c := 13) (i := 50) rfl rfl ?_
              refine ra.s (pc' := 478) (st' := [.inl l4, .inr (some (13, 50)), .inr (some (11, 0))]) (fun _ => rfl) ?_
              refine ra.ld (nx := 479) (v := (A 62 (y_ix l4))) 62 4400 rfl rfl h3 rfl ?_
              refine ra.s (pc' := 480) (st' := [.inl l3, .inl (A 62 (y_ix l4)), .inr (some (11, 0))]) (fun _ => rfl) ?_
              obtain ⟨h7, hg⟩ := hg
              refine ra.cP (f := (rf_isAlike (A 62 (y_ix l4)) l3 A)) (m := 138) (as := [.inr (some (11, 0)), .inl (A 62 (y_ix l4)), .inl l3]) (nx := 483) (L' := [some (.inr (some (11, 0))), some (.inl l1), some (.inl l2), some (.inl l3), some (.inl l4)]) (st' := []) (fun _ => rfl) (rh_isAlike (by omega) h7) ?_
              refine ra.b (c := (rf_isAlike (A 62 (y_ix l4)) l3 A) = (0 : Int32)) (cd := .eq) (x := (rf_isAlike (A 62 (y_ix l4)) l3 A)) (y := (0 : Int32)) 494 486 (st' := []) (fun _ => rfl) (y_ceq _ _) hk hg (fun h8 hg hk => ?_) (fun h8 hg hk => ?_)
              · skip
                refine ra.s (pc' := 497) (L' := [some (.inr (some (11, 0))), some (.inl l1), some (.inl l2), some (.inl l3), some (.inl (l4 + (-1 : Int32)))]) (st' := []) (fun _ => rfl) ?_
                refine ra.s (pc' := 429) (st' := []) (fun _ => rfl) ?_
                exact ih l1 l2 l3 (l4 + (-1 : Int32)) A js hg hk hE
              · skip
                refine ra.s (pc' := 487) (st' := [.inr (some (11, 0))]) (fun _ => rfl) ?_
                refine ra.ga (x := 74) (nx := 490) (c := 13) (i := 61) rfl rfl ?_
                refine ra.s (pc' := 491) (st' := [.inl l1, .inr (some (13, 61))]) (fun _ => rfl) ?_
                refine ra.s (pc' := 493) (st' := [.inl l4, .inl l1, .inr (some (13, 61))]) (fun _ => rfl) ?_
                obtain ⟨h9, hg⟩ := hg
                refine ra.si (nx := 494) 74 4400 rfl rfl h9 ?_
                refine ra.s (pc' := 497) (L' := [some (.inr (some (11, 0))), some (.inl l1), some (.inl l2), some (.inl l3), some (.inl (l4 + (-1 : Int32)))]) (st' := []) (fun _ => rfl) ?_
                refine ra.s (pc' := 429) (st' := []) (fun _ => rfl) ?_
                exact ih l1 l2 l3 (l4 + (-1 : Int32)) (xm_u2 A 74 (y_ix l1) l4) js hg hk hE
          · skip
            refine ra.s (pc' := 497) (L' := [some (.inr (some (11, 0))), some (.inl l1), some (.inl l2), some (.inl l3), some (.inl (l4 + (-1 : Int32)))]) (st' := []) (fun _ => rfl) ?_
            refine ra.s (pc' := 429) (st' := []) (fun _ => rfl) ?_
            exact ih l1 l2 l3 (l4 + (-1 : Int32)) A js hg hk hE
        · skip
          refine ra.s (pc' := 497) (L' := [some (.inr (some (11, 0))), some (.inl l1), some (.inl l2), some (.inl l3), some (.inl (l4 + (-1 : Int32)))]) (st' := []) (fun _ => rfl) ?_
          refine ra.s (pc' := 429) (st' := []) (fun _ => rfl) ?_
          exact ih l1 l2 l3 (l4 + (-1 : Int32)) A js hg hk hE
/-- entered -/
def rf_entered (a1 a2 : Int32) (A : y_A) (js : List y_J) : y_A × List y_J := (if (A 31 (y_ix a2)) = (0 : Int32) then (if (A 36 (y_ix a2)) = (2 : Int32) then (A, (((2 : Int32), a1, (9 : Int32), (0 : Int32), (0 : Int32)) :: js)) else (if (A 36 (y_ix a2)) = (1 : Int32) then (if (A 38 (y_ix a2)) ≤ (A 0 0) then ((xm_u2 (xm_u2 A 79 (y_ix a1) (1 : Int32)) 36 (y_ix a2) (2 : Int32)), (((0 : Int32), (A 62 (y_ix a1)), ((A 63 (y_ix a1)) + (1 : Int32)), a1, (-1 : Int32)) :: js)) else (A, (((2 : Int32), a1, (9 : Int32), (0 : Int32), (0 : Int32)) :: js))) else ((xm_u2 A 79 (y_ix a1) (0 : Int32)), (((0 : Int32), (A 62 (y_ix a1)), ((A 63 (y_ix a1)) + (1 : Int32)), a1, (-1 : Int32)) :: js)))) else (if (A 31 (y_ix a2)) = (1 : Int32) then (if (A 32 (y_ix a2)) ≤ (A 39 (y_ix a2)) then (if (A 33 (y_ix a2)) ≤ (A 40 (y_ix a2)) then ((xm_u2 A 41 (y_ix a2) ((A 41 (y_ix a2)) + (1 : Int32))), (((2 : Int32), a1, (10 : Int32), (0 : Int32), (0 : Int32)) :: js)) else ((xm_u2 (xm_u2 (xm_u2 A 75 (y_ix a1) (1 : Int32)) 43 (y_ix (((10 : Int32) * a2) + (A 40 (y_ix a2)))) a1) 40 (y_ix a2) ((A 40 (y_ix a2)) + (1 : Int32))), js)) else (if (A 40 (y_ix a2)) = (0 : Int32) then ((xm_u2 (xm_u2 A 77 (y_ix a1) (1 : Int32)) 39 (y_ix a2) ((A 39 (y_ix a2)) + (1 : Int32))), (((0 : Int32), (A 62 (y_ix a1)), ((A 63 (y_ix a1)) + (1 : Int32)), a1, (-1 : Int32)) :: js)) else (if (A 33 (y_ix a2)) ≤ (A 40 (y_ix a2)) then ((xm_u2 A 41 (y_ix a2) ((A 41 (y_ix a2)) + (1 : Int32))), (((2 : Int32), a1, (10 : Int32), (0 : Int32), (0 : Int32)) :: js)) else ((xm_u2 (xm_u2 (xm_u2 A 75 (y_ix a1) (1 : Int32)) 43 (y_ix (((10 : Int32) * a2) + (A 40 (y_ix a2)))) a1) 40 (y_ix a2) ((A 40 (y_ix a2)) + (1 : Int32))), js)))) else (if (A 31 (y_ix a2)) = (2 : Int32) then (if (A 42 (y_ix a2)) = (0 : Int32) then (A, (((2 : Int32), a1, (11 : Int32), (0 : Int32), (0 : Int32)) :: js)) else ((xm_u2 A 42 (y_ix a2) ((A 42 (y_ix a2)) - (1 : Int32))), (((0 : Int32), (A 62 (y_ix a1)), ((A 63 (y_ix a1)) + (1 : Int32)), a1, (-1 : Int32)) :: js))) else (if (A 31 (y_ix a2)) = (3 : Int32) then ((xm_u2 A 72 (y_ix a1) ((A 0 0) + (A 32 (y_ix a2)))), (((0 : Int32), (A 62 (y_ix a1)), ((A 63 (y_ix a1)) + (1 : Int32)), a1, (-1 : Int32)) :: js)) else (if (A 31 (y_ix a2)) = (4 : Int32) then (A, (((0 : Int32), (A 62 (y_ix a1)), ((A 63 (y_ix a1)) + (1 : Int32)), a1, (-1 : Int32)) :: js)) else (if (A 31 (y_ix a2)) = (5 : Int32) then ((xm_u2 A 72 (y_ix a1) ((A 0 0) + (A 32 (y_ix a2)))), (((0 : Int32), (A 62 (y_ix a1)), ((A 63 (y_ix a1)) + (1 : Int32)), a1, (-1 : Int32)) :: js)) else (if (A 31 (y_ix a2)) = (6 : Int32) then (A, (((0 : Int32), (A 62 (y_ix a1)), ((A 63 (y_ix a1)) + (1 : Int32)), a1, (-1 : Int32)) :: js)) else (if (A 31 (y_ix a2)) = (7 : Int32) then (if (A 53 (y_ix (A 62 (y_ix a1)))) = (0 : Int32) then (if (A 45 (y_ix (((8 : Int32) * a2) + (A 52 (y_ix (A 62 (y_ix a1))))))) < (0 : Int32) then (A, (((0 : Int32), (A 62 (y_ix a1)), ((A 63 (y_ix a1)) + (1 : Int32)), a1, (-1 : Int32)) :: js)) else (if (A 32 (y_ix a2)) < ((A 0 0) - (A 45 (y_ix (((8 : Int32) * a2) + (A 52 (y_ix (A 62 (y_ix a1)))))))) then (A, (((0 : Int32), (A 62 (y_ix a1)), ((A 63 (y_ix a1)) + (1 : Int32)), a1, (-1 : Int32)) :: js)) else (if (A 46 (y_ix (((8 : Int32) * a2) + (A 52 (y_ix (A 62 (y_ix a1))))))) = (0 : Int32) then (A, (((1 : Int32), a1, (1 : Int32), (A 44 (y_ix (((8 : Int32) * a2) + (A 52 (y_ix (A 62 (y_ix a1))))))), (0 : Int32)) :: js)) else (A, (((1 : Int32), a1, (1 : Int32), (A 44 (y_ix (((8 : Int32) * a2) + (A 52 (y_ix (A 62 (y_ix a1))))))), (1 : Int32)) :: js))))) else (A, (((0 : Int32), (A 62 (y_ix a1)), ((A 63 (y_ix a1)) + (1 : Int32)), a1, (-1 : Int32)) :: js))) else (if (A 31 (y_ix a2)) = (8 : Int32) then (if ((rf_entered_429 20000 a1 a2 (A 62 (y_ix a1)) ((A 61 0) - (1 : Int32)) A).2 74 (y_ix a1)) < (0 : Int32) then ((xm_u2 (rf_entered_429 20000 a1 a2 (A 62 (y_ix a1)) ((A 61 0) - (1 : Int32)) A).2 78 (y_ix a1) (1 : Int32)), (((0 : Int32), ((rf_entered_429 20000 a1 a2 (A 62 (y_ix a1)) ((A 61 0) - (1 : Int32)) A).2 62 (y_ix a1)), (((rf_entered_429 20000 a1 a2 (A 62 (y_ix a1)) ((A 61 0) - (1 : Int32)) A).2 63 (y_ix a1)) + (1 : Int32)), a1, (-1 : Int32)) :: js)) else ((rf_entered_429 20000 a1 a2 (A 62 (y_ix a1)) ((A 61 0) - (1 : Int32)) A).2, js)) else (A, (((0 : Int32), (A 62 (y_ix a1)), ((A 63 (y_ix a1)) + (1 : Int32)), a1, (-1 : Int32)) :: js)))))))))))
def rg_entered (a1 a2 : Int32) (A : y_A) (js : List y_J) : Prop := (y_in a1 4400) ∧ (y_in a2 24) ∧ (((A 31 (y_ix a2)) = (0 : Int32) → (((A 36 (y_ix a2)) = (2 : Int32) → (js.length < 20000) ∧ True) ∧ (¬ (A 36 (y_ix a2)) = (2 : Int32) → (((A 36 (y_ix a2)) = (1 : Int32) → (((A 38 (y_ix a2)) ≤ (A 0 0) → (rg_goesIn a1 (xm_u2 (xm_u2 A 79 (y_ix a1) (1 : Int32)) 36 (y_ix a2) (2 : Int32)) js) ∧ True) ∧ (¬ (A 38 (y_ix a2)) ≤ (A 0 0) → (js.length < 20000) ∧ True))) ∧ (¬ (A 36 (y_ix a2)) = (1 : Int32) → (rg_goesIn a1 (xm_u2 A 79 (y_ix a1) (0 : Int32)) js) ∧ True))))) ∧ (¬ (A 31 (y_ix a2)) = (0 : Int32) → (((A 31 (y_ix a2)) = (1 : Int32) → (((A 32 (y_ix a2)) ≤ (A 39 (y_ix a2)) → (((A 33 (y_ix a2)) ≤ (A 40 (y_ix a2)) → (js.length < 20000) ∧ True) ∧ (¬ (A 33 (y_ix a2)) ≤ (A 40 (y_ix a2)) → (y_in (((10 : Int32) * a2) + (A 40 (y_ix a2))) 240) ∧ True))) ∧ (¬ (A 32 (y_ix a2)) ≤ (A 39 (y_ix a2)) → (((A 40 (y_ix a2)) = (0 : Int32) → (rg_setToWork a1 a2 A js) ∧ True) ∧ (¬ (A 40 (y_ix a2)) = (0 : Int32) → (((A 33 (y_ix a2)) ≤ (A 40 (y_ix a2)) → (js.length < 20000) ∧ True) ∧ (¬ (A 33 (y_ix a2)) ≤ (A 40 (y_ix a2)) → (y_in (((10 : Int32) * a2) + (A 40 (y_ix a2))) 240) ∧ True))))))) ∧ (¬ (A 31 (y_ix a2)) = (1 : Int32) → (((A 31 (y_ix a2)) = (2 : Int32) → (((A 42 (y_ix a2)) = (0 : Int32) → (js.length < 20000) ∧ True) ∧ (¬ (A 42 (y_ix a2)) = (0 : Int32) → (rg_goesIn a1 (xm_u2 A 42 (y_ix a2) ((A 42 (y_ix a2)) - (1 : Int32))) js) ∧ True))) ∧ (¬ (A 31 (y_ix a2)) = (2 : Int32) → (((A 31 (y_ix a2)) = (3 : Int32) → (rg_goesIn a1 (xm_u2 A 72 (y_ix a1) ((A 0 0) + (A 32 (y_ix a2)))) js) ∧ True) ∧ (¬ (A 31 (y_ix a2)) = (3 : Int32) → (((A 31 (y_ix a2)) = (4 : Int32) → (rg_goesIn a1 A js) ∧ True) ∧ (¬ (A 31 (y_ix a2)) = (4 : Int32) → (((A 31 (y_ix a2)) = (5 : Int32) → (rg_goesIn a1 (xm_u2 A 72 (y_ix a1) ((A 0 0) + (A 32 (y_ix a2)))) js) ∧ True) ∧ (¬ (A 31 (y_ix a2)) = (5 : Int32) → (((A 31 (y_ix a2)) = (6 : Int32) → (rg_goesIn a1 A js) ∧ True) ∧ (¬ (A 31 (y_ix a2)) = (6 : Int32) → (((A 31 (y_ix a2)) = (7 : Int32) → (y_in (A 62 (y_ix a1)) 60) ∧ (((A 53 (y_ix (A 62 (y_ix a1)))) = (0 : Int32) → (y_in (((8 : Int32) * a2) + (A 52 (y_ix (A 62 (y_ix a1))))) 192) ∧ (((A 45 (y_ix (((8 : Int32) * a2) + (A 52 (y_ix (A 62 (y_ix a1))))))) < (0 : Int32) → (rg_goesIn a1 A js) ∧ True) ∧ (¬ (A 45 (y_ix (((8 : Int32) * a2) + (A 52 (y_ix (A 62 (y_ix a1))))))) < (0 : Int32) → (((A 32 (y_ix a2)) < ((A 0 0) - (A 45 (y_ix (((8 : Int32) * a2) + (A 52 (y_ix (A 62 (y_ix a1)))))))) → (rg_goesIn a1 A js) ∧ True) ∧ (¬ (A 32 (y_ix a2)) < ((A 0 0) - (A 45 (y_ix (((8 : Int32) * a2) + (A 52 (y_ix (A 62 (y_ix a1)))))))) → (((A 46 (y_ix (((8 : Int32) * a2) + (A 52 (y_ix (A 62 (y_ix a1))))))) = (0 : Int32) → (js.length < 20000) ∧ True) ∧ (¬ (A 46 (y_ix (((8 : Int32) * a2) + (A 52 (y_ix (A 62 (y_ix a1))))))) = (0 : Int32) → (js.length < 20000) ∧ True))))))) ∧ (¬ (A 53 (y_ix (A 62 (y_ix a1)))) = (0 : Int32) → (rg_goesIn a1 A js) ∧ True))) ∧ (¬ (A 31 (y_ix a2)) = (7 : Int32) → (((A 31 (y_ix a2)) = (8 : Int32) → (rg_entered_429 20000 a1 a2 (A 62 (y_ix a1)) ((A 61 0) - (1 : Int32)) A) ∧ ((((rf_entered_429 20000 a1 a2 (A 62 (y_ix a1)) ((A 61 0) - (1 : Int32)) A).2 74 (y_ix a1)) < (0 : Int32) → (rg_goesIn a1 (xm_u2 (rf_entered_429 20000 a1 a2 (A 62 (y_ix a1)) ((A 61 0) - (1 : Int32)) A).2 78 (y_ix a1) (1 : Int32)) js) ∧ True) ∧ (¬ ((rf_entered_429 20000 a1 a2 (A 62 (y_ix a1)) ((A 61 0) - (1 : Int32)) A).2 74 (y_ix a1)) < (0 : Int32) → True))) ∧ (¬ (A 31 (y_ix a2)) = (8 : Int32) → (rg_goesIn a1 A js) ∧ True))))))))))))))))))
theorem rh_entered {d : Nat} (hd : 3 ≤ d) {a1 a2 : Int32} {A : y_A} {js : List y_J} (hg : rg_entered a1 a2 A js) : rc d 135 [.inr (some (11, 0)), .inl a1, .inl a2] A js (y_V (rf_entered a1 a2 A js)) := by
  obtain ⟨d, rfl⟩ := Nat.exists_eq_add_of_le' hd
  obtain ⟨F, hk⟩ : ∃ F, rf_entered a1 a2 A js = F := ⟨_, rfl⟩
  rw [hk]
  show ra _ _ _ [some (.inr (some (11, 0))), some (.inl a1), some (.inl a2), none, none] _ _ _ _
  unfold rg_entered at hg
  unfold rf_entered at hk
  refine ra.s (pc' := 1) (st' := [.inr (some (11, 0))]) (fun _ => rfl) ?_
  refine ra.ga (x := 62) (nx := 4) (c := 13) (i := 50) rfl rfl ?_
  refine ra.s (pc' := 5) (st' := [.inl a1, .inr (some (13, 50))]) (fun _ => rfl) ?_
  obtain ⟨h1, hg⟩ := hg
  refine ra.ld (nx := 6) (v := (A 62 (y_ix a1))) 62 4400 rfl rfl h1 rfl ?_
  refine ra.s (pc' := 7) (L' := [some (.inr (some (11, 0))), some (.inl a1), some (.inl a2), some (.inl (A 62 (y_ix a1))), none]) (st' := []) (fun _ => rfl) ?_
  refine ra.s (pc' := 8) (st' := [.inr (some (11, 0))]) (fun _ => rfl) ?_
  refine ra.ga (x := 31) (nx := 11) (c := 13) (i := 24) rfl rfl ?_
  refine ra.s (pc' := 12) (st' := [.inl a2, .inr (some (13, 24))]) (fun _ => rfl) ?_
  obtain ⟨h2, hg⟩ := hg
  refine ra.ld (nx := 13) (v := (A 31 (y_ix a2))) 31 24 rfl rfl h2 rfl ?_
  refine ra.ts rfl rfl ?_
  refine ra.bw (0 : Int32) rfl hk hg (fun h3 hg hk => ?_) (fun h3 hg hk => ?_)
  · skip
    refine ra.s (pc' := 65) (st' := [.inr (some (11, 0))]) (fun _ => rfl) ?_
    refine ra.ga (x := 36) (nx := 68) (c := 13) (i := 29) rfl rfl ?_
    refine ra.s (pc' := 69) (st' := [.inl a2, .inr (some (13, 29))]) (fun _ => rfl) ?_
    refine ra.ld (nx := 70) (v := (A 36 (y_ix a2))) 36 24 rfl rfl h2 rfl ?_
    refine ra.s (pc' := 71) (st' := [.inl (2 : Int32), .inl (A 36 (y_ix a2))]) (fun _ => rfl) ?_
    refine ra.b (c := (A 36 (y_ix a2)) = (2 : Int32)) (cd := .eq) (x := (A 36 (y_ix a2))) (y := (2 : Int32)) 97 74 (st' := []) (fun _ => rfl) (y_ceq _ _) hk hg (fun h4 hg hk => ?_) (fun h4 hg hk => ?_)
    · skip
      refine ra.s (pc' := 98) (st' := [.inr (some (11, 0))]) (fun _ => rfl) ?_
      refine ra.s (pc' := 99) (st' := [.inl (2 : Int32), .inr (some (11, 0))]) (fun _ => rfl) ?_
      refine ra.s (pc' := 100) (st' := [.inl a1, .inl (2 : Int32), .inr (some (11, 0))]) (fun _ => rfl) ?_
      refine ra.s (pc' := 102) (st' := [.inl (9 : Int32), .inl a1, .inl (2 : Int32), .inr (some (11, 0))]) (fun _ => rfl) ?_
      refine ra.s (pc' := 103) (st' := [.inl (0 : Int32), .inl (9 : Int32), .inl a1, .inl (2 : Int32), .inr (some (11, 0))]) (fun _ => rfl) ?_
      refine ra.s (pc' := 104) (st' := [.inl (0 : Int32), .inl (0 : Int32), .inl (9 : Int32), .inl a1, .inl (2 : Int32), .inr (some (11, 0))]) (fun _ => rfl) ?_
      obtain ⟨h5, hg⟩ := hg
      refine ra.cV (m := 131) (as := [.inr (some (11, 0)), .inl (2 : Int32), .inl a1, .inl (9 : Int32), .inl (0 : Int32), .inl (0 : Int32)]) (nx := 107) (L' := [some (.inr (some (11, 0))), some (.inl a1), some (.inl a2), some (.inl (A 62 (y_ix a1))), none]) (st' := []) (fun _ => rfl) (rh_add h5) ?_
      show ra _ _ _ _ _ A (((2 : Int32), a1, (9 : Int32), (0 : Int32), (0 : Int32)) :: js) _
      refine ra.s (pc' := 532) (st' := []) (fun _ => rfl) ?_
      subst hk
      exact ra.ret (r := none) (fun _ => rfl) ⟨rfl, rfl, rfl⟩
    · skip
      refine ra.s (pc' := 75) (st' := [.inr (some (11, 0))]) (fun _ => rfl) ?_
      refine ra.ga (x := 36) (nx := 78) (c := 13) (i := 29) rfl rfl ?_
      refine ra.s (pc' := 79) (st' := [.inl a2, .inr (some (13, 29))]) (fun _ => rfl) ?_
      refine ra.ld (nx := 80) (v := (A 36 (y_ix a2))) 36 24 rfl rfl h2 rfl ?_
      refine ra.s (pc' := 81) (st' := [.inl (1 : Int32), .inl (A 36 (y_ix a2))]) (fun _ => rfl) ?_
      refine ra.bn (c := (A 36 (y_ix a2)) = (1 : Int32)) (cd := .ne) (x := (A 36 (y_ix a2))) (y := (1 : Int32)) 110 84 (st' := []) (fun _ => rfl) (y_cne _ _) hk hg (fun h6 hg hk => ?_) (fun h6 hg hk => ?_)
      · skip
        refine ra.s (pc' := 85) (st' := [.inr (some (11, 0))]) (fun _ => rfl) ?_
        refine ra.gi (x := 0) (nx := 88) (v := (A 0 0)) rfl rfl rfl ?_
        refine ra.s (pc' := 89) (st' := [.inr (some (11, 0)), .inl (A 0 0)]) (fun _ => rfl) ?_
        refine ra.ga (x := 38) (nx := 92) (c := 13) (i := 31) rfl rfl ?_
        refine ra.s (pc' := 93) (st' := [.inl a2, .inr (some (13, 31)), .inl (A 0 0)]) (fun _ => rfl) ?_
        refine ra.ld (nx := 94) (v := (A 38 (y_ix a2))) 38 24 rfl rfl h2 rfl ?_
        refine ra.b (c := (A 38 (y_ix a2)) ≤ (A 0 0)) (cd := .ge) (x := (A 0 0)) (y := (A 38 (y_ix a2))) 110 97 (st' := []) (fun _ => rfl) (y_cge _ _) hk hg (fun h7 hg hk => ?_) (fun h7 hg hk => ?_)
        · skip
          refine ra.s (pc' := 111) (st' := [.inr (some (11, 0))]) (fun _ => rfl) ?_
          refine ra.ga (x := 79) (nx := 114) (c := 14) (i := 6) rfl rfl ?_
          refine ra.s (pc' := 115) (st' := [.inl a1, .inr (some (14, 6))]) (fun _ => rfl) ?_
          refine ra.s (pc' := 116) (st' := [.inr (some (11, 0)), .inl a1, .inr (some (14, 6))]) (fun _ => rfl) ?_
          refine ra.ga (x := 36) (nx := 119) (c := 13) (i := 29) rfl rfl ?_
          refine ra.s (pc' := 120) (st' := [.inl a2, .inr (some (13, 29)), .inl a1, .inr (some (14, 6))]) (fun _ => rfl) ?_
          refine ra.ld (nx := 121) (v := (A 36 (y_ix a2))) 36 24 rfl rfl h2 rfl ?_
          refine ra.s (pc' := 122) (st' := [.inl (1 : Int32), .inl (A 36 (y_ix a2)), .inl a1, .inr (some (14, 6))]) (fun _ => rfl) ?_
          refine ra.bf (cd := .ne) (x := (A 36 (y_ix a2))) (y := (1 : Int32)) 129 125 (st' := [.inl a1, .inr (some (14, 6))]) (fun _ => rfl) (y_cne _ _) (fun z => z h6) ?_
          refine ra.s (pc' := 126) (st' := [.inl (1 : Int32), .inl a1, .inr (some (14, 6))]) (fun _ => rfl) ?_
          refine ra.s (pc' := 130) (st' := [.inl (1 : Int32), .inl a1, .inr (some (14, 6))]) (fun _ => rfl) ?_
          refine ra.sz (nx := 131) 79 4400 rfl rfl h1 (Or.inr rfl) ?_
          refine ra.s (pc' := 132) (st' := [.inr (some (11, 0))]) (fun _ => rfl) ?_
          refine ra.ga (x := 79) (nx := 135) (c := 14) (i := 6) rfl rfl ?_
          refine ra.s (pc' := 136) (st' := [.inl a1, .inr (some (14, 6))]) (fun _ => rfl) ?_
          refine ra.lz (nx := 137) (v := (1 : Int32)) 79 4400 rfl rfl h1 (y_same _ _ _ _) ?_
          refine ra.bf (cd := .eq) (x := (1 : Int32)) (y := (0 : Int32)) 147 140 (st' := []) (fun _ => rfl) (y_ceq _ _) (by decide) ?_
          refine ra.s (pc' := 141) (st' := [.inr (some (11, 0))]) (fun _ => rfl) ?_
          refine ra.ga (x := 36) (nx := 144) (c := 13) (i := 29) rfl rfl ?_
          refine ra.s (pc' := 145) (st' := [.inl a2, .inr (some (13, 29))]) (fun _ => rfl) ?_
          refine ra.s (pc' := 146) (st' := [.inl (2 : Int32), .inl a2, .inr (some (13, 29))]) (fun _ => rfl) ?_
          refine ra.si (nx := 147) 36 24 rfl rfl h2 ?_
          refine ra.s (pc' := 148) (st' := [.inr (some (11, 0))]) (fun _ => rfl) ?_
          refine ra.s (pc' := 149) (st' := [.inl a1, .inr (some (11, 0))]) (fun _ => rfl) ?_
          obtain ⟨h8, hg⟩ := hg
          refine ra.cV (F := (rf_goesIn a1 (xm_u2 (xm_u2 A 79 (y_ix a1) (1 : Int32)) 36 (y_ix a2) (2 : Int32)) js)) (m := 136) (as := [.inr (some (11, 0)), .inl a1]) (nx := 152) (L' := [some (.inr (some (11, 0))), some (.inl a1), some (.inl a2), some (.inl (A 62 (y_ix a1))), none]) (st' := []) (fun _ => rfl) (rh_goesIn (by omega) h8) ?_
          show ra _ _ _ _ [] (xm_u2 (xm_u2 A 79 (y_ix a1) (1 : Int32)) 36 (y_ix a2) (2 : Int32)) (((0 : Int32), (A 62 (y_ix a1)), ((A 63 (y_ix a1)) + (1 : Int32)), a1, (-1 : Int32)) :: js) _
          refine ra.s (pc' := 532) (st' := []) (fun _ => rfl) ?_
          subst hk
          exact ra.ret (r := none) (fun _ => rfl) ⟨rfl, rfl, rfl⟩
        · skip
          refine ra.s (pc' := 98) (st' := [.inr (some (11, 0))]) (fun _ => rfl) ?_
          refine ra.s (pc' := 99) (st' := [.inl (2 : Int32), .inr (some (11, 0))]) (fun _ => rfl) ?_
          refine ra.s (pc' := 100) (st' := [.inl a1, .inl (2 : Int32), .inr (some (11, 0))]) (fun _ => rfl) ?_
          refine ra.s (pc' := 102) (st' := [.inl (9 : Int32), .inl a1, .inl (2 : Int32), .inr (some (11, 0))]) (fun _ => rfl) ?_
          refine ra.s (pc' := 103) (st' := [.inl (0 : Int32), .inl (9 : Int32), .inl a1, .inl (2 : Int32), .inr (some (11, 0))]) (fun _ => rfl) ?_
          refine ra.s (pc' := 104) (st' := [.inl (0 : Int32), .inl (0 : Int32), .inl (9 : Int32), .inl a1, .inl (2 : Int32), .inr (some (11, 0))]) (fun _ => rfl) ?_
          obtain ⟨h9, hg⟩ := hg
          refine ra.cV (m := 131) (as := [.inr (some (11, 0)), .inl (2 : Int32), .inl a1, .inl (9 : Int32), .inl (0 : Int32), .inl (0 : Int32)]) (nx := 107) (L' := [some (.inr (some (11, 0))), some (.inl a1), some (.inl a2), some (.inl (A 62 (y_ix a1))), none]) (st' := []) (fun _ => rfl) (rh_add h9) ?_
          show ra _ _ _ _ _ A (((2 : Int32), a1, (9 : Int32), (0 : Int32), (0 : Int32)) :: js) _
          refine ra.s (pc' := 532) (st' := []) (fun _ => rfl) ?_
          subst hk
          exact ra.ret (r := none) (fun _ => rfl) ⟨rfl, rfl, rfl⟩
      · skip
        refine ra.s (pc' := 111) (st' := [.inr (some (11, 0))]) (fun _ => rfl) ?_
        refine ra.ga (x := 79) (nx := 114) (c := 14) (i := 6) rfl rfl ?_
        refine ra.s (pc' := 115) (st' := [.inl a1, .inr (some (14, 6))]) (fun _ => rfl) ?_
        refine ra.s (pc' := 116) (st' := [.inr (some (11, 0)), .inl a1, .inr (some (14, 6))]) (fun _ => rfl) ?_
        refine ra.ga (x := 36) (nx := 119) (c := 13) (i := 29) rfl rfl ?_
        refine ra.s (pc' := 120) (st' := [.inl a2, .inr (some (13, 29)), .inl a1, .inr (some (14, 6))]) (fun _ => rfl) ?_
        refine ra.ld (nx := 121) (v := (A 36 (y_ix a2))) 36 24 rfl rfl h2 rfl ?_
        refine ra.s (pc' := 122) (st' := [.inl (1 : Int32), .inl (A 36 (y_ix a2)), .inl a1, .inr (some (14, 6))]) (fun _ => rfl) ?_
        refine ra.bt (cd := .ne) (x := (A 36 (y_ix a2))) (y := (1 : Int32)) 129 125 (st' := [.inl a1, .inr (some (14, 6))]) (fun _ => rfl) (y_cne _ _) h6 ?_
        refine ra.s (pc' := 130) (st' := [.inl (0 : Int32), .inl a1, .inr (some (14, 6))]) (fun _ => rfl) ?_
        refine ra.sz (nx := 131) 79 4400 rfl rfl h1 (Or.inl rfl) ?_
        refine ra.s (pc' := 132) (st' := [.inr (some (11, 0))]) (fun _ => rfl) ?_
        refine ra.ga (x := 79) (nx := 135) (c := 14) (i := 6) rfl rfl ?_
        refine ra.s (pc' := 136) (st' := [.inl a1, .inr (some (14, 6))]) (fun _ => rfl) ?_
        refine ra.lz (nx := 137) (v := (0 : Int32)) 79 4400 rfl rfl h1 (y_same _ _ _ _) ?_
        refine ra.bt (cd := .eq) (x := (0 : Int32)) (y := (0 : Int32)) 147 140 (st' := []) (fun _ => rfl) (y_ceq _ _) (by decide) ?_
        refine ra.s (pc' := 148) (st' := [.inr (some (11, 0))]) (fun _ => rfl) ?_
        refine ra.s (pc' := 149) (st' := [.inl a1, .inr (some (11, 0))]) (fun _ => rfl) ?_
        obtain ⟨h10, hg⟩ := hg
        refine ra.cV (F := (rf_goesIn a1 (xm_u2 A 79 (y_ix a1) (0 : Int32)) js)) (m := 136) (as := [.inr (some (11, 0)), .inl a1]) (nx := 152) (L' := [some (.inr (some (11, 0))), some (.inl a1), some (.inl a2), some (.inl (A 62 (y_ix a1))), none]) (st' := []) (fun _ => rfl) (rh_goesIn (by omega) h10) ?_
        show ra _ _ _ _ [] (xm_u2 A 79 (y_ix a1) (0 : Int32)) (((0 : Int32), (A 62 (y_ix a1)), ((A 63 (y_ix a1)) + (1 : Int32)), a1, (-1 : Int32)) :: js) _
        refine ra.s (pc' := 532) (st' := []) (fun _ => rfl) ?_
        subst hk
        exact ra.ret (r := none) (fun _ => rfl) ⟨rfl, rfl, rfl⟩
  · skip
    refine ra.bw (1 : Int32) rfl hk hg (fun h11 hg hk => ?_) (fun h11 hg hk => ?_)
    · skip
      refine ra.s (pc' := 156) (st' := [.inr (some (11, 0))]) (fun _ => rfl) ?_
      refine ra.ga (x := 39) (nx := 159) (c := 13) (i := 32) rfl rfl ?_
      refine ra.s (pc' := 160) (st' := [.inl a2, .inr (some (13, 32))]) (fun _ => rfl) ?_
      refine ra.ld (nx := 161) (v := (A 39 (y_ix a2))) 39 24 rfl rfl h2 rfl ?_
      refine ra.s (pc' := 162) (st' := [.inr (some (11, 0)), .inl (A 39 (y_ix a2))]) (fun _ => rfl) ?_
      refine ra.ga (x := 32) (nx := 165) (c := 13) (i := 25) rfl rfl ?_
      refine ra.s (pc' := 166) (st' := [.inl a2, .inr (some (13, 25)), .inl (A 39 (y_ix a2))]) (fun _ => rfl) ?_
      refine ra.ld (nx := 167) (v := (A 32 (y_ix a2))) 32 24 rfl rfl h2 rfl ?_
      refine ra.b (c := (A 32 (y_ix a2)) ≤ (A 39 (y_ix a2))) (cd := .ge) (x := (A 39 (y_ix a2))) (y := (A 32 (y_ix a2))) 188 170 (st' := []) (fun _ => rfl) (y_cge _ _) hk hg (fun h12 hg hk => ?_) (fun h12 hg hk => ?_)
      · skip
        refine ra.s (pc' := 189) (st' := [.inr (some (11, 0))]) (fun _ => rfl) ?_
        refine ra.ga (x := 40) (nx := 192) (c := 13) (i := 33) rfl rfl ?_
        refine ra.s (pc' := 193) (st' := [.inl a2, .inr (some (13, 33))]) (fun _ => rfl) ?_
        refine ra.ld (nx := 194) (v := (A 40 (y_ix a2))) 40 24 rfl rfl h2 rfl ?_
        refine ra.s (pc' := 195) (st' := [.inr (some (11, 0)), .inl (A 40 (y_ix a2))]) (fun _ => rfl) ?_
        refine ra.ga (x := 33) (nx := 198) (c := 13) (i := 26) rfl rfl ?_
        refine ra.s (pc' := 199) (st' := [.inl a2, .inr (some (13, 26)), .inl (A 40 (y_ix a2))]) (fun _ => rfl) ?_
        refine ra.ld (nx := 200) (v := (A 33 (y_ix a2))) 33 24 rfl rfl h2 rfl ?_
        refine ra.b (c := (A 33 (y_ix a2)) ≤ (A 40 (y_ix a2))) (cd := .ge) (x := (A 40 (y_ix a2))) (y := (A 33 (y_ix a2))) 240 203 (st' := []) (fun _ => rfl) (y_cge _ _) hk hg (fun h13 hg hk => ?_) (fun h13 hg hk => ?_)
        · skip
          refine ra.s (pc' := 241) (st' := [.inr (some (11, 0))]) (fun _ => rfl) ?_
          refine ra.ga (x := 41) (nx := 244) (c := 13) (i := 34) rfl rfl ?_
          refine ra.s (pc' := 245) (st' := [.inl a2, .inr (some (13, 34))]) (fun _ => rfl) ?_
          refine ra.s (pc' := 246) (st' := [.inl a2, .inr (some (13, 34)), .inl a2, .inr (some (13, 34))]) (fun _ => rfl) ?_
          refine ra.ld (nx := 247) (v := (A 41 (y_ix a2))) 41 24 rfl rfl h2 rfl ?_
          refine ra.s (pc' := 248) (st' := [.inl (1 : Int32), .inl (A 41 (y_ix a2)), .inl a2, .inr (some (13, 34))]) (fun _ => rfl) ?_
          refine ra.s (pc' := 249) (st' := [.inl ((A 41 (y_ix a2)) + (1 : Int32)), .inl a2, .inr (some (13, 34))]) (fun _ => rfl) ?_
          refine ra.si (nx := 250) 41 24 rfl rfl h2 ?_
          refine ra.s (pc' := 251) (st' := [.inr (some (11, 0))]) (fun _ => rfl) ?_
          refine ra.s (pc' := 252) (st' := [.inl (2 : Int32), .inr (some (11, 0))]) (fun _ => rfl) ?_
          refine ra.s (pc' := 253) (st' := [.inl a1, .inl (2 : Int32), .inr (some (11, 0))]) (fun _ => rfl) ?_
          refine ra.s (pc' := 255) (st' := [.inl (10 : Int32), .inl a1, .inl (2 : Int32), .inr (some (11, 0))]) (fun _ => rfl) ?_
          refine ra.s (pc' := 256) (st' := [.inl (0 : Int32), .inl (10 : Int32), .inl a1, .inl (2 : Int32), .inr (some (11, 0))]) (fun _ => rfl) ?_
          refine ra.s (pc' := 257) (st' := [.inl (0 : Int32), .inl (0 : Int32), .inl (10 : Int32), .inl a1, .inl (2 : Int32), .inr (some (11, 0))]) (fun _ => rfl) ?_
          obtain ⟨h14, hg⟩ := hg
          refine ra.cV (m := 131) (as := [.inr (some (11, 0)), .inl (2 : Int32), .inl a1, .inl (10 : Int32), .inl (0 : Int32), .inl (0 : Int32)]) (nx := 260) (L' := [some (.inr (some (11, 0))), some (.inl a1), some (.inl a2), some (.inl (A 62 (y_ix a1))), none]) (st' := []) (fun _ => rfl) (rh_add h14) ?_
          show ra _ _ _ _ _ (xm_u2 A 41 (y_ix a2) ((A 41 (y_ix a2)) + (1 : Int32))) (((2 : Int32), a1, (10 : Int32), (0 : Int32), (0 : Int32)) :: js) _
          refine ra.s (pc' := 532) (st' := []) (fun _ => rfl) ?_
          subst hk
          exact ra.ret (r := none) (fun _ => rfl) ⟨rfl, rfl, rfl⟩
        · skip
          refine ra.s (pc' := 204) (st' := [.inr (some (11, 0))]) (fun _ => rfl) ?_
          refine ra.ga (x := 75) (nx := 207) (c := 14) (i := 2) rfl rfl ?_
          refine ra.s (pc' := 208) (st' := [.inl a1, .inr (some (14, 2))]) (fun _ => rfl) ?_
          refine ra.s (pc' := 209) (st' := [.inl (1 : Int32), .inl a1, .inr (some (14, 2))]) (fun _ => rfl) ?_
          refine ra.sz (nx := 210) 75 4400 rfl rfl h1 (Or.inr rfl) ?_
          refine ra.s (pc' := 211) (st' := [.inr (some (11, 0))]) (fun _ => rfl) ?_
          refine ra.ga (x := 43) (nx := 214) (c := 13) (i := 36) rfl rfl ?_
          refine ra.s (pc' := 216) (st' := [.inl (10 : Int32), .inr (some (13, 36))]) (fun _ => rfl) ?_
          refine ra.s (pc' := 217) (st' := [.inl a2, .inl (10 : Int32), .inr (some (13, 36))]) (fun _ => rfl) ?_
          refine ra.s (pc' := 218) (st' := [.inl ((10 : Int32) * a2), .inr (some (13, 36))]) (fun _ => rfl) ?_
          refine ra.s (pc' := 219) (st' := [.inr (some (11, 0)), .inl ((10 : Int32) * a2), .inr (some (13, 36))]) (fun _ => rfl) ?_
          refine ra.ga (x := 40) (nx := 222) (c := 13) (i := 33) rfl rfl ?_
          refine ra.s (pc' := 223) (st' := [.inl a2, .inr (some (13, 33)), .inl ((10 : Int32) * a2), .inr (some (13, 36))]) (fun _ => rfl) ?_
          refine ra.ld (nx := 224) (v := (A 40 (y_ix a2))) 40 24 rfl rfl h2 rfl ?_
          refine ra.s (pc' := 225) (st' := [.inl (((10 : Int32) * a2) + (A 40 (y_ix a2))), .inr (some (13, 36))]) (fun _ => rfl) ?_
          refine ra.s (pc' := 226) (st' := [.inl a1, .inl (((10 : Int32) * a2) + (A 40 (y_ix a2))), .inr (some (13, 36))]) (fun _ => rfl) ?_
          obtain ⟨h15, hg⟩ := hg
          refine ra.si (nx := 227) 43 240 rfl rfl h15 ?_
          refine ra.s (pc' := 228) (st' := [.inr (some (11, 0))]) (fun _ => rfl) ?_
          refine ra.ga (x := 40) (nx := 231) (c := 13) (i := 33) rfl rfl ?_
          refine ra.s (pc' := 232) (st' := [.inl a2, .inr (some (13, 33))]) (fun _ => rfl) ?_
          refine ra.s (pc' := 233) (st' := [.inl a2, .inr (some (13, 33)), .inl a2, .inr (some (13, 33))]) (fun _ => rfl) ?_
          refine ra.ld (nx := 234) (v := (A 40 (y_ix a2))) 40 24 rfl rfl h2 rfl ?_
          refine ra.s (pc' := 235) (st' := [.inl (1 : Int32), .inl (A 40 (y_ix a2)), .inl a2, .inr (some (13, 33))]) (fun _ => rfl) ?_
          refine ra.s (pc' := 236) (st' := [.inl ((A 40 (y_ix a2)) + (1 : Int32)), .inl a2, .inr (some (13, 33))]) (fun _ => rfl) ?_
          refine ra.si (nx := 237) 40 24 rfl rfl h2 ?_
          refine ra.s (pc' := 532) (st' := []) (fun _ => rfl) ?_
          subst hk
          exact ra.ret (r := none) (fun _ => rfl) ⟨rfl, rfl, rfl⟩
      · skip
        refine ra.s (pc' := 171) (st' := [.inr (some (11, 0))]) (fun _ => rfl) ?_
        refine ra.ga (x := 40) (nx := 174) (c := 13) (i := 33) rfl rfl ?_
        refine ra.s (pc' := 175) (st' := [.inl a2, .inr (some (13, 33))]) (fun _ => rfl) ?_
        refine ra.ld (nx := 176) (v := (A 40 (y_ix a2))) 40 24 rfl rfl h2 rfl ?_
        refine ra.bn (c := (A 40 (y_ix a2)) = (0 : Int32)) (cd := .ne) (x := (A 40 (y_ix a2))) (y := (0 : Int32)) 188 179 (st' := []) (fun _ => rfl) (y_cne _ _) hk hg (fun h16 hg hk => ?_) (fun h16 hg hk => ?_)
        · skip
          refine ra.s (pc' := 180) (st' := [.inr (some (11, 0))]) (fun _ => rfl) ?_
          refine ra.s (pc' := 181) (st' := [.inl a1, .inr (some (11, 0))]) (fun _ => rfl) ?_
          refine ra.s (pc' := 182) (st' := [.inl a2, .inl a1, .inr (some (11, 0))]) (fun _ => rfl) ?_
          obtain ⟨h17, hg⟩ := hg
          refine ra.cV (F := (rf_setToWork a1 a2 A js)) (m := 137) (as := [.inr (some (11, 0)), .inl a1, .inl a2]) (nx := 185) (L' := [some (.inr (some (11, 0))), some (.inl a1), some (.inl a2), some (.inl (A 62 (y_ix a1))), none]) (st' := []) (fun _ => rfl) (rh_setToWork (by omega) h17) ?_
          show ra _ _ _ _ [] (xm_u2 (xm_u2 A 77 (y_ix a1) (1 : Int32)) 39 (y_ix a2) ((A 39 (y_ix a2)) + (1 : Int32))) (((0 : Int32), (A 62 (y_ix a1)), ((A 63 (y_ix a1)) + (1 : Int32)), a1, (-1 : Int32)) :: js) _
          refine ra.s (pc' := 532) (st' := []) (fun _ => rfl) ?_
          subst hk
          exact ra.ret (r := none) (fun _ => rfl) ⟨rfl, rfl, rfl⟩
        · skip
          refine ra.s (pc' := 189) (st' := [.inr (some (11, 0))]) (fun _ => rfl) ?_
          refine ra.ga (x := 40) (nx := 192) (c := 13) (i := 33) rfl rfl ?_
          refine ra.s (pc' := 193) (st' := [.inl a2, .inr (some (13, 33))]) (fun _ => rfl) ?_
          refine ra.ld (nx := 194) (v := (A 40 (y_ix a2))) 40 24 rfl rfl h2 rfl ?_
          refine ra.s (pc' := 195) (st' := [.inr (some (11, 0)), .inl (A 40 (y_ix a2))]) (fun _ => rfl) ?_
          refine ra.ga (x := 33) (nx := 198) (c := 13) (i := 26) rfl rfl ?_
          refine ra.s (pc' := 199) (st' := [.inl a2, .inr (some (13, 26)), .inl (A 40 (y_ix a2))]) (fun _ => rfl) ?_
          refine ra.ld (nx := 200) (v := (A 33 (y_ix a2))) 33 24 rfl rfl h2 rfl ?_
          refine ra.b (c := (A 33 (y_ix a2)) ≤ (A 40 (y_ix a2))) (cd := .ge) (x := (A 40 (y_ix a2))) (y := (A 33 (y_ix a2))) 240 203 (st' := []) (fun _ => rfl) (y_cge _ _) hk hg (fun h18 hg hk => ?_) (fun h18 hg hk => ?_)
          · skip
            refine ra.s (pc' := 241) (st' := [.inr (some (11, 0))]) (fun _ => rfl) ?_
            refine ra.ga (x := 41) (nx := 244) (c := 13) (i := 34) rfl rfl ?_
            refine ra.s (pc' := 245) (st' := [.inl a2, .inr (some (13, 34))]) (fun _ => rfl) ?_
            refine ra.s (pc' := 246) (st' := [.inl a2, .inr (some (13, 34)), .inl a2, .inr (some (13, 34))]) (fun _ => rfl) ?_
            refine ra.ld (nx := 247) (v := (A 41 (y_ix a2))) 41 24 rfl rfl h2 rfl ?_
            refine ra.s (pc' := 248) (st' := [.inl (1 : Int32), .inl (A 41 (y_ix a2)), .inl a2, .inr (some (13, 34))]) (fun _ => rfl) ?_
            refine ra.s (pc' := 249) (st' := [.inl ((A 41 (y_ix a2)) + (1 : Int32)), .inl a2, .inr (some (13, 34))]) (fun _ => rfl) ?_
            refine ra.si (nx := 250) 41 24 rfl rfl h2 ?_
            refine ra.s (pc' := 251) (st' := [.inr (some (11, 0))]) (fun _ => rfl) ?_
            refine ra.s (pc' := 252) (st' := [.inl (2 : Int32), .inr (some (11, 0))]) (fun _ => rfl) ?_
            refine ra.s (pc' := 253) (st' := [.inl a1, .inl (2 : Int32), .inr (some (11, 0))]) (fun _ => rfl) ?_
            refine ra.s (pc' := 255) (st' := [.inl (10 : Int32), .inl a1, .inl (2 : Int32), .inr (some (11, 0))]) (fun _ => rfl) ?_
            refine ra.s (pc' := 256) (st' := [.inl (0 : Int32), .inl (10 : Int32), .inl a1, .inl (2 : Int32), .inr (some (11, 0))]) (fun _ => rfl) ?_
            refine ra.s (pc' := 257) (st' := [.inl (0 : Int32), .inl (0 : Int32), .inl (10 : Int32), .inl a1, .inl (2 : Int32), .inr (some (11, 0))]) (fun _ => rfl) ?_
            obtain ⟨h19, hg⟩ := hg
            refine ra.cV (m := 131) (as := [.inr (some (11, 0)), .inl (2 : Int32), .inl a1, .inl (10 : Int32), .inl (0 : Int32), .inl (0 : Int32)]) (nx := 260) (L' := [some (.inr (some (11, 0))), some (.inl a1), some (.inl a2), some (.inl (A 62 (y_ix a1))), none]) (st' := []) (fun _ => rfl) (rh_add h19) ?_
            show ra _ _ _ _ _ (xm_u2 A 41 (y_ix a2) ((A 41 (y_ix a2)) + (1 : Int32))) (((2 : Int32), a1, (10 : Int32), (0 : Int32), (0 : Int32)) :: js) _
            refine ra.s (pc' := 532) (st' := []) (fun _ => rfl) ?_
            subst hk
            exact ra.ret (r := none) (fun _ => rfl) ⟨rfl, rfl, rfl⟩
          · skip
            refine ra.s (pc' := 204) (st' := [.inr (some (11, 0))]) (fun _ => rfl) ?_
            refine ra.ga (x := 75) (nx := 207) (c := 14) (i := 2) rfl rfl ?_
            refine ra.s (pc' := 208) (st' := [.inl a1, .inr (some (14, 2))]) (fun _ => rfl) ?_
            refine ra.s (pc' := 209) (st' := [.inl (1 : Int32), .inl a1, .inr (some (14, 2))]) (fun _ => rfl) ?_
            refine ra.sz (nx := 210) 75 4400 rfl rfl h1 (Or.inr rfl) ?_
            refine ra.s (pc' := 211) (st' := [.inr (some (11, 0))]) (fun _ => rfl) ?_
            refine ra.ga (x := 43) (nx := 214) (c := 13) (i := 36) rfl rfl ?_
            refine ra.s (pc' := 216) (st' := [.inl (10 : Int32), .inr (some (13, 36))]) (fun _ => rfl) ?_
            refine ra.s (pc' := 217) (st' := [.inl a2, .inl (10 : Int32), .inr (some (13, 36))]) (fun _ => rfl) ?_
            refine ra.s (pc' := 218) (st' := [.inl ((10 : Int32) * a2), .inr (some (13, 36))]) (fun _ => rfl) ?_
            refine ra.s (pc' := 219) (st' := [.inr (some (11, 0)), .inl ((10 : Int32) * a2), .inr (some (13, 36))]) (fun _ => rfl) ?_
            refine ra.ga (x := 40) (nx := 222) (c := 13) (i := 33) rfl rfl ?_
            refine ra.s (pc' := 223) (st' := [.inl a2, .inr (some (13, 33)), .inl ((10 : Int32) * a2), .inr (some (13, 36))]) (fun _ => rfl) ?_
            refine ra.ld (nx := 224) (v := (A 40 (y_ix a2))) 40 24 rfl rfl h2 rfl ?_
            refine ra.s (pc' := 225) (st' := [.inl (((10 : Int32) * a2) + (A 40 (y_ix a2))), .inr (some (13, 36))]) (fun _ => rfl) ?_
            refine ra.s (pc' := 226) (st' := [.inl a1, .inl (((10 : Int32) * a2) + (A 40 (y_ix a2))), .inr (some (13, 36))]) (fun _ => rfl) ?_
            obtain ⟨h20, hg⟩ := hg
            refine ra.si (nx := 227) 43 240 rfl rfl h20 ?_
            refine ra.s (pc' := 228) (st' := [.inr (some (11, 0))]) (fun _ => rfl) ?_
            refine ra.ga (x := 40) (nx := 231) (c := 13) (i := 33) rfl rfl ?_
            refine ra.s (pc' := 232) (st' := [.inl a2, .inr (some (13, 33))]) (fun _ => rfl) ?_
            refine ra.s (pc' := 233) (st' := [.inl a2, .inr (some (13, 33)), .inl a2, .inr (some (13, 33))]) (fun _ => rfl) ?_
            refine ra.ld (nx := 234) (v := (A 40 (y_ix a2))) 40 24 rfl rfl h2 rfl ?_
            refine ra.s (pc' := 235) (st' := [.inl (1 : Int32), .inl (A 40 (y_ix a2)), .inl a2, .inr (some (13, 33))]) (fun _ => rfl) ?_
            refine ra.s (pc' := 236) (st' := [.inl ((A 40 (y_ix a2)) + (1 : Int32)), .inl a2, .inr (some (13, 33))]) (fun _ => rfl) ?_
            refine ra.si (nx := 237) 40 24 rfl rfl h2 ?_
            refine ra.s (pc' := 532) (st' := []) (fun _ => rfl) ?_
            subst hk
            exact ra.ret (r := none) (fun _ => rfl) ⟨rfl, rfl, rfl⟩
    · skip
      refine ra.bw (2 : Int32) rfl hk hg (fun h21 hg hk => ?_) (fun h21 hg hk => ?_)
      · skip
        refine ra.s (pc' := 264) (st' := [.inr (some (11, 0))]) (fun _ => rfl) ?_
        refine ra.ga (x := 42) (nx := 267) (c := 13) (i := 35) rfl rfl ?_
        refine ra.s (pc' := 268) (st' := [.inl a2, .inr (some (13, 35))]) (fun _ => rfl) ?_
        refine ra.ld (nx := 269) (v := (A 42 (y_ix a2))) 42 24 rfl rfl h2 rfl ?_
        refine ra.bn (c := (A 42 (y_ix a2)) = (0 : Int32)) (cd := .ne) (x := (A 42 (y_ix a2))) (y := (0 : Int32)) 285 272 (st' := []) (fun _ => rfl) (y_cne _ _) hk hg (fun h22 hg hk => ?_) (fun h22 hg hk => ?_)
        · skip
          refine ra.s (pc' := 273) (st' := [.inr (some (11, 0))]) (fun _ => rfl) ?_
          refine ra.s (pc' := 274) (st' := [.inl (2 : Int32), .inr (some (11, 0))]) (fun _ => rfl) ?_
          refine ra.s (pc' := 275) (st' := [.inl a1, .inl (2 : Int32), .inr (some (11, 0))]) (fun _ => rfl) ?_
          refine ra.s (pc' := 277) (st' := [.inl (11 : Int32), .inl a1, .inl (2 : Int32), .inr (some (11, 0))]) (fun _ => rfl) ?_
          refine ra.s (pc' := 278) (st' := [.inl (0 : Int32), .inl (11 : Int32), .inl a1, .inl (2 : Int32), .inr (some (11, 0))]) (fun _ => rfl) ?_
          refine ra.s (pc' := 279) (st' := [.inl (0 : Int32), .inl (0 : Int32), .inl (11 : Int32), .inl a1, .inl (2 : Int32), .inr (some (11, 0))]) (fun _ => rfl) ?_
          obtain ⟨h23, hg⟩ := hg
          refine ra.cV (m := 131) (as := [.inr (some (11, 0)), .inl (2 : Int32), .inl a1, .inl (11 : Int32), .inl (0 : Int32), .inl (0 : Int32)]) (nx := 282) (L' := [some (.inr (some (11, 0))), some (.inl a1), some (.inl a2), some (.inl (A 62 (y_ix a1))), none]) (st' := []) (fun _ => rfl) (rh_add h23) ?_
          show ra _ _ _ _ _ A (((2 : Int32), a1, (11 : Int32), (0 : Int32), (0 : Int32)) :: js) _
          refine ra.s (pc' := 532) (st' := []) (fun _ => rfl) ?_
          subst hk
          exact ra.ret (r := none) (fun _ => rfl) ⟨rfl, rfl, rfl⟩
        · skip
          refine ra.s (pc' := 286) (st' := [.inr (some (11, 0))]) (fun _ => rfl) ?_
          refine ra.ga (x := 42) (nx := 289) (c := 13) (i := 35) rfl rfl ?_
          refine ra.s (pc' := 290) (st' := [.inl a2, .inr (some (13, 35))]) (fun _ => rfl) ?_
          refine ra.s (pc' := 291) (st' := [.inl a2, .inr (some (13, 35)), .inl a2, .inr (some (13, 35))]) (fun _ => rfl) ?_
          refine ra.ld (nx := 292) (v := (A 42 (y_ix a2))) 42 24 rfl rfl h2 rfl ?_
          refine ra.s (pc' := 293) (st' := [.inl (1 : Int32), .inl (A 42 (y_ix a2)), .inl a2, .inr (some (13, 35))]) (fun _ => rfl) ?_
          refine ra.s (pc' := 294) (st' := [.inl ((A 42 (y_ix a2)) - (1 : Int32)), .inl a2, .inr (some (13, 35))]) (fun _ => rfl) ?_
          refine ra.si (nx := 295) 42 24 rfl rfl h2 ?_
          refine ra.s (pc' := 296) (st' := [.inr (some (11, 0))]) (fun _ => rfl) ?_
          refine ra.s (pc' := 297) (st' := [.inl a1, .inr (some (11, 0))]) (fun _ => rfl) ?_
          obtain ⟨h24, hg⟩ := hg
          refine ra.cV (F := (rf_goesIn a1 (xm_u2 A 42 (y_ix a2) ((A 42 (y_ix a2)) - (1 : Int32))) js)) (m := 136) (as := [.inr (some (11, 0)), .inl a1]) (nx := 300) (L' := [some (.inr (some (11, 0))), some (.inl a1), some (.inl a2), some (.inl (A 62 (y_ix a1))), none]) (st' := []) (fun _ => rfl) (rh_goesIn (by omega) h24) ?_
          show ra _ _ _ _ [] (xm_u2 A 42 (y_ix a2) ((A 42 (y_ix a2)) - (1 : Int32))) (((0 : Int32), (A 62 (y_ix a1)), ((A 63 (y_ix a1)) + (1 : Int32)), a1, (-1 : Int32)) :: js) _
          refine ra.s (pc' := 532) (st' := []) (fun _ => rfl) ?_
          subst hk
          exact ra.ret (r := none) (fun _ => rfl) ⟨rfl, rfl, rfl⟩
      · skip
        refine ra.bw (3 : Int32) rfl hk hg (fun h25 hg hk => ?_) (fun h25 hg hk => ?_)
        · skip
          refine ra.s (pc' := 304) (st' := [.inr (some (11, 0))]) (fun _ => rfl) ?_
          refine ra.ga (x := 72) (nx := 307) (c := 13) (i := 59) rfl rfl ?_
          refine ra.s (pc' := 308) (st' := [.inl a1, .inr (some (13, 59))]) (fun _ => rfl) ?_
          refine ra.s (pc' := 309) (st' := [.inr (some (11, 0)), .inl a1, .inr (some (13, 59))]) (fun _ => rfl) ?_
          refine ra.gi (x := 0) (nx := 312) (v := (A 0 0)) rfl rfl rfl ?_
          refine ra.s (pc' := 313) (st' := [.inr (some (11, 0)), .inl (A 0 0), .inl a1, .inr (some (13, 59))]) (fun _ => rfl) ?_
          refine ra.ga (x := 32) (nx := 316) (c := 13) (i := 25) rfl rfl ?_
          refine ra.s (pc' := 317) (st' := [.inl a2, .inr (some (13, 25)), .inl (A 0 0), .inl a1, .inr (some (13, 59))]) (fun _ => rfl) ?_
          refine ra.ld (nx := 318) (v := (A 32 (y_ix a2))) 32 24 rfl rfl h2 rfl ?_
          refine ra.s (pc' := 319) (st' := [.inl ((A 0 0) + (A 32 (y_ix a2))), .inl a1, .inr (some (13, 59))]) (fun _ => rfl) ?_
          refine ra.si (nx := 320) 72 4400 rfl rfl h1 ?_
          refine ra.s (pc' := 321) (st' := [.inr (some (11, 0))]) (fun _ => rfl) ?_
          refine ra.s (pc' := 322) (st' := [.inl a1, .inr (some (11, 0))]) (fun _ => rfl) ?_
          obtain ⟨h26, hg⟩ := hg
          refine ra.cV (F := (rf_goesIn a1 (xm_u2 A 72 (y_ix a1) ((A 0 0) + (A 32 (y_ix a2)))) js)) (m := 136) (as := [.inr (some (11, 0)), .inl a1]) (nx := 325) (L' := [some (.inr (some (11, 0))), some (.inl a1), some (.inl a2), some (.inl (A 62 (y_ix a1))), none]) (st' := []) (fun _ => rfl) (rh_goesIn (by omega) h26) ?_
          show ra _ _ _ _ [] (xm_u2 A 72 (y_ix a1) ((A 0 0) + (A 32 (y_ix a2)))) (((0 : Int32), (A 62 (y_ix a1)), ((A 63 (y_ix a1)) + (1 : Int32)), a1, (-1 : Int32)) :: js) _
          refine ra.s (pc' := 532) (st' := []) (fun _ => rfl) ?_
          subst hk
          exact ra.ret (r := none) (fun _ => rfl) ⟨rfl, rfl, rfl⟩
        · skip
          refine ra.bw (4 : Int32) rfl hk hg (fun h27 hg hk => ?_) (fun h27 hg hk => ?_)
          · skip
            refine ra.s (pc' := 528) (st' := [.inr (some (11, 0))]) (fun _ => rfl) ?_
            refine ra.s (pc' := 529) (st' := [.inl a1, .inr (some (11, 0))]) (fun _ => rfl) ?_
            obtain ⟨h28, hg⟩ := hg
            refine ra.cV (F := (rf_goesIn a1 A js)) (m := 136) (as := [.inr (some (11, 0)), .inl a1]) (nx := 532) (L' := [some (.inr (some (11, 0))), some (.inl a1), some (.inl a2), some (.inl (A 62 (y_ix a1))), none]) (st' := []) (fun _ => rfl) (rh_goesIn (by omega) h28) ?_
            show ra _ _ _ _ [] A (((0 : Int32), (A 62 (y_ix a1)), ((A 63 (y_ix a1)) + (1 : Int32)), a1, (-1 : Int32)) :: js) _
            subst hk
            exact ra.ret (r := none) (fun _ => rfl) ⟨rfl, rfl, rfl⟩
          · skip
            refine ra.bw (5 : Int32) rfl hk hg (fun h29 hg hk => ?_) (fun h29 hg hk => ?_)
            · skip
              refine ra.s (pc' := 304) (st' := [.inr (some (11, 0))]) (fun _ => rfl) ?_
              refine ra.ga (x := 72) (nx := 307) (c := 13) (i := 59) rfl rfl ?_
              refine ra.s (pc' := 308) (st' := [.inl a1, .inr (some (13, 59))]) (fun _ => rfl) ?_
              refine ra.s (pc' := 309) (st' := [.inr (some (11, 0)), .inl a1, .inr (some (13, 59))]) (fun _ => rfl) ?_
              refine ra.gi (x := 0) (nx := 312) (v := (A 0 0)) rfl rfl rfl ?_
              refine ra.s (pc' := 313) (st' := [.inr (some (11, 0)), .inl (A 0 0), .inl a1, .inr (some (13, 59))]) (fun _ => rfl) ?_
              refine ra.ga (x := 32) (nx := 316) (c := 13) (i := 25) rfl rfl ?_
              refine ra.s (pc' := 317) (st' := [.inl a2, .inr (some (13, 25)), .inl (A 0 0), .inl a1, .inr (some (13, 59))]) (fun _ => rfl) ?_
              refine ra.ld (nx := 318) (v := (A 32 (y_ix a2))) 32 24 rfl rfl h2 rfl ?_
              refine ra.s (pc' := 319) (st' := [.inl ((A 0 0) + (A 32 (y_ix a2))), .inl a1, .inr (some (13, 59))]) (fun _ => rfl) ?_
              refine ra.si (nx := 320) 72 4400 rfl rfl h1 ?_
              refine ra.s (pc' := 321) (st' := [.inr (some (11, 0))]) (fun _ => rfl) ?_
              refine ra.s (pc' := 322) (st' := [.inl a1, .inr (some (11, 0))]) (fun _ => rfl) ?_
              obtain ⟨h30, hg⟩ := hg
              refine ra.cV (F := (rf_goesIn a1 (xm_u2 A 72 (y_ix a1) ((A 0 0) + (A 32 (y_ix a2)))) js)) (m := 136) (as := [.inr (some (11, 0)), .inl a1]) (nx := 325) (L' := [some (.inr (some (11, 0))), some (.inl a1), some (.inl a2), some (.inl (A 62 (y_ix a1))), none]) (st' := []) (fun _ => rfl) (rh_goesIn (by omega) h30) ?_
              show ra _ _ _ _ [] (xm_u2 A 72 (y_ix a1) ((A 0 0) + (A 32 (y_ix a2)))) (((0 : Int32), (A 62 (y_ix a1)), ((A 63 (y_ix a1)) + (1 : Int32)), a1, (-1 : Int32)) :: js) _
              refine ra.s (pc' := 532) (st' := []) (fun _ => rfl) ?_
              subst hk
              exact ra.ret (r := none) (fun _ => rfl) ⟨rfl, rfl, rfl⟩
            · skip
              refine ra.bw (6 : Int32) rfl hk hg (fun h31 hg hk => ?_) (fun h31 hg hk => ?_)
              · skip
                refine ra.s (pc' := 528) (st' := [.inr (some (11, 0))]) (fun _ => rfl) ?_
                refine ra.s (pc' := 529) (st' := [.inl a1, .inr (some (11, 0))]) (fun _ => rfl) ?_
                obtain ⟨h32, hg⟩ := hg
                refine ra.cV (F := (rf_goesIn a1 A js)) (m := 136) (as := [.inr (some (11, 0)), .inl a1]) (nx := 532) (L' := [some (.inr (some (11, 0))), some (.inl a1), some (.inl a2), some (.inl (A 62 (y_ix a1))), none]) (st' := []) (fun _ => rfl) (rh_goesIn (by omega) h32) ?_
                show ra _ _ _ _ [] A (((0 : Int32), (A 62 (y_ix a1)), ((A 63 (y_ix a1)) + (1 : Int32)), a1, (-1 : Int32)) :: js) _
                subst hk
                exact ra.ret (r := none) (fun _ => rfl) ⟨rfl, rfl, rfl⟩
              · skip
                refine ra.bw (7 : Int32) rfl hk hg (fun h33 hg hk => ?_) (fun h33 hg hk => ?_)
                · skip
                  refine ra.s (pc' := 330) (st' := [.inl (8 : Int32)]) (fun _ => rfl) ?_
                  refine ra.s (pc' := 331) (st' := [.inl a2, .inl (8 : Int32)]) (fun _ => rfl) ?_
                  refine ra.s (pc' := 332) (st' := [.inl ((8 : Int32) * a2)]) (fun _ => rfl) ?_
                  refine ra.s (pc' := 333) (st' := [.inr (some (11, 0)), .inl ((8 : Int32) * a2)]) (fun _ => rfl) ?_
                  refine ra.ga (x := 52) (nx := 336) (c := 13) (i := 42) rfl rfl ?_
                  refine ra.s (pc' := 337) (st' := [.inl (A 62 (y_ix a1)), .inr (some (13, 42)), .inl ((8 : Int32) * a2)]) (fun _ => rfl) ?_
                  obtain ⟨h34, hg⟩ := hg
                  refine ra.ld (nx := 338) (v := (A 52 (y_ix (A 62 (y_ix a1))))) 52 60 rfl rfl h34 rfl ?_
                  refine ra.s (pc' := 339) (st' := [.inl (((8 : Int32) * a2) + (A 52 (y_ix (A 62 (y_ix a1)))))]) (fun _ => rfl) ?_
                  refine ra.s (pc' := 341) (L' := [some (.inr (some (11, 0))), some (.inl a1), some (.inl a2), some (.inl (A 62 (y_ix a1))), some (.inl (((8 : Int32) * a2) + (A 52 (y_ix (A 62 (y_ix a1))))))]) (st' := []) (fun _ => rfl) ?_
                  refine ra.s (pc' := 342) (st' := [.inr (some (11, 0))]) (fun _ => rfl) ?_
                  refine ra.ga (x := 53) (nx := 345) (c := 13) (i := 43) rfl rfl ?_
                  refine ra.s (pc' := 346) (st' := [.inl (A 62 (y_ix a1)), .inr (some (13, 43))]) (fun _ => rfl) ?_
                  refine ra.ld (nx := 347) (v := (A 53 (y_ix (A 62 (y_ix a1))))) 53 60 rfl rfl h34 rfl ?_
                  refine ra.bn (c := (A 53 (y_ix (A 62 (y_ix a1)))) = (0 : Int32)) (cd := .ne) (x := (A 53 (y_ix (A 62 (y_ix a1))))) (y := (0 : Int32)) 413 350 (st' := []) (fun _ => rfl) (y_cne _ _) hk hg (fun h35 hg hk => ?_) (fun h35 hg hk => ?_)
                  · skip
                    refine ra.s (pc' := 351) (st' := [.inr (some (11, 0))]) (fun _ => rfl) ?_
                    refine ra.ga (x := 45) (nx := 354) (c := 13) (i := 38) rfl rfl ?_
                    refine ra.s (pc' := 356) (st' := [.inl (((8 : Int32) * a2) + (A 52 (y_ix (A 62 (y_ix a1))))), .inr (some (13, 38))]) (fun _ => rfl) ?_
                    obtain ⟨h36, hg⟩ := hg
                    refine ra.ld (nx := 357) (v := (A 45 (y_ix (((8 : Int32) * a2) + (A 52 (y_ix (A 62 (y_ix a1)))))))) 45 192 rfl rfl h36 rfl ?_
                    refine ra.b (c := (A 45 (y_ix (((8 : Int32) * a2) + (A 52 (y_ix (A 62 (y_ix a1))))))) < (0 : Int32)) (cd := .lt) (x := (A 45 (y_ix (((8 : Int32) * a2) + (A 52 (y_ix (A 62 (y_ix a1)))))))) (y := (0 : Int32)) 413 360 (st' := []) (fun _ => rfl) (y_clt _ _) hk hg (fun h37 hg hk => ?_) (fun h37 hg hk => ?_)
                    · skip
                      refine ra.s (pc' := 414) (st' := [.inr (some (11, 0))]) (fun _ => rfl) ?_
                      refine ra.s (pc' := 415) (st' := [.inl a1, .inr (some (11, 0))]) (fun _ => rfl) ?_
                      obtain ⟨h38, hg⟩ := hg
                      refine ra.cV (F := (rf_goesIn a1 A js)) (m := 136) (as := [.inr (some (11, 0)), .inl a1]) (nx := 418) (L' := [some (.inr (some (11, 0))), some (.inl a1), some (.inl a2), some (.inl (A 62 (y_ix a1))), some (.inl (((8 : Int32) * a2) + (A 52 (y_ix (A 62 (y_ix a1))))))]) (st' := []) (fun _ => rfl) (rh_goesIn (by omega) h38) ?_
                      show ra _ _ _ _ [] A (((0 : Int32), (A 62 (y_ix a1)), ((A 63 (y_ix a1)) + (1 : Int32)), a1, (-1 : Int32)) :: js) _
                      refine ra.s (pc' := 532) (st' := []) (fun _ => rfl) ?_
                      subst hk
                      exact ra.ret (r := none) (fun _ => rfl) ⟨rfl, rfl, rfl⟩
                    · skip
                      refine ra.s (pc' := 361) (st' := [.inr (some (11, 0))]) (fun _ => rfl) ?_
                      refine ra.gi (x := 0) (nx := 364) (v := (A 0 0)) rfl rfl rfl ?_
                      refine ra.s (pc' := 365) (st' := [.inr (some (11, 0)), .inl (A 0 0)]) (fun _ => rfl) ?_
                      refine ra.ga (x := 45) (nx := 368) (c := 13) (i := 38) rfl rfl ?_
                      refine ra.s (pc' := 370) (st' := [.inl (((8 : Int32) * a2) + (A 52 (y_ix (A 62 (y_ix a1))))), .inr (some (13, 38)), .inl (A 0 0)]) (fun _ => rfl) ?_
                      refine ra.ld (nx := 371) (v := (A 45 (y_ix (((8 : Int32) * a2) + (A 52 (y_ix (A 62 (y_ix a1)))))))) 45 192 rfl rfl h36 rfl ?_
                      refine ra.s (pc' := 372) (st' := [.inl ((A 0 0) - (A 45 (y_ix (((8 : Int32) * a2) + (A 52 (y_ix (A 62 (y_ix a1))))))))]) (fun _ => rfl) ?_
                      refine ra.s (pc' := 373) (st' := [.inr (some (11, 0)), .inl ((A 0 0) - (A 45 (y_ix (((8 : Int32) * a2) + (A 52 (y_ix (A 62 (y_ix a1))))))))]) (fun _ => rfl) ?_
                      refine ra.ga (x := 32) (nx := 376) (c := 13) (i := 25) rfl rfl ?_
                      refine ra.s (pc' := 377) (st' := [.inl a2, .inr (some (13, 25)), .inl ((A 0 0) - (A 45 (y_ix (((8 : Int32) * a2) + (A 52 (y_ix (A 62 (y_ix a1))))))))]) (fun _ => rfl) ?_
                      refine ra.ld (nx := 378) (v := (A 32 (y_ix a2))) 32 24 rfl rfl h2 rfl ?_
                      refine ra.b (c := (A 32 (y_ix a2)) < ((A 0 0) - (A 45 (y_ix (((8 : Int32) * a2) + (A 52 (y_ix (A 62 (y_ix a1))))))))) (cd := .gt) (x := ((A 0 0) - (A 45 (y_ix (((8 : Int32) * a2) + (A 52 (y_ix (A 62 (y_ix a1))))))))) (y := (A 32 (y_ix a2))) 413 381 (st' := []) (fun _ => rfl) (y_cgt _ _) hk hg (fun h39 hg hk => ?_) (fun h39 hg hk => ?_)
                      · skip
                        refine ra.s (pc' := 414) (st' := [.inr (some (11, 0))]) (fun _ => rfl) ?_
                        refine ra.s (pc' := 415) (st' := [.inl a1, .inr (some (11, 0))]) (fun _ => rfl) ?_
                        obtain ⟨h40, hg⟩ := hg
                        refine ra.cV (F := (rf_goesIn a1 A js)) (m := 136) (as := [.inr (some (11, 0)), .inl a1]) (nx := 418) (L' := [some (.inr (some (11, 0))), some (.inl a1), some (.inl a2), some (.inl (A 62 (y_ix a1))), some (.inl (((8 : Int32) * a2) + (A 52 (y_ix (A 62 (y_ix a1))))))]) (st' := []) (fun _ => rfl) (rh_goesIn (by omega) h40) ?_
                        show ra _ _ _ _ [] A (((0 : Int32), (A 62 (y_ix a1)), ((A 63 (y_ix a1)) + (1 : Int32)), a1, (-1 : Int32)) :: js) _
                        refine ra.s (pc' := 532) (st' := []) (fun _ => rfl) ?_
                        subst hk
                        exact ra.ret (r := none) (fun _ => rfl) ⟨rfl, rfl, rfl⟩
                      · skip
                        refine ra.s (pc' := 382) (st' := [.inr (some (11, 0))]) (fun _ => rfl) ?_
                        refine ra.s (pc' := 383) (st' := [.inl (1 : Int32), .inr (some (11, 0))]) (fun _ => rfl) ?_
                        refine ra.s (pc' := 384) (st' := [.inl a1, .inl (1 : Int32), .inr (some (11, 0))]) (fun _ => rfl) ?_
                        refine ra.s (pc' := 385) (st' := [.inl (1 : Int32), .inl a1, .inl (1 : Int32), .inr (some (11, 0))]) (fun _ => rfl) ?_
                        refine ra.s (pc' := 386) (st' := [.inr (some (11, 0)), .inl (1 : Int32), .inl a1, .inl (1 : Int32), .inr (some (11, 0))]) (fun _ => rfl) ?_
                        refine ra.ga (x := 44) (nx := 389) (c := 13) (i := 37) rfl rfl ?_
                        refine ra.s (pc' := 391) (st' := [.inl (((8 : Int32) * a2) + (A 52 (y_ix (A 62 (y_ix a1))))), .inr (some (13, 37)), .inl (1 : Int32), .inl a1, .inl (1 : Int32), .inr (some (11, 0))]) (fun _ => rfl) ?_
                        refine ra.ld (nx := 392) (v := (A 44 (y_ix (((8 : Int32) * a2) + (A 52 (y_ix (A 62 (y_ix a1)))))))) 44 192 rfl rfl h36 rfl ?_
                        refine ra.s (pc' := 393) (st' := [.inr (some (11, 0)), .inl (A 44 (y_ix (((8 : Int32) * a2) + (A 52 (y_ix (A 62 (y_ix a1))))))), .inl (1 : Int32), .inl a1, .inl (1 : Int32), .inr (some (11, 0))]) (fun _ => rfl) ?_
                        refine ra.ga (x := 46) (nx := 396) (c := 14) (i := 0) rfl rfl ?_
                        refine ra.s (pc' := 398) (st' := [.inl (((8 : Int32) * a2) + (A 52 (y_ix (A 62 (y_ix a1))))), .inr (some (14, 0)), .inl (A 44 (y_ix (((8 : Int32) * a2) + (A 52 (y_ix (A 62 (y_ix a1))))))), .inl (1 : Int32), .inl a1, .inl (1 : Int32), .inr (some (11, 0))]) (fun _ => rfl) ?_
                        refine ra.lz (nx := 399) (v := (A 46 (y_ix (((8 : Int32) * a2) + (A 52 (y_ix (A 62 (y_ix a1)))))))) 46 192 rfl rfl h36 rfl ?_
                        refine ra.b (c := (A 46 (y_ix (((8 : Int32) * a2) + (A 52 (y_ix (A 62 (y_ix a1))))))) = (0 : Int32)) (cd := .eq) (x := (A 46 (y_ix (((8 : Int32) * a2) + (A 52 (y_ix (A 62 (y_ix a1)))))))) (y := (0 : Int32)) 406 402 (st' := [.inl (A 44 (y_ix (((8 : Int32) * a2) + (A 52 (y_ix (A 62 (y_ix a1))))))), .inl (1 : Int32), .inl a1, .inl (1 : Int32), .inr (some (11, 0))]) (fun _ => rfl) (y_ceq _ _) hk hg (fun h41 hg hk => ?_) (fun h41 hg hk => ?_)
                        · skip
                          refine ra.s (pc' := 407) (st' := [.inl (0 : Int32), .inl (A 44 (y_ix (((8 : Int32) * a2) + (A 52 (y_ix (A 62 (y_ix a1))))))), .inl (1 : Int32), .inl a1, .inl (1 : Int32), .inr (some (11, 0))]) (fun _ => rfl) ?_
                          obtain ⟨h42, hg⟩ := hg
                          refine ra.cV (m := 131) (as := [.inr (some (11, 0)), .inl (1 : Int32), .inl a1, .inl (1 : Int32), .inl (A 44 (y_ix (((8 : Int32) * a2) + (A 52 (y_ix (A 62 (y_ix a1))))))), .inl (0 : Int32)]) (nx := 410) (L' := [some (.inr (some (11, 0))), some (.inl a1), some (.inl a2), some (.inl (A 62 (y_ix a1))), some (.inl (((8 : Int32) * a2) + (A 52 (y_ix (A 62 (y_ix a1))))))]) (st' := []) (fun _ => rfl) (rh_add h42) ?_
                          show ra _ _ _ _ _ A (((1 : Int32), a1, (1 : Int32), (A 44 (y_ix (((8 : Int32) * a2) + (A 52 (y_ix (A 62 (y_ix a1))))))), (0 : Int32)) :: js) _
                          refine ra.s (pc' := 532) (st' := []) (fun _ => rfl) ?_
                          subst hk
                          exact ra.ret (r := none) (fun _ => rfl) ⟨rfl, rfl, rfl⟩
                        · skip
                          refine ra.s (pc' := 403) (st' := [.inl (1 : Int32), .inl (A 44 (y_ix (((8 : Int32) * a2) + (A 52 (y_ix (A 62 (y_ix a1))))))), .inl (1 : Int32), .inl a1, .inl (1 : Int32), .inr (some (11, 0))]) (fun _ => rfl) ?_
                          refine ra.s (pc' := 407) (st' := [.inl (1 : Int32), .inl (A 44 (y_ix (((8 : Int32) * a2) + (A 52 (y_ix (A 62 (y_ix a1))))))), .inl (1 : Int32), .inl a1, .inl (1 : Int32), .inr (some (11, 0))]) (fun _ => rfl) ?_
                          obtain ⟨h43, hg⟩ := hg
                          refine ra.cV (m := 131) (as := [.inr (some (11, 0)), .inl (1 : Int32), .inl a1, .inl (1 : Int32), .inl (A 44 (y_ix (((8 : Int32) * a2) + (A 52 (y_ix (A 62 (y_ix a1))))))), .inl (1 : Int32)]) (nx := 410) (L' := [some (.inr (some (11, 0))), some (.inl a1), some (.inl a2), some (.inl (A 62 (y_ix a1))), some (.inl (((8 : Int32) * a2) + (A 52 (y_ix (A 62 (y_ix a1))))))]) (st' := []) (fun _ => rfl) (rh_add h43) ?_
                          show ra _ _ _ _ _ A (((1 : Int32), a1, (1 : Int32), (A 44 (y_ix (((8 : Int32) * a2) + (A 52 (y_ix (A 62 (y_ix a1))))))), (1 : Int32)) :: js) _
                          refine ra.s (pc' := 532) (st' := []) (fun _ => rfl) ?_
                          subst hk
                          exact ra.ret (r := none) (fun _ => rfl) ⟨rfl, rfl, rfl⟩
                  · skip
                    refine ra.s (pc' := 414) (st' := [.inr (some (11, 0))]) (fun _ => rfl) ?_
                    refine ra.s (pc' := 415) (st' := [.inl a1, .inr (some (11, 0))]) (fun _ => rfl) ?_
                    obtain ⟨h44, hg⟩ := hg
                    refine ra.cV (F := (rf_goesIn a1 A js)) (m := 136) (as := [.inr (some (11, 0)), .inl a1]) (nx := 418) (L' := [some (.inr (some (11, 0))), some (.inl a1), some (.inl a2), some (.inl (A 62 (y_ix a1))), some (.inl (((8 : Int32) * a2) + (A 52 (y_ix (A 62 (y_ix a1))))))]) (st' := []) (fun _ => rfl) (rh_goesIn (by omega) h44) ?_
                    show ra _ _ _ _ [] A (((0 : Int32), (A 62 (y_ix a1)), ((A 63 (y_ix a1)) + (1 : Int32)), a1, (-1 : Int32)) :: js) _
                    refine ra.s (pc' := 532) (st' := []) (fun _ => rfl) ?_
                    subst hk
                    exact ra.ret (r := none) (fun _ => rfl) ⟨rfl, rfl, rfl⟩
                · skip
                  refine ra.bw (8 : Int32) rfl hk hg (fun h45 hg hk => ?_) (fun h45 hg hk => ?_)
                  · skip
                    refine ra.s (pc' := 422) (st' := [.inr (some (11, 0))]) (fun _ => rfl) ?_
                    refine ra.gi (x := 61) (nx := 425) (v := (A 61 0)) rfl rfl rfl ?_
                    refine ra.s (pc' := 426) (st' := [.inl (1 : Int32), .inl (A 61 0)]) (fun _ => rfl) ?_
                    refine ra.s (pc' := 427) (st' := [.inl ((A 61 0) - (1 : Int32))]) (fun _ => rfl) ?_
                    refine ra.s (pc' := 429) (L' := [some (.inr (some (11, 0))), some (.inl a1), some (.inl a2), some (.inl (A 62 (y_ix a1))), some (.inl ((A 61 0) - (1 : Int32)))]) (st' := []) (fun _ => rfl) ?_
                    obtain ⟨h46, hg⟩ := hg
                    refine rh_entered_429 (by omega) 20000 a1 a2 (A 62 (y_ix a1)) ((A 61 0) - (1 : Int32)) A js h46 rfl ?_
                    refine ra.s (pc' := 501) (st' := [.inr (some (11, 0))]) (fun _ => rfl) ?_
                    refine ra.ga (x := 74) (nx := 504) (c := 13) (i := 61) rfl rfl ?_
                    refine ra.s (pc' := 505) (st' := [.inl a1, .inr (some (13, 61))]) (fun _ => rfl) ?_
                    refine ra.ld (nx := 506) (v := ((rf_entered_429 20000 a1 a2 (A 62 (y_ix a1)) ((A 61 0) - (1 : Int32)) A).2 74 (y_ix a1))) 74 4400 rfl rfl h1 rfl ?_
                    refine ra.b (c := ((rf_entered_429 20000 a1 a2 (A 62 (y_ix a1)) ((A 61 0) - (1 : Int32)) A).2 74 (y_ix a1)) < (0 : Int32)) (cd := .lt) (x := ((rf_entered_429 20000 a1 a2 (A 62 (y_ix a1)) ((A 61 0) - (1 : Int32)) A).2 74 (y_ix a1))) (y := (0 : Int32)) 512 509 (st' := []) (fun _ => rfl) (y_clt _ _) hk hg (fun h47 hg hk => ?_) (fun h47 hg hk => ?_)
                    · skip
                      refine ra.s (pc' := 513) (st' := [.inr (some (11, 0))]) (fun _ => rfl) ?_
                      refine ra.ga (x := 78) (nx := 516) (c := 14) (i := 5) rfl rfl ?_
                      refine ra.s (pc' := 517) (st' := [.inl a1, .inr (some (14, 5))]) (fun _ => rfl) ?_
                      refine ra.s (pc' := 518) (st' := [.inl (1 : Int32), .inl a1, .inr (some (14, 5))]) (fun _ => rfl) ?_
                      refine ra.sz (nx := 519) 78 4400 rfl rfl h1 (Or.inr rfl) ?_
                      refine ra.s (pc' := 520) (st' := [.inr (some (11, 0))]) (fun _ => rfl) ?_
                      refine ra.s (pc' := 521) (st' := [.inl a1, .inr (some (11, 0))]) (fun _ => rfl) ?_
                      obtain ⟨h48, hg⟩ := hg
                      refine ra.cV (F := (rf_goesIn a1 (xm_u2 (rf_entered_429 20000 a1 a2 (A 62 (y_ix a1)) ((A 61 0) - (1 : Int32)) A).2 78 (y_ix a1) (1 : Int32)) js)) (m := 136) (as := [.inr (some (11, 0)), .inl a1]) (nx := 524) (L' := [some (.inr (some (11, 0))), some (.inl a1), some (.inl a2), some (.inl (A 62 (y_ix a1))), some (.inl (rf_entered_429 20000 a1 a2 (A 62 (y_ix a1)) ((A 61 0) - (1 : Int32)) A).1)]) (st' := []) (fun _ => rfl) (rh_goesIn (by omega) h48) ?_
                      show ra _ _ _ _ [] (xm_u2 (rf_entered_429 20000 a1 a2 (A 62 (y_ix a1)) ((A 61 0) - (1 : Int32)) A).2 78 (y_ix a1) (1 : Int32)) (((0 : Int32), ((rf_entered_429 20000 a1 a2 (A 62 (y_ix a1)) ((A 61 0) - (1 : Int32)) A).2 62 (y_ix a1)), (((rf_entered_429 20000 a1 a2 (A 62 (y_ix a1)) ((A 61 0) - (1 : Int32)) A).2 63 (y_ix a1)) + (1 : Int32)), a1, (-1 : Int32)) :: js) _
                      refine ra.s (pc' := 532) (st' := []) (fun _ => rfl) ?_
                      subst hk
                      exact ra.ret (r := none) (fun _ => rfl) ⟨rfl, rfl, rfl⟩
                    · skip
                      refine ra.s (pc' := 532) (st' := []) (fun _ => rfl) ?_
                      subst hk
                      exact ra.ret (r := none) (fun _ => rfl) ⟨rfl, rfl, rfl⟩
                  · skip
                    refine ra.s (pc' := 528) (st' := [.inr (some (11, 0))]) (fun _ => rfl) ?_
                    refine ra.s (pc' := 529) (st' := [.inl a1, .inr (some (11, 0))]) (fun _ => rfl) ?_
                    obtain ⟨h49, hg⟩ := hg
                    refine ra.cV (F := (rf_goesIn a1 A js)) (m := 136) (as := [.inr (some (11, 0)), .inl a1]) (nx := 532) (L' := [some (.inr (some (11, 0))), some (.inl a1), some (.inl a2), some (.inl (A 62 (y_ix a1))), none]) (st' := []) (fun _ => rfl) (rh_goesIn (by omega) h49) ?_
                    show ra _ _ _ _ [] A (((0 : Int32), (A 62 (y_ix a1)), ((A 63 (y_ix a1)) + (1 : Int32)), a1, (-1 : Int32)) :: js) _
                    subst hk
                    exact ra.ret (r := none) (fun _ => rfl) ⟨rfl, rfl, rfl⟩
/-- begins -/
def rf_begins (a1 a2 a3 a4 : Int32) (A : y_A) (js : List y_J) : y_A × List y_J := (if a4 < (0 : Int32) then (if (rf_guardAt a1 a2 (xm_u2 A 61 0 ((A 61 0) + (1 : Int32)))) < (0 : Int32) then (if a3 < (0 : Int32) then ((xm_u2 (xm_u2 (xm_u2 (xm_u2 (xm_u2 (xm_u2 (xm_u2 (xm_u2 (xm_u2 (xm_u2 (xm_u2 (xm_u2 (xm_u2 (xm_u2 (xm_u2 (xm_u2 (xm_u2 (xm_u2 (xm_u2 (xm_u2 A 61 0 ((A 61 0) + (1 : Int32))) 62 (y_ix (A 61 0)) a1) 63 (y_ix (A 61 0)) a2) 64 (y_ix (A 61 0)) a3) 65 (y_ix (A 61 0)) (rf_guardAt a1 a2 (xm_u2 A 61 0 ((A 61 0) + (1 : Int32))))) 66 (y_ix (A 61 0)) (A 52 (y_ix a1))) 67 (y_ix (A 61 0)) (A 0 0)) 68 (y_ix (A 61 0)) (-1 : Int32)) 69 (y_ix (A 61 0)) (0 : Int32)) 70 (y_ix (A 61 0)) (-1 : Int32)) 71 (y_ix (A 61 0)) (0 : Int32)) 72 (y_ix (A 61 0)) (-1 : Int32)) 73 (y_ix (A 61 0)) (0 : Int32)) 74 (y_ix (A 61 0)) (-1 : Int32)) 75 (y_ix (A 61 0)) (0 : Int32)) 76 (y_ix (A 61 0)) (0 : Int32)) 77 (y_ix (A 61 0)) (0 : Int32)) 78 (y_ix (A 61 0)) (0 : Int32)) 79 (y_ix (A 61 0)) (0 : Int32)) 72 (y_ix (A 61 0)) (rf_tryEnd (A 52 (y_ix a1)) (A 53 (y_ix a1)) (xm_u2 (xm_u2 (xm_u2 (xm_u2 (xm_u2 (xm_u2 (xm_u2 (xm_u2 (xm_u2 (xm_u2 (xm_u2 (xm_u2 (xm_u2 (xm_u2 (xm_u2 (xm_u2 (xm_u2 (xm_u2 (xm_u2 A 61 0 ((A 61 0) + (1 : Int32))) 62 (y_ix (A 61 0)) a1) 63 (y_ix (A 61 0)) a2) 64 (y_ix (A 61 0)) a3) 65 (y_ix (A 61 0)) (rf_guardAt a1 a2 (xm_u2 A 61 0 ((A 61 0) + (1 : Int32))))) 66 (y_ix (A 61 0)) (A 52 (y_ix a1))) 67 (y_ix (A 61 0)) (A 0 0)) 68 (y_ix (A 61 0)) (-1 : Int32)) 69 (y_ix (A 61 0)) (0 : Int32)) 70 (y_ix (A 61 0)) (-1 : Int32)) 71 (y_ix (A 61 0)) (0 : Int32)) 72 (y_ix (A 61 0)) (-1 : Int32)) 73 (y_ix (A 61 0)) (0 : Int32)) 74 (y_ix (A 61 0)) (-1 : Int32)) 75 (y_ix (A 61 0)) (0 : Int32)) 76 (y_ix (A 61 0)) (0 : Int32)) 77 (y_ix (A 61 0)) (0 : Int32)) 78 (y_ix (A 61 0)) (0 : Int32)) 79 (y_ix (A 61 0)) (0 : Int32)))), js) else ((xm_u2 (xm_u2 (xm_u2 (xm_u2 (xm_u2 (xm_u2 (xm_u2 (xm_u2 (xm_u2 (xm_u2 (xm_u2 (xm_u2 (xm_u2 (xm_u2 (xm_u2 (xm_u2 (xm_u2 (xm_u2 (xm_u2 (xm_u2 (xm_u2 A 61 0 ((A 61 0) + (1 : Int32))) 62 (y_ix (A 61 0)) a1) 63 (y_ix (A 61 0)) a2) 64 (y_ix (A 61 0)) a3) 65 (y_ix (A 61 0)) (rf_guardAt a1 a2 (xm_u2 A 61 0 ((A 61 0) + (1 : Int32))))) 66 (y_ix (A 61 0)) (A 52 (y_ix a1))) 67 (y_ix (A 61 0)) (A 0 0)) 68 (y_ix (A 61 0)) (-1 : Int32)) 69 (y_ix (A 61 0)) (0 : Int32)) 70 (y_ix (A 61 0)) (-1 : Int32)) 71 (y_ix (A 61 0)) (0 : Int32)) 72 (y_ix (A 61 0)) (-1 : Int32)) 73 (y_ix (A 61 0)) (0 : Int32)) 74 (y_ix (A 61 0)) (-1 : Int32)) 75 (y_ix (A 61 0)) (0 : Int32)) 76 (y_ix (A 61 0)) (0 : Int32)) 77 (y_ix (A 61 0)) (0 : Int32)) 78 (y_ix (A 61 0)) (0 : Int32)) 79 (y_ix (A 61 0)) (0 : Int32)) 73 (y_ix a3) (((xm_u2 A 73 (y_ix (A 61 0)) (0 : Int32)) 73 (y_ix a3)) + (1 : Int32))) 72 (y_ix (A 61 0)) (rf_tryEnd (A 52 (y_ix a1)) (A 53 (y_ix a1)) (xm_u2 (xm_u2 (xm_u2 (xm_u2 (xm_u2 (xm_u2 (xm_u2 (xm_u2 (xm_u2 (xm_u2 (xm_u2 (xm_u2 (xm_u2 (xm_u2 (xm_u2 (xm_u2 (xm_u2 (xm_u2 (xm_u2 (xm_u2 A 61 0 ((A 61 0) + (1 : Int32))) 62 (y_ix (A 61 0)) a1) 63 (y_ix (A 61 0)) a2) 64 (y_ix (A 61 0)) a3) 65 (y_ix (A 61 0)) (rf_guardAt a1 a2 (xm_u2 A 61 0 ((A 61 0) + (1 : Int32))))) 66 (y_ix (A 61 0)) (A 52 (y_ix a1))) 67 (y_ix (A 61 0)) (A 0 0)) 68 (y_ix (A 61 0)) (-1 : Int32)) 69 (y_ix (A 61 0)) (0 : Int32)) 70 (y_ix (A 61 0)) (-1 : Int32)) 71 (y_ix (A 61 0)) (0 : Int32)) 72 (y_ix (A 61 0)) (-1 : Int32)) 73 (y_ix (A 61 0)) (0 : Int32)) 74 (y_ix (A 61 0)) (-1 : Int32)) 75 (y_ix (A 61 0)) (0 : Int32)) 76 (y_ix (A 61 0)) (0 : Int32)) 77 (y_ix (A 61 0)) (0 : Int32)) 78 (y_ix (A 61 0)) (0 : Int32)) 79 (y_ix (A 61 0)) (0 : Int32)) 73 (y_ix a3) (((xm_u2 A 73 (y_ix (A 61 0)) (0 : Int32)) 73 (y_ix a3)) + (1 : Int32))))), js)) else (if a3 < (0 : Int32) then ((rf_entered (A 61 0) (rf_guardAt a1 a2 (xm_u2 A 61 0 ((A 61 0) + (1 : Int32)))) (xm_u2 (xm_u2 (xm_u2 (xm_u2 (xm_u2 (xm_u2 (xm_u2 (xm_u2 (xm_u2 (xm_u2 (xm_u2 (xm_u2 (xm_u2 (xm_u2 (xm_u2 (xm_u2 (xm_u2 (xm_u2 (xm_u2 A 61 0 ((A 61 0) + (1 : Int32))) 62 (y_ix (A 61 0)) a1) 63 (y_ix (A 61 0)) a2) 64 (y_ix (A 61 0)) a3) 65 (y_ix (A 61 0)) (rf_guardAt a1 a2 (xm_u2 A 61 0 ((A 61 0) + (1 : Int32))))) 66 (y_ix (A 61 0)) (-1 : Int32)) 67 (y_ix (A 61 0)) (A 0 0)) 68 (y_ix (A 61 0)) (-1 : Int32)) 69 (y_ix (A 61 0)) (0 : Int32)) 70 (y_ix (A 61 0)) (-1 : Int32)) 71 (y_ix (A 61 0)) (0 : Int32)) 72 (y_ix (A 61 0)) (-1 : Int32)) 73 (y_ix (A 61 0)) (0 : Int32)) 74 (y_ix (A 61 0)) (-1 : Int32)) 75 (y_ix (A 61 0)) (0 : Int32)) 76 (y_ix (A 61 0)) (0 : Int32)) 77 (y_ix (A 61 0)) (0 : Int32)) 78 (y_ix (A 61 0)) (0 : Int32)) 79 (y_ix (A 61 0)) (0 : Int32)) js).1, (rf_entered (A 61 0) (rf_guardAt a1 a2 (xm_u2 A 61 0 ((A 61 0) + (1 : Int32)))) (xm_u2 (xm_u2 (xm_u2 (xm_u2 (xm_u2 (xm_u2 (xm_u2 (xm_u2 (xm_u2 (xm_u2 (xm_u2 (xm_u2 (xm_u2 (xm_u2 (xm_u2 (xm_u2 (xm_u2 (xm_u2 (xm_u2 A 61 0 ((A 61 0) + (1 : Int32))) 62 (y_ix (A 61 0)) a1) 63 (y_ix (A 61 0)) a2) 64 (y_ix (A 61 0)) a3) 65 (y_ix (A 61 0)) (rf_guardAt a1 a2 (xm_u2 A 61 0 ((A 61 0) + (1 : Int32))))) 66 (y_ix (A 61 0)) (-1 : Int32)) 67 (y_ix (A 61 0)) (A 0 0)) 68 (y_ix (A 61 0)) (-1 : Int32)) 69 (y_ix (A 61 0)) (0 : Int32)) 70 (y_ix (A 61 0)) (-1 : Int32)) 71 (y_ix (A 61 0)) (0 : Int32)) 72 (y_ix (A 61 0)) (-1 : Int32)) 73 (y_ix (A 61 0)) (0 : Int32)) 74 (y_ix (A 61 0)) (-1 : Int32)) 75 (y_ix (A 61 0)) (0 : Int32)) 76 (y_ix (A 61 0)) (0 : Int32)) 77 (y_ix (A 61 0)) (0 : Int32)) 78 (y_ix (A 61 0)) (0 : Int32)) 79 (y_ix (A 61 0)) (0 : Int32)) js).2) else ((rf_entered (A 61 0) (rf_guardAt a1 a2 (xm_u2 A 61 0 ((A 61 0) + (1 : Int32)))) (xm_u2 (xm_u2 (xm_u2 (xm_u2 (xm_u2 (xm_u2 (xm_u2 (xm_u2 (xm_u2 (xm_u2 (xm_u2 (xm_u2 (xm_u2 (xm_u2 (xm_u2 (xm_u2 (xm_u2 (xm_u2 (xm_u2 (xm_u2 A 61 0 ((A 61 0) + (1 : Int32))) 62 (y_ix (A 61 0)) a1) 63 (y_ix (A 61 0)) a2) 64 (y_ix (A 61 0)) a3) 65 (y_ix (A 61 0)) (rf_guardAt a1 a2 (xm_u2 A 61 0 ((A 61 0) + (1 : Int32))))) 66 (y_ix (A 61 0)) (-1 : Int32)) 67 (y_ix (A 61 0)) (A 0 0)) 68 (y_ix (A 61 0)) (-1 : Int32)) 69 (y_ix (A 61 0)) (0 : Int32)) 70 (y_ix (A 61 0)) (-1 : Int32)) 71 (y_ix (A 61 0)) (0 : Int32)) 72 (y_ix (A 61 0)) (-1 : Int32)) 73 (y_ix (A 61 0)) (0 : Int32)) 74 (y_ix (A 61 0)) (-1 : Int32)) 75 (y_ix (A 61 0)) (0 : Int32)) 76 (y_ix (A 61 0)) (0 : Int32)) 77 (y_ix (A 61 0)) (0 : Int32)) 78 (y_ix (A 61 0)) (0 : Int32)) 79 (y_ix (A 61 0)) (0 : Int32)) 73 (y_ix a3) (((xm_u2 A 73 (y_ix (A 61 0)) (0 : Int32)) 73 (y_ix a3)) + (1 : Int32))) js).1, (rf_entered (A 61 0) (rf_guardAt a1 a2 (xm_u2 A 61 0 ((A 61 0) + (1 : Int32)))) (xm_u2 (xm_u2 (xm_u2 (xm_u2 (xm_u2 (xm_u2 (xm_u2 (xm_u2 (xm_u2 (xm_u2 (xm_u2 (xm_u2 (xm_u2 (xm_u2 (xm_u2 (xm_u2 (xm_u2 (xm_u2 (xm_u2 (xm_u2 A 61 0 ((A 61 0) + (1 : Int32))) 62 (y_ix (A 61 0)) a1) 63 (y_ix (A 61 0)) a2) 64 (y_ix (A 61 0)) a3) 65 (y_ix (A 61 0)) (rf_guardAt a1 a2 (xm_u2 A 61 0 ((A 61 0) + (1 : Int32))))) 66 (y_ix (A 61 0)) (-1 : Int32)) 67 (y_ix (A 61 0)) (A 0 0)) 68 (y_ix (A 61 0)) (-1 : Int32)) 69 (y_ix (A 61 0)) (0 : Int32)) 70 (y_ix (A 61 0)) (-1 : Int32)) 71 (y_ix (A 61 0)) (0 : Int32)) 72 (y_ix (A 61 0)) (-1 : Int32)) 73 (y_ix (A 61 0)) (0 : Int32)) 74 (y_ix (A 61 0)) (-1 : Int32)) 75 (y_ix (A 61 0)) (0 : Int32)) 76 (y_ix (A 61 0)) (0 : Int32)) 77 (y_ix (A 61 0)) (0 : Int32)) 78 (y_ix (A 61 0)) (0 : Int32)) 79 (y_ix (A 61 0)) (0 : Int32)) 73 (y_ix a3) (((xm_u2 A 73 (y_ix (A 61 0)) (0 : Int32)) 73 (y_ix a3)) + (1 : Int32))) js).2))) else (if a3 < (0 : Int32) then ((xm_u2 (xm_u2 (xm_u2 (xm_u2 (xm_u2 (xm_u2 (xm_u2 (xm_u2 (xm_u2 (xm_u2 (xm_u2 (xm_u2 (xm_u2 (xm_u2 (xm_u2 (xm_u2 (xm_u2 (xm_u2 (xm_u2 (xm_u2 A 61 0 ((A 61 0) + (1 : Int32))) 62 (y_ix (A 61 0)) a1) 63 (y_ix (A 61 0)) a2) 64 (y_ix (A 61 0)) a3) 65 (y_ix (A 61 0)) (-1 : Int32)) 66 (y_ix (A 61 0)) a4) 67 (y_ix (A 61 0)) (A 0 0)) 68 (y_ix (A 61 0)) (-1 : Int32)) 69 (y_ix (A 61 0)) (0 : Int32)) 70 (y_ix (A 61 0)) (-1 : Int32)) 71 (y_ix (A 61 0)) (0 : Int32)) 72 (y_ix (A 61 0)) (-1 : Int32)) 73 (y_ix (A 61 0)) (0 : Int32)) 74 (y_ix (A 61 0)) (-1 : Int32)) 75 (y_ix (A 61 0)) (0 : Int32)) 76 (y_ix (A 61 0)) (0 : Int32)) 77 (y_ix (A 61 0)) (0 : Int32)) 78 (y_ix (A 61 0)) (0 : Int32)) 79 (y_ix (A 61 0)) (0 : Int32)) 72 (y_ix (A 61 0)) (rf_tryEnd a4 (A 53 (y_ix a1)) (xm_u2 (xm_u2 (xm_u2 (xm_u2 (xm_u2 (xm_u2 (xm_u2 (xm_u2 (xm_u2 (xm_u2 (xm_u2 (xm_u2 (xm_u2 (xm_u2 (xm_u2 (xm_u2 (xm_u2 (xm_u2 (xm_u2 A 61 0 ((A 61 0) + (1 : Int32))) 62 (y_ix (A 61 0)) a1) 63 (y_ix (A 61 0)) a2) 64 (y_ix (A 61 0)) a3) 65 (y_ix (A 61 0)) (-1 : Int32)) 66 (y_ix (A 61 0)) a4) 67 (y_ix (A 61 0)) (A 0 0)) 68 (y_ix (A 61 0)) (-1 : Int32)) 69 (y_ix (A 61 0)) (0 : Int32)) 70 (y_ix (A 61 0)) (-1 : Int32)) 71 (y_ix (A 61 0)) (0 : Int32)) 72 (y_ix (A 61 0)) (-1 : Int32)) 73 (y_ix (A 61 0)) (0 : Int32)) 74 (y_ix (A 61 0)) (-1 : Int32)) 75 (y_ix (A 61 0)) (0 : Int32)) 76 (y_ix (A 61 0)) (0 : Int32)) 77 (y_ix (A 61 0)) (0 : Int32)) 78 (y_ix (A 61 0)) (0 : Int32)) 79 (y_ix (A 61 0)) (0 : Int32)))), js) else ((xm_u2 (xm_u2 (xm_u2 (xm_u2 (xm_u2 (xm_u2 (xm_u2 (xm_u2 (xm_u2 (xm_u2 (xm_u2 (xm_u2 (xm_u2 (xm_u2 (xm_u2 (xm_u2 (xm_u2 (xm_u2 (xm_u2 (xm_u2 (xm_u2 A 61 0 ((A 61 0) + (1 : Int32))) 62 (y_ix (A 61 0)) a1) 63 (y_ix (A 61 0)) a2) 64 (y_ix (A 61 0)) a3) 65 (y_ix (A 61 0)) (-1 : Int32)) 66 (y_ix (A 61 0)) a4) 67 (y_ix (A 61 0)) (A 0 0)) 68 (y_ix (A 61 0)) (-1 : Int32)) 69 (y_ix (A 61 0)) (0 : Int32)) 70 (y_ix (A 61 0)) (-1 : Int32)) 71 (y_ix (A 61 0)) (0 : Int32)) 72 (y_ix (A 61 0)) (-1 : Int32)) 73 (y_ix (A 61 0)) (0 : Int32)) 74 (y_ix (A 61 0)) (-1 : Int32)) 75 (y_ix (A 61 0)) (0 : Int32)) 76 (y_ix (A 61 0)) (0 : Int32)) 77 (y_ix (A 61 0)) (0 : Int32)) 78 (y_ix (A 61 0)) (0 : Int32)) 79 (y_ix (A 61 0)) (0 : Int32)) 73 (y_ix a3) (((xm_u2 A 73 (y_ix (A 61 0)) (0 : Int32)) 73 (y_ix a3)) + (1 : Int32))) 72 (y_ix (A 61 0)) (rf_tryEnd a4 (A 53 (y_ix a1)) (xm_u2 (xm_u2 (xm_u2 (xm_u2 (xm_u2 (xm_u2 (xm_u2 (xm_u2 (xm_u2 (xm_u2 (xm_u2 (xm_u2 (xm_u2 (xm_u2 (xm_u2 (xm_u2 (xm_u2 (xm_u2 (xm_u2 (xm_u2 A 61 0 ((A 61 0) + (1 : Int32))) 62 (y_ix (A 61 0)) a1) 63 (y_ix (A 61 0)) a2) 64 (y_ix (A 61 0)) a3) 65 (y_ix (A 61 0)) (-1 : Int32)) 66 (y_ix (A 61 0)) a4) 67 (y_ix (A 61 0)) (A 0 0)) 68 (y_ix (A 61 0)) (-1 : Int32)) 69 (y_ix (A 61 0)) (0 : Int32)) 70 (y_ix (A 61 0)) (-1 : Int32)) 71 (y_ix (A 61 0)) (0 : Int32)) 72 (y_ix (A 61 0)) (-1 : Int32)) 73 (y_ix (A 61 0)) (0 : Int32)) 74 (y_ix (A 61 0)) (-1 : Int32)) 75 (y_ix (A 61 0)) (0 : Int32)) 76 (y_ix (A 61 0)) (0 : Int32)) 77 (y_ix (A 61 0)) (0 : Int32)) 78 (y_ix (A 61 0)) (0 : Int32)) 79 (y_ix (A 61 0)) (0 : Int32)) 73 (y_ix a3) (((xm_u2 A 73 (y_ix (A 61 0)) (0 : Int32)) 73 (y_ix a3)) + (1 : Int32))))), js)))
def rg_begins (a1 a2 a3 a4 : Int32) (A : y_A) (js : List y_J) : Prop := ((a4 < (0 : Int32) → (rg_guardAt a1 a2 (xm_u2 A 61 0 ((A 61 0) + (1 : Int32)))) ∧ (y_in (A 61 0) 4400) ∧ (((rf_guardAt a1 a2 (xm_u2 A 61 0 ((A 61 0) + (1 : Int32)))) < (0 : Int32) → (y_in a1 60) ∧ ((a3 < (0 : Int32) → (rg_tryEnd (A 52 (y_ix a1)) (A 53 (y_ix a1)) (xm_u2 (xm_u2 (xm_u2 (xm_u2 (xm_u2 (xm_u2 (xm_u2 (xm_u2 (xm_u2 (xm_u2 (xm_u2 (xm_u2 (xm_u2 (xm_u2 (xm_u2 (xm_u2 (xm_u2 (xm_u2 (xm_u2 A 61 0 ((A 61 0) + (1 : Int32))) 62 (y_ix (A 61 0)) a1) 63 (y_ix (A 61 0)) a2) 64 (y_ix (A 61 0)) a3) 65 (y_ix (A 61 0)) (rf_guardAt a1 a2 (xm_u2 A 61 0 ((A 61 0) + (1 : Int32))))) 66 (y_ix (A 61 0)) (A 52 (y_ix a1))) 67 (y_ix (A 61 0)) (A 0 0)) 68 (y_ix (A 61 0)) (-1 : Int32)) 69 (y_ix (A 61 0)) (0 : Int32)) 70 (y_ix (A 61 0)) (-1 : Int32)) 71 (y_ix (A 61 0)) (0 : Int32)) 72 (y_ix (A 61 0)) (-1 : Int32)) 73 (y_ix (A 61 0)) (0 : Int32)) 74 (y_ix (A 61 0)) (-1 : Int32)) 75 (y_ix (A 61 0)) (0 : Int32)) 76 (y_ix (A 61 0)) (0 : Int32)) 77 (y_ix (A 61 0)) (0 : Int32)) 78 (y_ix (A 61 0)) (0 : Int32)) 79 (y_ix (A 61 0)) (0 : Int32))) ∧ True) ∧ (¬ a3 < (0 : Int32) → (y_in a3 4400) ∧ (rg_tryEnd (A 52 (y_ix a1)) (A 53 (y_ix a1)) (xm_u2 (xm_u2 (xm_u2 (xm_u2 (xm_u2 (xm_u2 (xm_u2 (xm_u2 (xm_u2 (xm_u2 (xm_u2 (xm_u2 (xm_u2 (xm_u2 (xm_u2 (xm_u2 (xm_u2 (xm_u2 (xm_u2 (xm_u2 A 61 0 ((A 61 0) + (1 : Int32))) 62 (y_ix (A 61 0)) a1) 63 (y_ix (A 61 0)) a2) 64 (y_ix (A 61 0)) a3) 65 (y_ix (A 61 0)) (rf_guardAt a1 a2 (xm_u2 A 61 0 ((A 61 0) + (1 : Int32))))) 66 (y_ix (A 61 0)) (A 52 (y_ix a1))) 67 (y_ix (A 61 0)) (A 0 0)) 68 (y_ix (A 61 0)) (-1 : Int32)) 69 (y_ix (A 61 0)) (0 : Int32)) 70 (y_ix (A 61 0)) (-1 : Int32)) 71 (y_ix (A 61 0)) (0 : Int32)) 72 (y_ix (A 61 0)) (-1 : Int32)) 73 (y_ix (A 61 0)) (0 : Int32)) 74 (y_ix (A 61 0)) (-1 : Int32)) 75 (y_ix (A 61 0)) (0 : Int32)) 76 (y_ix (A 61 0)) (0 : Int32)) 77 (y_ix (A 61 0)) (0 : Int32)) 78 (y_ix (A 61 0)) (0 : Int32)) 79 (y_ix (A 61 0)) (0 : Int32)) 73 (y_ix a3) (((xm_u2 A 73 (y_ix (A 61 0)) (0 : Int32)) 73 (y_ix a3)) + (1 : Int32)))) ∧ True))) ∧ (¬ (rf_guardAt a1 a2 (xm_u2 A 61 0 ((A 61 0) + (1 : Int32)))) < (0 : Int32) → ((a3 < (0 : Int32) → (rg_entered (A 61 0) (rf_guardAt a1 a2 (xm_u2 A 61 0 ((A 61 0) + (1 : Int32)))) (xm_u2 (xm_u2 (xm_u2 (xm_u2 (xm_u2 (xm_u2 (xm_u2 (xm_u2 (xm_u2 (xm_u2 (xm_u2 (xm_u2 (xm_u2 (xm_u2 (xm_u2 (xm_u2 (xm_u2 (xm_u2 (xm_u2 A 61 0 ((A 61 0) + (1 : Int32))) 62 (y_ix (A 61 0)) a1) 63 (y_ix (A 61 0)) a2) 64 (y_ix (A 61 0)) a3) 65 (y_ix (A 61 0)) (rf_guardAt a1 a2 (xm_u2 A 61 0 ((A 61 0) + (1 : Int32))))) 66 (y_ix (A 61 0)) (-1 : Int32)) 67 (y_ix (A 61 0)) (A 0 0)) 68 (y_ix (A 61 0)) (-1 : Int32)) 69 (y_ix (A 61 0)) (0 : Int32)) 70 (y_ix (A 61 0)) (-1 : Int32)) 71 (y_ix (A 61 0)) (0 : Int32)) 72 (y_ix (A 61 0)) (-1 : Int32)) 73 (y_ix (A 61 0)) (0 : Int32)) 74 (y_ix (A 61 0)) (-1 : Int32)) 75 (y_ix (A 61 0)) (0 : Int32)) 76 (y_ix (A 61 0)) (0 : Int32)) 77 (y_ix (A 61 0)) (0 : Int32)) 78 (y_ix (A 61 0)) (0 : Int32)) 79 (y_ix (A 61 0)) (0 : Int32)) js) ∧ True) ∧ (¬ a3 < (0 : Int32) → (y_in a3 4400) ∧ (rg_entered (A 61 0) (rf_guardAt a1 a2 (xm_u2 A 61 0 ((A 61 0) + (1 : Int32)))) (xm_u2 (xm_u2 (xm_u2 (xm_u2 (xm_u2 (xm_u2 (xm_u2 (xm_u2 (xm_u2 (xm_u2 (xm_u2 (xm_u2 (xm_u2 (xm_u2 (xm_u2 (xm_u2 (xm_u2 (xm_u2 (xm_u2 (xm_u2 A 61 0 ((A 61 0) + (1 : Int32))) 62 (y_ix (A 61 0)) a1) 63 (y_ix (A 61 0)) a2) 64 (y_ix (A 61 0)) a3) 65 (y_ix (A 61 0)) (rf_guardAt a1 a2 (xm_u2 A 61 0 ((A 61 0) + (1 : Int32))))) 66 (y_ix (A 61 0)) (-1 : Int32)) 67 (y_ix (A 61 0)) (A 0 0)) 68 (y_ix (A 61 0)) (-1 : Int32)) 69 (y_ix (A 61 0)) (0 : Int32)) 70 (y_ix (A 61 0)) (-1 : Int32)) 71 (y_ix (A 61 0)) (0 : Int32)) 72 (y_ix (A 61 0)) (-1 : Int32)) 73 (y_ix (A 61 0)) (0 : Int32)) 74 (y_ix (A 61 0)) (-1 : Int32)) 75 (y_ix (A 61 0)) (0 : Int32)) 76 (y_ix (A 61 0)) (0 : Int32)) 77 (y_ix (A 61 0)) (0 : Int32)) 78 (y_ix (A 61 0)) (0 : Int32)) 79 (y_ix (A 61 0)) (0 : Int32)) 73 (y_ix a3) (((xm_u2 A 73 (y_ix (A 61 0)) (0 : Int32)) 73 (y_ix a3)) + (1 : Int32))) js) ∧ True))))) ∧ (¬ a4 < (0 : Int32) → (y_in (A 61 0) 4400) ∧ ((a3 < (0 : Int32) → (y_in a1 60) ∧ (rg_tryEnd a4 (A 53 (y_ix a1)) (xm_u2 (xm_u2 (xm_u2 (xm_u2 (xm_u2 (xm_u2 (xm_u2 (xm_u2 (xm_u2 (xm_u2 (xm_u2 (xm_u2 (xm_u2 (xm_u2 (xm_u2 (xm_u2 (xm_u2 (xm_u2 (xm_u2 A 61 0 ((A 61 0) + (1 : Int32))) 62 (y_ix (A 61 0)) a1) 63 (y_ix (A 61 0)) a2) 64 (y_ix (A 61 0)) a3) 65 (y_ix (A 61 0)) (-1 : Int32)) 66 (y_ix (A 61 0)) a4) 67 (y_ix (A 61 0)) (A 0 0)) 68 (y_ix (A 61 0)) (-1 : Int32)) 69 (y_ix (A 61 0)) (0 : Int32)) 70 (y_ix (A 61 0)) (-1 : Int32)) 71 (y_ix (A 61 0)) (0 : Int32)) 72 (y_ix (A 61 0)) (-1 : Int32)) 73 (y_ix (A 61 0)) (0 : Int32)) 74 (y_ix (A 61 0)) (-1 : Int32)) 75 (y_ix (A 61 0)) (0 : Int32)) 76 (y_ix (A 61 0)) (0 : Int32)) 77 (y_ix (A 61 0)) (0 : Int32)) 78 (y_ix (A 61 0)) (0 : Int32)) 79 (y_ix (A 61 0)) (0 : Int32))) ∧ True) ∧ (¬ a3 < (0 : Int32) → (y_in a3 4400) ∧ (y_in a1 60) ∧ (rg_tryEnd a4 (A 53 (y_ix a1)) (xm_u2 (xm_u2 (xm_u2 (xm_u2 (xm_u2 (xm_u2 (xm_u2 (xm_u2 (xm_u2 (xm_u2 (xm_u2 (xm_u2 (xm_u2 (xm_u2 (xm_u2 (xm_u2 (xm_u2 (xm_u2 (xm_u2 (xm_u2 A 61 0 ((A 61 0) + (1 : Int32))) 62 (y_ix (A 61 0)) a1) 63 (y_ix (A 61 0)) a2) 64 (y_ix (A 61 0)) a3) 65 (y_ix (A 61 0)) (-1 : Int32)) 66 (y_ix (A 61 0)) a4) 67 (y_ix (A 61 0)) (A 0 0)) 68 (y_ix (A 61 0)) (-1 : Int32)) 69 (y_ix (A 61 0)) (0 : Int32)) 70 (y_ix (A 61 0)) (-1 : Int32)) 71 (y_ix (A 61 0)) (0 : Int32)) 72 (y_ix (A 61 0)) (-1 : Int32)) 73 (y_ix (A 61 0)) (0 : Int32)) 74 (y_ix (A 61 0)) (-1 : Int32)) 75 (y_ix (A 61 0)) (0 : Int32)) 76 (y_ix (A 61 0)) (0 : Int32)) 77 (y_ix (A 61 0)) (0 : Int32)) 78 (y_ix (A 61 0)) (0 : Int32)) 79 (y_ix (A 61 0)) (0 : Int32)) 73 (y_ix a3) (((xm_u2 A 73 (y_ix (A 61 0)) (0 : Int32)) 73 (y_ix a3)) + (1 : Int32)))) ∧ True))))
theorem rh_begins {d : Nat} (hd : 4 ≤ d) {a1 a2 a3 a4 : Int32} {A : y_A} {js : List y_J} (hg : rg_begins a1 a2 a3 a4 A js) : rc d 133 [.inr (some (11, 0)), .inl a1, .inl a2, .inl a3, .inl a4] A js (y_V (rf_begins a1 a2 a3 a4 A js)) := by
  obtain ⟨d, rfl⟩ := Nat.exists_eq_add_of_le' hd
  obtain ⟨F, hk⟩ : ∃ F, rf_begins a1 a2 a3 a4 A js = F := ⟨_, rfl⟩
  rw [hk]
  show ra _ _ _ [some (.inr (some (11, 0))), some (.inl a1), some (.inl a2), some (.inl a3), some (.inl a4), none, none] _ _ _ _
  unfold rg_begins at hg
  unfold rf_begins at hk
  refine ra.s (pc' := 1) (st' := [.inr (some (11, 0))]) (fun _ => rfl) ?_
  refine ra.gi (x := 61) (nx := 4) (v := (A 61 0)) rfl rfl rfl ?_
  refine ra.s (pc' := 6) (L' := [some (.inr (some (11, 0))), some (.inl a1), some (.inl a2), some (.inl a3), some (.inl a4), some (.inl (A 61 0)), none]) (st' := []) (fun _ => rfl) ?_
  refine ra.s (pc' := 7) (st' := [.inr (some (11, 0))]) (fun _ => rfl) ?_
  refine ra.s (pc' := 8) (st' := [.inr (some (11, 0)), .inr (some (11, 0))]) (fun _ => rfl) ?_
  refine ra.gi (x := 61) (nx := 11) (v := (A 61 0)) rfl rfl rfl ?_
  refine ra.s (pc' := 12) (st' := [.inl (1 : Int32), .inl (A 61 0), .inr (some (11, 0))]) (fun _ => rfl) ?_
  refine ra.s (pc' := 13) (st' := [.inl ((A 61 0) + (1 : Int32)), .inr (some (11, 0))]) (fun _ => rfl) ?_
  refine ra.pi (x := 61) (nx := 16) rfl rfl ?_
  refine ra.s (pc' := 18) (st' := [.inl a4]) (fun _ => rfl) ?_
  refine ra.b (c := a4 < (0 : Int32)) (cd := .lt) (x := a4) (y := (0 : Int32)) 25 21 (st' := []) (fun _ => rfl) (y_clt _ _) hk hg (fun h1 hg hk => ?_) (fun h1 hg hk => ?_)
  · skip
    refine ra.s (pc' := 26) (st' := [.inr (some (11, 0))]) (fun _ => rfl) ?_
    refine ra.s (pc' := 27) (st' := [.inl a1, .inr (some (11, 0))]) (fun _ => rfl) ?_
    refine ra.s (pc' := 28) (st' := [.inl a2, .inl a1, .inr (some (11, 0))]) (fun _ => rfl) ?_
    obtain ⟨h2, hg⟩ := hg
    refine ra.cP (f := (rf_guardAt a1 a2 (xm_u2 A 61 0 ((A 61 0) + (1 : Int32))))) (m := 134) (as := [.inr (some (11, 0)), .inl a1, .inl a2]) (nx := 31) (L' := [some (.inr (some (11, 0))), some (.inl a1), some (.inl a2), some (.inl a3), some (.inl a4), some (.inl (A 61 0)), none]) (st' := []) (fun _ => rfl) (rh_guardAt (by omega) h2) ?_
    refine ra.s (pc' := 33) (L' := [some (.inr (some (11, 0))), some (.inl a1), some (.inl a2), some (.inl a3), some (.inl a4), some (.inl (A 61 0)), some (.inl (rf_guardAt a1 a2 (xm_u2 A 61 0 ((A 61 0) + (1 : Int32)))))]) (st' := []) (fun _ => rfl) ?_
    refine ra.s (pc' := 34) (st' := [.inr (some (11, 0))]) (fun _ => rfl) ?_
    refine ra.ga (x := 62) (nx := 37) (c := 13) (i := 50) rfl rfl ?_
    refine ra.s (pc' := 39) (st' := [.inl (A 61 0), .inr (some (13, 50))]) (fun _ => rfl) ?_
    refine ra.s (pc' := 40) (st' := [.inl a1, .inl (A 61 0), .inr (some (13, 50))]) (fun _ => rfl) ?_
    obtain ⟨h3, hg⟩ := hg
    refine ra.si (nx := 41) 62 4400 rfl rfl h3 ?_
    refine ra.s (pc' := 42) (st' := [.inr (some (11, 0))]) (fun _ => rfl) ?_
    refine ra.ga (x := 63) (nx := 45) (c := 13) (i := 51) rfl rfl ?_
    refine ra.s (pc' := 47) (st' := [.inl (A 61 0), .inr (some (13, 51))]) (fun _ => rfl) ?_
    refine ra.s (pc' := 48) (st' := [.inl a2, .inl (A 61 0), .inr (some (13, 51))]) (fun _ => rfl) ?_
    refine ra.si (nx := 49) 63 4400 rfl rfl h3 ?_
    refine ra.s (pc' := 50) (st' := [.inr (some (11, 0))]) (fun _ => rfl) ?_
    refine ra.ga (x := 64) (nx := 53) (c := 13) (i := 52) rfl rfl ?_
    refine ra.s (pc' := 55) (st' := [.inl (A 61 0), .inr (some (13, 52))]) (fun _ => rfl) ?_
    refine ra.s (pc' := 56) (st' := [.inl a3, .inl (A 61 0), .inr (some (13, 52))]) (fun _ => rfl) ?_
    refine ra.si (nx := 57) 64 4400 rfl rfl h3 ?_
    refine ra.s (pc' := 58) (st' := [.inr (some (11, 0))]) (fun _ => rfl) ?_
    refine ra.ga (x := 65) (nx := 61) (c := 13) (i := 53) rfl rfl ?_
    refine ra.s (pc' := 63) (st' := [.inl (A 61 0), .inr (some (13, 53))]) (fun _ => rfl) ?_
    refine ra.s (pc' := 65) (st' := [.inl (rf_guardAt a1 a2 (xm_u2 A 61 0 ((A 61 0) + (1 : Int32)))), .inl (A 61 0), .inr (some (13, 53))]) (fun _ => rfl) ?_
    refine ra.si (nx := 66) 65 4400 rfl rfl h3 ?_
    refine ra.s (pc' := 67) (st' := [.inr (some (11, 0))]) (fun _ => rfl) ?_
    refine ra.ga (x := 66) (nx := 70) (c := 13) (i := 54) rfl rfl ?_
    refine ra.s (pc' := 72) (st' := [.inl (A 61 0), .inr (some (13, 54))]) (fun _ => rfl) ?_
    refine ra.s (pc' := 74) (st' := [.inl (rf_guardAt a1 a2 (xm_u2 A 61 0 ((A 61 0) + (1 : Int32)))), .inl (A 61 0), .inr (some (13, 54))]) (fun _ => rfl) ?_
    refine ra.b (c := (rf_guardAt a1 a2 (xm_u2 A 61 0 ((A 61 0) + (1 : Int32)))) < (0 : Int32)) (cd := .lt) (x := (rf_guardAt a1 a2 (xm_u2 A 61 0 ((A 61 0) + (1 : Int32))))) (y := (0 : Int32)) 81 77 (st' := [.inl (A 61 0), .inr (some (13, 54))]) (fun _ => rfl) (y_clt _ _) hk hg (fun h4 hg hk => ?_) (fun h4 hg hk => ?_)
    · skip
      refine ra.s (pc' := 83) (st' := [.inl a4, .inl (A 61 0), .inr (some (13, 54))]) (fun _ => rfl) ?_
      refine ra.bt (cd := .lt) (x := a4) (y := (0 : Int32)) 91 86 (st' := [.inl (A 61 0), .inr (some (13, 54))]) (fun _ => rfl) (y_clt _ _) h1 ?_
      refine ra.s (pc' := 92) (st' := [.inr (some (11, 0)), .inl (A 61 0), .inr (some (13, 54))]) (fun _ => rfl) ?_
      refine ra.ga (x := 52) (nx := 95) (c := 13) (i := 42) rfl rfl ?_
      refine ra.s (pc' := 96) (st' := [.inl a1, .inr (some (13, 42)), .inl (A 61 0), .inr (some (13, 54))]) (fun _ => rfl) ?_
      obtain ⟨h5, hg⟩ := hg
      refine ra.ld (nx := 97) (v := (A 52 (y_ix a1))) 52 60 rfl rfl h5 rfl ?_
      refine ra.si (nx := 98) 66 4400 rfl rfl h3 ?_
      refine ra.s (pc' := 99) (st' := [.inr (some (11, 0))]) (fun _ => rfl) ?_
      refine ra.ga (x := 67) (nx := 102) (c := 13) (i := 55) rfl rfl ?_
      refine ra.s (pc' := 104) (st' := [.inl (A 61 0), .inr (some (13, 55))]) (fun _ => rfl) ?_
      refine ra.s (pc' := 105) (st' := [.inr (some (11, 0)), .inl (A 61 0), .inr (some (13, 55))]) (fun _ => rfl) ?_
      refine ra.gi (x := 0) (nx := 108) (v := (A 0 0)) rfl rfl rfl ?_
      refine ra.si (nx := 109) 67 4400 rfl rfl h3 ?_
      refine ra.s (pc' := 110) (st' := [.inr (some (11, 0))]) (fun _ => rfl) ?_
      refine ra.ga (x := 68) (nx := 113) (c := 13) (i := 56) rfl rfl ?_
      refine ra.s (pc' := 115) (st' := [.inl (A 61 0), .inr (some (13, 56))]) (fun _ => rfl) ?_
      refine ra.s (pc' := 116) (st' := [.inl (-1 : Int32), .inl (A 61 0), .inr (some (13, 56))]) (fun _ => rfl) ?_
      refine ra.si (nx := 117) 68 4400 rfl rfl h3 ?_
      refine ra.s (pc' := 118) (st' := [.inr (some (11, 0))]) (fun _ => rfl) ?_
      refine ra.ga (x := 69) (nx := 121) (c := 13) (i := 57) rfl rfl ?_
      refine ra.s (pc' := 123) (st' := [.inl (A 61 0), .inr (some (13, 57))]) (fun _ => rfl) ?_
      refine ra.s (pc' := 124) (st' := [.inl (0 : Int32), .inl (A 61 0), .inr (some (13, 57))]) (fun _ => rfl) ?_
      refine ra.si (nx := 125) 69 4400 rfl rfl h3 ?_
      refine ra.s (pc' := 126) (st' := [.inr (some (11, 0))]) (fun _ => rfl) ?_
      refine ra.ga (x := 70) (nx := 129) (c := 13) (i := 58) rfl rfl ?_
      refine ra.s (pc' := 131) (st' := [.inl (A 61 0), .inr (some (13, 58))]) (fun _ => rfl) ?_
      refine ra.s (pc' := 132) (st' := [.inl (-1 : Int32), .inl (A 61 0), .inr (some (13, 58))]) (fun _ => rfl) ?_
      refine ra.si (nx := 133) 70 4400 rfl rfl h3 ?_
      refine ra.s (pc' := 134) (st' := [.inr (some (11, 0))]) (fun _ => rfl) ?_
      refine ra.ga (x := 71) (nx := 137) (c := 14) (i := 1) rfl rfl ?_
      refine ra.s (pc' := 139) (st' := [.inl (A 61 0), .inr (some (14, 1))]) (fun _ => rfl) ?_
      refine ra.s (pc' := 140) (st' := [.inl (0 : Int32), .inl (A 61 0), .inr (some (14, 1))]) (fun _ => rfl) ?_
      refine ra.sz (nx := 141) 71 4400 rfl rfl h3 (Or.inl rfl) ?_
      refine ra.s (pc' := 142) (st' := [.inr (some (11, 0))]) (fun _ => rfl) ?_
      refine ra.ga (x := 72) (nx := 145) (c := 13) (i := 59) rfl rfl ?_
      refine ra.s (pc' := 147) (st' := [.inl (A 61 0), .inr (some (13, 59))]) (fun _ => rfl) ?_
      refine ra.s (pc' := 148) (st' := [.inl (-1 : Int32), .inl (A 61 0), .inr (some (13, 59))]) (fun _ => rfl) ?_
      refine ra.si (nx := 149) 72 4400 rfl rfl h3 ?_
      refine ra.s (pc' := 150) (st' := [.inr (some (11, 0))]) (fun _ => rfl) ?_
      refine ra.ga (x := 73) (nx := 153) (c := 13) (i := 60) rfl rfl ?_
      refine ra.s (pc' := 155) (st' := [.inl (A 61 0), .inr (some (13, 60))]) (fun _ => rfl) ?_
      refine ra.s (pc' := 156) (st' := [.inl (0 : Int32), .inl (A 61 0), .inr (some (13, 60))]) (fun _ => rfl) ?_
      refine ra.si (nx := 157) 73 4400 rfl rfl h3 ?_
      refine ra.s (pc' := 158) (st' := [.inr (some (11, 0))]) (fun _ => rfl) ?_
      refine ra.ga (x := 74) (nx := 161) (c := 13) (i := 61) rfl rfl ?_
      refine ra.s (pc' := 163) (st' := [.inl (A 61 0), .inr (some (13, 61))]) (fun _ => rfl) ?_
      refine ra.s (pc' := 164) (st' := [.inl (-1 : Int32), .inl (A 61 0), .inr (some (13, 61))]) (fun _ => rfl) ?_
      refine ra.si (nx := 165) 74 4400 rfl rfl h3 ?_
      refine ra.s (pc' := 166) (st' := [.inr (some (11, 0))]) (fun _ => rfl) ?_
      refine ra.ga (x := 75) (nx := 169) (c := 14) (i := 2) rfl rfl ?_
      refine ra.s (pc' := 171) (st' := [.inl (A 61 0), .inr (some (14, 2))]) (fun _ => rfl) ?_
      refine ra.s (pc' := 172) (st' := [.inl (0 : Int32), .inl (A 61 0), .inr (some (14, 2))]) (fun _ => rfl) ?_
      refine ra.sz (nx := 173) 75 4400 rfl rfl h3 (Or.inl rfl) ?_
      refine ra.s (pc' := 174) (st' := [.inr (some (11, 0))]) (fun _ => rfl) ?_
      refine ra.ga (x := 76) (nx := 177) (c := 14) (i := 3) rfl rfl ?_
      refine ra.s (pc' := 179) (st' := [.inl (A 61 0), .inr (some (14, 3))]) (fun _ => rfl) ?_
      refine ra.s (pc' := 180) (st' := [.inl (0 : Int32), .inl (A 61 0), .inr (some (14, 3))]) (fun _ => rfl) ?_
      refine ra.sz (nx := 181) 76 4400 rfl rfl h3 (Or.inl rfl) ?_
      refine ra.s (pc' := 182) (st' := [.inr (some (11, 0))]) (fun _ => rfl) ?_
      refine ra.ga (x := 77) (nx := 185) (c := 14) (i := 4) rfl rfl ?_
      refine ra.s (pc' := 187) (st' := [.inl (A 61 0), .inr (some (14, 4))]) (fun _ => rfl) ?_
      refine ra.s (pc' := 188) (st' := [.inl (0 : Int32), .inl (A 61 0), .inr (some (14, 4))]) (fun _ => rfl) ?_
      refine ra.sz (nx := 189) 77 4400 rfl rfl h3 (Or.inl rfl) ?_
      refine ra.s (pc' := 190) (st' := [.inr (some (11, 0))]) (fun _ => rfl) ?_
      refine ra.ga (x := 78) (nx := 193) (c := 14) (i := 5) rfl rfl ?_
      refine ra.s (pc' := 195) (st' := [.inl (A 61 0), .inr (some (14, 5))]) (fun _ => rfl) ?_
      refine ra.s (pc' := 196) (st' := [.inl (0 : Int32), .inl (A 61 0), .inr (some (14, 5))]) (fun _ => rfl) ?_
      refine ra.sz (nx := 197) 78 4400 rfl rfl h3 (Or.inl rfl) ?_
      refine ra.s (pc' := 198) (st' := [.inr (some (11, 0))]) (fun _ => rfl) ?_
      refine ra.ga (x := 79) (nx := 201) (c := 14) (i := 6) rfl rfl ?_
      refine ra.s (pc' := 203) (st' := [.inl (A 61 0), .inr (some (14, 6))]) (fun _ => rfl) ?_
      refine ra.s (pc' := 204) (st' := [.inl (0 : Int32), .inl (A 61 0), .inr (some (14, 6))]) (fun _ => rfl) ?_
      refine ra.sz (nx := 205) 79 4400 rfl rfl h3 (Or.inl rfl) ?_
      refine ra.s (pc' := 206) (st' := [.inl a3]) (fun _ => rfl) ?_
      refine ra.b (c := a3 < (0 : Int32)) (cd := .lt) (x := a3) (y := (0 : Int32)) 219 209 (st' := []) (fun _ => rfl) (y_clt _ _) hk hg (fun h6 hg hk => ?_) (fun h6 hg hk => ?_)
      · skip
        refine ra.s (pc' := 221) (st' := [.inl (rf_guardAt a1 a2 (xm_u2 A 61 0 ((A 61 0) + (1 : Int32))))]) (fun _ => rfl) ?_
        refine ra.bt (cd := .lt) (x := (rf_guardAt a1 a2 (xm_u2 A 61 0 ((A 61 0) + (1 : Int32))))) (y := (0 : Int32)) 235 224 (st' := []) (fun _ => rfl) (y_clt _ _) h4 ?_
        refine ra.s (pc' := 236) (st' := [.inr (some (11, 0))]) (fun _ => rfl) ?_
        refine ra.ga (x := 72) (nx := 239) (c := 13) (i := 59) rfl rfl ?_
        refine ra.s (pc' := 241) (st' := [.inl (A 61 0), .inr (some (13, 59))]) (fun _ => rfl) ?_
        refine ra.s (pc' := 242) (st' := [.inr (some (11, 0)), .inl (A 61 0), .inr (some (13, 59))]) (fun _ => rfl) ?_
        refine ra.s (pc' := 243) (st' := [.inr (some (11, 0)), .inr (some (11, 0)), .inl (A 61 0), .inr (some (13, 59))]) (fun _ => rfl) ?_
        refine ra.ga (x := 66) (nx := 246) (c := 13) (i := 54) rfl rfl ?_
        refine ra.s (pc' := 248) (st' := [.inl (A 61 0), .inr (some (13, 54)), .inr (some (11, 0)), .inl (A 61 0), .inr (some (13, 59))]) (fun _ => rfl) ?_
        refine ra.ld (nx := 249) (v := (A 52 (y_ix a1))) 66 4400 rfl rfl h3 (y_same _ _ _ _) ?_
        refine ra.s (pc' := 250) (st' := [.inr (some (11, 0)), .inl (A 52 (y_ix a1)), .inr (some (11, 0)), .inl (A 61 0), .inr (some (13, 59))]) (fun _ => rfl) ?_
        refine ra.ga (x := 53) (nx := 253) (c := 13) (i := 43) rfl rfl ?_
        refine ra.s (pc' := 254) (st' := [.inl a1, .inr (some (13, 43)), .inl (A 52 (y_ix a1)), .inr (some (11, 0)), .inl (A 61 0), .inr (some (13, 59))]) (fun _ => rfl) ?_
        refine ra.ld (nx := 255) (v := (A 53 (y_ix a1))) 53 60 rfl rfl h5 rfl ?_
        obtain ⟨h7, hg⟩ := hg
        refine ra.cP (f := (rf_tryEnd (A 52 (y_ix a1)) (A 53 (y_ix a1)) (xm_u2 (xm_u2 (xm_u2 (xm_u2 (xm_u2 (xm_u2 (xm_u2 (xm_u2 (xm_u2 (xm_u2 (xm_u2 (xm_u2 (xm_u2 (xm_u2 (xm_u2 (xm_u2 (xm_u2 (xm_u2 (xm_u2 A 61 0 ((A 61 0) + (1 : Int32))) 62 (y_ix (A 61 0)) a1) 63 (y_ix (A 61 0)) a2) 64 (y_ix (A 61 0)) a3) 65 (y_ix (A 61 0)) (rf_guardAt a1 a2 (xm_u2 A 61 0 ((A 61 0) + (1 : Int32))))) 66 (y_ix (A 61 0)) (A 52 (y_ix a1))) 67 (y_ix (A 61 0)) (A 0 0)) 68 (y_ix (A 61 0)) (-1 : Int32)) 69 (y_ix (A 61 0)) (0 : Int32)) 70 (y_ix (A 61 0)) (-1 : Int32)) 71 (y_ix (A 61 0)) (0 : Int32)) 72 (y_ix (A 61 0)) (-1 : Int32)) 73 (y_ix (A 61 0)) (0 : Int32)) 74 (y_ix (A 61 0)) (-1 : Int32)) 75 (y_ix (A 61 0)) (0 : Int32)) 76 (y_ix (A 61 0)) (0 : Int32)) 77 (y_ix (A 61 0)) (0 : Int32)) 78 (y_ix (A 61 0)) (0 : Int32)) 79 (y_ix (A 61 0)) (0 : Int32)))) (m := 139) (as := [.inr (some (11, 0)), .inl (A 52 (y_ix a1)), .inl (A 53 (y_ix a1))]) (nx := 258) (L' := [some (.inr (some (11, 0))), some (.inl a1), some (.inl a2), some (.inl a3), some (.inl a4), some (.inl (A 61 0)), some (.inl (rf_guardAt a1 a2 (xm_u2 A 61 0 ((A 61 0) + (1 : Int32)))))]) (st' := [.inl (A 61 0), .inr (some (13, 59))]) (fun _ => rfl) (rh_tryEnd (by omega) h7) ?_
        refine ra.si (nx := 259) 72 4400 rfl rfl h3 ?_
        subst hk
        exact ra.ret (r := none) (fun _ => rfl) ⟨rfl, rfl, rfl⟩
      · skip
        refine ra.s (pc' := 210) (st' := [.inr (some (11, 0))]) (fun _ => rfl) ?_
        refine ra.ga (x := 73) (nx := 213) (c := 13) (i := 60) rfl rfl ?_
        refine ra.s (pc' := 214) (st' := [.inl a3, .inr (some (13, 60))]) (fun _ => rfl) ?_
        refine ra.s (pc' := 215) (st' := [.inl a3, .inr (some (13, 60)), .inl a3, .inr (some (13, 60))]) (fun _ => rfl) ?_
        obtain ⟨h8, hg⟩ := hg
        refine ra.ld (nx := 216) (v := ((xm_u2 A 73 (y_ix (A 61 0)) (0 : Int32)) 73 (y_ix a3))) 73 4400 rfl rfl h8 rfl ?_
        refine ra.s (pc' := 217) (st' := [.inl (1 : Int32), .inl ((xm_u2 A 73 (y_ix (A 61 0)) (0 : Int32)) 73 (y_ix a3)), .inl a3, .inr (some (13, 60))]) (fun _ => rfl) ?_
        refine ra.s (pc' := 218) (st' := [.inl (((xm_u2 A 73 (y_ix (A 61 0)) (0 : Int32)) 73 (y_ix a3)) + (1 : Int32)), .inl a3, .inr (some (13, 60))]) (fun _ => rfl) ?_
        refine ra.si (nx := 219) 73 4400 rfl rfl h8 ?_
        refine ra.s (pc' := 221) (st' := [.inl (rf_guardAt a1 a2 (xm_u2 A 61 0 ((A 61 0) + (1 : Int32))))]) (fun _ => rfl) ?_
        refine ra.bt (cd := .lt) (x := (rf_guardAt a1 a2 (xm_u2 A 61 0 ((A 61 0) + (1 : Int32))))) (y := (0 : Int32)) 235 224 (st' := []) (fun _ => rfl) (y_clt _ _) h4 ?_
        refine ra.s (pc' := 236) (st' := [.inr (some (11, 0))]) (fun _ => rfl) ?_
        refine ra.ga (x := 72) (nx := 239) (c := 13) (i := 59) rfl rfl ?_
        refine ra.s (pc' := 241) (st' := [.inl (A 61 0), .inr (some (13, 59))]) (fun _ => rfl) ?_
        refine ra.s (pc' := 242) (st' := [.inr (some (11, 0)), .inl (A 61 0), .inr (some (13, 59))]) (fun _ => rfl) ?_
        refine ra.s (pc' := 243) (st' := [.inr (some (11, 0)), .inr (some (11, 0)), .inl (A 61 0), .inr (some (13, 59))]) (fun _ => rfl) ?_
        refine ra.ga (x := 66) (nx := 246) (c := 13) (i := 54) rfl rfl ?_
        refine ra.s (pc' := 248) (st' := [.inl (A 61 0), .inr (some (13, 54)), .inr (some (11, 0)), .inl (A 61 0), .inr (some (13, 59))]) (fun _ => rfl) ?_
        refine ra.ld (nx := 249) (v := (A 52 (y_ix a1))) 66 4400 rfl rfl h3 (y_same _ _ _ _) ?_
        refine ra.s (pc' := 250) (st' := [.inr (some (11, 0)), .inl (A 52 (y_ix a1)), .inr (some (11, 0)), .inl (A 61 0), .inr (some (13, 59))]) (fun _ => rfl) ?_
        refine ra.ga (x := 53) (nx := 253) (c := 13) (i := 43) rfl rfl ?_
        refine ra.s (pc' := 254) (st' := [.inl a1, .inr (some (13, 43)), .inl (A 52 (y_ix a1)), .inr (some (11, 0)), .inl (A 61 0), .inr (some (13, 59))]) (fun _ => rfl) ?_
        refine ra.ld (nx := 255) (v := (A 53 (y_ix a1))) 53 60 rfl rfl h5 rfl ?_
        obtain ⟨h9, hg⟩ := hg
        refine ra.cP (f := (rf_tryEnd (A 52 (y_ix a1)) (A 53 (y_ix a1)) (xm_u2 (xm_u2 (xm_u2 (xm_u2 (xm_u2 (xm_u2 (xm_u2 (xm_u2 (xm_u2 (xm_u2 (xm_u2 (xm_u2 (xm_u2 (xm_u2 (xm_u2 (xm_u2 (xm_u2 (xm_u2 (xm_u2 (xm_u2 A 61 0 ((A 61 0) + (1 : Int32))) 62 (y_ix (A 61 0)) a1) 63 (y_ix (A 61 0)) a2) 64 (y_ix (A 61 0)) a3) 65 (y_ix (A 61 0)) (rf_guardAt a1 a2 (xm_u2 A 61 0 ((A 61 0) + (1 : Int32))))) 66 (y_ix (A 61 0)) (A 52 (y_ix a1))) 67 (y_ix (A 61 0)) (A 0 0)) 68 (y_ix (A 61 0)) (-1 : Int32)) 69 (y_ix (A 61 0)) (0 : Int32)) 70 (y_ix (A 61 0)) (-1 : Int32)) 71 (y_ix (A 61 0)) (0 : Int32)) 72 (y_ix (A 61 0)) (-1 : Int32)) 73 (y_ix (A 61 0)) (0 : Int32)) 74 (y_ix (A 61 0)) (-1 : Int32)) 75 (y_ix (A 61 0)) (0 : Int32)) 76 (y_ix (A 61 0)) (0 : Int32)) 77 (y_ix (A 61 0)) (0 : Int32)) 78 (y_ix (A 61 0)) (0 : Int32)) 79 (y_ix (A 61 0)) (0 : Int32)) 73 (y_ix a3) (((xm_u2 A 73 (y_ix (A 61 0)) (0 : Int32)) 73 (y_ix a3)) + (1 : Int32))))) (m := 139) (as := [.inr (some (11, 0)), .inl (A 52 (y_ix a1)), .inl (A 53 (y_ix a1))]) (nx := 258) (L' := [some (.inr (some (11, 0))), some (.inl a1), some (.inl a2), some (.inl a3), some (.inl a4), some (.inl (A 61 0)), some (.inl (rf_guardAt a1 a2 (xm_u2 A 61 0 ((A 61 0) + (1 : Int32)))))]) (st' := [.inl (A 61 0), .inr (some (13, 59))]) (fun _ => rfl) (rh_tryEnd (by omega) h9) ?_
        refine ra.si (nx := 259) 72 4400 rfl rfl h3 ?_
        subst hk
        exact ra.ret (r := none) (fun _ => rfl) ⟨rfl, rfl, rfl⟩
    · skip
      refine ra.s (pc' := 78) (st' := [.inl (-1 : Int32), .inl (A 61 0), .inr (some (13, 54))]) (fun _ => rfl) ?_
      refine ra.s (pc' := 97) (st' := [.inl (-1 : Int32), .inl (A 61 0), .inr (some (13, 54))]) (fun _ => rfl) ?_
      refine ra.si (nx := 98) 66 4400 rfl rfl h3 ?_
      refine ra.s (pc' := 99) (st' := [.inr (some (11, 0))]) (fun _ => rfl) ?_
      refine ra.ga (x := 67) (nx := 102) (c := 13) (i := 55) rfl rfl ?_
      refine ra.s (pc' := 104) (st' := [.inl (A 61 0), .inr (some (13, 55))]) (fun _ => rfl) ?_
      refine ra.s (pc' := 105) (st' := [.inr (some (11, 0)), .inl (A 61 0), .inr (some (13, 55))]) (fun _ => rfl) ?_
      refine ra.gi (x := 0) (nx := 108) (v := (A 0 0)) rfl rfl rfl ?_
      refine ra.si (nx := 109) 67 4400 rfl rfl h3 ?_
      refine ra.s (pc' := 110) (st' := [.inr (some (11, 0))]) (fun _ => rfl) ?_
      refine ra.ga (x := 68) (nx := 113) (c := 13) (i := 56) rfl rfl ?_
      refine ra.s (pc' := 115) (st' := [.inl (A 61 0), .inr (some (13, 56))]) (fun _ => rfl) ?_
      refine ra.s (pc' := 116) (st' := [.inl (-1 : Int32), .inl (A 61 0), .inr (some (13, 56))]) (fun _ => rfl) ?_
      refine ra.si (nx := 117) 68 4400 rfl rfl h3 ?_
      refine ra.s (pc' := 118) (st' := [.inr (some (11, 0))]) (fun _ => rfl) ?_
      refine ra.ga (x := 69) (nx := 121) (c := 13) (i := 57) rfl rfl ?_
      refine ra.s (pc' := 123) (st' := [.inl (A 61 0), .inr (some (13, 57))]) (fun _ => rfl) ?_
      refine ra.s (pc' := 124) (st' := [.inl (0 : Int32), .inl (A 61 0), .inr (some (13, 57))]) (fun _ => rfl) ?_
      refine ra.si (nx := 125) 69 4400 rfl rfl h3 ?_
      refine ra.s (pc' := 126) (st' := [.inr (some (11, 0))]) (fun _ => rfl) ?_
      refine ra.ga (x := 70) (nx := 129) (c := 13) (i := 58) rfl rfl ?_
      refine ra.s (pc' := 131) (st' := [.inl (A 61 0), .inr (some (13, 58))]) (fun _ => rfl) ?_
      refine ra.s (pc' := 132) (st' := [.inl (-1 : Int32), .inl (A 61 0), .inr (some (13, 58))]) (fun _ => rfl) ?_
      refine ra.si (nx := 133) 70 4400 rfl rfl h3 ?_
      refine ra.s (pc' := 134) (st' := [.inr (some (11, 0))]) (fun _ => rfl) ?_
      refine ra.ga (x := 71) (nx := 137) (c := 14) (i := 1) rfl rfl ?_
      refine ra.s (pc' := 139) (st' := [.inl (A 61 0), .inr (some (14, 1))]) (fun _ => rfl) ?_
      refine ra.s (pc' := 140) (st' := [.inl (0 : Int32), .inl (A 61 0), .inr (some (14, 1))]) (fun _ => rfl) ?_
      refine ra.sz (nx := 141) 71 4400 rfl rfl h3 (Or.inl rfl) ?_
      refine ra.s (pc' := 142) (st' := [.inr (some (11, 0))]) (fun _ => rfl) ?_
      refine ra.ga (x := 72) (nx := 145) (c := 13) (i := 59) rfl rfl ?_
      refine ra.s (pc' := 147) (st' := [.inl (A 61 0), .inr (some (13, 59))]) (fun _ => rfl) ?_
      refine ra.s (pc' := 148) (st' := [.inl (-1 : Int32), .inl (A 61 0), .inr (some (13, 59))]) (fun _ => rfl) ?_
      refine ra.si (nx := 149) 72 4400 rfl rfl h3 ?_
      refine ra.s (pc' := 150) (st' := [.inr (some (11, 0))]) (fun _ => rfl) ?_
      refine ra.ga (x := 73) (nx := 153) (c := 13) (i := 60) rfl rfl ?_
      refine ra.s (pc' := 155) (st' := [.inl (A 61 0), .inr (some (13, 60))]) (fun _ => rfl) ?_
      refine ra.s (pc' := 156) (st' := [.inl (0 : Int32), .inl (A 61 0), .inr (some (13, 60))]) (fun _ => rfl) ?_
      refine ra.si (nx := 157) 73 4400 rfl rfl h3 ?_
      refine ra.s (pc' := 158) (st' := [.inr (some (11, 0))]) (fun _ => rfl) ?_
      refine ra.ga (x := 74) (nx := 161) (c := 13) (i := 61) rfl rfl ?_
      refine ra.s (pc' := 163) (st' := [.inl (A 61 0), .inr (some (13, 61))]) (fun _ => rfl) ?_
      refine ra.s (pc' := 164) (st' := [.inl (-1 : Int32), .inl (A 61 0), .inr (some (13, 61))]) (fun _ => rfl) ?_
      refine ra.si (nx := 165) 74 4400 rfl rfl h3 ?_
      refine ra.s (pc' := 166) (st' := [.inr (some (11, 0))]) (fun _ => rfl) ?_
      refine ra.ga (x := 75) (nx := 169) (c := 14) (i := 2) rfl rfl ?_
      refine ra.s (pc' := 171) (st' := [.inl (A 61 0), .inr (some (14, 2))]) (fun _ => rfl) ?_
      refine ra.s (pc' := 172) (st' := [.inl (0 : Int32), .inl (A 61 0), .inr (some (14, 2))]) (fun _ => rfl) ?_
      refine ra.sz (nx := 173) 75 4400 rfl rfl h3 (Or.inl rfl) ?_
      refine ra.s (pc' := 174) (st' := [.inr (some (11, 0))]) (fun _ => rfl) ?_
      refine ra.ga (x := 76) (nx := 177) (c := 14) (i := 3) rfl rfl ?_
      refine ra.s (pc' := 179) (st' := [.inl (A 61 0), .inr (some (14, 3))]) (fun _ => rfl) ?_
      refine ra.s (pc' := 180) (st' := [.inl (0 : Int32), .inl (A 61 0), .inr (some (14, 3))]) (fun _ => rfl) ?_
      refine ra.sz (nx := 181) 76 4400 rfl rfl h3 (Or.inl rfl) ?_
      refine ra.s (pc' := 182) (st' := [.inr (some (11, 0))]) (fun _ => rfl) ?_
      refine ra.ga (x := 77) (nx := 185) (c := 14) (i := 4) rfl rfl ?_
      refine ra.s (pc' := 187) (st' := [.inl (A 61 0), .inr (some (14, 4))]) (fun _ => rfl) ?_
      refine ra.s (pc' := 188) (st' := [.inl (0 : Int32), .inl (A 61 0), .inr (some (14, 4))]) (fun _ => rfl) ?_
      refine ra.sz (nx := 189) 77 4400 rfl rfl h3 (Or.inl rfl) ?_
      refine ra.s (pc' := 190) (st' := [.inr (some (11, 0))]) (fun _ => rfl) ?_
      refine ra.ga (x := 78) (nx := 193) (c := 14) (i := 5) rfl rfl ?_
      refine ra.s (pc' := 195) (st' := [.inl (A 61 0), .inr (some (14, 5))]) (fun _ => rfl) ?_
      refine ra.s (pc' := 196) (st' := [.inl (0 : Int32), .inl (A 61 0), .inr (some (14, 5))]) (fun _ => rfl) ?_
      refine ra.sz (nx := 197) 78 4400 rfl rfl h3 (Or.inl rfl) ?_
      refine ra.s (pc' := 198) (st' := [.inr (some (11, 0))]) (fun _ => rfl) ?_
      refine ra.ga (x := 79) (nx := 201) (c := 14) (i := 6) rfl rfl ?_
      refine ra.s (pc' := 203) (st' := [.inl (A 61 0), .inr (some (14, 6))]) (fun _ => rfl) ?_
      refine ra.s (pc' := 204) (st' := [.inl (0 : Int32), .inl (A 61 0), .inr (some (14, 6))]) (fun _ => rfl) ?_
      refine ra.sz (nx := 205) 79 4400 rfl rfl h3 (Or.inl rfl) ?_
      refine ra.s (pc' := 206) (st' := [.inl a3]) (fun _ => rfl) ?_
      refine ra.b (c := a3 < (0 : Int32)) (cd := .lt) (x := a3) (y := (0 : Int32)) 219 209 (st' := []) (fun _ => rfl) (y_clt _ _) hk hg (fun h10 hg hk => ?_) (fun h10 hg hk => ?_)
      · skip
        refine ra.s (pc' := 221) (st' := [.inl (rf_guardAt a1 a2 (xm_u2 A 61 0 ((A 61 0) + (1 : Int32))))]) (fun _ => rfl) ?_
        refine ra.bf (cd := .lt) (x := (rf_guardAt a1 a2 (xm_u2 A 61 0 ((A 61 0) + (1 : Int32))))) (y := (0 : Int32)) 235 224 (st' := []) (fun _ => rfl) (y_clt _ _) h4 ?_
        refine ra.s (pc' := 225) (st' := [.inr (some (11, 0))]) (fun _ => rfl) ?_
        refine ra.s (pc' := 227) (st' := [.inl (A 61 0), .inr (some (11, 0))]) (fun _ => rfl) ?_
        refine ra.s (pc' := 229) (st' := [.inl (rf_guardAt a1 a2 (xm_u2 A 61 0 ((A 61 0) + (1 : Int32)))), .inl (A 61 0), .inr (some (11, 0))]) (fun _ => rfl) ?_
        obtain ⟨h11, hg⟩ := hg
        refine ra.cV (F := (rf_entered (A 61 0) (rf_guardAt a1 a2 (xm_u2 A 61 0 ((A 61 0) + (1 : Int32)))) (xm_u2 (xm_u2 (xm_u2 (xm_u2 (xm_u2 (xm_u2 (xm_u2 (xm_u2 (xm_u2 (xm_u2 (xm_u2 (xm_u2 (xm_u2 (xm_u2 (xm_u2 (xm_u2 (xm_u2 (xm_u2 (xm_u2 A 61 0 ((A 61 0) + (1 : Int32))) 62 (y_ix (A 61 0)) a1) 63 (y_ix (A 61 0)) a2) 64 (y_ix (A 61 0)) a3) 65 (y_ix (A 61 0)) (rf_guardAt a1 a2 (xm_u2 A 61 0 ((A 61 0) + (1 : Int32))))) 66 (y_ix (A 61 0)) (-1 : Int32)) 67 (y_ix (A 61 0)) (A 0 0)) 68 (y_ix (A 61 0)) (-1 : Int32)) 69 (y_ix (A 61 0)) (0 : Int32)) 70 (y_ix (A 61 0)) (-1 : Int32)) 71 (y_ix (A 61 0)) (0 : Int32)) 72 (y_ix (A 61 0)) (-1 : Int32)) 73 (y_ix (A 61 0)) (0 : Int32)) 74 (y_ix (A 61 0)) (-1 : Int32)) 75 (y_ix (A 61 0)) (0 : Int32)) 76 (y_ix (A 61 0)) (0 : Int32)) 77 (y_ix (A 61 0)) (0 : Int32)) 78 (y_ix (A 61 0)) (0 : Int32)) 79 (y_ix (A 61 0)) (0 : Int32)) js)) (m := 135) (as := [.inr (some (11, 0)), .inl (A 61 0), .inl (rf_guardAt a1 a2 (xm_u2 A 61 0 ((A 61 0) + (1 : Int32))))]) (nx := 232) (L' := [some (.inr (some (11, 0))), some (.inl a1), some (.inl a2), some (.inl a3), some (.inl a4), some (.inl (A 61 0)), some (.inl (rf_guardAt a1 a2 (xm_u2 A 61 0 ((A 61 0) + (1 : Int32)))))]) (st' := []) (fun _ => rfl) (rh_entered (by omega) h11) ?_
        show ra _ _ _ _ [] (rf_entered (A 61 0) (rf_guardAt a1 a2 (xm_u2 A 61 0 ((A 61 0) + (1 : Int32)))) (xm_u2 (xm_u2 (xm_u2 (xm_u2 (xm_u2 (xm_u2 (xm_u2 (xm_u2 (xm_u2 (xm_u2 (xm_u2 (xm_u2 (xm_u2 (xm_u2 (xm_u2 (xm_u2 (xm_u2 (xm_u2 (xm_u2 A 61 0 ((A 61 0) + (1 : Int32))) 62 (y_ix (A 61 0)) a1) 63 (y_ix (A 61 0)) a2) 64 (y_ix (A 61 0)) a3) 65 (y_ix (A 61 0)) (rf_guardAt a1 a2 (xm_u2 A 61 0 ((A 61 0) + (1 : Int32))))) 66 (y_ix (A 61 0)) (-1 : Int32)) 67 (y_ix (A 61 0)) (A 0 0)) 68 (y_ix (A 61 0)) (-1 : Int32)) 69 (y_ix (A 61 0)) (0 : Int32)) 70 (y_ix (A 61 0)) (-1 : Int32)) 71 (y_ix (A 61 0)) (0 : Int32)) 72 (y_ix (A 61 0)) (-1 : Int32)) 73 (y_ix (A 61 0)) (0 : Int32)) 74 (y_ix (A 61 0)) (-1 : Int32)) 75 (y_ix (A 61 0)) (0 : Int32)) 76 (y_ix (A 61 0)) (0 : Int32)) 77 (y_ix (A 61 0)) (0 : Int32)) 78 (y_ix (A 61 0)) (0 : Int32)) 79 (y_ix (A 61 0)) (0 : Int32)) js).1 (rf_entered (A 61 0) (rf_guardAt a1 a2 (xm_u2 A 61 0 ((A 61 0) + (1 : Int32)))) (xm_u2 (xm_u2 (xm_u2 (xm_u2 (xm_u2 (xm_u2 (xm_u2 (xm_u2 (xm_u2 (xm_u2 (xm_u2 (xm_u2 (xm_u2 (xm_u2 (xm_u2 (xm_u2 (xm_u2 (xm_u2 (xm_u2 A 61 0 ((A 61 0) + (1 : Int32))) 62 (y_ix (A 61 0)) a1) 63 (y_ix (A 61 0)) a2) 64 (y_ix (A 61 0)) a3) 65 (y_ix (A 61 0)) (rf_guardAt a1 a2 (xm_u2 A 61 0 ((A 61 0) + (1 : Int32))))) 66 (y_ix (A 61 0)) (-1 : Int32)) 67 (y_ix (A 61 0)) (A 0 0)) 68 (y_ix (A 61 0)) (-1 : Int32)) 69 (y_ix (A 61 0)) (0 : Int32)) 70 (y_ix (A 61 0)) (-1 : Int32)) 71 (y_ix (A 61 0)) (0 : Int32)) 72 (y_ix (A 61 0)) (-1 : Int32)) 73 (y_ix (A 61 0)) (0 : Int32)) 74 (y_ix (A 61 0)) (-1 : Int32)) 75 (y_ix (A 61 0)) (0 : Int32)) 76 (y_ix (A 61 0)) (0 : Int32)) 77 (y_ix (A 61 0)) (0 : Int32)) 78 (y_ix (A 61 0)) (0 : Int32)) 79 (y_ix (A 61 0)) (0 : Int32)) js).2 _
        refine ra.s (pc' := 259) (st' := []) (fun _ => rfl) ?_
        subst hk
        exact ra.ret (r := none) (fun _ => rfl) ⟨rfl, rfl, rfl⟩
      · skip
        refine ra.s (pc' := 210) (st' := [.inr (some (11, 0))]) (fun _ => rfl) ?_
        refine ra.ga (x := 73) (nx := 213) (c := 13) (i := 60) rfl rfl ?_
        refine ra.s (pc' := 214) (st' := [.inl a3, .inr (some (13, 60))]) (fun _ => rfl) ?_
        refine ra.s (pc' := 215) (st' := [.inl a3, .inr (some (13, 60)), .inl a3, .inr (some (13, 60))]) (fun _ => rfl) ?_
        obtain ⟨h12, hg⟩ := hg
        refine ra.ld (nx := 216) (v := ((xm_u2 A 73 (y_ix (A 61 0)) (0 : Int32)) 73 (y_ix a3))) 73 4400 rfl rfl h12 rfl ?_
        refine ra.s (pc' := 217) (st' := [.inl (1 : Int32), .inl ((xm_u2 A 73 (y_ix (A 61 0)) (0 : Int32)) 73 (y_ix a3)), .inl a3, .inr (some (13, 60))]) (fun _ => rfl) ?_
        refine ra.s (pc' := 218) (st' := [.inl (((xm_u2 A 73 (y_ix (A 61 0)) (0 : Int32)) 73 (y_ix a3)) + (1 : Int32)), .inl a3, .inr (some (13, 60))]) (fun _ => rfl) ?_
        refine ra.si (nx := 219) 73 4400 rfl rfl h12 ?_
        refine ra.s (pc' := 221) (st' := [.inl (rf_guardAt a1 a2 (xm_u2 A 61 0 ((A 61 0) + (1 : Int32))))]) (fun _ => rfl) ?_
        refine ra.bf (cd := .lt) (x := (rf_guardAt a1 a2 (xm_u2 A 61 0 ((A 61 0) + (1 : Int32))))) (y := (0 : Int32)) 235 224 (st' := []) (fun _ => rfl) (y_clt _ _) h4 ?_
        refine ra.s (pc' := 225) (st' := [.inr (some (11, 0))]) (fun _ => rfl) ?_
        refine ra.s (pc' := 227) (st' := [.inl (A 61 0), .inr (some (11, 0))]) (fun _ => rfl) ?_
        refine ra.s (pc' := 229) (st' := [.inl (rf_guardAt a1 a2 (xm_u2 A 61 0 ((A 61 0) + (1 : Int32)))), .inl (A 61 0), .inr (some (11, 0))]) (fun _ => rfl) ?_
        obtain ⟨h13, hg⟩ := hg
        refine ra.cV (F := (rf_entered (A 61 0) (rf_guardAt a1 a2 (xm_u2 A 61 0 ((A 61 0) + (1 : Int32)))) (xm_u2 (xm_u2 (xm_u2 (xm_u2 (xm_u2 (xm_u2 (xm_u2 (xm_u2 (xm_u2 (xm_u2 (xm_u2 (xm_u2 (xm_u2 (xm_u2 (xm_u2 (xm_u2 (xm_u2 (xm_u2 (xm_u2 (xm_u2 A 61 0 ((A 61 0) + (1 : Int32))) 62 (y_ix (A 61 0)) a1) 63 (y_ix (A 61 0)) a2) 64 (y_ix (A 61 0)) a3) 65 (y_ix (A 61 0)) (rf_guardAt a1 a2 (xm_u2 A 61 0 ((A 61 0) + (1 : Int32))))) 66 (y_ix (A 61 0)) (-1 : Int32)) 67 (y_ix (A 61 0)) (A 0 0)) 68 (y_ix (A 61 0)) (-1 : Int32)) 69 (y_ix (A 61 0)) (0 : Int32)) 70 (y_ix (A 61 0)) (-1 : Int32)) 71 (y_ix (A 61 0)) (0 : Int32)) 72 (y_ix (A 61 0)) (-1 : Int32)) 73 (y_ix (A 61 0)) (0 : Int32)) 74 (y_ix (A 61 0)) (-1 : Int32)) 75 (y_ix (A 61 0)) (0 : Int32)) 76 (y_ix (A 61 0)) (0 : Int32)) 77 (y_ix (A 61 0)) (0 : Int32)) 78 (y_ix (A 61 0)) (0 : Int32)) 79 (y_ix (A 61 0)) (0 : Int32)) 73 (y_ix a3) (((xm_u2 A 73 (y_ix (A 61 0)) (0 : Int32)) 73 (y_ix a3)) + (1 : Int32))) js)) (m := 135) (as := [.inr (some (11, 0)), .inl (A 61 0), .inl (rf_guardAt a1 a2 (xm_u2 A 61 0 ((A 61 0) + (1 : Int32))))]) (nx := 232) (L' := [some (.inr (some (11, 0))), some (.inl a1), some (.inl a2), some (.inl a3), some (.inl a4), some (.inl (A 61 0)), some (.inl (rf_guardAt a1 a2 (xm_u2 A 61 0 ((A 61 0) + (1 : Int32)))))]) (st' := []) (fun _ => rfl) (rh_entered (by omega) h13) ?_
        show ra _ _ _ _ [] (rf_entered (A 61 0) (rf_guardAt a1 a2 (xm_u2 A 61 0 ((A 61 0) + (1 : Int32)))) (xm_u2 (xm_u2 (xm_u2 (xm_u2 (xm_u2 (xm_u2 (xm_u2 (xm_u2 (xm_u2 (xm_u2 (xm_u2 (xm_u2 (xm_u2 (xm_u2 (xm_u2 (xm_u2 (xm_u2 (xm_u2 (xm_u2 (xm_u2 A 61 0 ((A 61 0) + (1 : Int32))) 62 (y_ix (A 61 0)) a1) 63 (y_ix (A 61 0)) a2) 64 (y_ix (A 61 0)) a3) 65 (y_ix (A 61 0)) (rf_guardAt a1 a2 (xm_u2 A 61 0 ((A 61 0) + (1 : Int32))))) 66 (y_ix (A 61 0)) (-1 : Int32)) 67 (y_ix (A 61 0)) (A 0 0)) 68 (y_ix (A 61 0)) (-1 : Int32)) 69 (y_ix (A 61 0)) (0 : Int32)) 70 (y_ix (A 61 0)) (-1 : Int32)) 71 (y_ix (A 61 0)) (0 : Int32)) 72 (y_ix (A 61 0)) (-1 : Int32)) 73 (y_ix (A 61 0)) (0 : Int32)) 74 (y_ix (A 61 0)) (-1 : Int32)) 75 (y_ix (A 61 0)) (0 : Int32)) 76 (y_ix (A 61 0)) (0 : Int32)) 77 (y_ix (A 61 0)) (0 : Int32)) 78 (y_ix (A 61 0)) (0 : Int32)) 79 (y_ix (A 61 0)) (0 : Int32)) 73 (y_ix a3) (((xm_u2 A 73 (y_ix (A 61 0)) (0 : Int32)) 73 (y_ix a3)) + (1 : Int32))) js).1 (rf_entered (A 61 0) (rf_guardAt a1 a2 (xm_u2 A 61 0 ((A 61 0) + (1 : Int32)))) (xm_u2 (xm_u2 (xm_u2 (xm_u2 (xm_u2 (xm_u2 (xm_u2 (xm_u2 (xm_u2 (xm_u2 (xm_u2 (xm_u2 (xm_u2 (xm_u2 (xm_u2 (xm_u2 (xm_u2 (xm_u2 (xm_u2 (xm_u2 A 61 0 ((A 61 0) + (1 : Int32))) 62 (y_ix (A 61 0)) a1) 63 (y_ix (A 61 0)) a2) 64 (y_ix (A 61 0)) a3) 65 (y_ix (A 61 0)) (rf_guardAt a1 a2 (xm_u2 A 61 0 ((A 61 0) + (1 : Int32))))) 66 (y_ix (A 61 0)) (-1 : Int32)) 67 (y_ix (A 61 0)) (A 0 0)) 68 (y_ix (A 61 0)) (-1 : Int32)) 69 (y_ix (A 61 0)) (0 : Int32)) 70 (y_ix (A 61 0)) (-1 : Int32)) 71 (y_ix (A 61 0)) (0 : Int32)) 72 (y_ix (A 61 0)) (-1 : Int32)) 73 (y_ix (A 61 0)) (0 : Int32)) 74 (y_ix (A 61 0)) (-1 : Int32)) 75 (y_ix (A 61 0)) (0 : Int32)) 76 (y_ix (A 61 0)) (0 : Int32)) 77 (y_ix (A 61 0)) (0 : Int32)) 78 (y_ix (A 61 0)) (0 : Int32)) 79 (y_ix (A 61 0)) (0 : Int32)) 73 (y_ix a3) (((xm_u2 A 73 (y_ix (A 61 0)) (0 : Int32)) 73 (y_ix a3)) + (1 : Int32))) js).2 _
        refine ra.s (pc' := 259) (st' := []) (fun _ => rfl) ?_
        subst hk
        exact ra.ret (r := none) (fun _ => rfl) ⟨rfl, rfl, rfl⟩
  · skip
    refine ra.s (pc' := 22) (st' := [.inl (-1 : Int32)]) (fun _ => rfl) ?_
    refine ra.s (pc' := 31) (st' := [.inl (-1 : Int32)]) (fun _ => rfl) ?_
    refine ra.s (pc' := 33) (L' := [some (.inr (some (11, 0))), some (.inl a1), some (.inl a2), some (.inl a3), some (.inl a4), some (.inl (A 61 0)), some (.inl (-1 : Int32))]) (st' := []) (fun _ => rfl) ?_
    refine ra.s (pc' := 34) (st' := [.inr (some (11, 0))]) (fun _ => rfl) ?_
    refine ra.ga (x := 62) (nx := 37) (c := 13) (i := 50) rfl rfl ?_
    refine ra.s (pc' := 39) (st' := [.inl (A 61 0), .inr (some (13, 50))]) (fun _ => rfl) ?_
    refine ra.s (pc' := 40) (st' := [.inl a1, .inl (A 61 0), .inr (some (13, 50))]) (fun _ => rfl) ?_
    obtain ⟨h14, hg⟩ := hg
    refine ra.si (nx := 41) 62 4400 rfl rfl h14 ?_
    refine ra.s (pc' := 42) (st' := [.inr (some (11, 0))]) (fun _ => rfl) ?_
    refine ra.ga (x := 63) (nx := 45) (c := 13) (i := 51) rfl rfl ?_
    refine ra.s (pc' := 47) (st' := [.inl (A 61 0), .inr (some (13, 51))]) (fun _ => rfl) ?_
    refine ra.s (pc' := 48) (st' := [.inl a2, .inl (A 61 0), .inr (some (13, 51))]) (fun _ => rfl) ?_
    refine ra.si (nx := 49) 63 4400 rfl rfl h14 ?_
    refine ra.s (pc' := 50) (st' := [.inr (some (11, 0))]) (fun _ => rfl) ?_
    refine ra.ga (x := 64) (nx := 53) (c := 13) (i := 52) rfl rfl ?_
    refine ra.s (pc' := 55) (st' := [.inl (A 61 0), .inr (some (13, 52))]) (fun _ => rfl) ?_
    refine ra.s (pc' := 56) (st' := [.inl a3, .inl (A 61 0), .inr (some (13, 52))]) (fun _ => rfl) ?_
    refine ra.si (nx := 57) 64 4400 rfl rfl h14 ?_
    refine ra.s (pc' := 58) (st' := [.inr (some (11, 0))]) (fun _ => rfl) ?_
    refine ra.ga (x := 65) (nx := 61) (c := 13) (i := 53) rfl rfl ?_
    refine ra.s (pc' := 63) (st' := [.inl (A 61 0), .inr (some (13, 53))]) (fun _ => rfl) ?_
    refine ra.s (pc' := 65) (st' := [.inl (-1 : Int32), .inl (A 61 0), .inr (some (13, 53))]) (fun _ => rfl) ?_
    refine ra.si (nx := 66) 65 4400 rfl rfl h14 ?_
    refine ra.s (pc' := 67) (st' := [.inr (some (11, 0))]) (fun _ => rfl) ?_
    refine ra.ga (x := 66) (nx := 70) (c := 13) (i := 54) rfl rfl ?_
    refine ra.s (pc' := 72) (st' := [.inl (A 61 0), .inr (some (13, 54))]) (fun _ => rfl) ?_
    refine ra.s (pc' := 74) (st' := [.inl (-1 : Int32), .inl (A 61 0), .inr (some (13, 54))]) (fun _ => rfl) ?_
    refine ra.bt (cd := .lt) (x := (-1 : Int32)) (y := (0 : Int32)) 81 77 (st' := [.inl (A 61 0), .inr (some (13, 54))]) (fun _ => rfl) (y_clt _ _) (by decide) ?_
    refine ra.s (pc' := 83) (st' := [.inl a4, .inl (A 61 0), .inr (some (13, 54))]) (fun _ => rfl) ?_
    refine ra.bf (cd := .lt) (x := a4) (y := (0 : Int32)) 91 86 (st' := [.inl (A 61 0), .inr (some (13, 54))]) (fun _ => rfl) (y_clt _ _) h1 ?_
    refine ra.s (pc' := 88) (st' := [.inl a4, .inl (A 61 0), .inr (some (13, 54))]) (fun _ => rfl) ?_
    refine ra.s (pc' := 97) (st' := [.inl a4, .inl (A 61 0), .inr (some (13, 54))]) (fun _ => rfl) ?_
    refine ra.si (nx := 98) 66 4400 rfl rfl h14 ?_
    refine ra.s (pc' := 99) (st' := [.inr (some (11, 0))]) (fun _ => rfl) ?_
    refine ra.ga (x := 67) (nx := 102) (c := 13) (i := 55) rfl rfl ?_
    refine ra.s (pc' := 104) (st' := [.inl (A 61 0), .inr (some (13, 55))]) (fun _ => rfl) ?_
    refine ra.s (pc' := 105) (st' := [.inr (some (11, 0)), .inl (A 61 0), .inr (some (13, 55))]) (fun _ => rfl) ?_
    refine ra.gi (x := 0) (nx := 108) (v := (A 0 0)) rfl rfl rfl ?_
    refine ra.si (nx := 109) 67 4400 rfl rfl h14 ?_
    refine ra.s (pc' := 110) (st' := [.inr (some (11, 0))]) (fun _ => rfl) ?_
    refine ra.ga (x := 68) (nx := 113) (c := 13) (i := 56) rfl rfl ?_
    refine ra.s (pc' := 115) (st' := [.inl (A 61 0), .inr (some (13, 56))]) (fun _ => rfl) ?_
    refine ra.s (pc' := 116) (st' := [.inl (-1 : Int32), .inl (A 61 0), .inr (some (13, 56))]) (fun _ => rfl) ?_
    refine ra.si (nx := 117) 68 4400 rfl rfl h14 ?_
    refine ra.s (pc' := 118) (st' := [.inr (some (11, 0))]) (fun _ => rfl) ?_
    refine ra.ga (x := 69) (nx := 121) (c := 13) (i := 57) rfl rfl ?_
    refine ra.s (pc' := 123) (st' := [.inl (A 61 0), .inr (some (13, 57))]) (fun _ => rfl) ?_
    refine ra.s (pc' := 124) (st' := [.inl (0 : Int32), .inl (A 61 0), .inr (some (13, 57))]) (fun _ => rfl) ?_
    refine ra.si (nx := 125) 69 4400 rfl rfl h14 ?_
    refine ra.s (pc' := 126) (st' := [.inr (some (11, 0))]) (fun _ => rfl) ?_
    refine ra.ga (x := 70) (nx := 129) (c := 13) (i := 58) rfl rfl ?_
    refine ra.s (pc' := 131) (st' := [.inl (A 61 0), .inr (some (13, 58))]) (fun _ => rfl) ?_
    refine ra.s (pc' := 132) (st' := [.inl (-1 : Int32), .inl (A 61 0), .inr (some (13, 58))]) (fun _ => rfl) ?_
    refine ra.si (nx := 133) 70 4400 rfl rfl h14 ?_
    refine ra.s (pc' := 134) (st' := [.inr (some (11, 0))]) (fun _ => rfl) ?_
    refine ra.ga (x := 71) (nx := 137) (c := 14) (i := 1) rfl rfl ?_
    refine ra.s (pc' := 139) (st' := [.inl (A 61 0), .inr (some (14, 1))]) (fun _ => rfl) ?_
    refine ra.s (pc' := 140) (st' := [.inl (0 : Int32), .inl (A 61 0), .inr (some (14, 1))]) (fun _ => rfl) ?_
    refine ra.sz (nx := 141) 71 4400 rfl rfl h14 (Or.inl rfl) ?_
    refine ra.s (pc' := 142) (st' := [.inr (some (11, 0))]) (fun _ => rfl) ?_
    refine ra.ga (x := 72) (nx := 145) (c := 13) (i := 59) rfl rfl ?_
    refine ra.s (pc' := 147) (st' := [.inl (A 61 0), .inr (some (13, 59))]) (fun _ => rfl) ?_
    refine ra.s (pc' := 148) (st' := [.inl (-1 : Int32), .inl (A 61 0), .inr (some (13, 59))]) (fun _ => rfl) ?_
    refine ra.si (nx := 149) 72 4400 rfl rfl h14 ?_
    refine ra.s (pc' := 150) (st' := [.inr (some (11, 0))]) (fun _ => rfl) ?_
    refine ra.ga (x := 73) (nx := 153) (c := 13) (i := 60) rfl rfl ?_
    refine ra.s (pc' := 155) (st' := [.inl (A 61 0), .inr (some (13, 60))]) (fun _ => rfl) ?_
    refine ra.s (pc' := 156) (st' := [.inl (0 : Int32), .inl (A 61 0), .inr (some (13, 60))]) (fun _ => rfl) ?_
    refine ra.si (nx := 157) 73 4400 rfl rfl h14 ?_
    refine ra.s (pc' := 158) (st' := [.inr (some (11, 0))]) (fun _ => rfl) ?_
    refine ra.ga (x := 74) (nx := 161) (c := 13) (i := 61) rfl rfl ?_
    refine ra.s (pc' := 163) (st' := [.inl (A 61 0), .inr (some (13, 61))]) (fun _ => rfl) ?_
    refine ra.s (pc' := 164) (st' := [.inl (-1 : Int32), .inl (A 61 0), .inr (some (13, 61))]) (fun _ => rfl) ?_
    refine ra.si (nx := 165) 74 4400 rfl rfl h14 ?_
    refine ra.s (pc' := 166) (st' := [.inr (some (11, 0))]) (fun _ => rfl) ?_
    refine ra.ga (x := 75) (nx := 169) (c := 14) (i := 2) rfl rfl ?_
    refine ra.s (pc' := 171) (st' := [.inl (A 61 0), .inr (some (14, 2))]) (fun _ => rfl) ?_
    refine ra.s (pc' := 172) (st' := [.inl (0 : Int32), .inl (A 61 0), .inr (some (14, 2))]) (fun _ => rfl) ?_
    refine ra.sz (nx := 173) 75 4400 rfl rfl h14 (Or.inl rfl) ?_
    refine ra.s (pc' := 174) (st' := [.inr (some (11, 0))]) (fun _ => rfl) ?_
    refine ra.ga (x := 76) (nx := 177) (c := 14) (i := 3) rfl rfl ?_
    refine ra.s (pc' := 179) (st' := [.inl (A 61 0), .inr (some (14, 3))]) (fun _ => rfl) ?_
    refine ra.s (pc' := 180) (st' := [.inl (0 : Int32), .inl (A 61 0), .inr (some (14, 3))]) (fun _ => rfl) ?_
    refine ra.sz (nx := 181) 76 4400 rfl rfl h14 (Or.inl rfl) ?_
    refine ra.s (pc' := 182) (st' := [.inr (some (11, 0))]) (fun _ => rfl) ?_
    refine ra.ga (x := 77) (nx := 185) (c := 14) (i := 4) rfl rfl ?_
    refine ra.s (pc' := 187) (st' := [.inl (A 61 0), .inr (some (14, 4))]) (fun _ => rfl) ?_
    refine ra.s (pc' := 188) (st' := [.inl (0 : Int32), .inl (A 61 0), .inr (some (14, 4))]) (fun _ => rfl) ?_
    refine ra.sz (nx := 189) 77 4400 rfl rfl h14 (Or.inl rfl) ?_
    refine ra.s (pc' := 190) (st' := [.inr (some (11, 0))]) (fun _ => rfl) ?_
    refine ra.ga (x := 78) (nx := 193) (c := 14) (i := 5) rfl rfl ?_
    refine ra.s (pc' := 195) (st' := [.inl (A 61 0), .inr (some (14, 5))]) (fun _ => rfl) ?_
    refine ra.s (pc' := 196) (st' := [.inl (0 : Int32), .inl (A 61 0), .inr (some (14, 5))]) (fun _ => rfl) ?_
    refine ra.sz (nx := 197) 78 4400 rfl rfl h14 (Or.inl rfl) ?_
    refine ra.s (pc' := 198) (st' := [.inr (some (11, 0))]) (fun _ => rfl) ?_
    refine ra.ga (x := 79) (nx := 201) (c := 14) (i := 6) rfl rfl ?_
    refine ra.s (pc' := 203) (st' := [.inl (A 61 0), .inr (some (14, 6))]) (fun _ => rfl) ?_
    refine ra.s (pc' := 204) (st' := [.inl (0 : Int32), .inl (A 61 0), .inr (some (14, 6))]) (fun _ => rfl) ?_
    refine ra.sz (nx := 205) 79 4400 rfl rfl h14 (Or.inl rfl) ?_
    refine ra.s (pc' := 206) (st' := [.inl a3]) (fun _ => rfl) ?_
    refine ra.b (c := a3 < (0 : Int32)) (cd := .lt) (x := a3) (y := (0 : Int32)) 219 209 (st' := []) (fun _ => rfl) (y_clt _ _) hk hg (fun h15 hg hk => ?_) (fun h15 hg hk => ?_)
    · skip
      refine ra.s (pc' := 221) (st' := [.inl (-1 : Int32)]) (fun _ => rfl) ?_
      refine ra.bt (cd := .lt) (x := (-1 : Int32)) (y := (0 : Int32)) 235 224 (st' := []) (fun _ => rfl) (y_clt _ _) (by decide) ?_
      refine ra.s (pc' := 236) (st' := [.inr (some (11, 0))]) (fun _ => rfl) ?_
      refine ra.ga (x := 72) (nx := 239) (c := 13) (i := 59) rfl rfl ?_
      refine ra.s (pc' := 241) (st' := [.inl (A 61 0), .inr (some (13, 59))]) (fun _ => rfl) ?_
      refine ra.s (pc' := 242) (st' := [.inr (some (11, 0)), .inl (A 61 0), .inr (some (13, 59))]) (fun _ => rfl) ?_
      refine ra.s (pc' := 243) (st' := [.inr (some (11, 0)), .inr (some (11, 0)), .inl (A 61 0), .inr (some (13, 59))]) (fun _ => rfl) ?_
      refine ra.ga (x := 66) (nx := 246) (c := 13) (i := 54) rfl rfl ?_
      refine ra.s (pc' := 248) (st' := [.inl (A 61 0), .inr (some (13, 54)), .inr (some (11, 0)), .inl (A 61 0), .inr (some (13, 59))]) (fun _ => rfl) ?_
      refine ra.ld (nx := 249) (v := a4) 66 4400 rfl rfl h14 (y_same _ _ _ _) ?_
      refine ra.s (pc' := 250) (st' := [.inr (some (11, 0)), .inl a4, .inr (some (11, 0)), .inl (A 61 0), .inr (some (13, 59))]) (fun _ => rfl) ?_
      refine ra.ga (x := 53) (nx := 253) (c := 13) (i := 43) rfl rfl ?_
      refine ra.s (pc' := 254) (st' := [.inl a1, .inr (some (13, 43)), .inl a4, .inr (some (11, 0)), .inl (A 61 0), .inr (some (13, 59))]) (fun _ => rfl) ?_
      obtain ⟨h16, hg⟩ := hg
      refine ra.ld (nx := 255) (v := (A 53 (y_ix a1))) 53 60 rfl rfl h16 rfl ?_
      obtain ⟨h17, hg⟩ := hg
      refine ra.cP (f := (rf_tryEnd a4 (A 53 (y_ix a1)) (xm_u2 (xm_u2 (xm_u2 (xm_u2 (xm_u2 (xm_u2 (xm_u2 (xm_u2 (xm_u2 (xm_u2 (xm_u2 (xm_u2 (xm_u2 (xm_u2 (xm_u2 (xm_u2 (xm_u2 (xm_u2 (xm_u2 A 61 0 ((A 61 0) + (1 : Int32))) 62 (y_ix (A 61 0)) a1) 63 (y_ix (A 61 0)) a2) 64 (y_ix (A 61 0)) a3) 65 (y_ix (A 61 0)) (-1 : Int32)) 66 (y_ix (A 61 0)) a4) 67 (y_ix (A 61 0)) (A 0 0)) 68 (y_ix (A 61 0)) (-1 : Int32)) 69 (y_ix (A 61 0)) (0 : Int32)) 70 (y_ix (A 61 0)) (-1 : Int32)) 71 (y_ix (A 61 0)) (0 : Int32)) 72 (y_ix (A 61 0)) (-1 : Int32)) 73 (y_ix (A 61 0)) (0 : Int32)) 74 (y_ix (A 61 0)) (-1 : Int32)) 75 (y_ix (A 61 0)) (0 : Int32)) 76 (y_ix (A 61 0)) (0 : Int32)) 77 (y_ix (A 61 0)) (0 : Int32)) 78 (y_ix (A 61 0)) (0 : Int32)) 79 (y_ix (A 61 0)) (0 : Int32)))) (m := 139) (as := [.inr (some (11, 0)), .inl a4, .inl (A 53 (y_ix a1))]) (nx := 258) (L' := [some (.inr (some (11, 0))), some (.inl a1), some (.inl a2), some (.inl a3), some (.inl a4), some (.inl (A 61 0)), some (.inl (-1 : Int32))]) (st' := [.inl (A 61 0), .inr (some (13, 59))]) (fun _ => rfl) (rh_tryEnd (by omega) h17) ?_
      refine ra.si (nx := 259) 72 4400 rfl rfl h14 ?_
      subst hk
      exact ra.ret (r := none) (fun _ => rfl) ⟨rfl, rfl, rfl⟩
    · skip
      refine ra.s (pc' := 210) (st' := [.inr (some (11, 0))]) (fun _ => rfl) ?_
      refine ra.ga (x := 73) (nx := 213) (c := 13) (i := 60) rfl rfl ?_
      refine ra.s (pc' := 214) (st' := [.inl a3, .inr (some (13, 60))]) (fun _ => rfl) ?_
      refine ra.s (pc' := 215) (st' := [.inl a3, .inr (some (13, 60)), .inl a3, .inr (some (13, 60))]) (fun _ => rfl) ?_
      obtain ⟨h18, hg⟩ := hg
      refine ra.ld (nx := 216) (v := ((xm_u2 A 73 (y_ix (A 61 0)) (0 : Int32)) 73 (y_ix a3))) 73 4400 rfl rfl h18 rfl ?_
      refine ra.s (pc' := 217) (st' := [.inl (1 : Int32), .inl ((xm_u2 A 73 (y_ix (A 61 0)) (0 : Int32)) 73 (y_ix a3)), .inl a3, .inr (some (13, 60))]) (fun _ => rfl) ?_
      refine ra.s (pc' := 218) (st' := [.inl (((xm_u2 A 73 (y_ix (A 61 0)) (0 : Int32)) 73 (y_ix a3)) + (1 : Int32)), .inl a3, .inr (some (13, 60))]) (fun _ => rfl) ?_
      refine ra.si (nx := 219) 73 4400 rfl rfl h18 ?_
      refine ra.s (pc' := 221) (st' := [.inl (-1 : Int32)]) (fun _ => rfl) ?_
      refine ra.bt (cd := .lt) (x := (-1 : Int32)) (y := (0 : Int32)) 235 224 (st' := []) (fun _ => rfl) (y_clt _ _) (by decide) ?_
      refine ra.s (pc' := 236) (st' := [.inr (some (11, 0))]) (fun _ => rfl) ?_
      refine ra.ga (x := 72) (nx := 239) (c := 13) (i := 59) rfl rfl ?_
      refine ra.s (pc' := 241) (st' := [.inl (A 61 0), .inr (some (13, 59))]) (fun _ => rfl) ?_
      refine ra.s (pc' := 242) (st' := [.inr (some (11, 0)), .inl (A 61 0), .inr (some (13, 59))]) (fun _ => rfl) ?_
      refine ra.s (pc' := 243) (st' := [.inr (some (11, 0)), .inr (some (11, 0)), .inl (A 61 0), .inr (some (13, 59))]) (fun _ => rfl) ?_
      refine ra.ga (x := 66) (nx := 246) (c := 13) (i := 54) rfl rfl ?_
      refine ra.s (pc' := 248) (st' := [.inl (A 61 0), .inr (some (13, 54)), .inr (some (11, 0)), .inl (A 61 0), .inr (some (13, 59))]) (fun _ => rfl) ?_
      refine ra.ld (nx := 249) (v := a4) 66 4400 rfl rfl h14 (y_same _ _ _ _) ?_
      refine ra.s (pc' := 250) (st' := [.inr (some (11, 0)), .inl a4, .inr (some (11, 0)), .inl (A 61 0), .inr (some (13, 59))]) (fun _ => rfl) ?_
      refine ra.ga (x := 53) (nx := 253) (c := 13) (i := 43) rfl rfl ?_
      refine ra.s (pc' := 254) (st' := [.inl a1, .inr (some (13, 43)), .inl a4, .inr (some (11, 0)), .inl (A 61 0), .inr (some (13, 59))]) (fun _ => rfl) ?_
      obtain ⟨h19, hg⟩ := hg
      refine ra.ld (nx := 255) (v := (A 53 (y_ix a1))) 53 60 rfl rfl h19 rfl ?_
      obtain ⟨h20, hg⟩ := hg
      refine ra.cP (f := (rf_tryEnd a4 (A 53 (y_ix a1)) (xm_u2 (xm_u2 (xm_u2 (xm_u2 (xm_u2 (xm_u2 (xm_u2 (xm_u2 (xm_u2 (xm_u2 (xm_u2 (xm_u2 (xm_u2 (xm_u2 (xm_u2 (xm_u2 (xm_u2 (xm_u2 (xm_u2 (xm_u2 A 61 0 ((A 61 0) + (1 : Int32))) 62 (y_ix (A 61 0)) a1) 63 (y_ix (A 61 0)) a2) 64 (y_ix (A 61 0)) a3) 65 (y_ix (A 61 0)) (-1 : Int32)) 66 (y_ix (A 61 0)) a4) 67 (y_ix (A 61 0)) (A 0 0)) 68 (y_ix (A 61 0)) (-1 : Int32)) 69 (y_ix (A 61 0)) (0 : Int32)) 70 (y_ix (A 61 0)) (-1 : Int32)) 71 (y_ix (A 61 0)) (0 : Int32)) 72 (y_ix (A 61 0)) (-1 : Int32)) 73 (y_ix (A 61 0)) (0 : Int32)) 74 (y_ix (A 61 0)) (-1 : Int32)) 75 (y_ix (A 61 0)) (0 : Int32)) 76 (y_ix (A 61 0)) (0 : Int32)) 77 (y_ix (A 61 0)) (0 : Int32)) 78 (y_ix (A 61 0)) (0 : Int32)) 79 (y_ix (A 61 0)) (0 : Int32)) 73 (y_ix a3) (((xm_u2 A 73 (y_ix (A 61 0)) (0 : Int32)) 73 (y_ix a3)) + (1 : Int32))))) (m := 139) (as := [.inr (some (11, 0)), .inl a4, .inl (A 53 (y_ix a1))]) (nx := 258) (L' := [some (.inr (some (11, 0))), some (.inl a1), some (.inl a2), some (.inl a3), some (.inl a4), some (.inl (A 61 0)), some (.inl (-1 : Int32))]) (st' := [.inl (A 61 0), .inr (some (13, 59))]) (fun _ => rfl) (rh_tryEnd (by omega) h20) ?_
      refine ra.si (nx := 259) 72 4400 rfl rfl h14 ?_
      subst hk
      exact ra.ret (r := none) (fun _ => rfl) ⟨rfl, rfl, rfl⟩
/-- opens -/
def rf_opens (a1 a2 : Int32) (A : y_A) : y_A := (xm_u2 (xm_u2 A 36 (y_ix a1) (1 : Int32)) 38 (y_ix a1) a2)
def rg_opens (a1 a2 : Int32) (A : y_A) : Prop := (y_in a1 24) ∧ True
theorem rh_opens {d : Nat} (hd : 0 ≤ d) {a1 a2 : Int32} {A : y_A} {js : List y_J} (hg : rg_opens a1 a2 A) : rc d 144 [.inr (some (11, 0)), .inl a1, .inl a2] A js (y_V ((rf_opens a1 a2 A), js)) := by
  obtain ⟨F, hk⟩ : ∃ F, rf_opens a1 a2 A = F := ⟨_, rfl⟩
  rw [hk]
  show ra _ _ _ [some (.inr (some (11, 0))), some (.inl a1), some (.inl a2)] _ _ _ _
  unfold rg_opens at hg
  unfold rf_opens at hk
  refine ra.s (pc' := 1) (st' := [.inr (some (11, 0))]) (fun _ => rfl) ?_
  refine ra.ga (x := 36) (nx := 4) (c := 13) (i := 29) rfl rfl ?_
  refine ra.s (pc' := 5) (st' := [.inl a1, .inr (some (13, 29))]) (fun _ => rfl) ?_
  refine ra.s (pc' := 6) (st' := [.inl (1 : Int32), .inl a1, .inr (some (13, 29))]) (fun _ => rfl) ?_
  obtain ⟨h1, hg⟩ := hg
  refine ra.si (nx := 7) 36 24 rfl rfl h1 ?_
  refine ra.s (pc' := 8) (st' := [.inr (some (11, 0))]) (fun _ => rfl) ?_
  refine ra.ga (x := 38) (nx := 11) (c := 13) (i := 31) rfl rfl ?_
  refine ra.s (pc' := 12) (st' := [.inl a1, .inr (some (13, 31))]) (fun _ => rfl) ?_
  refine ra.s (pc' := 13) (st' := [.inl a2, .inl a1, .inr (some (13, 31))]) (fun _ => rfl) ?_
  refine ra.si (nx := 14) 38 24 rfl rfl h1 ?_
  subst hk
  exact ra.ret (r := none) (fun _ => rfl) ⟨rfl, rfl, rfl⟩
/-- fuseTold -/
def rf_fuseTold (a1 a2 a3 : Int32) (A : y_A) : y_A := (if (A 79 (y_ix a1)) = (0 : Int32) then (if (A 36 (y_ix a3)) = (0 : Int32) then (if (rf_isNamed a2 a3 A) = (0 : Int32) then (xm_u2 A 37 (y_ix a3) (0 : Int32)) else (if ((A 37 (y_ix a3)) + (1 : Int32)) = (A 32 (y_ix a3)) then (xm_u2 (xm_u2 (xm_u2 A 37 (y_ix a3) ((A 37 (y_ix a3)) + (1 : Int32))) 36 (y_ix a3) (1 : Int32)) 38 (y_ix a3) ((A 0 0) + (A 33 (y_ix a3)))) else (xm_u2 A 37 (y_ix a3) ((A 37 (y_ix a3)) + (1 : Int32))))) else A) else (if (rf_isNamed a2 a3 A) = (0 : Int32) then (xm_u2 (xm_u2 A 36 (y_ix a3) (0 : Int32)) 37 (y_ix a3) (0 : Int32)) else (xm_u2 (xm_u2 A 36 (y_ix a3) (1 : Int32)) 38 (y_ix a3) ((A 0 0) + (A 33 (y_ix a3))))))
def rg_fuseTold (a1 a2 a3 : Int32) (A : y_A) : Prop := (rg_isNamed a2 a3 A) ∧ (y_in a1 4400) ∧ (((A 79 (y_ix a1)) = (0 : Int32) → (y_in a3 24) ∧ (((A 36 (y_ix a3)) = (0 : Int32) → (((rf_isNamed a2 a3 A) = (0 : Int32) → True) ∧ (¬ (rf_isNamed a2 a3 A) = (0 : Int32) → ((((A 37 (y_ix a3)) + (1 : Int32)) = (A 32 (y_ix a3)) → (rg_opens a3 ((A 0 0) + (A 33 (y_ix a3))) (xm_u2 A 37 (y_ix a3) ((A 37 (y_ix a3)) + (1 : Int32)))) ∧ True) ∧ (¬ ((A 37 (y_ix a3)) + (1 : Int32)) = (A 32 (y_ix a3)) → True))))) ∧ (¬ (A 36 (y_ix a3)) = (0 : Int32) → True))) ∧ (¬ (A 79 (y_ix a1)) = (0 : Int32) → (((rf_isNamed a2 a3 A) = (0 : Int32) → (y_in a3 24) ∧ True) ∧ (¬ (rf_isNamed a2 a3 A) = (0 : Int32) → (y_in a3 24) ∧ (rg_opens a3 ((A 0 0) + (A 33 (y_ix a3))) A) ∧ True))))
theorem rh_fuseTold {d : Nat} (hd : 3 ≤ d) {a1 a2 a3 : Int32} {A : y_A} {js : List y_J} (hg : rg_fuseTold a1 a2 a3 A) : rc d 142 [.inr (some (11, 0)), .inl a1, .inl a2, .inl a3] A js (y_V ((rf_fuseTold a1 a2 a3 A), js)) := by
  obtain ⟨d, rfl⟩ := Nat.exists_eq_add_of_le' hd
  obtain ⟨F, hk⟩ : ∃ F, rf_fuseTold a1 a2 a3 A = F := ⟨_, rfl⟩
  rw [hk]
  show ra _ _ _ [some (.inr (some (11, 0))), some (.inl a1), some (.inl a2), some (.inl a3), none] _ _ _ _
  unfold rg_fuseTold at hg
  unfold rf_fuseTold at hk
  refine ra.s (pc' := 1) (st' := [.inr (some (11, 0))]) (fun _ => rfl) ?_
  refine ra.s (pc' := 2) (st' := [.inl a2, .inr (some (11, 0))]) (fun _ => rfl) ?_
  refine ra.s (pc' := 3) (st' := [.inl a3, .inl a2, .inr (some (11, 0))]) (fun _ => rfl) ?_
  obtain ⟨h1, hg⟩ := hg
  refine ra.cP (f := (rf_isNamed a2 a3 A)) (m := 143) (as := [.inr (some (11, 0)), .inl a2, .inl a3]) (nx := 6) (L' := [some (.inr (some (11, 0))), some (.inl a1), some (.inl a2), some (.inl a3), none]) (st' := []) (fun _ => rfl) (rh_isNamed (by omega) h1) ?_
  refine ra.s (pc' := 8) (L' := [some (.inr (some (11, 0))), some (.inl a1), some (.inl a2), some (.inl a3), some (.inl (rf_isNamed a2 a3 A))]) (st' := []) (fun _ => rfl) ?_
  refine ra.s (pc' := 9) (st' := [.inr (some (11, 0))]) (fun _ => rfl) ?_
  refine ra.ga (x := 79) (nx := 12) (c := 14) (i := 6) rfl rfl ?_
  refine ra.s (pc' := 13) (st' := [.inl a1, .inr (some (14, 6))]) (fun _ => rfl) ?_
  obtain ⟨h2, hg⟩ := hg
  refine ra.lz (nx := 14) (v := (A 79 (y_ix a1))) 79 4400 rfl rfl h2 rfl ?_
  refine ra.b (c := (A 79 (y_ix a1)) = (0 : Int32)) (cd := .eq) (x := (A 79 (y_ix a1))) (y := (0 : Int32)) 58 17 (st' := []) (fun _ => rfl) (y_ceq _ _) hk hg (fun h3 hg hk => ?_) (fun h3 hg hk => ?_)
  · skip
    refine ra.s (pc' := 59) (st' := [.inr (some (11, 0))]) (fun _ => rfl) ?_
    refine ra.ga (x := 36) (nx := 62) (c := 13) (i := 29) rfl rfl ?_
    refine ra.s (pc' := 63) (st' := [.inl a3, .inr (some (13, 29))]) (fun _ => rfl) ?_
    obtain ⟨h4, hg⟩ := hg
    refine ra.ld (nx := 64) (v := (A 36 (y_ix a3))) 36 24 rfl rfl h4 rfl ?_
    refine ra.bn (c := (A 36 (y_ix a3)) = (0 : Int32)) (cd := .ne) (x := (A 36 (y_ix a3))) (y := (0 : Int32)) 126 67 (st' := []) (fun _ => rfl) (y_cne _ _) hk hg (fun h5 hg hk => ?_) (fun h5 hg hk => ?_)
    · skip
      refine ra.s (pc' := 68) (st' := [.inr (some (11, 0))]) (fun _ => rfl) ?_
      refine ra.ga (x := 37) (nx := 71) (c := 13) (i := 30) rfl rfl ?_
      refine ra.s (pc' := 72) (st' := [.inl a3, .inr (some (13, 30))]) (fun _ => rfl) ?_
      refine ra.s (pc' := 74) (st' := [.inl (rf_isNamed a2 a3 A), .inl a3, .inr (some (13, 30))]) (fun _ => rfl) ?_
      refine ra.b (c := (rf_isNamed a2 a3 A) = (0 : Int32)) (cd := .eq) (x := (rf_isNamed a2 a3 A)) (y := (0 : Int32)) 88 77 (st' := [.inl a3, .inr (some (13, 30))]) (fun _ => rfl) (y_ceq _ _) hk hg (fun h6 hg hk => ?_) (fun h6 hg hk => ?_)
      · skip
        refine ra.s (pc' := 89) (st' := [.inl (0 : Int32), .inl a3, .inr (some (13, 30))]) (fun _ => rfl) ?_
        refine ra.si (nx := 90) 37 24 rfl rfl h4 ?_
        refine ra.s (pc' := 92) (st' := [.inl (rf_isNamed a2 a3 A)]) (fun _ => rfl) ?_
        refine ra.bt (cd := .eq) (x := (rf_isNamed a2 a3 A)) (y := (0 : Int32)) 126 95 (st' := []) (fun _ => rfl) (y_ceq _ _) h6 ?_
        subst hk
        exact ra.ret (r := none) (fun _ => rfl) ⟨rfl, rfl, rfl⟩
      · skip
        refine ra.s (pc' := 78) (st' := [.inr (some (11, 0)), .inl a3, .inr (some (13, 30))]) (fun _ => rfl) ?_
        refine ra.ga (x := 37) (nx := 81) (c := 13) (i := 30) rfl rfl ?_
        refine ra.s (pc' := 82) (st' := [.inl a3, .inr (some (13, 30)), .inl a3, .inr (some (13, 30))]) (fun _ => rfl) ?_
        refine ra.ld (nx := 83) (v := (A 37 (y_ix a3))) 37 24 rfl rfl h4 rfl ?_
        refine ra.s (pc' := 84) (st' := [.inl (1 : Int32), .inl (A 37 (y_ix a3)), .inl a3, .inr (some (13, 30))]) (fun _ => rfl) ?_
        refine ra.s (pc' := 85) (st' := [.inl ((A 37 (y_ix a3)) + (1 : Int32)), .inl a3, .inr (some (13, 30))]) (fun _ => rfl) ?_
        refine ra.s (pc' := 89) (st' := [.inl ((A 37 (y_ix a3)) + (1 : Int32)), .inl a3, .inr (some (13, 30))]) (fun _ => rfl) ?_
        refine ra.si (nx := 90) 37 24 rfl rfl h4 ?_
        refine ra.s (pc' := 92) (st' := [.inl (rf_isNamed a2 a3 A)]) (fun _ => rfl) ?_
        refine ra.bf (cd := .eq) (x := (rf_isNamed a2 a3 A)) (y := (0 : Int32)) 126 95 (st' := []) (fun _ => rfl) (y_ceq _ _) h6 ?_
        refine ra.s (pc' := 96) (st' := [.inr (some (11, 0))]) (fun _ => rfl) ?_
        refine ra.ga (x := 37) (nx := 99) (c := 13) (i := 30) rfl rfl ?_
        refine ra.s (pc' := 100) (st' := [.inl a3, .inr (some (13, 30))]) (fun _ => rfl) ?_
        refine ra.ld (nx := 101) (v := ((A 37 (y_ix a3)) + (1 : Int32))) 37 24 rfl rfl h4 (y_same _ _ _ _) ?_
        refine ra.s (pc' := 102) (st' := [.inr (some (11, 0)), .inl ((A 37 (y_ix a3)) + (1 : Int32))]) (fun _ => rfl) ?_
        refine ra.ga (x := 32) (nx := 105) (c := 13) (i := 25) rfl rfl ?_
        refine ra.s (pc' := 106) (st' := [.inl a3, .inr (some (13, 25)), .inl ((A 37 (y_ix a3)) + (1 : Int32))]) (fun _ => rfl) ?_
        refine ra.ld (nx := 107) (v := (A 32 (y_ix a3))) 32 24 rfl rfl h4 rfl ?_
        refine ra.bn (c := ((A 37 (y_ix a3)) + (1 : Int32)) = (A 32 (y_ix a3))) (cd := .ne) (x := ((A 37 (y_ix a3)) + (1 : Int32))) (y := (A 32 (y_ix a3))) 126 110 (st' := []) (fun _ => rfl) (y_cne _ _) hk hg (fun h7 hg hk => ?_) (fun h7 hg hk => ?_)
        · skip
          refine ra.s (pc' := 111) (st' := [.inr (some (11, 0))]) (fun _ => rfl) ?_
          refine ra.s (pc' := 112) (st' := [.inl a3, .inr (some (11, 0))]) (fun _ => rfl) ?_
          refine ra.s (pc' := 113) (st' := [.inr (some (11, 0)), .inl a3, .inr (some (11, 0))]) (fun _ => rfl) ?_
          refine ra.gi (x := 0) (nx := 116) (v := (A 0 0)) rfl rfl rfl ?_
          refine ra.s (pc' := 117) (st' := [.inr (some (11, 0)), .inl (A 0 0), .inl a3, .inr (some (11, 0))]) (fun _ => rfl) ?_
          refine ra.ga (x := 33) (nx := 120) (c := 13) (i := 26) rfl rfl ?_
          refine ra.s (pc' := 121) (st' := [.inl a3, .inr (some (13, 26)), .inl (A 0 0), .inl a3, .inr (some (11, 0))]) (fun _ => rfl) ?_
          refine ra.ld (nx := 122) (v := (A 33 (y_ix a3))) 33 24 rfl rfl h4 rfl ?_
          refine ra.s (pc' := 123) (st' := [.inl ((A 0 0) + (A 33 (y_ix a3))), .inl a3, .inr (some (11, 0))]) (fun _ => rfl) ?_
          obtain ⟨h8, hg⟩ := hg
          refine ra.cV (F := ((rf_opens a3 ((A 0 0) + (A 33 (y_ix a3))) (xm_u2 A 37 (y_ix a3) ((A 37 (y_ix a3)) + (1 : Int32)))), js)) (m := 144) (as := [.inr (some (11, 0)), .inl a3, .inl ((A 0 0) + (A 33 (y_ix a3)))]) (nx := 126) (L' := [some (.inr (some (11, 0))), some (.inl a1), some (.inl a2), some (.inl a3), some (.inl (rf_isNamed a2 a3 A))]) (st' := []) (fun _ => rfl) (rh_opens (by omega) h8) ?_
          show ra _ _ _ _ [] (xm_u2 (xm_u2 (xm_u2 A 37 (y_ix a3) ((A 37 (y_ix a3)) + (1 : Int32))) 36 (y_ix a3) (1 : Int32)) 38 (y_ix a3) ((A 0 0) + (A 33 (y_ix a3)))) js _
          subst hk
          exact ra.ret (r := none) (fun _ => rfl) ⟨rfl, rfl, rfl⟩
        · skip
          subst hk
          exact ra.ret (r := none) (fun _ => rfl) ⟨rfl, rfl, rfl⟩
    · skip
      subst hk
      exact ra.ret (r := none) (fun _ => rfl) ⟨rfl, rfl, rfl⟩
  · skip
    refine ra.s (pc' := 19) (st' := [.inl (rf_isNamed a2 a3 A)]) (fun _ => rfl) ?_
    refine ra.b (c := (rf_isNamed a2 a3 A) = (0 : Int32)) (cd := .eq) (x := (rf_isNamed a2 a3 A)) (y := (0 : Int32)) 41 22 (st' := []) (fun _ => rfl) (y_ceq _ _) hk hg (fun h9 hg hk => ?_) (fun h9 hg hk => ?_)
    · skip
      refine ra.s (pc' := 42) (st' := [.inr (some (11, 0))]) (fun _ => rfl) ?_
      refine ra.ga (x := 36) (nx := 45) (c := 13) (i := 29) rfl rfl ?_
      refine ra.s (pc' := 46) (st' := [.inl a3, .inr (some (13, 29))]) (fun _ => rfl) ?_
      refine ra.s (pc' := 47) (st' := [.inl (0 : Int32), .inl a3, .inr (some (13, 29))]) (fun _ => rfl) ?_
      obtain ⟨h10, hg⟩ := hg
      refine ra.si (nx := 48) 36 24 rfl rfl h10 ?_
      refine ra.s (pc' := 49) (st' := [.inr (some (11, 0))]) (fun _ => rfl) ?_
      refine ra.ga (x := 37) (nx := 52) (c := 13) (i := 30) rfl rfl ?_
      refine ra.s (pc' := 53) (st' := [.inl a3, .inr (some (13, 30))]) (fun _ => rfl) ?_
      refine ra.s (pc' := 54) (st' := [.inl (0 : Int32), .inl a3, .inr (some (13, 30))]) (fun _ => rfl) ?_
      refine ra.si (nx := 55) 37 24 rfl rfl h10 ?_
      refine ra.s (pc' := 126) (st' := []) (fun _ => rfl) ?_
      subst hk
      exact ra.ret (r := none) (fun _ => rfl) ⟨rfl, rfl, rfl⟩
    · skip
      refine ra.s (pc' := 23) (st' := [.inr (some (11, 0))]) (fun _ => rfl) ?_
      refine ra.s (pc' := 24) (st' := [.inl a3, .inr (some (11, 0))]) (fun _ => rfl) ?_
      refine ra.s (pc' := 25) (st' := [.inr (some (11, 0)), .inl a3, .inr (some (11, 0))]) (fun _ => rfl) ?_
      refine ra.gi (x := 0) (nx := 28) (v := (A 0 0)) rfl rfl rfl ?_
      refine ra.s (pc' := 29) (st' := [.inr (some (11, 0)), .inl (A 0 0), .inl a3, .inr (some (11, 0))]) (fun _ => rfl) ?_
      refine ra.ga (x := 33) (nx := 32) (c := 13) (i := 26) rfl rfl ?_
      refine ra.s (pc' := 33) (st' := [.inl a3, .inr (some (13, 26)), .inl (A 0 0), .inl a3, .inr (some (11, 0))]) (fun _ => rfl) ?_
      obtain ⟨h11, hg⟩ := hg
      refine ra.ld (nx := 34) (v := (A 33 (y_ix a3))) 33 24 rfl rfl h11 rfl ?_
      refine ra.s (pc' := 35) (st' := [.inl ((A 0 0) + (A 33 (y_ix a3))), .inl a3, .inr (some (11, 0))]) (fun _ => rfl) ?_
      obtain ⟨h12, hg⟩ := hg
      refine ra.cV (F := ((rf_opens a3 ((A 0 0) + (A 33 (y_ix a3))) A), js)) (m := 144) (as := [.inr (some (11, 0)), .inl a3, .inl ((A 0 0) + (A 33 (y_ix a3)))]) (nx := 38) (L' := [some (.inr (some (11, 0))), some (.inl a1), some (.inl a2), some (.inl a3), some (.inl (rf_isNamed a2 a3 A))]) (st' := []) (fun _ => rfl) (rh_opens (by omega) h12) ?_
      show ra _ _ _ _ [] (xm_u2 (xm_u2 A 36 (y_ix a3) (1 : Int32)) 38 (y_ix a3) ((A 0 0) + (A 33 (y_ix a3)))) js _
      refine ra.s (pc' := 126) (st' := []) (fun _ => rfl) ?_
      subst hk
      exact ra.ret (r := none) (fun _ => rfl) ⟨rfl, rfl, rfl⟩
/-- alike -/
def rf_alike (a1 a2 : Int32) (A : y_A) (js : List y_J) : y_A × List y_J := (if (A 71 (y_ix a2)) = (0 : Int32) then (A, (((1 : Int32), a1, (A 69 (y_ix a2)), (A 70 (y_ix a2)), (0 : Int32)) :: js)) else (A, (((1 : Int32), a1, (A 69 (y_ix a2)), (A 70 (y_ix a2)), (1 : Int32)) :: js)))
def rg_alike (a1 a2 : Int32) (A : y_A) (js : List y_J) : Prop := (y_in a2 4400) ∧ (((A 71 (y_ix a2)) = (0 : Int32) → (js.length < 20000) ∧ True) ∧ (¬ (A 71 (y_ix a2)) = (0 : Int32) → (js.length < 20000) ∧ True))
theorem rh_alike {d : Nat} (hd : 1 ≤ d) {a1 a2 : Int32} {A : y_A} {js : List y_J} (hg : rg_alike a1 a2 A js) : rc d 145 [.inr (some (11, 0)), .inl a1, .inl a2] A js (y_V (rf_alike a1 a2 A js)) := by
  obtain ⟨d, rfl⟩ := Nat.exists_eq_add_of_le' hd
  obtain ⟨F, hk⟩ : ∃ F, rf_alike a1 a2 A js = F := ⟨_, rfl⟩
  rw [hk]
  show ra _ _ _ [some (.inr (some (11, 0))), some (.inl a1), some (.inl a2)] _ _ _ _
  unfold rg_alike at hg
  unfold rf_alike at hk
  refine ra.s (pc' := 1) (st' := [.inr (some (11, 0))]) (fun _ => rfl) ?_
  refine ra.s (pc' := 2) (st' := [.inl (1 : Int32), .inr (some (11, 0))]) (fun _ => rfl) ?_
  refine ra.s (pc' := 3) (st' := [.inl a1, .inl (1 : Int32), .inr (some (11, 0))]) (fun _ => rfl) ?_
  refine ra.s (pc' := 4) (st' := [.inr (some (11, 0)), .inl a1, .inl (1 : Int32), .inr (some (11, 0))]) (fun _ => rfl) ?_
  refine ra.ga (x := 69) (nx := 7) (c := 13) (i := 57) rfl rfl ?_
  refine ra.s (pc' := 8) (st' := [.inl a2, .inr (some (13, 57)), .inl a1, .inl (1 : Int32), .inr (some (11, 0))]) (fun _ => rfl) ?_
  obtain ⟨h1, hg⟩ := hg
  refine ra.ld (nx := 9) (v := (A 69 (y_ix a2))) 69 4400 rfl rfl h1 rfl ?_
  refine ra.s (pc' := 10) (st' := [.inr (some (11, 0)), .inl (A 69 (y_ix a2)), .inl a1, .inl (1 : Int32), .inr (some (11, 0))]) (fun _ => rfl) ?_
  refine ra.ga (x := 70) (nx := 13) (c := 13) (i := 58) rfl rfl ?_
  refine ra.s (pc' := 14) (st' := [.inl a2, .inr (some (13, 58)), .inl (A 69 (y_ix a2)), .inl a1, .inl (1 : Int32), .inr (some (11, 0))]) (fun _ => rfl) ?_
  refine ra.ld (nx := 15) (v := (A 70 (y_ix a2))) 70 4400 rfl rfl h1 rfl ?_
  refine ra.s (pc' := 16) (st' := [.inr (some (11, 0)), .inl (A 70 (y_ix a2)), .inl (A 69 (y_ix a2)), .inl a1, .inl (1 : Int32), .inr (some (11, 0))]) (fun _ => rfl) ?_
  refine ra.ga (x := 71) (nx := 19) (c := 14) (i := 1) rfl rfl ?_
  refine ra.s (pc' := 20) (st' := [.inl a2, .inr (some (14, 1)), .inl (A 70 (y_ix a2)), .inl (A 69 (y_ix a2)), .inl a1, .inl (1 : Int32), .inr (some (11, 0))]) (fun _ => rfl) ?_
  refine ra.lz (nx := 21) (v := (A 71 (y_ix a2))) 71 4400 rfl rfl h1 rfl ?_
  refine ra.b (c := (A 71 (y_ix a2)) = (0 : Int32)) (cd := .eq) (x := (A 71 (y_ix a2))) (y := (0 : Int32)) 28 24 (st' := [.inl (A 70 (y_ix a2)), .inl (A 69 (y_ix a2)), .inl a1, .inl (1 : Int32), .inr (some (11, 0))]) (fun _ => rfl) (y_ceq _ _) hk hg (fun h2 hg hk => ?_) (fun h2 hg hk => ?_)
  · skip
    refine ra.s (pc' := 29) (st' := [.inl (0 : Int32), .inl (A 70 (y_ix a2)), .inl (A 69 (y_ix a2)), .inl a1, .inl (1 : Int32), .inr (some (11, 0))]) (fun _ => rfl) ?_
    obtain ⟨h3, hg⟩ := hg
    refine ra.cV (m := 131) (as := [.inr (some (11, 0)), .inl (1 : Int32), .inl a1, .inl (A 69 (y_ix a2)), .inl (A 70 (y_ix a2)), .inl (0 : Int32)]) (nx := 32) (L' := [some (.inr (some (11, 0))), some (.inl a1), some (.inl a2)]) (st' := []) (fun _ => rfl) (rh_add h3) ?_
    show ra _ _ _ _ _ A (((1 : Int32), a1, (A 69 (y_ix a2)), (A 70 (y_ix a2)), (0 : Int32)) :: js) _
    subst hk
    exact ra.ret (r := none) (fun _ => rfl) ⟨rfl, rfl, rfl⟩
  · skip
    refine ra.s (pc' := 25) (st' := [.inl (1 : Int32), .inl (A 70 (y_ix a2)), .inl (A 69 (y_ix a2)), .inl a1, .inl (1 : Int32), .inr (some (11, 0))]) (fun _ => rfl) ?_
    refine ra.s (pc' := 29) (st' := [.inl (1 : Int32), .inl (A 70 (y_ix a2)), .inl (A 69 (y_ix a2)), .inl a1, .inl (1 : Int32), .inr (some (11, 0))]) (fun _ => rfl) ?_
    obtain ⟨h4, hg⟩ := hg
    refine ra.cV (m := 131) (as := [.inr (some (11, 0)), .inl (1 : Int32), .inl a1, .inl (A 69 (y_ix a2)), .inl (A 70 (y_ix a2)), .inl (1 : Int32)]) (nx := 32) (L' := [some (.inr (some (11, 0))), some (.inl a1), some (.inl a2)]) (st' := []) (fun _ => rfl) (rh_add h4) ?_
    show ra _ _ _ _ _ A (((1 : Int32), a1, (A 69 (y_ix a2)), (A 70 (y_ix a2)), (1 : Int32)) :: js) _
    subst hk
    exact ra.ret (r := none) (fun _ => rfl) ⟨rfl, rfl, rfl⟩
theorem rf_alike_eq (a1 a2 : Int32) (A : y_A) (js : List y_J) : rf_alike a1 a2 A js = (A, ((1 : Int32), a1, A 69 (y_ix a2), A 70 (y_ix a2), if A 71 (y_ix a2) = (0 : Int32) then (0 : Int32) else (1 : Int32)) :: js) := by
  unfold rf_alike
  by_cases h : A 71 (y_ix a2) = (0 : Int32)
  · simp only [if_pos h]
  · simp only [if_neg h]
theorem rh_alike2 {d : Nat} (hd : 1 ≤ d) {a1 a2 : Int32} {A : y_A} {js : List y_J} (hg : rg_alike a1 a2 A js) : rc d 145 [.inr (some (11, 0)), .inl a1, .inl a2] A js (y_V (A, ((1 : Int32), a1, A 69 (y_ix a2), A 70 (y_ix a2), if A 71 (y_ix a2) = (0 : Int32) then (0 : Int32) else (1 : Int32)) :: js)) := by
  rw [← rf_alike_eq]
  exact rh_alike hd hg
def rf_retryTold_80 : Nat → Int32 → Int32 → Int32 → Int32 → y_A → Int32 × y_A
  | 0, _, _, _, _, A => (0, A)
  | n + 1, l1, l2, l3, l4, A => (if (A 61 0) ≤ l4 then (l4, A) else (if (A 69 (y_ix l2)) = (2 : Int32) then (if (A 64 (y_ix l4)) = l1 then (if l4 = l2 then (rf_retryTold_80 n l1 l2 l3 (l4 + (1 : Int32)) A) else (if (A 69 (y_ix l4)) = (2 : Int32) then (if (A 70 (y_ix l4)) = (A 70 (y_ix l2)) then (rf_retryTold_80 n l1 l2 l3 (l4 + (1 : Int32)) A) else (if (A 29 (y_ix (A 70 (y_ix l4)))) = (-1 : Int32) then (rf_retryTold_80 n l1 l2 l3 (l4 + (1 : Int32)) (xm_u2 A 29 (y_ix (A 70 (y_ix l4))) (A 70 (y_ix l2)))) else (rf_retryTold_80 n l1 l2 l3 (l4 + (1 : Int32)) A))) else (rf_retryTold_80 n l1 l2 l3 (l4 + (1 : Int32)) A))) else (rf_retryTold_80 n l1 l2 l3 (l4 + (1 : Int32)) A)) else (l4, A)))
def rg_retryTold_80 : Nat → Int32 → Int32 → Int32 → Int32 → y_A → Prop
  | 0, _, _, _, _, _ => False
  | n + 1, l1, l2, l3, l4, A => (((A 61 0) ≤ l4 → True) ∧ (¬ (A 61 0) ≤ l4 → (y_in l2 4400) ∧ (((A 69 (y_ix l2)) = (2 : Int32) → (y_in l4 4400) ∧ (((A 64 (y_ix l4)) = l1 → ((l4 = l2 → (rg_retryTold_80 n l1 l2 l3 (l4 + (1 : Int32)) A)) ∧ (¬ l4 = l2 → (((A 69 (y_ix l4)) = (2 : Int32) → (((A 70 (y_ix l4)) = (A 70 (y_ix l2)) → (rg_retryTold_80 n l1 l2 l3 (l4 + (1 : Int32)) A)) ∧ (¬ (A 70 (y_ix l4)) = (A 70 (y_ix l2)) → (y_in (A 70 (y_ix l4)) 4400) ∧ (((A 29 (y_ix (A 70 (y_ix l4)))) = (-1 : Int32) → (rg_retryTold_80 n l1 l2 l3 (l4 + (1 : Int32)) (xm_u2 A 29 (y_ix (A 70 (y_ix l4))) (A 70 (y_ix l2))))) ∧ (¬ (A 29 (y_ix (A 70 (y_ix l4)))) = (-1 : Int32) → (rg_retryTold_80 n l1 l2 l3 (l4 + (1 : Int32)) A)))))) ∧ (¬ (A 69 (y_ix l4)) = (2 : Int32) → (rg_retryTold_80 n l1 l2 l3 (l4 + (1 : Int32)) A)))))) ∧ (¬ (A 64 (y_ix l4)) = l1 → (rg_retryTold_80 n l1 l2 l3 (l4 + (1 : Int32)) A)))) ∧ (¬ (A 69 (y_ix l2)) = (2 : Int32) → True))))
theorem rh_retryTold_80 {d : Nat} (hd : 3 ≤ d) {Q : Option xm_V → y_A → List y_J → Prop} {F : Int32 × y_A} (n : Nat) : ∀ (l1 l2 l3 l4 : Int32) (e5 : Option xm_V) (A : y_A) (js : List y_J), rg_retryTold_80 n l1 l2 l3 l4 A → rf_retryTold_80 n l1 l2 l3 l4 A = F → (∀ (z5 : Option xm_V), ra d 146 180 [some (.inr (some (11, 0))), some (.inl l1), some (.inl l2), some (.inl l3), some (.inl F.1), z5] [] F.2 js Q) → ra d 146 80 [some (.inr (some (11, 0))), some (.inl l1), some (.inl l2), some (.inl l3), some (.inl l4), e5] [] A js Q := by
  obtain ⟨d, rfl⟩ := Nat.exists_eq_add_of_le' hd
  induction n with
  | zero => intro l1 l2 l3 l4 e5 A js hg; exact hg.elim
  | succ n ih =>
    intro l1 l2 l3 l4 e5 A js hg hk hE
    unfold rg_retryTold_80 at hg
    unfold rf_retryTold_80 at hk
    refine ra.s (pc' := 82) (st' := [.inl l4]) (fun _ => rfl) ?_
    refine ra.s (pc' := 83) (st' := [.inr (some (11, 0)), .inl l4]) (fun _ => rfl) ?_
    refine ra.gi (x := 61) (nx := 86) (v := (A 61 0)) rfl rfl rfl ?_
    refine ra.b (c := (A 61 0) ≤ l4) (cd := .ge) (x := l4) (y := (A 61 0)) 180 89 (st' := []) (fun _ => rfl) (y_cge _ _) hk hg (fun h1 hg hk => ?_) (fun h1 hg hk => ?_)
    · skip
      subst hk
      exact hE e5
    · skip
      refine ra.s (pc' := 90) (st' := [.inr (some (11, 0))]) (fun _ => rfl) ?_
      refine ra.ga (x := 69) (nx := 93) (c := 13) (i := 57) rfl rfl ?_
      refine ra.s (pc' := 94) (st' := [.inl l2, .inr (some (13, 57))]) (fun _ => rfl) ?_
      obtain ⟨h2, hg⟩ := hg
      refine ra.ld (nx := 95) (v := (A 69 (y_ix l2))) 69 4400 rfl rfl h2 rfl ?_
      refine ra.s (pc' := 96) (st' := [.inl (2 : Int32), .inl (A 69 (y_ix l2))]) (fun _ => rfl) ?_
      refine ra.bn (c := (A 69 (y_ix l2)) = (2 : Int32)) (cd := .ne) (x := (A 69 (y_ix l2))) (y := (2 : Int32)) 180 99 (st' := []) (fun _ => rfl) (y_cne _ _) hk hg (fun h3 hg hk => ?_) (fun h3 hg hk => ?_)
      · skip
        refine ra.s (pc' := 100) (st' := [.inr (some (11, 0))]) (fun _ => rfl) ?_
        refine ra.ga (x := 64) (nx := 103) (c := 13) (i := 52) rfl rfl ?_
        refine ra.s (pc' := 105) (st' := [.inl l4, .inr (some (13, 52))]) (fun _ => rfl) ?_
        obtain ⟨h4, hg⟩ := hg
        refine ra.ld (nx := 106) (v := (A 64 (y_ix l4))) 64 4400 rfl rfl h4 rfl ?_
        refine ra.s (pc' := 107) (st' := [.inl l1, .inl (A 64 (y_ix l4))]) (fun _ => rfl) ?_
        refine ra.bn (c := (A 64 (y_ix l4)) = l1) (cd := .ne) (x := (A 64 (y_ix l4))) (y := l1) 174 110 (st' := []) (fun _ => rfl) (y_cne _ _) hk hg (fun h5 hg hk => ?_) (fun h5 hg hk => ?_)
        · skip
          refine ra.s (pc' := 112) (st' := [.inl l4]) (fun _ => rfl) ?_
          refine ra.s (pc' := 113) (st' := [.inl l2, .inl l4]) (fun _ => rfl) ?_
          refine ra.b (c := l4 = l2) (cd := .eq) (x := l4) (y := l2) 174 116 (st' := []) (fun _ => rfl) (y_ceq _ _) hk hg (fun h6 hg hk => ?_) (fun h6 hg hk => ?_)
          · skip
            refine ra.s (pc' := 177) (L' := [some (.inr (some (11, 0))), some (.inl l1), some (.inl l2), some (.inl l3), some (.inl (l4 + (1 : Int32))), e5]) (st' := []) (fun _ => rfl) ?_
            refine ra.s (pc' := 80) (st' := []) (fun _ => rfl) ?_
            exact ih l1 l2 l3 (l4 + (1 : Int32)) e5 A js hg hk hE
          · skip
            refine ra.s (pc' := 117) (st' := [.inr (some (11, 0))]) (fun _ => rfl) ?_
            refine ra.ga (x := 69) (nx := 120) (c := 13) (i := 57) rfl rfl ?_
            refine ra.s (pc' := 122) (st' := [.inl l4, .inr (some (13, 57))]) (fun _ => rfl) ?_
            refine ra.ld (nx := 123) (v := (A 69 (y_ix l4))) 69 4400 rfl rfl h4 rfl ?_
            refine ra.s (pc' := 124) (st' := [.inl (2 : Int32), .inl (A 69 (y_ix l4))]) (fun _ => rfl) ?_
            refine ra.b (c := (A 69 (y_ix l4)) = (2 : Int32)) (cd := .eq) (x := (A 69 (y_ix l4))) (y := (2 : Int32)) 130 127 (st' := []) (fun _ => rfl) (y_ceq _ _) hk hg (fun h7 hg hk => ?_) (fun h7 hg hk => ?_)
            · skip
              refine ra.s (pc' := 131) (st' := [.inr (some (11, 0))]) (fun _ => rfl) ?_
              refine ra.ga (x := 70) (nx := 134) (c := 13) (i := 58) rfl rfl ?_
              refine ra.s (pc' := 136) (st' := [.inl l4, .inr (some (13, 58))]) (fun _ => rfl) ?_
              refine ra.ld (nx := 137) (v := (A 70 (y_ix l4))) 70 4400 rfl rfl h4 rfl ?_
              refine ra.s (pc' := 139) (L' := [some (.inr (some (11, 0))), some (.inl l1), some (.inl l2), some (.inl l3), some (.inl l4), some (.inl (A 70 (y_ix l4)))]) (st' := []) (fun _ => rfl) ?_
              refine ra.s (pc' := 141) (st' := [.inl (A 70 (y_ix l4))]) (fun _ => rfl) ?_
              refine ra.s (pc' := 142) (st' := [.inr (some (11, 0)), .inl (A 70 (y_ix l4))]) (fun _ => rfl) ?_
              refine ra.ga (x := 70) (nx := 145) (c := 13) (i := 58) rfl rfl ?_
              refine ra.s (pc' := 146) (st' := [.inl l2, .inr (some (13, 58)), .inl (A 70 (y_ix l4))]) (fun _ => rfl) ?_
              refine ra.ld (nx := 147) (v := (A 70 (y_ix l2))) 70 4400 rfl rfl h2 rfl ?_
              refine ra.b (c := (A 70 (y_ix l4)) = (A 70 (y_ix l2))) (cd := .eq) (x := (A 70 (y_ix l4))) (y := (A 70 (y_ix l2))) 174 150 (st' := []) (fun _ => rfl) (y_ceq _ _) hk hg (fun h8 hg hk => ?_) (fun h8 hg hk => ?_)
              · skip
                refine ra.s (pc' := 177) (L' := [some (.inr (some (11, 0))), some (.inl l1), some (.inl l2), some (.inl l3), some (.inl (l4 + (1 : Int32))), some (.inl (A 70 (y_ix l4)))]) (st' := []) (fun _ => rfl) ?_
                refine ra.s (pc' := 80) (st' := []) (fun _ => rfl) ?_
                exact ih l1 l2 l3 (l4 + (1 : Int32)) (some (.inl (A 70 (y_ix l4)))) A js hg hk hE
              · skip
                refine ra.s (pc' := 151) (st' := [.inr (some (11, 0))]) (fun _ => rfl) ?_
                refine ra.ga (x := 29) (nx := 154) (c := 13) (i := 23) rfl rfl ?_
                refine ra.s (pc' := 156) (st' := [.inl (A 70 (y_ix l4)), .inr (some (13, 23))]) (fun _ => rfl) ?_
                obtain ⟨h9, hg⟩ := hg
                refine ra.ld (nx := 157) (v := (A 29 (y_ix (A 70 (y_ix l4))))) 29 4400 rfl rfl h9 rfl ?_
                refine ra.s (pc' := 158) (st' := [.inl (-1 : Int32), .inl (A 29 (y_ix (A 70 (y_ix l4))))]) (fun _ => rfl) ?_
                refine ra.bn (c := (A 29 (y_ix (A 70 (y_ix l4)))) = (-1 : Int32)) (cd := .ne) (x := (A 29 (y_ix (A 70 (y_ix l4))))) (y := (-1 : Int32)) 174 161 (st' := []) (fun _ => rfl) (y_cne _ _) hk hg (fun h10 hg hk => ?_) (fun h10 hg hk => ?_)
                · skip
                  refine ra.s (pc' := 162) (st' := [.inr (some (11, 0))]) (fun _ => rfl) ?_
                  refine ra.ga (x := 29) (nx := 165) (c := 13) (i := 23) rfl rfl ?_
                  refine ra.s (pc' := 167) (st' := [.inl (A 70 (y_ix l4)), .inr (some (13, 23))]) (fun _ => rfl) ?_
                  refine ra.s (pc' := 168) (st' := [.inr (some (11, 0)), .inl (A 70 (y_ix l4)), .inr (some (13, 23))]) (fun _ => rfl) ?_
                  refine ra.ga (x := 70) (nx := 171) (c := 13) (i := 58) rfl rfl ?_
                  refine ra.s (pc' := 172) (st' := [.inl l2, .inr (some (13, 58)), .inl (A 70 (y_ix l4)), .inr (some (13, 23))]) (fun _ => rfl) ?_
                  refine ra.ld (nx := 173) (v := (A 70 (y_ix l2))) 70 4400 rfl rfl h2 rfl ?_
                  refine ra.si (nx := 174) 29 4400 rfl rfl h9 ?_
                  refine ra.s (pc' := 177) (L' := [some (.inr (some (11, 0))), some (.inl l1), some (.inl l2), some (.inl l3), some (.inl (l4 + (1 : Int32))), some (.inl (A 70 (y_ix l4)))]) (st' := []) (fun _ => rfl) ?_
                  refine ra.s (pc' := 80) (st' := []) (fun _ => rfl) ?_
                  exact ih l1 l2 l3 (l4 + (1 : Int32)) (some (.inl (A 70 (y_ix l4)))) (xm_u2 A 29 (y_ix (A 70 (y_ix l4))) (A 70 (y_ix l2))) js hg hk hE
                · skip
                  refine ra.s (pc' := 177) (L' := [some (.inr (some (11, 0))), some (.inl l1), some (.inl l2), some (.inl l3), some (.inl (l4 + (1 : Int32))), some (.inl (A 70 (y_ix l4)))]) (st' := []) (fun _ => rfl) ?_
                  refine ra.s (pc' := 80) (st' := []) (fun _ => rfl) ?_
                  exact ih l1 l2 l3 (l4 + (1 : Int32)) (some (.inl (A 70 (y_ix l4)))) A js hg hk hE
            · skip
              refine ra.s (pc' := 174) (st' := []) (fun _ => rfl) ?_
              refine ra.s (pc' := 177) (L' := [some (.inr (some (11, 0))), some (.inl l1), some (.inl l2), some (.inl l3), some (.inl (l4 + (1 : Int32))), e5]) (st' := []) (fun _ => rfl) ?_
              refine ra.s (pc' := 80) (st' := []) (fun _ => rfl) ?_
              exact ih l1 l2 l3 (l4 + (1 : Int32)) e5 A js hg hk hE
        · skip
          refine ra.s (pc' := 177) (L' := [some (.inr (some (11, 0))), some (.inl l1), some (.inl l2), some (.inl l3), some (.inl (l4 + (1 : Int32))), e5]) (st' := []) (fun _ => rfl) ?_
          refine ra.s (pc' := 80) (st' := []) (fun _ => rfl) ?_
          exact ih l1 l2 l3 (l4 + (1 : Int32)) e5 A js hg hk hE
      · skip
        subst hk
        exact hE e5
/-- retryTold -/
def rf_retryTold (a1 a2 a3 : Int32) (A : y_A) (js : List y_J) : y_A × List y_J := (if (rf_isNamed a2 a3 A) = (0 : Int32) then ((rf_retryTold_80 20000 a1 a2 a3 (0 : Int32) A).2, (((1 : Int32), a1, ((rf_retryTold_80 20000 a1 a2 a3 (0 : Int32) A).2 69 (y_ix a2)), ((rf_retryTold_80 20000 a1 a2 a3 (0 : Int32) A).2 70 (y_ix a2)), (if ((rf_retryTold_80 20000 a1 a2 a3 (0 : Int32) A).2 71 (y_ix a2)) = (0 : Int32) then (0 : Int32) else (1 : Int32))) :: js)) else (if (A 32 (y_ix a3)) ≤ (A 73 (y_ix a1)) then ((rf_retryTold_80 20000 a1 a2 a3 (0 : Int32) A).2, (((1 : Int32), a1, ((rf_retryTold_80 20000 a1 a2 a3 (0 : Int32) A).2 69 (y_ix a2)), ((rf_retryTold_80 20000 a1 a2 a3 (0 : Int32) A).2 70 (y_ix a2)), (if ((rf_retryTold_80 20000 a1 a2 a3 (0 : Int32) A).2 71 (y_ix a2)) = (0 : Int32) then (0 : Int32) else (1 : Int32))) :: js)) else (if (A 34 (y_ix a3)) = (1 : Int32) then ((xm_u2 (xm_u2 A 76 (y_ix a1) (1 : Int32)) 72 (y_ix a1) ((A 0 0) + ((A 33 (y_ix a3)) <<< (((A 73 (y_ix a1)) - (1 : Int32)) &&& 31)))), js) else ((xm_u2 (xm_u2 A 76 (y_ix a1) (1 : Int32)) 72 (y_ix a1) ((A 0 0) + (A 33 (y_ix a3)))), js))))
def rg_retryTold (a1 a2 a3 : Int32) (A : y_A) (js : List y_J) : Prop := (rg_isNamed a2 a3 A) ∧ (((rf_isNamed a2 a3 A) = (0 : Int32) → (rg_retryTold_80 20000 a1 a2 a3 (0 : Int32) A) ∧ (rg_alike a1 a2 (rf_retryTold_80 20000 a1 a2 a3 (0 : Int32) A).2 js) ∧ True) ∧ (¬ (rf_isNamed a2 a3 A) = (0 : Int32) → (y_in a1 4400) ∧ (y_in a3 24) ∧ (((A 32 (y_ix a3)) ≤ (A 73 (y_ix a1)) → (rg_retryTold_80 20000 a1 a2 a3 (0 : Int32) A) ∧ (rg_alike a1 a2 (rf_retryTold_80 20000 a1 a2 a3 (0 : Int32) A).2 js) ∧ True) ∧ (¬ (A 32 (y_ix a3)) ≤ (A 73 (y_ix a1)) → (((A 34 (y_ix a3)) = (1 : Int32) → True) ∧ (¬ (A 34 (y_ix a3)) = (1 : Int32) → True))))))
theorem rh_retryTold {d : Nat} (hd : 3 ≤ d) {a1 a2 a3 : Int32} {A : y_A} {js : List y_J} (hg : rg_retryTold a1 a2 a3 A js) : rc d 146 [.inr (some (11, 0)), .inl a1, .inl a2, .inl a3] A js (y_V (rf_retryTold a1 a2 a3 A js)) := by
  obtain ⟨d, rfl⟩ := Nat.exists_eq_add_of_le' hd
  obtain ⟨F, hk⟩ : ∃ F, rf_retryTold a1 a2 a3 A js = F := ⟨_, rfl⟩
  rw [hk]
  show ra _ _ _ [some (.inr (some (11, 0))), some (.inl a1), some (.inl a2), some (.inl a3), none, none] _ _ _ _
  unfold rg_retryTold at hg
  unfold rf_retryTold at hk
  refine ra.s (pc' := 1) (st' := [.inr (some (11, 0))]) (fun _ => rfl) ?_
  refine ra.s (pc' := 2) (st' := [.inl a2, .inr (some (11, 0))]) (fun _ => rfl) ?_
  refine ra.s (pc' := 3) (st' := [.inl a3, .inl a2, .inr (some (11, 0))]) (fun _ => rfl) ?_
  obtain ⟨h1, hg⟩ := hg
  refine ra.cP (f := (rf_isNamed a2 a3 A)) (m := 143) (as := [.inr (some (11, 0)), .inl a2, .inl a3]) (nx := 6) (L' := [some (.inr (some (11, 0))), some (.inl a1), some (.inl a2), some (.inl a3), none, none]) (st' := []) (fun _ => rfl) (rh_isNamed (by omega) h1) ?_
  refine ra.b (c := (rf_isNamed a2 a3 A) = (0 : Int32)) (cd := .eq) (x := (rf_isNamed a2 a3 A)) (y := (0 : Int32)) 77 9 (st' := []) (fun _ => rfl) (y_ceq _ _) hk hg (fun h2 hg hk => ?_) (fun h2 hg hk => ?_)
  · skip
    refine ra.s (pc' := 78) (st' := [.inl (0 : Int32)]) (fun _ => rfl) ?_
    refine ra.s (pc' := 80) (L' := [some (.inr (some (11, 0))), some (.inl a1), some (.inl a2), some (.inl a3), some (.inl (0 : Int32)), none]) (st' := []) (fun _ => rfl) ?_
    obtain ⟨h3, hg⟩ := hg
    refine rh_retryTold_80 (by omega) 20000 a1 a2 a3 (0 : Int32) none A js h3 rfl ?_
    intro e1x
    refine ra.s (pc' := 181) (st' := [.inr (some (11, 0))]) (fun _ => rfl) ?_
    refine ra.s (pc' := 182) (st' := [.inl a1, .inr (some (11, 0))]) (fun _ => rfl) ?_
    refine ra.s (pc' := 183) (st' := [.inl a2, .inl a1, .inr (some (11, 0))]) (fun _ => rfl) ?_
    obtain ⟨h4, hg⟩ := hg
    refine ra.cV (F := ((rf_retryTold_80 20000 a1 a2 a3 (0 : Int32) A).2, (((1 : Int32), a1, ((rf_retryTold_80 20000 a1 a2 a3 (0 : Int32) A).2 69 (y_ix a2)), ((rf_retryTold_80 20000 a1 a2 a3 (0 : Int32) A).2 70 (y_ix a2)), (if ((rf_retryTold_80 20000 a1 a2 a3 (0 : Int32) A).2 71 (y_ix a2)) = (0 : Int32) then (0 : Int32) else (1 : Int32))) :: js))) (m := 145) (as := [.inr (some (11, 0)), .inl a1, .inl a2]) (nx := 186) (L' := [some (.inr (some (11, 0))), some (.inl a1), some (.inl a2), some (.inl a3), some (.inl (rf_retryTold_80 20000 a1 a2 a3 (0 : Int32) A).1), e1x]) (st' := []) (fun _ => rfl) (rh_alike2 (by omega) h4) ?_
    show ra _ _ _ _ [] (rf_retryTold_80 20000 a1 a2 a3 (0 : Int32) A).2 (((1 : Int32), a1, ((rf_retryTold_80 20000 a1 a2 a3 (0 : Int32) A).2 69 (y_ix a2)), ((rf_retryTold_80 20000 a1 a2 a3 (0 : Int32) A).2 70 (y_ix a2)), (if ((rf_retryTold_80 20000 a1 a2 a3 (0 : Int32) A).2 71 (y_ix a2)) = (0 : Int32) then (0 : Int32) else (1 : Int32))) :: js) _
    subst hk
    exact ra.ret (r := none) (fun _ => rfl) ⟨rfl, rfl, rfl⟩
  · skip
    refine ra.s (pc' := 10) (st' := [.inr (some (11, 0))]) (fun _ => rfl) ?_
    refine ra.ga (x := 73) (nx := 13) (c := 13) (i := 60) rfl rfl ?_
    refine ra.s (pc' := 14) (st' := [.inl a1, .inr (some (13, 60))]) (fun _ => rfl) ?_
    obtain ⟨h5, hg⟩ := hg
    refine ra.ld (nx := 15) (v := (A 73 (y_ix a1))) 73 4400 rfl rfl h5 rfl ?_
    refine ra.s (pc' := 16) (st' := [.inr (some (11, 0)), .inl (A 73 (y_ix a1))]) (fun _ => rfl) ?_
    refine ra.ga (x := 32) (nx := 19) (c := 13) (i := 25) rfl rfl ?_
    refine ra.s (pc' := 20) (st' := [.inl a3, .inr (some (13, 25)), .inl (A 73 (y_ix a1))]) (fun _ => rfl) ?_
    obtain ⟨h6, hg⟩ := hg
    refine ra.ld (nx := 21) (v := (A 32 (y_ix a3))) 32 24 rfl rfl h6 rfl ?_
    refine ra.b (c := (A 32 (y_ix a3)) ≤ (A 73 (y_ix a1))) (cd := .ge) (x := (A 73 (y_ix a1))) (y := (A 32 (y_ix a3))) 77 24 (st' := []) (fun _ => rfl) (y_cge _ _) hk hg (fun h7 hg hk => ?_) (fun h7 hg hk => ?_)
    · skip
      refine ra.s (pc' := 78) (st' := [.inl (0 : Int32)]) (fun _ => rfl) ?_
      refine ra.s (pc' := 80) (L' := [some (.inr (some (11, 0))), some (.inl a1), some (.inl a2), some (.inl a3), some (.inl (0 : Int32)), none]) (st' := []) (fun _ => rfl) ?_
      obtain ⟨h8, hg⟩ := hg
      refine rh_retryTold_80 (by omega) 20000 a1 a2 a3 (0 : Int32) none A js h8 rfl ?_
      intro e2x
      refine ra.s (pc' := 181) (st' := [.inr (some (11, 0))]) (fun _ => rfl) ?_
      refine ra.s (pc' := 182) (st' := [.inl a1, .inr (some (11, 0))]) (fun _ => rfl) ?_
      refine ra.s (pc' := 183) (st' := [.inl a2, .inl a1, .inr (some (11, 0))]) (fun _ => rfl) ?_
      obtain ⟨h9, hg⟩ := hg
      refine ra.cV (F := ((rf_retryTold_80 20000 a1 a2 a3 (0 : Int32) A).2, (((1 : Int32), a1, ((rf_retryTold_80 20000 a1 a2 a3 (0 : Int32) A).2 69 (y_ix a2)), ((rf_retryTold_80 20000 a1 a2 a3 (0 : Int32) A).2 70 (y_ix a2)), (if ((rf_retryTold_80 20000 a1 a2 a3 (0 : Int32) A).2 71 (y_ix a2)) = (0 : Int32) then (0 : Int32) else (1 : Int32))) :: js))) (m := 145) (as := [.inr (some (11, 0)), .inl a1, .inl a2]) (nx := 186) (L' := [some (.inr (some (11, 0))), some (.inl a1), some (.inl a2), some (.inl a3), some (.inl (rf_retryTold_80 20000 a1 a2 a3 (0 : Int32) A).1), e2x]) (st' := []) (fun _ => rfl) (rh_alike2 (by omega) h9) ?_
      show ra _ _ _ _ [] (rf_retryTold_80 20000 a1 a2 a3 (0 : Int32) A).2 (((1 : Int32), a1, ((rf_retryTold_80 20000 a1 a2 a3 (0 : Int32) A).2 69 (y_ix a2)), ((rf_retryTold_80 20000 a1 a2 a3 (0 : Int32) A).2 70 (y_ix a2)), (if ((rf_retryTold_80 20000 a1 a2 a3 (0 : Int32) A).2 71 (y_ix a2)) = (0 : Int32) then (0 : Int32) else (1 : Int32))) :: js) _
      subst hk
      exact ra.ret (r := none) (fun _ => rfl) ⟨rfl, rfl, rfl⟩
    · skip
      refine ra.s (pc' := 25) (st' := [.inr (some (11, 0))]) (fun _ => rfl) ?_
      refine ra.ga (x := 76) (nx := 28) (c := 14) (i := 3) rfl rfl ?_
      refine ra.s (pc' := 29) (st' := [.inl a1, .inr (some (14, 3))]) (fun _ => rfl) ?_
      refine ra.s (pc' := 30) (st' := [.inl (1 : Int32), .inl a1, .inr (some (14, 3))]) (fun _ => rfl) ?_
      refine ra.sz (nx := 31) 76 4400 rfl rfl h5 (Or.inr rfl) ?_
      refine ra.s (pc' := 32) (st' := [.inr (some (11, 0))]) (fun _ => rfl) ?_
      refine ra.ga (x := 72) (nx := 35) (c := 13) (i := 59) rfl rfl ?_
      refine ra.s (pc' := 36) (st' := [.inl a1, .inr (some (13, 59))]) (fun _ => rfl) ?_
      refine ra.s (pc' := 37) (st' := [.inr (some (11, 0)), .inl a1, .inr (some (13, 59))]) (fun _ => rfl) ?_
      refine ra.gi (x := 0) (nx := 40) (v := (A 0 0)) rfl rfl rfl ?_
      refine ra.s (pc' := 41) (st' := [.inr (some (11, 0)), .inl (A 0 0), .inl a1, .inr (some (13, 59))]) (fun _ => rfl) ?_
      refine ra.ga (x := 34) (nx := 44) (c := 13) (i := 27) rfl rfl ?_
      refine ra.s (pc' := 45) (st' := [.inl a3, .inr (some (13, 27)), .inl (A 0 0), .inl a1, .inr (some (13, 59))]) (fun _ => rfl) ?_
      refine ra.ld (nx := 46) (v := (A 34 (y_ix a3))) 34 24 rfl rfl h6 rfl ?_
      refine ra.s (pc' := 47) (st' := [.inl (1 : Int32), .inl (A 34 (y_ix a3)), .inl (A 0 0), .inl a1, .inr (some (13, 59))]) (fun _ => rfl) ?_
      refine ra.bn (c := (A 34 (y_ix a3)) = (1 : Int32)) (cd := .ne) (x := (A 34 (y_ix a3))) (y := (1 : Int32)) 68 50 (st' := [.inl (A 0 0), .inl a1, .inr (some (13, 59))]) (fun _ => rfl) (y_cne _ _) hk hg (fun h10 hg hk => ?_) (fun h10 hg hk => ?_)
      · skip
        refine ra.s (pc' := 51) (st' := [.inr (some (11, 0)), .inl (A 0 0), .inl a1, .inr (some (13, 59))]) (fun _ => rfl) ?_
        refine ra.ga (x := 33) (nx := 54) (c := 13) (i := 26) rfl rfl ?_
        refine ra.s (pc' := 55) (st' := [.inl a3, .inr (some (13, 26)), .inl (A 0 0), .inl a1, .inr (some (13, 59))]) (fun _ => rfl) ?_
        refine ra.ld (nx := 56) (v := (A 33 (y_ix a3))) 33 24 rfl rfl h6 rfl ?_
        refine ra.s (pc' := 57) (st' := [.inr (some (11, 0)), .inl (A 33 (y_ix a3)), .inl (A 0 0), .inl a1, .inr (some (13, 59))]) (fun _ => rfl) ?_
        refine ra.ga (x := 73) (nx := 60) (c := 13) (i := 60) rfl rfl ?_
        refine ra.s (pc' := 61) (st' := [.inl a1, .inr (some (13, 60)), .inl (A 33 (y_ix a3)), .inl (A 0 0), .inl a1, .inr (some (13, 59))]) (fun _ => rfl) ?_
        refine ra.ld (nx := 62) (v := (A 73 (y_ix a1))) 73 4400 rfl rfl h5 rfl ?_
        refine ra.s (pc' := 63) (st' := [.inl (1 : Int32), .inl (A 73 (y_ix a1)), .inl (A 33 (y_ix a3)), .inl (A 0 0), .inl a1, .inr (some (13, 59))]) (fun _ => rfl) ?_
        refine ra.s (pc' := 64) (st' := [.inl ((A 73 (y_ix a1)) - (1 : Int32)), .inl (A 33 (y_ix a3)), .inl (A 0 0), .inl a1, .inr (some (13, 59))]) (fun _ => rfl) ?_
        refine ra.s (pc' := 65) (st' := [.inl ((A 33 (y_ix a3)) <<< (((A 73 (y_ix a1)) - (1 : Int32)) &&& 31)), .inl (A 0 0), .inl a1, .inr (some (13, 59))]) (fun _ => rfl) ?_
        refine ra.s (pc' := 74) (st' := [.inl ((A 33 (y_ix a3)) <<< (((A 73 (y_ix a1)) - (1 : Int32)) &&& 31)), .inl (A 0 0), .inl a1, .inr (some (13, 59))]) (fun _ => rfl) ?_
        refine ra.s (pc' := 75) (st' := [.inl ((A 0 0) + ((A 33 (y_ix a3)) <<< (((A 73 (y_ix a1)) - (1 : Int32)) &&& 31))), .inl a1, .inr (some (13, 59))]) (fun _ => rfl) ?_
        refine ra.si (nx := 76) 72 4400 rfl rfl h5 ?_
        subst hk
        exact ra.ret (r := none) (fun _ => rfl) ⟨rfl, rfl, rfl⟩
      · skip
        refine ra.s (pc' := 69) (st' := [.inr (some (11, 0)), .inl (A 0 0), .inl a1, .inr (some (13, 59))]) (fun _ => rfl) ?_
        refine ra.ga (x := 33) (nx := 72) (c := 13) (i := 26) rfl rfl ?_
        refine ra.s (pc' := 73) (st' := [.inl a3, .inr (some (13, 26)), .inl (A 0 0), .inl a1, .inr (some (13, 59))]) (fun _ => rfl) ?_
        refine ra.ld (nx := 74) (v := (A 33 (y_ix a3))) 33 24 rfl rfl h6 rfl ?_
        refine ra.s (pc' := 75) (st' := [.inl ((A 0 0) + (A 33 (y_ix a3))), .inl a1, .inr (some (13, 59))]) (fun _ => rfl) ?_
        refine ra.si (nx := 76) 72 4400 rfl rfl h5 ?_
        subst hk
        exact ra.ret (r := none) (fun _ => rfl) ⟨rfl, rfl, rfl⟩
def rf_takeBack_8 : Nat → Int32 → Int32 → Int32 → Int32 → y_A → Int32 × y_A
  | 0, _, _, _, _, A => (0, A)
  | n + 1, l1, l2, l3, l4, A => (if (A 61 0) ≤ l4 then (l4, A) else (if l4 = l1 then (if (A 69 (y_ix l4)) = (0 : Int32) then (rf_takeBack_8 n l1 l2 l3 (l4 + (1 : Int32)) (xm_u2 (xm_u2 (xm_u2 (xm_u2 (xm_u2 A 80 (y_ix l4) (1 : Int32)) 69 (y_ix l4) (3 : Int32)) 68 (y_ix l4) (A 0 0)) 81 (y_ix (A 82 0)) l4) 82 0 ((A 82 0) + (1 : Int32)))) else (rf_takeBack_8 n l1 l2 l3 (l4 + (1 : Int32)) (xm_u2 A 80 (y_ix l4) (1 : Int32)))) else (if l2 < (0 : Int32) then (if (A 64 (y_ix l4)) < (0 : Int32) then (rf_takeBack_8 n l1 l2 l3 (l4 + (1 : Int32)) (xm_u2 A 80 (y_ix l4) (0 : Int32))) else (if (A 80 (y_ix (A 64 (y_ix l4)))) = (0 : Int32) then (rf_takeBack_8 n l1 l2 l3 (l4 + (1 : Int32)) (xm_u2 A 80 (y_ix l4) (0 : Int32))) else (if (A 69 (y_ix l4)) = (0 : Int32) then (rf_takeBack_8 n l1 l2 l3 (l4 + (1 : Int32)) (xm_u2 (xm_u2 (xm_u2 (xm_u2 (xm_u2 A 80 (y_ix l4) (1 : Int32)) 69 (y_ix l4) (3 : Int32)) 68 (y_ix l4) (A 0 0)) 81 (y_ix (A 82 0)) l4) 82 0 ((A 82 0) + (1 : Int32)))) else (rf_takeBack_8 n l1 l2 l3 (l4 + (1 : Int32)) (xm_u2 A 80 (y_ix l4) (1 : Int32)))))) else (if (A 62 (y_ix l4)) = l2 then (if (A 69 (y_ix l4)) = (0 : Int32) then (rf_takeBack_8 n l1 l2 l3 (l4 + (1 : Int32)) (xm_u2 (xm_u2 (xm_u2 (xm_u2 (xm_u2 A 80 (y_ix l4) (1 : Int32)) 69 (y_ix l4) (3 : Int32)) 68 (y_ix l4) (A 0 0)) 81 (y_ix (A 82 0)) l4) 82 0 ((A 82 0) + (1 : Int32)))) else (rf_takeBack_8 n l1 l2 l3 (l4 + (1 : Int32)) (xm_u2 A 80 (y_ix l4) (1 : Int32)))) else (if (A 64 (y_ix l4)) < (0 : Int32) then (rf_takeBack_8 n l1 l2 l3 (l4 + (1 : Int32)) (xm_u2 A 80 (y_ix l4) (0 : Int32))) else (if (A 80 (y_ix (A 64 (y_ix l4)))) = (0 : Int32) then (rf_takeBack_8 n l1 l2 l3 (l4 + (1 : Int32)) (xm_u2 A 80 (y_ix l4) (0 : Int32))) else (if (A 69 (y_ix l4)) = (0 : Int32) then (rf_takeBack_8 n l1 l2 l3 (l4 + (1 : Int32)) (xm_u2 (xm_u2 (xm_u2 (xm_u2 (xm_u2 A 80 (y_ix l4) (1 : Int32)) 69 (y_ix l4) (3 : Int32)) 68 (y_ix l4) (A 0 0)) 81 (y_ix (A 82 0)) l4) 82 0 ((A 82 0) + (1 : Int32)))) else (rf_takeBack_8 n l1 l2 l3 (l4 + (1 : Int32)) (xm_u2 A 80 (y_ix l4) (1 : Int32))))))))))
def rg_takeBack_8 : Nat → Int32 → Int32 → Int32 → Int32 → y_A → Prop
  | 0, _, _, _, _, _ => False
  | n + 1, l1, l2, l3, l4, A => (((A 61 0) ≤ l4 → True) ∧ (¬ (A 61 0) ≤ l4 → ((l4 = l1 → (y_in l4 4400) ∧ (((A 69 (y_ix l4)) = (0 : Int32) → (y_in (A 82 0) 4400) ∧ (rg_takeBack_8 n l1 l2 l3 (l4 + (1 : Int32)) (xm_u2 (xm_u2 (xm_u2 (xm_u2 (xm_u2 A 80 (y_ix l4) (1 : Int32)) 69 (y_ix l4) (3 : Int32)) 68 (y_ix l4) (A 0 0)) 81 (y_ix (A 82 0)) l4) 82 0 ((A 82 0) + (1 : Int32))))) ∧ (¬ (A 69 (y_ix l4)) = (0 : Int32) → (rg_takeBack_8 n l1 l2 l3 (l4 + (1 : Int32)) (xm_u2 A 80 (y_ix l4) (1 : Int32)))))) ∧ (¬ l4 = l1 → ((l2 < (0 : Int32) → (y_in l4 4400) ∧ (((A 64 (y_ix l4)) < (0 : Int32) → (rg_takeBack_8 n l1 l2 l3 (l4 + (1 : Int32)) (xm_u2 A 80 (y_ix l4) (0 : Int32)))) ∧ (¬ (A 64 (y_ix l4)) < (0 : Int32) → (y_in (A 64 (y_ix l4)) 4400) ∧ (((A 80 (y_ix (A 64 (y_ix l4)))) = (0 : Int32) → (rg_takeBack_8 n l1 l2 l3 (l4 + (1 : Int32)) (xm_u2 A 80 (y_ix l4) (0 : Int32)))) ∧ (¬ (A 80 (y_ix (A 64 (y_ix l4)))) = (0 : Int32) → (((A 69 (y_ix l4)) = (0 : Int32) → (y_in (A 82 0) 4400) ∧ (rg_takeBack_8 n l1 l2 l3 (l4 + (1 : Int32)) (xm_u2 (xm_u2 (xm_u2 (xm_u2 (xm_u2 A 80 (y_ix l4) (1 : Int32)) 69 (y_ix l4) (3 : Int32)) 68 (y_ix l4) (A 0 0)) 81 (y_ix (A 82 0)) l4) 82 0 ((A 82 0) + (1 : Int32))))) ∧ (¬ (A 69 (y_ix l4)) = (0 : Int32) → (rg_takeBack_8 n l1 l2 l3 (l4 + (1 : Int32)) (xm_u2 A 80 (y_ix l4) (1 : Int32)))))))))) ∧ (¬ l2 < (0 : Int32) → (y_in l4 4400) ∧ (((A 62 (y_ix l4)) = l2 → (((A 69 (y_ix l4)) = (0 : Int32) → (y_in (A 82 0) 4400) ∧ (rg_takeBack_8 n l1 l2 l3 (l4 + (1 : Int32)) (xm_u2 (xm_u2 (xm_u2 (xm_u2 (xm_u2 A 80 (y_ix l4) (1 : Int32)) 69 (y_ix l4) (3 : Int32)) 68 (y_ix l4) (A 0 0)) 81 (y_ix (A 82 0)) l4) 82 0 ((A 82 0) + (1 : Int32))))) ∧ (¬ (A 69 (y_ix l4)) = (0 : Int32) → (rg_takeBack_8 n l1 l2 l3 (l4 + (1 : Int32)) (xm_u2 A 80 (y_ix l4) (1 : Int32)))))) ∧ (¬ (A 62 (y_ix l4)) = l2 → (((A 64 (y_ix l4)) < (0 : Int32) → (rg_takeBack_8 n l1 l2 l3 (l4 + (1 : Int32)) (xm_u2 A 80 (y_ix l4) (0 : Int32)))) ∧ (¬ (A 64 (y_ix l4)) < (0 : Int32) → (y_in (A 64 (y_ix l4)) 4400) ∧ (((A 80 (y_ix (A 64 (y_ix l4)))) = (0 : Int32) → (rg_takeBack_8 n l1 l2 l3 (l4 + (1 : Int32)) (xm_u2 A 80 (y_ix l4) (0 : Int32)))) ∧ (¬ (A 80 (y_ix (A 64 (y_ix l4)))) = (0 : Int32) → (((A 69 (y_ix l4)) = (0 : Int32) → (y_in (A 82 0) 4400) ∧ (rg_takeBack_8 n l1 l2 l3 (l4 + (1 : Int32)) (xm_u2 (xm_u2 (xm_u2 (xm_u2 (xm_u2 A 80 (y_ix l4) (1 : Int32)) 69 (y_ix l4) (3 : Int32)) 68 (y_ix l4) (A 0 0)) 81 (y_ix (A 82 0)) l4) 82 0 ((A 82 0) + (1 : Int32))))) ∧ (¬ (A 69 (y_ix l4)) = (0 : Int32) → (rg_takeBack_8 n l1 l2 l3 (l4 + (1 : Int32)) (xm_u2 A 80 (y_ix l4) (1 : Int32)))))))))))))))))
theorem rh_takeBack_8 {d : Nat} (hd : 1 ≤ d) {Q : Option xm_V → y_A → List y_J → Prop} {F : Int32 × y_A} (n : Nat) : ∀ (l1 l2 l3 l4 : Int32) (A : y_A) (js : List y_J), rg_takeBack_8 n l1 l2 l3 l4 A → rf_takeBack_8 n l1 l2 l3 l4 A = F → (ra d 149 144 [some (.inr (some (11, 0))), some (.inl l1), some (.inl l2), some (.inl l3), some (.inl F.1)] [] F.2 js Q) → ra d 149 8 [some (.inr (some (11, 0))), some (.inl l1), some (.inl l2), some (.inl l3), some (.inl l4)] [] A js Q := by
  obtain ⟨d, rfl⟩ := Nat.exists_eq_add_of_le' hd
  induction n with
  | zero => intro l1 l2 l3 l4 A js hg; exact hg.elim
  | succ n ih =>
    intro l1 l2 l3 l4 A js hg hk hE
    unfold rg_takeBack_8 at hg
    unfold rf_takeBack_8 at hk
    refine ra.s (pc' := 10) (st' := [.inl l4]) (fun _ => rfl) ?_
    refine ra.s (pc' := 11) (st' := [.inr (some (11, 0)), .inl l4]) (fun _ => rfl) ?_
    refine ra.gi (x := 61) (nx := 14) (v := (A 61 0)) rfl rfl rfl ?_
    refine ra.b (c := (A 61 0) ≤ l4) (cd := .ge) (x := l4) (y := (A 61 0)) 144 17 (st' := []) (fun _ => rfl) (y_cge _ _) hk hg (fun h1 hg hk => ?_) (fun h1 hg hk => ?_)
    · skip
      subst hk
      exact hE
    · skip
      refine ra.s (pc' := 18) (st' := [.inr (some (11, 0))]) (fun _ => rfl) ?_
      refine ra.ga (x := 80) (nx := 21) (c := 14) (i := 7) rfl rfl ?_
      refine ra.s (pc' := 23) (st' := [.inl l4, .inr (some (14, 7))]) (fun _ => rfl) ?_
      refine ra.s (pc' := 25) (st' := [.inl l4, .inl l4, .inr (some (14, 7))]) (fun _ => rfl) ?_
      refine ra.s (pc' := 26) (st' := [.inl l1, .inl l4, .inl l4, .inr (some (14, 7))]) (fun _ => rfl) ?_
      refine ra.b (c := l4 = l1) (cd := .eq) (x := l4) (y := l1) 69 29 (st' := [.inl l4, .inr (some (14, 7))]) (fun _ => rfl) (y_ceq _ _) hk hg (fun h2 hg hk => ?_) (fun h2 hg hk => ?_)
      · skip
        refine ra.s (pc' := 70) (st' := [.inl (1 : Int32), .inl l4, .inr (some (14, 7))]) (fun _ => rfl) ?_
        refine ra.s (pc' := 74) (st' := [.inl (1 : Int32), .inl l4, .inr (some (14, 7))]) (fun _ => rfl) ?_
        obtain ⟨h3, hg⟩ := hg
        refine ra.sz (nx := 75) 80 4400 rfl rfl h3 (Or.inr rfl) ?_
        refine ra.s (pc' := 76) (st' := [.inr (some (11, 0))]) (fun _ => rfl) ?_
        refine ra.ga (x := 80) (nx := 79) (c := 14) (i := 7) rfl rfl ?_
        refine ra.s (pc' := 81) (st' := [.inl l4, .inr (some (14, 7))]) (fun _ => rfl) ?_
        refine ra.lz (nx := 82) (v := (1 : Int32)) 80 4400 rfl rfl h3 (y_same _ _ _ _) ?_
        refine ra.bf (cd := .eq) (x := (1 : Int32)) (y := (0 : Int32)) 138 85 (st' := []) (fun _ => rfl) (y_ceq _ _) (by decide) ?_
        refine ra.s (pc' := 86) (st' := [.inr (some (11, 0))]) (fun _ => rfl) ?_
        refine ra.ga (x := 69) (nx := 89) (c := 13) (i := 57) rfl rfl ?_
        refine ra.s (pc' := 91) (st' := [.inl l4, .inr (some (13, 57))]) (fun _ => rfl) ?_
        refine ra.ld (nx := 92) (v := (A 69 (y_ix l4))) 69 4400 rfl rfl h3 rfl ?_
        refine ra.b (c := (A 69 (y_ix l4)) = (0 : Int32)) (cd := .eq) (x := (A 69 (y_ix l4))) (y := (0 : Int32)) 98 95 (st' := []) (fun _ => rfl) (y_ceq _ _) hk hg (fun h4 hg hk => ?_) (fun h4 hg hk => ?_)
        · skip
          refine ra.s (pc' := 99) (st' := [.inr (some (11, 0))]) (fun _ => rfl) ?_
          refine ra.ga (x := 69) (nx := 102) (c := 13) (i := 57) rfl rfl ?_
          refine ra.s (pc' := 104) (st' := [.inl l4, .inr (some (13, 57))]) (fun _ => rfl) ?_
          refine ra.s (pc' := 105) (st' := [.inl (3 : Int32), .inl l4, .inr (some (13, 57))]) (fun _ => rfl) ?_
          refine ra.si (nx := 106) 69 4400 rfl rfl h3 ?_
          refine ra.s (pc' := 107) (st' := [.inr (some (11, 0))]) (fun _ => rfl) ?_
          refine ra.ga (x := 68) (nx := 110) (c := 13) (i := 56) rfl rfl ?_
          refine ra.s (pc' := 112) (st' := [.inl l4, .inr (some (13, 56))]) (fun _ => rfl) ?_
          refine ra.s (pc' := 113) (st' := [.inr (some (11, 0)), .inl l4, .inr (some (13, 56))]) (fun _ => rfl) ?_
          refine ra.gi (x := 0) (nx := 116) (v := (A 0 0)) rfl rfl rfl ?_
          refine ra.si (nx := 117) 68 4400 rfl rfl h3 ?_
          refine ra.s (pc' := 118) (st' := [.inr (some (11, 0))]) (fun _ => rfl) ?_
          refine ra.ga (x := 81) (nx := 121) (c := 13) (i := 62) rfl rfl ?_
          refine ra.s (pc' := 122) (st' := [.inr (some (11, 0)), .inr (some (13, 62))]) (fun _ => rfl) ?_
          refine ra.gi (x := 82) (nx := 125) (v := (A 82 0)) rfl rfl rfl ?_
          refine ra.s (pc' := 127) (st' := [.inl l4, .inl (A 82 0), .inr (some (13, 62))]) (fun _ => rfl) ?_
          obtain ⟨h5, hg⟩ := hg
          refine ra.si (nx := 128) 81 4400 rfl rfl h5 ?_
          refine ra.s (pc' := 129) (st' := [.inr (some (11, 0))]) (fun _ => rfl) ?_
          refine ra.s (pc' := 130) (st' := [.inr (some (11, 0)), .inr (some (11, 0))]) (fun _ => rfl) ?_
          refine ra.gi (x := 82) (nx := 133) (v := (A 82 0)) rfl rfl rfl ?_
          refine ra.s (pc' := 134) (st' := [.inl (1 : Int32), .inl (A 82 0), .inr (some (11, 0))]) (fun _ => rfl) ?_
          refine ra.s (pc' := 135) (st' := [.inl ((A 82 0) + (1 : Int32)), .inr (some (11, 0))]) (fun _ => rfl) ?_
          refine ra.pi (x := 82) (nx := 138) rfl rfl ?_
          refine ra.s (pc' := 141) (L' := [some (.inr (some (11, 0))), some (.inl l1), some (.inl l2), some (.inl l3), some (.inl (l4 + (1 : Int32)))]) (st' := []) (fun _ => rfl) ?_
          refine ra.s (pc' := 8) (st' := []) (fun _ => rfl) ?_
          exact ih l1 l2 l3 (l4 + (1 : Int32)) (xm_u2 (xm_u2 (xm_u2 (xm_u2 (xm_u2 A 80 (y_ix l4) (1 : Int32)) 69 (y_ix l4) (3 : Int32)) 68 (y_ix l4) (A 0 0)) 81 (y_ix (A 82 0)) l4) 82 0 ((A 82 0) + (1 : Int32))) js hg hk hE
        · skip
          refine ra.s (pc' := 138) (st' := []) (fun _ => rfl) ?_
          refine ra.s (pc' := 141) (L' := [some (.inr (some (11, 0))), some (.inl l1), some (.inl l2), some (.inl l3), some (.inl (l4 + (1 : Int32)))]) (st' := []) (fun _ => rfl) ?_
          refine ra.s (pc' := 8) (st' := []) (fun _ => rfl) ?_
          exact ih l1 l2 l3 (l4 + (1 : Int32)) (xm_u2 A 80 (y_ix l4) (1 : Int32)) js hg hk hE
      · skip
        refine ra.s (pc' := 30) (st' := [.inl l2, .inl l4, .inr (some (14, 7))]) (fun _ => rfl) ?_
        refine ra.b (c := l2 < (0 : Int32)) (cd := .lt) (x := l2) (y := (0 : Int32)) 44 33 (st' := [.inl l4, .inr (some (14, 7))]) (fun _ => rfl) (y_clt _ _) hk hg (fun h6 hg hk => ?_) (fun h6 hg hk => ?_)
        · skip
          refine ra.s (pc' := 45) (st' := [.inr (some (11, 0)), .inl l4, .inr (some (14, 7))]) (fun _ => rfl) ?_
          refine ra.ga (x := 64) (nx := 48) (c := 13) (i := 52) rfl rfl ?_
          refine ra.s (pc' := 50) (st' := [.inl l4, .inr (some (13, 52)), .inl l4, .inr (some (14, 7))]) (fun _ => rfl) ?_
          obtain ⟨h7, hg⟩ := hg
          refine ra.ld (nx := 51) (v := (A 64 (y_ix l4))) 64 4400 rfl rfl h7 rfl ?_
          refine ra.b (c := (A 64 (y_ix l4)) < (0 : Int32)) (cd := .lt) (x := (A 64 (y_ix l4))) (y := (0 : Int32)) 73 54 (st' := [.inl l4, .inr (some (14, 7))]) (fun _ => rfl) (y_clt _ _) hk hg (fun h8 hg hk => ?_) (fun h8 hg hk => ?_)
          · skip
            refine ra.s (pc' := 74) (st' := [.inl (0 : Int32), .inl l4, .inr (some (14, 7))]) (fun _ => rfl) ?_
            refine ra.sz (nx := 75) 80 4400 rfl rfl h7 (Or.inl rfl) ?_
            refine ra.s (pc' := 76) (st' := [.inr (some (11, 0))]) (fun _ => rfl) ?_
            refine ra.ga (x := 80) (nx := 79) (c := 14) (i := 7) rfl rfl ?_
            refine ra.s (pc' := 81) (st' := [.inl l4, .inr (some (14, 7))]) (fun _ => rfl) ?_
            refine ra.lz (nx := 82) (v := (0 : Int32)) 80 4400 rfl rfl h7 (y_same _ _ _ _) ?_
            refine ra.bt (cd := .eq) (x := (0 : Int32)) (y := (0 : Int32)) 138 85 (st' := []) (fun _ => rfl) (y_ceq _ _) (by decide) ?_
            refine ra.s (pc' := 141) (L' := [some (.inr (some (11, 0))), some (.inl l1), some (.inl l2), some (.inl l3), some (.inl (l4 + (1 : Int32)))]) (st' := []) (fun _ => rfl) ?_
            refine ra.s (pc' := 8) (st' := []) (fun _ => rfl) ?_
            exact ih l1 l2 l3 (l4 + (1 : Int32)) (xm_u2 A 80 (y_ix l4) (0 : Int32)) js hg hk hE
          · skip
            refine ra.s (pc' := 55) (st' := [.inr (some (11, 0)), .inl l4, .inr (some (14, 7))]) (fun _ => rfl) ?_
            refine ra.ga (x := 80) (nx := 58) (c := 14) (i := 7) rfl rfl ?_
            refine ra.s (pc' := 59) (st' := [.inr (some (11, 0)), .inr (some (14, 7)), .inl l4, .inr (some (14, 7))]) (fun _ => rfl) ?_
            refine ra.ga (x := 64) (nx := 62) (c := 13) (i := 52) rfl rfl ?_
            refine ra.s (pc' := 64) (st' := [.inl l4, .inr (some (13, 52)), .inr (some (14, 7)), .inl l4, .inr (some (14, 7))]) (fun _ => rfl) ?_
            refine ra.ld (nx := 65) (v := (A 64 (y_ix l4))) 64 4400 rfl rfl h7 rfl ?_
            obtain ⟨h9, hg⟩ := hg
            refine ra.lz (nx := 66) (v := (A 80 (y_ix (A 64 (y_ix l4))))) 80 4400 rfl rfl h9 rfl ?_
            refine ra.b (c := (A 80 (y_ix (A 64 (y_ix l4)))) = (0 : Int32)) (cd := .eq) (x := (A 80 (y_ix (A 64 (y_ix l4))))) (y := (0 : Int32)) 73 69 (st' := [.inl l4, .inr (some (14, 7))]) (fun _ => rfl) (y_ceq _ _) hk hg (fun h10 hg hk => ?_) (fun h10 hg hk => ?_)
            · skip
              refine ra.s (pc' := 74) (st' := [.inl (0 : Int32), .inl l4, .inr (some (14, 7))]) (fun _ => rfl) ?_
              refine ra.sz (nx := 75) 80 4400 rfl rfl h7 (Or.inl rfl) ?_
              refine ra.s (pc' := 76) (st' := [.inr (some (11, 0))]) (fun _ => rfl) ?_
              refine ra.ga (x := 80) (nx := 79) (c := 14) (i := 7) rfl rfl ?_
              refine ra.s (pc' := 81) (st' := [.inl l4, .inr (some (14, 7))]) (fun _ => rfl) ?_
              refine ra.lz (nx := 82) (v := (0 : Int32)) 80 4400 rfl rfl h7 (y_same _ _ _ _) ?_
              refine ra.bt (cd := .eq) (x := (0 : Int32)) (y := (0 : Int32)) 138 85 (st' := []) (fun _ => rfl) (y_ceq _ _) (by decide) ?_
              refine ra.s (pc' := 141) (L' := [some (.inr (some (11, 0))), some (.inl l1), some (.inl l2), some (.inl l3), some (.inl (l4 + (1 : Int32)))]) (st' := []) (fun _ => rfl) ?_
              refine ra.s (pc' := 8) (st' := []) (fun _ => rfl) ?_
              exact ih l1 l2 l3 (l4 + (1 : Int32)) (xm_u2 A 80 (y_ix l4) (0 : Int32)) js hg hk hE
            · skip
              refine ra.s (pc' := 70) (st' := [.inl (1 : Int32), .inl l4, .inr (some (14, 7))]) (fun _ => rfl) ?_
              refine ra.s (pc' := 74) (st' := [.inl (1 : Int32), .inl l4, .inr (some (14, 7))]) (fun _ => rfl) ?_
              refine ra.sz (nx := 75) 80 4400 rfl rfl h7 (Or.inr rfl) ?_
              refine ra.s (pc' := 76) (st' := [.inr (some (11, 0))]) (fun _ => rfl) ?_
              refine ra.ga (x := 80) (nx := 79) (c := 14) (i := 7) rfl rfl ?_
              refine ra.s (pc' := 81) (st' := [.inl l4, .inr (some (14, 7))]) (fun _ => rfl) ?_
              refine ra.lz (nx := 82) (v := (1 : Int32)) 80 4400 rfl rfl h7 (y_same _ _ _ _) ?_
              refine ra.bf (cd := .eq) (x := (1 : Int32)) (y := (0 : Int32)) 138 85 (st' := []) (fun _ => rfl) (y_ceq _ _) (by decide) ?_
              refine ra.s (pc' := 86) (st' := [.inr (some (11, 0))]) (fun _ => rfl) ?_
              refine ra.ga (x := 69) (nx := 89) (c := 13) (i := 57) rfl rfl ?_
              refine ra.s (pc' := 91) (st' := [.inl l4, .inr (some (13, 57))]) (fun _ => rfl) ?_
              refine ra.ld (nx := 92) (v := (A 69 (y_ix l4))) 69 4400 rfl rfl h7 rfl ?_
              refine ra.b (c := (A 69 (y_ix l4)) = (0 : Int32)) (cd := .eq) (x := (A 69 (y_ix l4))) (y := (0 : Int32)) 98 95 (st' := []) (fun _ => rfl) (y_ceq _ _) hk hg (fun h11 hg hk => ?_) (fun h11 hg hk => ?_)
              · skip
                refine ra.s (pc' := 99) (st' := [.inr (some (11, 0))]) (fun _ => rfl) ?_
                refine ra.ga (x := 69) (nx := 102) (c := 13) (i := 57) rfl rfl ?_
                refine ra.s (pc' := 104) (st' := [.inl l4, .inr (some (13, 57))]) (fun _ => rfl) ?_
                refine ra.s (pc' := 105) (st' := [.inl (3 : Int32), .inl l4, .inr (some (13, 57))]) (fun _ => rfl) ?_
                refine ra.si (nx := 106) 69 4400 rfl rfl h7 ?_
                refine ra.s (pc' := 107) (st' := [.inr (some (11, 0))]) (fun _ => rfl) ?_
                refine ra.ga (x := 68) (nx := 110) (c := 13) (i := 56) rfl rfl ?_
                refine ra.s (pc' := 112) (st' := [.inl l4, .inr (some (13, 56))]) (fun _ => rfl) ?_
                refine ra.s (pc' := 113) (st' := [.inr (some (11, 0)), .inl l4, .inr (some (13, 56))]) (fun _ => rfl) ?_
                refine ra.gi (x := 0) (nx := 116) (v := (A 0 0)) rfl rfl rfl ?_
                refine ra.si (nx := 117) 68 4400 rfl rfl h7 ?_
                refine ra.s (pc' := 118) (st' := [.inr (some (11, 0))]) (fun _ => rfl) ?_
                refine ra.ga (x := 81) (nx := 121) (c := 13) (i := 62) rfl rfl ?_
                refine ra.s (pc' := 122) (st' := [.inr (some (11, 0)), .inr (some (13, 62))]) (fun _ => rfl) ?_
                refine ra.gi (x := 82) (nx := 125) (v := (A 82 0)) rfl rfl rfl ?_
                refine ra.s (pc' := 127) (st' := [.inl l4, .inl (A 82 0), .inr (some (13, 62))]) (fun _ => rfl) ?_
                obtain ⟨h12, hg⟩ := hg
                refine ra.si (nx := 128) 81 4400 rfl rfl h12 ?_
                refine ra.s (pc' := 129) (st' := [.inr (some (11, 0))]) (fun _ => rfl) ?_
                refine ra.s (pc' := 130) (st' := [.inr (some (11, 0)), .inr (some (11, 0))]) (fun _ => rfl) ?_
                refine ra.gi (x := 82) (nx := 133) (v := (A 82 0)) rfl rfl rfl ?_
                refine ra.s (pc' := 134) (st' := [.inl (1 : Int32), .inl (A 82 0), .inr (some (11, 0))]) (fun _ => rfl) ?_
                refine ra.s (pc' := 135) (st' := [.inl ((A 82 0) + (1 : Int32)), .inr (some (11, 0))]) (fun _ => rfl) ?_
                refine ra.pi (x := 82) (nx := 138) rfl rfl ?_
                refine ra.s (pc' := 141) (L' := [some (.inr (some (11, 0))), some (.inl l1), some (.inl l2), some (.inl l3), some (.inl (l4 + (1 : Int32)))]) (st' := []) (fun _ => rfl) ?_
                refine ra.s (pc' := 8) (st' := []) (fun _ => rfl) ?_
                exact ih l1 l2 l3 (l4 + (1 : Int32)) (xm_u2 (xm_u2 (xm_u2 (xm_u2 (xm_u2 A 80 (y_ix l4) (1 : Int32)) 69 (y_ix l4) (3 : Int32)) 68 (y_ix l4) (A 0 0)) 81 (y_ix (A 82 0)) l4) 82 0 ((A 82 0) + (1 : Int32))) js hg hk hE
              · skip
                refine ra.s (pc' := 138) (st' := []) (fun _ => rfl) ?_
                refine ra.s (pc' := 141) (L' := [some (.inr (some (11, 0))), some (.inl l1), some (.inl l2), some (.inl l3), some (.inl (l4 + (1 : Int32)))]) (st' := []) (fun _ => rfl) ?_
                refine ra.s (pc' := 8) (st' := []) (fun _ => rfl) ?_
                exact ih l1 l2 l3 (l4 + (1 : Int32)) (xm_u2 A 80 (y_ix l4) (1 : Int32)) js hg hk hE
        · skip
          refine ra.s (pc' := 34) (st' := [.inr (some (11, 0)), .inl l4, .inr (some (14, 7))]) (fun _ => rfl) ?_
          refine ra.ga (x := 62) (nx := 37) (c := 13) (i := 50) rfl rfl ?_
          refine ra.s (pc' := 39) (st' := [.inl l4, .inr (some (13, 50)), .inl l4, .inr (some (14, 7))]) (fun _ => rfl) ?_
          obtain ⟨h13, hg⟩ := hg
          refine ra.ld (nx := 40) (v := (A 62 (y_ix l4))) 62 4400 rfl rfl h13 rfl ?_
          refine ra.s (pc' := 41) (st' := [.inl l2, .inl (A 62 (y_ix l4)), .inl l4, .inr (some (14, 7))]) (fun _ => rfl) ?_
          refine ra.b (c := (A 62 (y_ix l4)) = l2) (cd := .eq) (x := (A 62 (y_ix l4))) (y := l2) 69 44 (st' := [.inl l4, .inr (some (14, 7))]) (fun _ => rfl) (y_ceq _ _) hk hg (fun h14 hg hk => ?_) (fun h14 hg hk => ?_)
          · skip
            refine ra.s (pc' := 70) (st' := [.inl (1 : Int32), .inl l4, .inr (some (14, 7))]) (fun _ => rfl) ?_
            refine ra.s (pc' := 74) (st' := [.inl (1 : Int32), .inl l4, .inr (some (14, 7))]) (fun _ => rfl) ?_
            refine ra.sz (nx := 75) 80 4400 rfl rfl h13 (Or.inr rfl) ?_
            refine ra.s (pc' := 76) (st' := [.inr (some (11, 0))]) (fun _ => rfl) ?_
            refine ra.ga (x := 80) (nx := 79) (c := 14) (i := 7) rfl rfl ?_
            refine ra.s (pc' := 81) (st' := [.inl l4, .inr (some (14, 7))]) (fun _ => rfl) ?_
            refine ra.lz (nx := 82) (v := (1 : Int32)) 80 4400 rfl rfl h13 (y_same _ _ _ _) ?_
            refine ra.bf (cd := .eq) (x := (1 : Int32)) (y := (0 : Int32)) 138 85 (st' := []) (fun _ => rfl) (y_ceq _ _) (by decide) ?_
            refine ra.s (pc' := 86) (st' := [.inr (some (11, 0))]) (fun _ => rfl) ?_
            refine ra.ga (x := 69) (nx := 89) (c := 13) (i := 57) rfl rfl ?_
            refine ra.s (pc' := 91) (st' := [.inl l4, .inr (some (13, 57))]) (fun _ => rfl) ?_
            refine ra.ld (nx := 92) (v := (A 69 (y_ix l4))) 69 4400 rfl rfl h13 rfl ?_
            refine ra.b (c := (A 69 (y_ix l4)) = (0 : Int32)) (cd := .eq) (x := (A 69 (y_ix l4))) (y := (0 : Int32)) 98 95 (st' := []) (fun _ => rfl) (y_ceq _ _) hk hg (fun h15 hg hk => ?_) (fun h15 hg hk => ?_)
            · skip
              refine ra.s (pc' := 99) (st' := [.inr (some (11, 0))]) (fun _ => rfl) ?_
              refine ra.ga (x := 69) (nx := 102) (c := 13) (i := 57) rfl rfl ?_
              refine ra.s (pc' := 104) (st' := [.inl l4, .inr (some (13, 57))]) (fun _ => rfl) ?_
              refine ra.s (pc' := 105) (st' := [.inl (3 : Int32), .inl l4, .inr (some (13, 57))]) (fun _ => rfl) ?_
              refine ra.si (nx := 106) 69 4400 rfl rfl h13 ?_
              refine ra.s (pc' := 107) (st' := [.inr (some (11, 0))]) (fun _ => rfl) ?_
              refine ra.ga (x := 68) (nx := 110) (c := 13) (i := 56) rfl rfl ?_
              refine ra.s (pc' := 112) (st' := [.inl l4, .inr (some (13, 56))]) (fun _ => rfl) ?_
              refine ra.s (pc' := 113) (st' := [.inr (some (11, 0)), .inl l4, .inr (some (13, 56))]) (fun _ => rfl) ?_
              refine ra.gi (x := 0) (nx := 116) (v := (A 0 0)) rfl rfl rfl ?_
              refine ra.si (nx := 117) 68 4400 rfl rfl h13 ?_
              refine ra.s (pc' := 118) (st' := [.inr (some (11, 0))]) (fun _ => rfl) ?_
              refine ra.ga (x := 81) (nx := 121) (c := 13) (i := 62) rfl rfl ?_
              refine ra.s (pc' := 122) (st' := [.inr (some (11, 0)), .inr (some (13, 62))]) (fun _ => rfl) ?_
              refine ra.gi (x := 82) (nx := 125) (v := (A 82 0)) rfl rfl rfl ?_
              refine ra.s (pc' := 127) (st' := [.inl l4, .inl (A 82 0), .inr (some (13, 62))]) (fun _ => rfl) ?_
              obtain ⟨h16, hg⟩ := hg
              refine ra.si (nx := 128) 81 4400 rfl rfl h16 ?_
              refine ra.s (pc' := 129) (st' := [.inr (some (11, 0))]) (fun _ => rfl) ?_
              refine ra.s (pc' := 130) (st' := [.inr (some (11, 0)), .inr (some (11, 0))]) (fun _ => rfl) ?_
              refine ra.gi (x := 82) (nx := 133) (v := (A 82 0)) rfl rfl rfl ?_
              refine ra.s (pc' := 134) (st' := [.inl (1 : Int32), .inl (A 82 0), .inr (some (11, 0))]) (fun _ => rfl) ?_
              refine ra.s (pc' := 135) (st' := [.inl ((A 82 0) + (1 : Int32)), .inr (some (11, 0))]) (fun _ => rfl) ?_
              refine ra.pi (x := 82) (nx := 138) rfl rfl ?_
              refine ra.s (pc' := 141) (L' := [some (.inr (some (11, 0))), some (.inl l1), some (.inl l2), some (.inl l3), some (.inl (l4 + (1 : Int32)))]) (st' := []) (fun _ => rfl) ?_
              refine ra.s (pc' := 8) (st' := []) (fun _ => rfl) ?_
              exact ih l1 l2 l3 (l4 + (1 : Int32)) (xm_u2 (xm_u2 (xm_u2 (xm_u2 (xm_u2 A 80 (y_ix l4) (1 : Int32)) 69 (y_ix l4) (3 : Int32)) 68 (y_ix l4) (A 0 0)) 81 (y_ix (A 82 0)) l4) 82 0 ((A 82 0) + (1 : Int32))) js hg hk hE
            · skip
              refine ra.s (pc' := 138) (st' := []) (fun _ => rfl) ?_
              refine ra.s (pc' := 141) (L' := [some (.inr (some (11, 0))), some (.inl l1), some (.inl l2), some (.inl l3), some (.inl (l4 + (1 : Int32)))]) (st' := []) (fun _ => rfl) ?_
              refine ra.s (pc' := 8) (st' := []) (fun _ => rfl) ?_
              exact ih l1 l2 l3 (l4 + (1 : Int32)) (xm_u2 A 80 (y_ix l4) (1 : Int32)) js hg hk hE
          · skip
            refine ra.s (pc' := 45) (st' := [.inr (some (11, 0)), .inl l4, .inr (some (14, 7))]) (fun _ => rfl) ?_
            refine ra.ga (x := 64) (nx := 48) (c := 13) (i := 52) rfl rfl ?_
            refine ra.s (pc' := 50) (st' := [.inl l4, .inr (some (13, 52)), .inl l4, .inr (some (14, 7))]) (fun _ => rfl) ?_
            refine ra.ld (nx := 51) (v := (A 64 (y_ix l4))) 64 4400 rfl rfl h13 rfl ?_
            refine ra.b (c := (A 64 (y_ix l4)) < (0 : Int32)) (cd := .lt) (x := (A 64 (y_ix l4))) (y := (0 : Int32)) 73 54 (st' := [.inl l4, .inr (some (14, 7))]) (fun _ => rfl) (y_clt _ _) hk hg (fun h17 hg hk => ?_) (fun h17 hg hk => ?_)
            · skip
              refine ra.s (pc' := 74) (st' := [.inl (0 : Int32), .inl l4, .inr (some (14, 7))]) (fun _ => rfl) ?_
              refine ra.sz (nx := 75) 80 4400 rfl rfl h13 (Or.inl rfl) ?_
              refine ra.s (pc' := 76) (st' := [.inr (some (11, 0))]) (fun _ => rfl) ?_
              refine ra.ga (x := 80) (nx := 79) (c := 14) (i := 7) rfl rfl ?_
              refine ra.s (pc' := 81) (st' := [.inl l4, .inr (some (14, 7))]) (fun _ => rfl) ?_
              refine ra.lz (nx := 82) (v := (0 : Int32)) 80 4400 rfl rfl h13 (y_same _ _ _ _) ?_
              refine ra.bt (cd := .eq) (x := (0 : Int32)) (y := (0 : Int32)) 138 85 (st' := []) (fun _ => rfl) (y_ceq _ _) (by decide) ?_
              refine ra.s (pc' := 141) (L' := [some (.inr (some (11, 0))), some (.inl l1), some (.inl l2), some (.inl l3), some (.inl (l4 + (1 : Int32)))]) (st' := []) (fun _ => rfl) ?_
              refine ra.s (pc' := 8) (st' := []) (fun _ => rfl) ?_
              exact ih l1 l2 l3 (l4 + (1 : Int32)) (xm_u2 A 80 (y_ix l4) (0 : Int32)) js hg hk hE
            · skip
              refine ra.s (pc' := 55) (st' := [.inr (some (11, 0)), .inl l4, .inr (some (14, 7))]) (fun _ => rfl) ?_
              refine ra.ga (x := 80) (nx := 58) (c := 14) (i := 7) rfl rfl ?_
              refine ra.s (pc' := 59) (st' := [.inr (some (11, 0)), .inr (some (14, 7)), .inl l4, .inr (some (14, 7))]) (fun _ => rfl) ?_
              refine ra.ga (x := 64) (nx := 62) (c := 13) (i := 52) rfl rfl ?_
              refine ra.s (pc' := 64) (st' := [.inl l4, .inr (some (13, 52)), .inr (some (14, 7)), .inl l4, .inr (some (14, 7))]) (fun _ => rfl) ?_
              refine ra.ld (nx := 65) (v := (A 64 (y_ix l4))) 64 4400 rfl rfl h13 rfl ?_
              obtain ⟨h18, hg⟩ := hg
              refine ra.lz (nx := 66) (v := (A 80 (y_ix (A 64 (y_ix l4))))) 80 4400 rfl rfl h18 rfl ?_
              refine ra.b (c := (A 80 (y_ix (A 64 (y_ix l4)))) = (0 : Int32)) (cd := .eq) (x := (A 80 (y_ix (A 64 (y_ix l4))))) (y := (0 : Int32)) 73 69 (st' := [.inl l4, .inr (some (14, 7))]) (fun _ => rfl) (y_ceq _ _) hk hg (fun h19 hg hk => ?_) (fun h19 hg hk => ?_)
              · skip
                refine ra.s (pc' := 74) (st' := [.inl (0 : Int32), .inl l4, .inr (some (14, 7))]) (fun _ => rfl) ?_
                refine ra.sz (nx := 75) 80 4400 rfl rfl h13 (Or.inl rfl) ?_
                refine ra.s (pc' := 76) (st' := [.inr (some (11, 0))]) (fun _ => rfl) ?_
                refine ra.ga (x := 80) (nx := 79) (c := 14) (i := 7) rfl rfl ?_
                refine ra.s (pc' := 81) (st' := [.inl l4, .inr (some (14, 7))]) (fun _ => rfl) ?_
                refine ra.lz (nx := 82) (v := (0 : Int32)) 80 4400 rfl rfl h13 (y_same _ _ _ _) ?_
                refine ra.bt (cd := .eq) (x := (0 : Int32)) (y := (0 : Int32)) 138 85 (st' := []) (fun _ => rfl) (y_ceq _ _) (by decide) ?_
                refine ra.s (pc' := 141) (L' := [some (.inr (some (11, 0))), some (.inl l1), some (.inl l2), some (.inl l3), some (.inl (l4 + (1 : Int32)))]) (st' := []) (fun _ => rfl) ?_
                refine ra.s (pc' := 8) (st' := []) (fun _ => rfl) ?_
                exact ih l1 l2 l3 (l4 + (1 : Int32)) (xm_u2 A 80 (y_ix l4) (0 : Int32)) js hg hk hE
              · skip
                refine ra.s (pc' := 70) (st' := [.inl (1 : Int32), .inl l4, .inr (some (14, 7))]) (fun _ => rfl) ?_
                refine ra.s (pc' := 74) (st' := [.inl (1 : Int32), .inl l4, .inr (some (14, 7))]) (fun _ => rfl) ?_
                refine ra.sz (nx := 75) 80 4400 rfl rfl h13 (Or.inr rfl) ?_
                refine ra.s (pc' := 76) (st' := [.inr (some (11, 0))]) (fun _ => rfl) ?_
                refine ra.ga (x := 80) (nx := 79) (c := 14) (i := 7) rfl rfl ?_
                refine ra.s (pc' := 81) (st' := [.inl l4, .inr (some (14, 7))]) (fun _ => rfl) ?_
                refine ra.lz (nx := 82) (v := (1 : Int32)) 80 4400 rfl rfl h13 (y_same _ _ _ _) ?_
                refine ra.bf (cd := .eq) (x := (1 : Int32)) (y := (0 : Int32)) 138 85 (st' := []) (fun _ => rfl) (y_ceq _ _) (by decide) ?_
                refine ra.s (pc' := 86) (st' := [.inr (some (11, 0))]) (fun _ => rfl) ?_
                refine ra.ga (x := 69) (nx := 89) (c := 13) (i := 57) rfl rfl ?_
                refine ra.s (pc' := 91) (st' := [.inl l4, .inr (some (13, 57))]) (fun _ => rfl) ?_
                refine ra.ld (nx := 92) (v := (A 69 (y_ix l4))) 69 4400 rfl rfl h13 rfl ?_
                refine ra.b (c := (A 69 (y_ix l4)) = (0 : Int32)) (cd := .eq) (x := (A 69 (y_ix l4))) (y := (0 : Int32)) 98 95 (st' := []) (fun _ => rfl) (y_ceq _ _) hk hg (fun h20 hg hk => ?_) (fun h20 hg hk => ?_)
                · skip
                  refine ra.s (pc' := 99) (st' := [.inr (some (11, 0))]) (fun _ => rfl) ?_
                  refine ra.ga (x := 69) (nx := 102) (c := 13) (i := 57) rfl rfl ?_
                  refine ra.s (pc' := 104) (st' := [.inl l4, .inr (some (13, 57))]) (fun _ => rfl) ?_
                  refine ra.s (pc' := 105) (st' := [.inl (3 : Int32), .inl l4, .inr (some (13, 57))]) (fun _ => rfl) ?_
                  refine ra.si (nx := 106) 69 4400 rfl rfl h13 ?_
                  refine ra.s (pc' := 107) (st' := [.inr (some (11, 0))]) (fun _ => rfl) ?_
                  refine ra.ga (x := 68) (nx := 110) (c := 13) (i := 56) rfl rfl ?_
                  refine ra.s (pc' := 112) (st' := [.inl l4, .inr (some (13, 56))]) (fun _ => rfl) ?_
                  refine ra.s (pc' := 113) (st' := [.inr (some (11, 0)), .inl l4, .inr (some (13, 56))]) (fun _ => rfl) ?_
                  refine ra.gi (x := 0) (nx := 116) (v := (A 0 0)) rfl rfl rfl ?_
                  refine ra.si (nx := 117) 68 4400 rfl rfl h13 ?_
                  refine ra.s (pc' := 118) (st' := [.inr (some (11, 0))]) (fun _ => rfl) ?_
                  refine ra.ga (x := 81) (nx := 121) (c := 13) (i := 62) rfl rfl ?_
                  refine ra.s (pc' := 122) (st' := [.inr (some (11, 0)), .inr (some (13, 62))]) (fun _ => rfl) ?_
                  refine ra.gi (x := 82) (nx := 125) (v := (A 82 0)) rfl rfl rfl ?_
                  refine ra.s (pc' := 127) (st' := [.inl l4, .inl (A 82 0), .inr (some (13, 62))]) (fun _ => rfl) ?_
                  obtain ⟨h21, hg⟩ := hg
                  refine ra.si (nx := 128) 81 4400 rfl rfl h21 ?_
                  refine ra.s (pc' := 129) (st' := [.inr (some (11, 0))]) (fun _ => rfl) ?_
                  refine ra.s (pc' := 130) (st' := [.inr (some (11, 0)), .inr (some (11, 0))]) (fun _ => rfl) ?_
                  refine ra.gi (x := 82) (nx := 133) (v := (A 82 0)) rfl rfl rfl ?_
                  refine ra.s (pc' := 134) (st' := [.inl (1 : Int32), .inl (A 82 0), .inr (some (11, 0))]) (fun _ => rfl) ?_
                  refine ra.s (pc' := 135) (st' := [.inl ((A 82 0) + (1 : Int32)), .inr (some (11, 0))]) (fun _ => rfl) ?_
                  refine ra.pi (x := 82) (nx := 138) rfl rfl ?_
                  refine ra.s (pc' := 141) (L' := [some (.inr (some (11, 0))), some (.inl l1), some (.inl l2), some (.inl l3), some (.inl (l4 + (1 : Int32)))]) (st' := []) (fun _ => rfl) ?_
                  refine ra.s (pc' := 8) (st' := []) (fun _ => rfl) ?_
                  exact ih l1 l2 l3 (l4 + (1 : Int32)) (xm_u2 (xm_u2 (xm_u2 (xm_u2 (xm_u2 A 80 (y_ix l4) (1 : Int32)) 69 (y_ix l4) (3 : Int32)) 68 (y_ix l4) (A 0 0)) 81 (y_ix (A 82 0)) l4) 82 0 ((A 82 0) + (1 : Int32))) js hg hk hE
                · skip
                  refine ra.s (pc' := 138) (st' := []) (fun _ => rfl) ?_
                  refine ra.s (pc' := 141) (L' := [some (.inr (some (11, 0))), some (.inl l1), some (.inl l2), some (.inl l3), some (.inl (l4 + (1 : Int32)))]) (st' := []) (fun _ => rfl) ?_
                  refine ra.s (pc' := 8) (st' := []) (fun _ => rfl) ?_
                  exact ih l1 l2 l3 (l4 + (1 : Int32)) (xm_u2 A 80 (y_ix l4) (1 : Int32)) js hg hk hE
/-- takeBack -/
def rf_takeBack (a1 a2 : Int32) (A : y_A) (js : List y_J) : Int32 × y_A × List y_J := (if ((rf_takeBack_8 20000 a1 a2 (A 82 0) (0 : Int32) A).2 82 0) ≤ (A 82 0) then ((((rf_takeBack_8 20000 a1 a2 (A 82 0) (0 : Int32) A).2 82 0) - (A 82 0)), (rf_takeBack_8 20000 a1 a2 (A 82 0) (0 : Int32) A).2, js) else ((((rf_takeBack_8 20000 a1 a2 (A 82 0) (0 : Int32) A).2 82 0) - (A 82 0)), (rf_takeBack_8 20000 a1 a2 (A 82 0) (0 : Int32) A).2, (((4 : Int32), (A 82 0), ((rf_takeBack_8 20000 a1 a2 (A 82 0) (0 : Int32) A).2 82 0), (0 : Int32), (0 : Int32)) :: js)))
def rg_takeBack (a1 a2 : Int32) (A : y_A) (js : List y_J) : Prop := (rg_takeBack_8 20000 a1 a2 (A 82 0) (0 : Int32) A) ∧ ((((rf_takeBack_8 20000 a1 a2 (A 82 0) (0 : Int32) A).2 82 0) ≤ (A 82 0) → True) ∧ (¬ ((rf_takeBack_8 20000 a1 a2 (A 82 0) (0 : Int32) A).2 82 0) ≤ (A 82 0) → (js.length < 20000) ∧ True))
theorem rh_takeBack {d : Nat} (hd : 1 ≤ d) {a1 a2 : Int32} {A : y_A} {js : List y_J} (hg : rg_takeBack a1 a2 A js) : rc d 149 [.inr (some (11, 0)), .inl a1, .inl a2] A js (y_I (rf_takeBack a1 a2 A js)) := by
  obtain ⟨d, rfl⟩ := Nat.exists_eq_add_of_le' hd
  obtain ⟨F, hk⟩ : ∃ F, rf_takeBack a1 a2 A js = F := ⟨_, rfl⟩
  rw [hk]
  show ra _ _ _ [some (.inr (some (11, 0))), some (.inl a1), some (.inl a2), none, none] _ _ _ _
  unfold rg_takeBack at hg
  unfold rf_takeBack at hk
  refine ra.s (pc' := 1) (st' := [.inr (some (11, 0))]) (fun _ => rfl) ?_
  refine ra.gi (x := 82) (nx := 4) (v := (A 82 0)) rfl rfl rfl ?_
  refine ra.s (pc' := 5) (L' := [some (.inr (some (11, 0))), some (.inl a1), some (.inl a2), some (.inl (A 82 0)), none]) (st' := []) (fun _ => rfl) ?_
  refine ra.s (pc' := 6) (st' := [.inl (0 : Int32)]) (fun _ => rfl) ?_
  refine ra.s (pc' := 8) (L' := [some (.inr (some (11, 0))), some (.inl a1), some (.inl a2), some (.inl (A 82 0)), some (.inl (0 : Int32))]) (st' := []) (fun _ => rfl) ?_
  obtain ⟨h1, hg⟩ := hg
  refine rh_takeBack_8 (by omega) 20000 a1 a2 (A 82 0) (0 : Int32) A js h1 rfl ?_
  refine ra.s (pc' := 145) (st' := [.inr (some (11, 0))]) (fun _ => rfl) ?_
  refine ra.gi (x := 82) (nx := 148) (v := ((rf_takeBack_8 20000 a1 a2 (A 82 0) (0 : Int32) A).2 82 0)) rfl rfl rfl ?_
  refine ra.s (pc' := 149) (st' := [.inl (A 82 0), .inl ((rf_takeBack_8 20000 a1 a2 (A 82 0) (0 : Int32) A).2 82 0)]) (fun _ => rfl) ?_
  refine ra.b (c := ((rf_takeBack_8 20000 a1 a2 (A 82 0) (0 : Int32) A).2 82 0) ≤ (A 82 0)) (cd := .le) (x := ((rf_takeBack_8 20000 a1 a2 (A 82 0) (0 : Int32) A).2 82 0)) (y := (A 82 0)) 164 152 (st' := []) (fun _ => rfl) (y_cle _ _) hk hg (fun h2 hg hk => ?_) (fun h2 hg hk => ?_)
  · skip
    refine ra.s (pc' := 165) (st' := [.inr (some (11, 0))]) (fun _ => rfl) ?_
    refine ra.gi (x := 82) (nx := 168) (v := ((rf_takeBack_8 20000 a1 a2 (A 82 0) (0 : Int32) A).2 82 0)) rfl rfl rfl ?_
    refine ra.s (pc' := 169) (st' := [.inl (A 82 0), .inl ((rf_takeBack_8 20000 a1 a2 (A 82 0) (0 : Int32) A).2 82 0)]) (fun _ => rfl) ?_
    refine ra.s (pc' := 170) (st' := [.inl (((rf_takeBack_8 20000 a1 a2 (A 82 0) (0 : Int32) A).2 82 0) - (A 82 0))]) (fun _ => rfl) ?_
    subst hk
    exact ra.ret (r := some (.inl (((rf_takeBack_8 20000 a1 a2 (A 82 0) (0 : Int32) A).2 82 0) - (A 82 0)))) (fun _ => rfl) ⟨rfl, rfl, rfl⟩
  · skip
    refine ra.s (pc' := 153) (st' := [.inr (some (11, 0))]) (fun _ => rfl) ?_
    refine ra.s (pc' := 154) (st' := [.inl (4 : Int32), .inr (some (11, 0))]) (fun _ => rfl) ?_
    refine ra.s (pc' := 155) (st' := [.inl (A 82 0), .inl (4 : Int32), .inr (some (11, 0))]) (fun _ => rfl) ?_
    refine ra.s (pc' := 156) (st' := [.inr (some (11, 0)), .inl (A 82 0), .inl (4 : Int32), .inr (some (11, 0))]) (fun _ => rfl) ?_
    refine ra.gi (x := 82) (nx := 159) (v := ((rf_takeBack_8 20000 a1 a2 (A 82 0) (0 : Int32) A).2 82 0)) rfl rfl rfl ?_
    refine ra.s (pc' := 160) (st' := [.inl (0 : Int32), .inl ((rf_takeBack_8 20000 a1 a2 (A 82 0) (0 : Int32) A).2 82 0), .inl (A 82 0), .inl (4 : Int32), .inr (some (11, 0))]) (fun _ => rfl) ?_
    refine ra.s (pc' := 161) (st' := [.inl (0 : Int32), .inl (0 : Int32), .inl ((rf_takeBack_8 20000 a1 a2 (A 82 0) (0 : Int32) A).2 82 0), .inl (A 82 0), .inl (4 : Int32), .inr (some (11, 0))]) (fun _ => rfl) ?_
    obtain ⟨h3, hg⟩ := hg
    refine ra.cV (m := 131) (as := [.inr (some (11, 0)), .inl (4 : Int32), .inl (A 82 0), .inl ((rf_takeBack_8 20000 a1 a2 (A 82 0) (0 : Int32) A).2 82 0), .inl (0 : Int32), .inl (0 : Int32)]) (nx := 164) (L' := [some (.inr (some (11, 0))), some (.inl a1), some (.inl a2), some (.inl (A 82 0)), some (.inl (rf_takeBack_8 20000 a1 a2 (A 82 0) (0 : Int32) A).1)]) (st' := []) (fun _ => rfl) (rh_add h3) ?_
    show ra _ _ _ _ _ (rf_takeBack_8 20000 a1 a2 (A 82 0) (0 : Int32) A).2 (((4 : Int32), (A 82 0), ((rf_takeBack_8 20000 a1 a2 (A 82 0) (0 : Int32) A).2 82 0), (0 : Int32), (0 : Int32)) :: js) _
    refine ra.s (pc' := 165) (st' := [.inr (some (11, 0))]) (fun _ => rfl) ?_
    refine ra.gi (x := 82) (nx := 168) (v := ((rf_takeBack_8 20000 a1 a2 (A 82 0) (0 : Int32) A).2 82 0)) rfl rfl rfl ?_
    refine ra.s (pc' := 169) (st' := [.inl (A 82 0), .inl ((rf_takeBack_8 20000 a1 a2 (A 82 0) (0 : Int32) A).2 82 0)]) (fun _ => rfl) ?_
    refine ra.s (pc' := 170) (st' := [.inl (((rf_takeBack_8 20000 a1 a2 (A 82 0) (0 : Int32) A).2 82 0) - (A 82 0))]) (fun _ => rfl) ?_
    subst hk
    exact ra.ret (r := some (.inl (((rf_takeBack_8 20000 a1 a2 (A 82 0) (0 : Int32) A).2 82 0) - (A 82 0)))) (fun _ => rfl) ⟨rfl, rfl, rfl⟩
/-- hedgeTold -/
def rf_hedgeTold (a1 a2 : Int32) (A : y_A) (js : List y_J) : y_A × List y_J := (if (A 69 (y_ix a2)) = (1 : Int32) then (if (rf_otherOf a1 a2 A) < (0 : Int32) then (A, (((1 : Int32), a1, (A 69 (y_ix a2)), (A 70 (y_ix a2)), (if (A 71 (y_ix a2)) = (0 : Int32) then (0 : Int32) else (1 : Int32))) :: js)) else (if (A 69 (y_ix (rf_otherOf a1 a2 A))) = (0 : Int32) then ((rf_takeBack (rf_otherOf a1 a2 A) (-1 : Int32) A (((1 : Int32), a1, (A 69 (y_ix a2)), (A 70 (y_ix a2)), (if (A 71 (y_ix a2)) = (0 : Int32) then (0 : Int32) else (1 : Int32))) :: js)).2.1, (rf_takeBack (rf_otherOf a1 a2 A) (-1 : Int32) A (((1 : Int32), a1, (A 69 (y_ix a2)), (A 70 (y_ix a2)), (if (A 71 (y_ix a2)) = (0 : Int32) then (0 : Int32) else (1 : Int32))) :: js)).2.2) else (A, (((1 : Int32), a1, (A 69 (y_ix a2)), (A 70 (y_ix a2)), (if (A 71 (y_ix a2)) = (0 : Int32) then (0 : Int32) else (1 : Int32))) :: js)))) else (if (rf_otherOf a1 a2 A) < (0 : Int32) then (A, (((1 : Int32), a1, (A 69 (y_ix a2)), (A 70 (y_ix a2)), (if (A 71 (y_ix a2)) = (0 : Int32) then (0 : Int32) else (1 : Int32))) :: js)) else (if (A 69 (y_ix (rf_otherOf a1 a2 A))) = (0 : Int32) then (A, js) else (if (A 69 (y_ix (rf_otherOf a1 a2 A))) = (2 : Int32) then (if (A 70 (y_ix a2)) = (A 70 (y_ix (rf_otherOf a1 a2 A))) then (A, (((1 : Int32), a1, (2 : Int32), (A 70 (y_ix (rf_otherOf a1 a2 A))), (0 : Int32)) :: js)) else (if (A 29 (y_ix (A 70 (y_ix a2)))) = (-1 : Int32) then ((xm_u2 A 29 (y_ix (A 70 (y_ix a2))) (A 70 (y_ix (rf_otherOf a1 a2 A)))), (((1 : Int32), a1, (2 : Int32), (A 70 (y_ix (rf_otherOf a1 a2 A))), (0 : Int32)) :: js)) else (A, (((1 : Int32), a1, (2 : Int32), (A 70 (y_ix (rf_otherOf a1 a2 A))), (0 : Int32)) :: js)))) else (A, (((1 : Int32), a1, (A 69 (y_ix a2)), (A 70 (y_ix a2)), (if (A 71 (y_ix a2)) = (0 : Int32) then (0 : Int32) else (1 : Int32))) :: js))))))
def rg_hedgeTold (a1 a2 : Int32) (A : y_A) (js : List y_J) : Prop := (rg_otherOf a1 a2 A) ∧ (y_in a2 4400) ∧ (((A 69 (y_ix a2)) = (1 : Int32) → (rg_alike a1 a2 A js) ∧ (((rf_otherOf a1 a2 A) < (0 : Int32) → True) ∧ (¬ (rf_otherOf a1 a2 A) < (0 : Int32) → (y_in (rf_otherOf a1 a2 A) 4400) ∧ (((A 69 (y_ix (rf_otherOf a1 a2 A))) = (0 : Int32) → (rg_takeBack (rf_otherOf a1 a2 A) (-1 : Int32) A (((1 : Int32), a1, (A 69 (y_ix a2)), (A 70 (y_ix a2)), (if (A 71 (y_ix a2)) = (0 : Int32) then (0 : Int32) else (1 : Int32))) :: js)) ∧ True) ∧ (¬ (A 69 (y_ix (rf_otherOf a1 a2 A))) = (0 : Int32) → True))))) ∧ (¬ (A 69 (y_ix a2)) = (1 : Int32) → (((rf_otherOf a1 a2 A) < (0 : Int32) → (rg_alike a1 a2 A js) ∧ True) ∧ (¬ (rf_otherOf a1 a2 A) < (0 : Int32) → (y_in (rf_otherOf a1 a2 A) 4400) ∧ (((A 69 (y_ix (rf_otherOf a1 a2 A))) = (0 : Int32) → True) ∧ (¬ (A 69 (y_ix (rf_otherOf a1 a2 A))) = (0 : Int32) → (((A 69 (y_ix (rf_otherOf a1 a2 A))) = (2 : Int32) → (((A 70 (y_ix a2)) = (A 70 (y_ix (rf_otherOf a1 a2 A))) → (js.length < 20000) ∧ True) ∧ (¬ (A 70 (y_ix a2)) = (A 70 (y_ix (rf_otherOf a1 a2 A))) → (y_in (A 70 (y_ix a2)) 4400) ∧ (((A 29 (y_ix (A 70 (y_ix a2)))) = (-1 : Int32) → (js.length < 20000) ∧ True) ∧ (¬ (A 29 (y_ix (A 70 (y_ix a2)))) = (-1 : Int32) → (js.length < 20000) ∧ True))))) ∧ (¬ (A 69 (y_ix (rf_otherOf a1 a2 A))) = (2 : Int32) → (rg_alike a1 a2 A js) ∧ True))))))))
theorem rh_hedgeTold {d : Nat} (hd : 2 ≤ d) {a1 a2 : Int32} {A : y_A} {js : List y_J} (hg : rg_hedgeTold a1 a2 A js) : rc d 147 [.inr (some (11, 0)), .inl a1, .inl a2] A js (y_V (rf_hedgeTold a1 a2 A js)) := by
  obtain ⟨d, rfl⟩ := Nat.exists_eq_add_of_le' hd
  obtain ⟨F, hk⟩ : ∃ F, rf_hedgeTold a1 a2 A js = F := ⟨_, rfl⟩
  rw [hk]
  show ra _ _ _ [some (.inr (some (11, 0))), some (.inl a1), some (.inl a2), none, none, none] _ _ _ _
  unfold rg_hedgeTold at hg
  unfold rf_hedgeTold at hk
  refine ra.s (pc' := 1) (st' := [.inr (some (11, 0))]) (fun _ => rfl) ?_
  refine ra.s (pc' := 2) (st' := [.inl a1, .inr (some (11, 0))]) (fun _ => rfl) ?_
  refine ra.s (pc' := 3) (st' := [.inl a2, .inl a1, .inr (some (11, 0))]) (fun _ => rfl) ?_
  obtain ⟨h1, hg⟩ := hg
  refine ra.cP (f := (rf_otherOf a1 a2 A)) (m := 148) (as := [.inr (some (11, 0)), .inl a1, .inl a2]) (nx := 6) (L' := [some (.inr (some (11, 0))), some (.inl a1), some (.inl a2), none, none, none]) (st' := []) (fun _ => rfl) (rh_otherOf (by omega) h1) ?_
  refine ra.s (pc' := 7) (L' := [some (.inr (some (11, 0))), some (.inl a1), some (.inl a2), some (.inl (rf_otherOf a1 a2 A)), none, none]) (st' := []) (fun _ => rfl) ?_
  refine ra.s (pc' := 8) (st' := [.inr (some (11, 0))]) (fun _ => rfl) ?_
  refine ra.ga (x := 69) (nx := 11) (c := 13) (i := 57) rfl rfl ?_
  refine ra.s (pc' := 12) (st' := [.inl a2, .inr (some (13, 57))]) (fun _ => rfl) ?_
  obtain ⟨h2, hg⟩ := hg
  refine ra.ld (nx := 13) (v := (A 69 (y_ix a2))) 69 4400 rfl rfl h2 rfl ?_
  refine ra.s (pc' := 14) (st' := [.inl (1 : Int32), .inl (A 69 (y_ix a2))]) (fun _ => rfl) ?_
  refine ra.bn (c := (A 69 (y_ix a2)) = (1 : Int32)) (cd := .ne) (x := (A 69 (y_ix a2))) (y := (1 : Int32)) 44 17 (st' := []) (fun _ => rfl) (y_cne _ _) hk hg (fun h3 hg hk => ?_) (fun h3 hg hk => ?_)
  · skip
    refine ra.s (pc' := 18) (st' := [.inr (some (11, 0))]) (fun _ => rfl) ?_
    refine ra.s (pc' := 19) (st' := [.inl a1, .inr (some (11, 0))]) (fun _ => rfl) ?_
    refine ra.s (pc' := 20) (st' := [.inl a2, .inl a1, .inr (some (11, 0))]) (fun _ => rfl) ?_
    obtain ⟨h4, hg⟩ := hg
    refine ra.cV (F := (A, (((1 : Int32), a1, (A 69 (y_ix a2)), (A 70 (y_ix a2)), (if (A 71 (y_ix a2)) = (0 : Int32) then (0 : Int32) else (1 : Int32))) :: js))) (m := 145) (as := [.inr (some (11, 0)), .inl a1, .inl a2]) (nx := 23) (L' := [some (.inr (some (11, 0))), some (.inl a1), some (.inl a2), some (.inl (rf_otherOf a1 a2 A)), none, none]) (st' := []) (fun _ => rfl) (rh_alike2 (by omega) h4) ?_
    show ra _ _ _ _ [] A (((1 : Int32), a1, (A 69 (y_ix a2)), (A 70 (y_ix a2)), (if (A 71 (y_ix a2)) = (0 : Int32) then (0 : Int32) else (1 : Int32))) :: js) _
    refine ra.s (pc' := 24) (st' := [.inl (rf_otherOf a1 a2 A)]) (fun _ => rfl) ?_
    refine ra.b (c := (rf_otherOf a1 a2 A) < (0 : Int32)) (cd := .lt) (x := (rf_otherOf a1 a2 A)) (y := (0 : Int32)) 43 27 (st' := []) (fun _ => rfl) (y_clt _ _) hk hg (fun h5 hg hk => ?_) (fun h5 hg hk => ?_)
    · skip
      subst hk
      exact ra.ret (r := none) (fun _ => rfl) ⟨rfl, rfl, rfl⟩
    · skip
      refine ra.s (pc' := 28) (st' := [.inr (some (11, 0))]) (fun _ => rfl) ?_
      refine ra.ga (x := 69) (nx := 31) (c := 13) (i := 57) rfl rfl ?_
      refine ra.s (pc' := 32) (st' := [.inl (rf_otherOf a1 a2 A), .inr (some (13, 57))]) (fun _ => rfl) ?_
      obtain ⟨h6, hg⟩ := hg
      refine ra.ld (nx := 33) (v := (A 69 (y_ix (rf_otherOf a1 a2 A)))) 69 4400 rfl rfl h6 rfl ?_
      refine ra.bn (c := (A 69 (y_ix (rf_otherOf a1 a2 A))) = (0 : Int32)) (cd := .ne) (x := (A 69 (y_ix (rf_otherOf a1 a2 A)))) (y := (0 : Int32)) 43 36 (st' := []) (fun _ => rfl) (y_cne _ _) hk hg (fun h7 hg hk => ?_) (fun h7 hg hk => ?_)
      · skip
        refine ra.s (pc' := 37) (st' := [.inr (some (11, 0))]) (fun _ => rfl) ?_
        refine ra.s (pc' := 38) (st' := [.inl (rf_otherOf a1 a2 A), .inr (some (11, 0))]) (fun _ => rfl) ?_
        refine ra.s (pc' := 39) (st' := [.inl (-1 : Int32), .inl (rf_otherOf a1 a2 A), .inr (some (11, 0))]) (fun _ => rfl) ?_
        obtain ⟨h8, hg⟩ := hg
        refine ra.cI (F := (rf_takeBack (rf_otherOf a1 a2 A) (-1 : Int32) A (((1 : Int32), a1, (A 69 (y_ix a2)), (A 70 (y_ix a2)), (if (A 71 (y_ix a2)) = (0 : Int32) then (0 : Int32) else (1 : Int32))) :: js))) (m := 149) (as := [.inr (some (11, 0)), .inl (rf_otherOf a1 a2 A), .inl (-1 : Int32)]) (nx := 42) (L' := [some (.inr (some (11, 0))), some (.inl a1), some (.inl a2), some (.inl (rf_otherOf a1 a2 A)), none, none]) (st' := []) (fun _ => rfl) (rh_takeBack (by omega) h8) ?_
        show ra _ _ _ _ [.inl (rf_takeBack (rf_otherOf a1 a2 A) (-1 : Int32) A (((1 : Int32), a1, (A 69 (y_ix a2)), (A 70 (y_ix a2)), (if (A 71 (y_ix a2)) = (0 : Int32) then (0 : Int32) else (1 : Int32))) :: js)).1] (rf_takeBack (rf_otherOf a1 a2 A) (-1 : Int32) A (((1 : Int32), a1, (A 69 (y_ix a2)), (A 70 (y_ix a2)), (if (A 71 (y_ix a2)) = (0 : Int32) then (0 : Int32) else (1 : Int32))) :: js)).2.1 (rf_takeBack (rf_otherOf a1 a2 A) (-1 : Int32) A (((1 : Int32), a1, (A 69 (y_ix a2)), (A 70 (y_ix a2)), (if (A 71 (y_ix a2)) = (0 : Int32) then (0 : Int32) else (1 : Int32))) :: js)).2.2 _
        refine ra.s (pc' := 43) (st' := []) (fun _ => rfl) ?_
        subst hk
        exact ra.ret (r := none) (fun _ => rfl) ⟨rfl, rfl, rfl⟩
      · skip
        subst hk
        exact ra.ret (r := none) (fun _ => rfl) ⟨rfl, rfl, rfl⟩
  · skip
    refine ra.s (pc' := 45) (st' := [.inl (rf_otherOf a1 a2 A)]) (fun _ => rfl) ?_
    refine ra.b (c := (rf_otherOf a1 a2 A) < (0 : Int32)) (cd := .lt) (x := (rf_otherOf a1 a2 A)) (y := (0 : Int32)) 58 48 (st' := []) (fun _ => rfl) (y_clt _ _) hk hg (fun h9 hg hk => ?_) (fun h9 hg hk => ?_)
    · skip
      refine ra.s (pc' := 59) (st' := [.inl (rf_otherOf a1 a2 A)]) (fun _ => rfl) ?_
      refine ra.bt (cd := .lt) (x := (rf_otherOf a1 a2 A)) (y := (0 : Int32)) 72 62 (st' := []) (fun _ => rfl) (y_clt _ _) h9 ?_
      refine ra.s (pc' := 73) (st' := [.inr (some (11, 0))]) (fun _ => rfl) ?_
      refine ra.s (pc' := 74) (st' := [.inl a1, .inr (some (11, 0))]) (fun _ => rfl) ?_
      refine ra.s (pc' := 75) (st' := [.inl a2, .inl a1, .inr (some (11, 0))]) (fun _ => rfl) ?_
      obtain ⟨h10, hg⟩ := hg
      refine ra.cV (F := (A, (((1 : Int32), a1, (A 69 (y_ix a2)), (A 70 (y_ix a2)), (if (A 71 (y_ix a2)) = (0 : Int32) then (0 : Int32) else (1 : Int32))) :: js))) (m := 145) (as := [.inr (some (11, 0)), .inl a1, .inl a2]) (nx := 78) (L' := [some (.inr (some (11, 0))), some (.inl a1), some (.inl a2), some (.inl (rf_otherOf a1 a2 A)), none, none]) (st' := []) (fun _ => rfl) (rh_alike2 (by omega) h10) ?_
      show ra _ _ _ _ [] A (((1 : Int32), a1, (A 69 (y_ix a2)), (A 70 (y_ix a2)), (if (A 71 (y_ix a2)) = (0 : Int32) then (0 : Int32) else (1 : Int32))) :: js) _
      subst hk
      exact ra.ret (r := none) (fun _ => rfl) ⟨rfl, rfl, rfl⟩
    · skip
      refine ra.s (pc' := 49) (st' := [.inr (some (11, 0))]) (fun _ => rfl) ?_
      refine ra.ga (x := 69) (nx := 52) (c := 13) (i := 57) rfl rfl ?_
      refine ra.s (pc' := 53) (st' := [.inl (rf_otherOf a1 a2 A), .inr (some (13, 57))]) (fun _ => rfl) ?_
      obtain ⟨h11, hg⟩ := hg
      refine ra.ld (nx := 54) (v := (A 69 (y_ix (rf_otherOf a1 a2 A)))) 69 4400 rfl rfl h11 rfl ?_
      refine ra.bn (c := (A 69 (y_ix (rf_otherOf a1 a2 A))) = (0 : Int32)) (cd := .ne) (x := (A 69 (y_ix (rf_otherOf a1 a2 A)))) (y := (0 : Int32)) 58 57 (st' := []) (fun _ => rfl) (y_cne _ _) hk hg (fun h12 hg hk => ?_) (fun h12 hg hk => ?_)
      · skip
        subst hk
        exact ra.ret (r := none) (fun _ => rfl) ⟨rfl, rfl, rfl⟩
      · skip
        refine ra.s (pc' := 59) (st' := [.inl (rf_otherOf a1 a2 A)]) (fun _ => rfl) ?_
        refine ra.bf (cd := .lt) (x := (rf_otherOf a1 a2 A)) (y := (0 : Int32)) 72 62 (st' := []) (fun _ => rfl) (y_clt _ _) h9 ?_
        refine ra.s (pc' := 63) (st' := [.inr (some (11, 0))]) (fun _ => rfl) ?_
        refine ra.ga (x := 69) (nx := 66) (c := 13) (i := 57) rfl rfl ?_
        refine ra.s (pc' := 67) (st' := [.inl (rf_otherOf a1 a2 A), .inr (some (13, 57))]) (fun _ => rfl) ?_
        refine ra.ld (nx := 68) (v := (A 69 (y_ix (rf_otherOf a1 a2 A)))) 69 4400 rfl rfl h11 rfl ?_
        refine ra.s (pc' := 69) (st' := [.inl (2 : Int32), .inl (A 69 (y_ix (rf_otherOf a1 a2 A)))]) (fun _ => rfl) ?_
        refine ra.b (c := (A 69 (y_ix (rf_otherOf a1 a2 A))) = (2 : Int32)) (cd := .eq) (x := (A 69 (y_ix (rf_otherOf a1 a2 A)))) (y := (2 : Int32)) 79 72 (st' := []) (fun _ => rfl) (y_ceq _ _) hk hg (fun h13 hg hk => ?_) (fun h13 hg hk => ?_)
        · skip
          refine ra.s (pc' := 80) (st' := [.inr (some (11, 0))]) (fun _ => rfl) ?_
          refine ra.ga (x := 70) (nx := 83) (c := 13) (i := 58) rfl rfl ?_
          refine ra.s (pc' := 84) (st' := [.inl a2, .inr (some (13, 58))]) (fun _ => rfl) ?_
          refine ra.ld (nx := 85) (v := (A 70 (y_ix a2))) 70 4400 rfl rfl h2 rfl ?_
          refine ra.s (pc' := 87) (L' := [some (.inr (some (11, 0))), some (.inl a1), some (.inl a2), some (.inl (rf_otherOf a1 a2 A)), some (.inl (A 70 (y_ix a2))), none]) (st' := []) (fun _ => rfl) ?_
          refine ra.s (pc' := 88) (st' := [.inr (some (11, 0))]) (fun _ => rfl) ?_
          refine ra.ga (x := 70) (nx := 91) (c := 13) (i := 58) rfl rfl ?_
          refine ra.s (pc' := 92) (st' := [.inl (rf_otherOf a1 a2 A), .inr (some (13, 58))]) (fun _ => rfl) ?_
          refine ra.ld (nx := 93) (v := (A 70 (y_ix (rf_otherOf a1 a2 A)))) 70 4400 rfl rfl h11 rfl ?_
          refine ra.s (pc' := 95) (L' := [some (.inr (some (11, 0))), some (.inl a1), some (.inl a2), some (.inl (rf_otherOf a1 a2 A)), some (.inl (A 70 (y_ix a2))), some (.inl (A 70 (y_ix (rf_otherOf a1 a2 A))))]) (st' := []) (fun _ => rfl) ?_
          refine ra.s (pc' := 97) (st' := [.inl (A 70 (y_ix a2))]) (fun _ => rfl) ?_
          refine ra.s (pc' := 99) (st' := [.inl (A 70 (y_ix (rf_otherOf a1 a2 A))), .inl (A 70 (y_ix a2))]) (fun _ => rfl) ?_
          refine ra.b (c := (A 70 (y_ix a2)) = (A 70 (y_ix (rf_otherOf a1 a2 A)))) (cd := .eq) (x := (A 70 (y_ix a2))) (y := (A 70 (y_ix (rf_otherOf a1 a2 A)))) 122 102 (st' := []) (fun _ => rfl) (y_ceq _ _) hk hg (fun h14 hg hk => ?_) (fun h14 hg hk => ?_)
          · skip
            refine ra.s (pc' := 123) (st' := [.inr (some (11, 0))]) (fun _ => rfl) ?_
            refine ra.s (pc' := 124) (st' := [.inl (1 : Int32), .inr (some (11, 0))]) (fun _ => rfl) ?_
            refine ra.s (pc' := 125) (st' := [.inl a1, .inl (1 : Int32), .inr (some (11, 0))]) (fun _ => rfl) ?_
            refine ra.s (pc' := 126) (st' := [.inl (2 : Int32), .inl a1, .inl (1 : Int32), .inr (some (11, 0))]) (fun _ => rfl) ?_
            refine ra.s (pc' := 128) (st' := [.inl (A 70 (y_ix (rf_otherOf a1 a2 A))), .inl (2 : Int32), .inl a1, .inl (1 : Int32), .inr (some (11, 0))]) (fun _ => rfl) ?_
            refine ra.s (pc' := 129) (st' := [.inl (0 : Int32), .inl (A 70 (y_ix (rf_otherOf a1 a2 A))), .inl (2 : Int32), .inl a1, .inl (1 : Int32), .inr (some (11, 0))]) (fun _ => rfl) ?_
            obtain ⟨h15, hg⟩ := hg
            refine ra.cV (m := 131) (as := [.inr (some (11, 0)), .inl (1 : Int32), .inl a1, .inl (2 : Int32), .inl (A 70 (y_ix (rf_otherOf a1 a2 A))), .inl (0 : Int32)]) (nx := 132) (L' := [some (.inr (some (11, 0))), some (.inl a1), some (.inl a2), some (.inl (rf_otherOf a1 a2 A)), some (.inl (A 70 (y_ix a2))), some (.inl (A 70 (y_ix (rf_otherOf a1 a2 A))))]) (st' := []) (fun _ => rfl) (rh_add h15) ?_
            show ra _ _ _ _ _ A (((1 : Int32), a1, (2 : Int32), (A 70 (y_ix (rf_otherOf a1 a2 A))), (0 : Int32)) :: js) _
            subst hk
            exact ra.ret (r := none) (fun _ => rfl) ⟨rfl, rfl, rfl⟩
          · skip
            refine ra.s (pc' := 103) (st' := [.inr (some (11, 0))]) (fun _ => rfl) ?_
            refine ra.ga (x := 29) (nx := 106) (c := 13) (i := 23) rfl rfl ?_
            refine ra.s (pc' := 108) (st' := [.inl (A 70 (y_ix a2)), .inr (some (13, 23))]) (fun _ => rfl) ?_
            obtain ⟨h16, hg⟩ := hg
            refine ra.ld (nx := 109) (v := (A 29 (y_ix (A 70 (y_ix a2))))) 29 4400 rfl rfl h16 rfl ?_
            refine ra.s (pc' := 110) (st' := [.inl (-1 : Int32), .inl (A 29 (y_ix (A 70 (y_ix a2))))]) (fun _ => rfl) ?_
            refine ra.bn (c := (A 29 (y_ix (A 70 (y_ix a2)))) = (-1 : Int32)) (cd := .ne) (x := (A 29 (y_ix (A 70 (y_ix a2))))) (y := (-1 : Int32)) 122 113 (st' := []) (fun _ => rfl) (y_cne _ _) hk hg (fun h17 hg hk => ?_) (fun h17 hg hk => ?_)
            · skip
              refine ra.s (pc' := 114) (st' := [.inr (some (11, 0))]) (fun _ => rfl) ?_
              refine ra.ga (x := 29) (nx := 117) (c := 13) (i := 23) rfl rfl ?_
              refine ra.s (pc' := 119) (st' := [.inl (A 70 (y_ix a2)), .inr (some (13, 23))]) (fun _ => rfl) ?_
              refine ra.s (pc' := 121) (st' := [.inl (A 70 (y_ix (rf_otherOf a1 a2 A))), .inl (A 70 (y_ix a2)), .inr (some (13, 23))]) (fun _ => rfl) ?_
              refine ra.si (nx := 122) 29 4400 rfl rfl h16 ?_
              refine ra.s (pc' := 123) (st' := [.inr (some (11, 0))]) (fun _ => rfl) ?_
              refine ra.s (pc' := 124) (st' := [.inl (1 : Int32), .inr (some (11, 0))]) (fun _ => rfl) ?_
              refine ra.s (pc' := 125) (st' := [.inl a1, .inl (1 : Int32), .inr (some (11, 0))]) (fun _ => rfl) ?_
              refine ra.s (pc' := 126) (st' := [.inl (2 : Int32), .inl a1, .inl (1 : Int32), .inr (some (11, 0))]) (fun _ => rfl) ?_
              refine ra.s (pc' := 128) (st' := [.inl (A 70 (y_ix (rf_otherOf a1 a2 A))), .inl (2 : Int32), .inl a1, .inl (1 : Int32), .inr (some (11, 0))]) (fun _ => rfl) ?_
              refine ra.s (pc' := 129) (st' := [.inl (0 : Int32), .inl (A 70 (y_ix (rf_otherOf a1 a2 A))), .inl (2 : Int32), .inl a1, .inl (1 : Int32), .inr (some (11, 0))]) (fun _ => rfl) ?_
              obtain ⟨h18, hg⟩ := hg
              refine ra.cV (m := 131) (as := [.inr (some (11, 0)), .inl (1 : Int32), .inl a1, .inl (2 : Int32), .inl (A 70 (y_ix (rf_otherOf a1 a2 A))), .inl (0 : Int32)]) (nx := 132) (L' := [some (.inr (some (11, 0))), some (.inl a1), some (.inl a2), some (.inl (rf_otherOf a1 a2 A)), some (.inl (A 70 (y_ix a2))), some (.inl (A 70 (y_ix (rf_otherOf a1 a2 A))))]) (st' := []) (fun _ => rfl) (rh_add h18) ?_
              show ra _ _ _ _ _ (xm_u2 A 29 (y_ix (A 70 (y_ix a2))) (A 70 (y_ix (rf_otherOf a1 a2 A)))) (((1 : Int32), a1, (2 : Int32), (A 70 (y_ix (rf_otherOf a1 a2 A))), (0 : Int32)) :: js) _
              subst hk
              exact ra.ret (r := none) (fun _ => rfl) ⟨rfl, rfl, rfl⟩
            · skip
              refine ra.s (pc' := 123) (st' := [.inr (some (11, 0))]) (fun _ => rfl) ?_
              refine ra.s (pc' := 124) (st' := [.inl (1 : Int32), .inr (some (11, 0))]) (fun _ => rfl) ?_
              refine ra.s (pc' := 125) (st' := [.inl a1, .inl (1 : Int32), .inr (some (11, 0))]) (fun _ => rfl) ?_
              refine ra.s (pc' := 126) (st' := [.inl (2 : Int32), .inl a1, .inl (1 : Int32), .inr (some (11, 0))]) (fun _ => rfl) ?_
              refine ra.s (pc' := 128) (st' := [.inl (A 70 (y_ix (rf_otherOf a1 a2 A))), .inl (2 : Int32), .inl a1, .inl (1 : Int32), .inr (some (11, 0))]) (fun _ => rfl) ?_
              refine ra.s (pc' := 129) (st' := [.inl (0 : Int32), .inl (A 70 (y_ix (rf_otherOf a1 a2 A))), .inl (2 : Int32), .inl a1, .inl (1 : Int32), .inr (some (11, 0))]) (fun _ => rfl) ?_
              obtain ⟨h19, hg⟩ := hg
              refine ra.cV (m := 131) (as := [.inr (some (11, 0)), .inl (1 : Int32), .inl a1, .inl (2 : Int32), .inl (A 70 (y_ix (rf_otherOf a1 a2 A))), .inl (0 : Int32)]) (nx := 132) (L' := [some (.inr (some (11, 0))), some (.inl a1), some (.inl a2), some (.inl (rf_otherOf a1 a2 A)), some (.inl (A 70 (y_ix a2))), some (.inl (A 70 (y_ix (rf_otherOf a1 a2 A))))]) (st' := []) (fun _ => rfl) (rh_add h19) ?_
              show ra _ _ _ _ _ A (((1 : Int32), a1, (2 : Int32), (A 70 (y_ix (rf_otherOf a1 a2 A))), (0 : Int32)) :: js) _
              subst hk
              exact ra.ret (r := none) (fun _ => rfl) ⟨rfl, rfl, rfl⟩
        · skip
          refine ra.s (pc' := 73) (st' := [.inr (some (11, 0))]) (fun _ => rfl) ?_
          refine ra.s (pc' := 74) (st' := [.inl a1, .inr (some (11, 0))]) (fun _ => rfl) ?_
          refine ra.s (pc' := 75) (st' := [.inl a2, .inl a1, .inr (some (11, 0))]) (fun _ => rfl) ?_
          obtain ⟨h20, hg⟩ := hg
          refine ra.cV (F := (A, (((1 : Int32), a1, (A 69 (y_ix a2)), (A 70 (y_ix a2)), (if (A 71 (y_ix a2)) = (0 : Int32) then (0 : Int32) else (1 : Int32))) :: js))) (m := 145) (as := [.inr (some (11, 0)), .inl a1, .inl a2]) (nx := 78) (L' := [some (.inr (some (11, 0))), some (.inl a1), some (.inl a2), some (.inl (rf_otherOf a1 a2 A)), none, none]) (st' := []) (fun _ => rfl) (rh_alike2 (by omega) h20) ?_
          show ra _ _ _ _ [] A (((1 : Int32), a1, (A 69 (y_ix a2)), (A 70 (y_ix a2)), (if (A 71 (y_ix a2)) = (0 : Int32) then (0 : Int32) else (1 : Int32))) :: js) _
          subst hk
          exact ra.ret (r := none) (fun _ => rfl) ⟨rfl, rfl, rfl⟩
/-- fallbackTold -/
def rf_fallbackTold (a1 a2 a3 : Int32) (A : y_A) (js : List y_J) : y_A × List y_J := (if (A 73 (y_ix a1)) = (2 : Int32) then (if (A 69 (y_ix a2)) = (1 : Int32) then (A, (((1 : Int32), a1, (1 : Int32), (A 70 (y_ix a2)), (1 : Int32)) :: js)) else ((xm_u2 A 28 (y_ix (A 70 (y_ix a2))) (A 70 (y_ix (rf_otherOf a1 a2 A)))), (((1 : Int32), a1, (A 69 (y_ix a2)), (A 70 (y_ix a2)), (if (A 71 (y_ix a2)) = (0 : Int32) then (0 : Int32) else (1 : Int32))) :: js))) else (if (rf_isNamed a2 a3 A) = (0 : Int32) then (A, (((1 : Int32), a1, (A 69 (y_ix a2)), (A 70 (y_ix a2)), (if (A 71 (y_ix a2)) = (0 : Int32) then (0 : Int32) else (1 : Int32))) :: js)) else (if (A 32 (y_ix a3)) = (0 : Int32) then (A, (((1 : Int32), a1, (1 : Int32), (A 33 (y_ix a3)), (1 : Int32)) :: js)) else (A, (((0 : Int32), (A 62 (y_ix a1)), ((A 63 (y_ix a1)) + (1 : Int32)), a1, (A 33 (y_ix a3))) :: js)))))
def rg_fallbackTold (a1 a2 a3 : Int32) (A : y_A) (js : List y_J) : Prop := (y_in a1 4400) ∧ (((A 73 (y_ix a1)) = (2 : Int32) → (y_in a2 4400) ∧ (((A 69 (y_ix a2)) = (1 : Int32) → (js.length < 20000) ∧ True) ∧ (¬ (A 69 (y_ix a2)) = (1 : Int32) → (rg_otherOf a1 a2 A) ∧ (y_in (rf_otherOf a1 a2 A) 4400) ∧ (y_in (A 70 (y_ix a2)) 4400) ∧ (rg_alike a1 a2 (xm_u2 A 28 (y_ix (A 70 (y_ix a2))) (A 70 (y_ix (rf_otherOf a1 a2 A)))) js) ∧ True))) ∧ (¬ (A 73 (y_ix a1)) = (2 : Int32) → (rg_isNamed a2 a3 A) ∧ (((rf_isNamed a2 a3 A) = (0 : Int32) → (rg_alike a1 a2 A js) ∧ True) ∧ (¬ (rf_isNamed a2 a3 A) = (0 : Int32) → (y_in a3 24) ∧ (((A 32 (y_ix a3)) = (0 : Int32) → (js.length < 20000) ∧ True) ∧ (¬ (A 32 (y_ix a3)) = (0 : Int32) → (js.length < 20000) ∧ True))))))
theorem rh_fallbackTold {d : Nat} (hd : 3 ≤ d) {a1 a2 a3 : Int32} {A : y_A} {js : List y_J} (hg : rg_fallbackTold a1 a2 a3 A js) : rc d 150 [.inr (some (11, 0)), .inl a1, .inl a2, .inl a3] A js (y_V (rf_fallbackTold a1 a2 a3 A js)) := by
  obtain ⟨d, rfl⟩ := Nat.exists_eq_add_of_le' hd
  obtain ⟨F, hk⟩ : ∃ F, rf_fallbackTold a1 a2 a3 A js = F := ⟨_, rfl⟩
  rw [hk]
  show ra _ _ _ [some (.inr (some (11, 0))), some (.inl a1), some (.inl a2), some (.inl a3)] _ _ _ _
  unfold rg_fallbackTold at hg
  unfold rf_fallbackTold at hk
  refine ra.s (pc' := 1) (st' := [.inr (some (11, 0))]) (fun _ => rfl) ?_
  refine ra.ga (x := 73) (nx := 4) (c := 13) (i := 60) rfl rfl ?_
  refine ra.s (pc' := 5) (st' := [.inl a1, .inr (some (13, 60))]) (fun _ => rfl) ?_
  obtain ⟨h1, hg⟩ := hg
  refine ra.ld (nx := 6) (v := (A 73 (y_ix a1))) 73 4400 rfl rfl h1 rfl ?_
  refine ra.s (pc' := 7) (st' := [.inl (2 : Int32), .inl (A 73 (y_ix a1))]) (fun _ => rfl) ?_
  refine ra.bn (c := (A 73 (y_ix a1)) = (2 : Int32)) (cd := .ne) (x := (A 73 (y_ix a1))) (y := (2 : Int32)) 66 10 (st' := []) (fun _ => rfl) (y_cne _ _) hk hg (fun h2 hg hk => ?_) (fun h2 hg hk => ?_)
  · skip
    refine ra.s (pc' := 11) (st' := [.inr (some (11, 0))]) (fun _ => rfl) ?_
    refine ra.ga (x := 69) (nx := 14) (c := 13) (i := 57) rfl rfl ?_
    refine ra.s (pc' := 15) (st' := [.inl a2, .inr (some (13, 57))]) (fun _ => rfl) ?_
    obtain ⟨h3, hg⟩ := hg
    refine ra.ld (nx := 16) (v := (A 69 (y_ix a2))) 69 4400 rfl rfl h3 rfl ?_
    refine ra.s (pc' := 17) (st' := [.inl (1 : Int32), .inl (A 69 (y_ix a2))]) (fun _ => rfl) ?_
    refine ra.bn (c := (A 69 (y_ix a2)) = (1 : Int32)) (cd := .ne) (x := (A 69 (y_ix a2))) (y := (1 : Int32)) 35 20 (st' := []) (fun _ => rfl) (y_cne _ _) hk hg (fun h4 hg hk => ?_) (fun h4 hg hk => ?_)
    · skip
      refine ra.s (pc' := 21) (st' := [.inr (some (11, 0))]) (fun _ => rfl) ?_
      refine ra.s (pc' := 22) (st' := [.inl (1 : Int32), .inr (some (11, 0))]) (fun _ => rfl) ?_
      refine ra.s (pc' := 23) (st' := [.inl a1, .inl (1 : Int32), .inr (some (11, 0))]) (fun _ => rfl) ?_
      refine ra.s (pc' := 24) (st' := [.inl (1 : Int32), .inl a1, .inl (1 : Int32), .inr (some (11, 0))]) (fun _ => rfl) ?_
      refine ra.s (pc' := 25) (st' := [.inr (some (11, 0)), .inl (1 : Int32), .inl a1, .inl (1 : Int32), .inr (some (11, 0))]) (fun _ => rfl) ?_
      refine ra.ga (x := 70) (nx := 28) (c := 13) (i := 58) rfl rfl ?_
      refine ra.s (pc' := 29) (st' := [.inl a2, .inr (some (13, 58)), .inl (1 : Int32), .inl a1, .inl (1 : Int32), .inr (some (11, 0))]) (fun _ => rfl) ?_
      refine ra.ld (nx := 30) (v := (A 70 (y_ix a2))) 70 4400 rfl rfl h3 rfl ?_
      refine ra.s (pc' := 31) (st' := [.inl (1 : Int32), .inl (A 70 (y_ix a2)), .inl (1 : Int32), .inl a1, .inl (1 : Int32), .inr (some (11, 0))]) (fun _ => rfl) ?_
      obtain ⟨h5, hg⟩ := hg
      refine ra.cV (m := 131) (as := [.inr (some (11, 0)), .inl (1 : Int32), .inl a1, .inl (1 : Int32), .inl (A 70 (y_ix a2)), .inl (1 : Int32)]) (nx := 34) (L' := [some (.inr (some (11, 0))), some (.inl a1), some (.inl a2), some (.inl a3)]) (st' := []) (fun _ => rfl) (rh_add h5) ?_
      show ra _ _ _ _ _ A (((1 : Int32), a1, (1 : Int32), (A 70 (y_ix a2)), (1 : Int32)) :: js) _
      subst hk
      exact ra.ret (r := none) (fun _ => rfl) ⟨rfl, rfl, rfl⟩
    · skip
      refine ra.s (pc' := 36) (st' := [.inr (some (11, 0))]) (fun _ => rfl) ?_
      refine ra.ga (x := 28) (nx := 39) (c := 13) (i := 22) rfl rfl ?_
      refine ra.s (pc' := 40) (st' := [.inr (some (11, 0)), .inr (some (13, 22))]) (fun _ => rfl) ?_
      refine ra.ga (x := 70) (nx := 43) (c := 13) (i := 58) rfl rfl ?_
      refine ra.s (pc' := 44) (st' := [.inl a2, .inr (some (13, 58)), .inr (some (13, 22))]) (fun _ => rfl) ?_
      refine ra.ld (nx := 45) (v := (A 70 (y_ix a2))) 70 4400 rfl rfl h3 rfl ?_
      refine ra.s (pc' := 46) (st' := [.inr (some (11, 0)), .inl (A 70 (y_ix a2)), .inr (some (13, 22))]) (fun _ => rfl) ?_
      refine ra.ga (x := 70) (nx := 49) (c := 13) (i := 58) rfl rfl ?_
      refine ra.s (pc' := 50) (st' := [.inr (some (11, 0)), .inr (some (13, 58)), .inl (A 70 (y_ix a2)), .inr (some (13, 22))]) (fun _ => rfl) ?_
      refine ra.s (pc' := 51) (st' := [.inl a1, .inr (some (11, 0)), .inr (some (13, 58)), .inl (A 70 (y_ix a2)), .inr (some (13, 22))]) (fun _ => rfl) ?_
      refine ra.s (pc' := 52) (st' := [.inl a2, .inl a1, .inr (some (11, 0)), .inr (some (13, 58)), .inl (A 70 (y_ix a2)), .inr (some (13, 22))]) (fun _ => rfl) ?_
      obtain ⟨h6, hg⟩ := hg
      refine ra.cP (f := (rf_otherOf a1 a2 A)) (m := 148) (as := [.inr (some (11, 0)), .inl a1, .inl a2]) (nx := 55) (L' := [some (.inr (some (11, 0))), some (.inl a1), some (.inl a2), some (.inl a3)]) (st' := [.inr (some (13, 58)), .inl (A 70 (y_ix a2)), .inr (some (13, 22))]) (fun _ => rfl) (rh_otherOf (by omega) h6) ?_
      obtain ⟨h7, hg⟩ := hg
      refine ra.ld (nx := 56) (v := (A 70 (y_ix (rf_otherOf a1 a2 A)))) 70 4400 rfl rfl h7 rfl ?_
      obtain ⟨h8, hg⟩ := hg
      refine ra.si (nx := 57) 28 4400 rfl rfl h8 ?_
      refine ra.s (pc' := 58) (st' := [.inr (some (11, 0))]) (fun _ => rfl) ?_
      refine ra.s (pc' := 59) (st' := [.inl a1, .inr (some (11, 0))]) (fun _ => rfl) ?_
      refine ra.s (pc' := 60) (st' := [.inl a2, .inl a1, .inr (some (11, 0))]) (fun _ => rfl) ?_
      obtain ⟨h9, hg⟩ := hg
      refine ra.cV (F := ((xm_u2 A 28 (y_ix (A 70 (y_ix a2))) (A 70 (y_ix (rf_otherOf a1 a2 A)))), (((1 : Int32), a1, (A 69 (y_ix a2)), (A 70 (y_ix a2)), (if (A 71 (y_ix a2)) = (0 : Int32) then (0 : Int32) else (1 : Int32))) :: js))) (m := 145) (as := [.inr (some (11, 0)), .inl a1, .inl a2]) (nx := 63) (L' := [some (.inr (some (11, 0))), some (.inl a1), some (.inl a2), some (.inl a3)]) (st' := []) (fun _ => rfl) (rh_alike2 (by omega) h9) ?_
      show ra _ _ _ _ [] (xm_u2 A 28 (y_ix (A 70 (y_ix a2))) (A 70 (y_ix (rf_otherOf a1 a2 A)))) (((1 : Int32), a1, (A 69 (y_ix a2)), (A 70 (y_ix a2)), (if (A 71 (y_ix a2)) = (0 : Int32) then (0 : Int32) else (1 : Int32))) :: js) _
      refine ra.s (pc' := 136) (st' := []) (fun _ => rfl) ?_
      subst hk
      exact ra.ret (r := none) (fun _ => rfl) ⟨rfl, rfl, rfl⟩
  · skip
    refine ra.s (pc' := 67) (st' := [.inr (some (11, 0))]) (fun _ => rfl) ?_
    refine ra.s (pc' := 68) (st' := [.inl a2, .inr (some (11, 0))]) (fun _ => rfl) ?_
    refine ra.s (pc' := 69) (st' := [.inl a3, .inl a2, .inr (some (11, 0))]) (fun _ => rfl) ?_
    obtain ⟨h10, hg⟩ := hg
    refine ra.cP (f := (rf_isNamed a2 a3 A)) (m := 143) (as := [.inr (some (11, 0)), .inl a2, .inl a3]) (nx := 72) (L' := [some (.inr (some (11, 0))), some (.inl a1), some (.inl a2), some (.inl a3)]) (st' := []) (fun _ => rfl) (rh_isNamed (by omega) h10) ?_
    refine ra.bn (c := (rf_isNamed a2 a3 A) = (0 : Int32)) (cd := .ne) (x := (rf_isNamed a2 a3 A)) (y := (0 : Int32)) 84 75 (st' := []) (fun _ => rfl) (y_cne _ _) hk hg (fun h11 hg hk => ?_) (fun h11 hg hk => ?_)
    · skip
      refine ra.s (pc' := 76) (st' := [.inr (some (11, 0))]) (fun _ => rfl) ?_
      refine ra.s (pc' := 77) (st' := [.inl a1, .inr (some (11, 0))]) (fun _ => rfl) ?_
      refine ra.s (pc' := 78) (st' := [.inl a2, .inl a1, .inr (some (11, 0))]) (fun _ => rfl) ?_
      obtain ⟨h12, hg⟩ := hg
      refine ra.cV (F := (A, (((1 : Int32), a1, (A 69 (y_ix a2)), (A 70 (y_ix a2)), (if (A 71 (y_ix a2)) = (0 : Int32) then (0 : Int32) else (1 : Int32))) :: js))) (m := 145) (as := [.inr (some (11, 0)), .inl a1, .inl a2]) (nx := 81) (L' := [some (.inr (some (11, 0))), some (.inl a1), some (.inl a2), some (.inl a3)]) (st' := []) (fun _ => rfl) (rh_alike2 (by omega) h12) ?_
      show ra _ _ _ _ [] A (((1 : Int32), a1, (A 69 (y_ix a2)), (A 70 (y_ix a2)), (if (A 71 (y_ix a2)) = (0 : Int32) then (0 : Int32) else (1 : Int32))) :: js) _
      refine ra.s (pc' := 136) (st' := []) (fun _ => rfl) ?_
      subst hk
      exact ra.ret (r := none) (fun _ => rfl) ⟨rfl, rfl, rfl⟩
    · skip
      refine ra.s (pc' := 85) (st' := [.inr (some (11, 0))]) (fun _ => rfl) ?_
      refine ra.ga (x := 32) (nx := 88) (c := 13) (i := 25) rfl rfl ?_
      refine ra.s (pc' := 89) (st' := [.inl a3, .inr (some (13, 25))]) (fun _ => rfl) ?_
      obtain ⟨h13, hg⟩ := hg
      refine ra.ld (nx := 90) (v := (A 32 (y_ix a3))) 32 24 rfl rfl h13 rfl ?_
      refine ra.bn (c := (A 32 (y_ix a3)) = (0 : Int32)) (cd := .ne) (x := (A 32 (y_ix a3))) (y := (0 : Int32)) 110 93 (st' := []) (fun _ => rfl) (y_cne _ _) hk hg (fun h14 hg hk => ?_) (fun h14 hg hk => ?_)
      · skip
        refine ra.s (pc' := 94) (st' := [.inr (some (11, 0))]) (fun _ => rfl) ?_
        refine ra.s (pc' := 95) (st' := [.inl (1 : Int32), .inr (some (11, 0))]) (fun _ => rfl) ?_
        refine ra.s (pc' := 96) (st' := [.inl a1, .inl (1 : Int32), .inr (some (11, 0))]) (fun _ => rfl) ?_
        refine ra.s (pc' := 97) (st' := [.inl (1 : Int32), .inl a1, .inl (1 : Int32), .inr (some (11, 0))]) (fun _ => rfl) ?_
        refine ra.s (pc' := 98) (st' := [.inr (some (11, 0)), .inl (1 : Int32), .inl a1, .inl (1 : Int32), .inr (some (11, 0))]) (fun _ => rfl) ?_
        refine ra.ga (x := 33) (nx := 101) (c := 13) (i := 26) rfl rfl ?_
        refine ra.s (pc' := 102) (st' := [.inl a3, .inr (some (13, 26)), .inl (1 : Int32), .inl a1, .inl (1 : Int32), .inr (some (11, 0))]) (fun _ => rfl) ?_
        refine ra.ld (nx := 103) (v := (A 33 (y_ix a3))) 33 24 rfl rfl h13 rfl ?_
        refine ra.s (pc' := 104) (st' := [.inl (1 : Int32), .inl (A 33 (y_ix a3)), .inl (1 : Int32), .inl a1, .inl (1 : Int32), .inr (some (11, 0))]) (fun _ => rfl) ?_
        obtain ⟨h15, hg⟩ := hg
        refine ra.cV (m := 131) (as := [.inr (some (11, 0)), .inl (1 : Int32), .inl a1, .inl (1 : Int32), .inl (A 33 (y_ix a3)), .inl (1 : Int32)]) (nx := 107) (L' := [some (.inr (some (11, 0))), some (.inl a1), some (.inl a2), some (.inl a3)]) (st' := []) (fun _ => rfl) (rh_add h15) ?_
        show ra _ _ _ _ _ A (((1 : Int32), a1, (1 : Int32), (A 33 (y_ix a3)), (1 : Int32)) :: js) _
        refine ra.s (pc' := 136) (st' := []) (fun _ => rfl) ?_
        subst hk
        exact ra.ret (r := none) (fun _ => rfl) ⟨rfl, rfl, rfl⟩
      · skip
        refine ra.s (pc' := 111) (st' := [.inr (some (11, 0))]) (fun _ => rfl) ?_
        refine ra.s (pc' := 112) (st' := [.inl (0 : Int32), .inr (some (11, 0))]) (fun _ => rfl) ?_
        refine ra.s (pc' := 113) (st' := [.inr (some (11, 0)), .inl (0 : Int32), .inr (some (11, 0))]) (fun _ => rfl) ?_
        refine ra.ga (x := 62) (nx := 116) (c := 13) (i := 50) rfl rfl ?_
        refine ra.s (pc' := 117) (st' := [.inl a1, .inr (some (13, 50)), .inl (0 : Int32), .inr (some (11, 0))]) (fun _ => rfl) ?_
        refine ra.ld (nx := 118) (v := (A 62 (y_ix a1))) 62 4400 rfl rfl h1 rfl ?_
        refine ra.s (pc' := 119) (st' := [.inr (some (11, 0)), .inl (A 62 (y_ix a1)), .inl (0 : Int32), .inr (some (11, 0))]) (fun _ => rfl) ?_
        refine ra.ga (x := 63) (nx := 122) (c := 13) (i := 51) rfl rfl ?_
        refine ra.s (pc' := 123) (st' := [.inl a1, .inr (some (13, 51)), .inl (A 62 (y_ix a1)), .inl (0 : Int32), .inr (some (11, 0))]) (fun _ => rfl) ?_
        refine ra.ld (nx := 124) (v := (A 63 (y_ix a1))) 63 4400 rfl rfl h1 rfl ?_
        refine ra.s (pc' := 125) (st' := [.inl (1 : Int32), .inl (A 63 (y_ix a1)), .inl (A 62 (y_ix a1)), .inl (0 : Int32), .inr (some (11, 0))]) (fun _ => rfl) ?_
        refine ra.s (pc' := 126) (st' := [.inl ((A 63 (y_ix a1)) + (1 : Int32)), .inl (A 62 (y_ix a1)), .inl (0 : Int32), .inr (some (11, 0))]) (fun _ => rfl) ?_
        refine ra.s (pc' := 127) (st' := [.inl a1, .inl ((A 63 (y_ix a1)) + (1 : Int32)), .inl (A 62 (y_ix a1)), .inl (0 : Int32), .inr (some (11, 0))]) (fun _ => rfl) ?_
        refine ra.s (pc' := 128) (st' := [.inr (some (11, 0)), .inl a1, .inl ((A 63 (y_ix a1)) + (1 : Int32)), .inl (A 62 (y_ix a1)), .inl (0 : Int32), .inr (some (11, 0))]) (fun _ => rfl) ?_
        refine ra.ga (x := 33) (nx := 131) (c := 13) (i := 26) rfl rfl ?_
        refine ra.s (pc' := 132) (st' := [.inl a3, .inr (some (13, 26)), .inl a1, .inl ((A 63 (y_ix a1)) + (1 : Int32)), .inl (A 62 (y_ix a1)), .inl (0 : Int32), .inr (some (11, 0))]) (fun _ => rfl) ?_
        refine ra.ld (nx := 133) (v := (A 33 (y_ix a3))) 33 24 rfl rfl h13 rfl ?_
        obtain ⟨h16, hg⟩ := hg
        refine ra.cV (m := 131) (as := [.inr (some (11, 0)), .inl (0 : Int32), .inl (A 62 (y_ix a1)), .inl ((A 63 (y_ix a1)) + (1 : Int32)), .inl a1, .inl (A 33 (y_ix a3))]) (nx := 136) (L' := [some (.inr (some (11, 0))), some (.inl a1), some (.inl a2), some (.inl a3)]) (st' := []) (fun _ => rfl) (rh_add h16) ?_
        show ra _ _ _ _ _ A (((0 : Int32), (A 62 (y_ix a1)), ((A 63 (y_ix a1)) + (1 : Int32)), a1, (A 33 (y_ix a3))) :: js) _
        subst hk
        exact ra.ret (r := none) (fun _ => rfl) ⟨rfl, rfl, rfl⟩
/-- fails -/
def rf_fails (a1 a2 a3 : Int32) (A : y_A) : Int32 × y_A := ((((A 23 0) + (1 : Int32)) - (1 : Int32)), (xm_u2 (xm_u2 (xm_u2 (xm_u2 (xm_u2 (xm_u2 (xm_u2 A 24 (y_ix (A 23 0)) a1) 25 (y_ix (A 23 0)) (A 0 0)) 26 (y_ix (A 23 0)) a2) 27 (y_ix (A 23 0)) a3) 28 (y_ix (A 23 0)) (-1 : Int32)) 29 (y_ix (A 23 0)) (-1 : Int32)) 23 0 ((A 23 0) + (1 : Int32))))
def rg_fails (a1 a2 a3 : Int32) (A : y_A) : Prop := (y_in (A 23 0) 4400) ∧ True
theorem rh_fails {d : Nat} (hd : 0 ≤ d) {a1 a2 a3 : Int32} {A : y_A} {js : List y_J} (hg : rg_fails a1 a2 a3 A) : rc d 151 [.inr (some (11, 0)), .inl a1, .inl a2, .inl a3] A js (y_I ((rf_fails a1 a2 a3 A).1, (rf_fails a1 a2 a3 A).2, js)) := by
  obtain ⟨F, hk⟩ : ∃ F, rf_fails a1 a2 a3 A = F := ⟨_, rfl⟩
  rw [hk]
  show ra _ _ _ [some (.inr (some (11, 0))), some (.inl a1), some (.inl a2), some (.inl a3)] _ _ _ _
  unfold rg_fails at hg
  unfold rf_fails at hk
  refine ra.s (pc' := 1) (st' := [.inr (some (11, 0))]) (fun _ => rfl) ?_
  refine ra.ga (x := 24) (nx := 4) (c := 13) (i := 18) rfl rfl ?_
  refine ra.s (pc' := 5) (st' := [.inr (some (11, 0)), .inr (some (13, 18))]) (fun _ => rfl) ?_
  refine ra.gi (x := 23) (nx := 8) (v := (A 23 0)) rfl rfl rfl ?_
  refine ra.s (pc' := 9) (st' := [.inl a1, .inl (A 23 0), .inr (some (13, 18))]) (fun _ => rfl) ?_
  obtain ⟨h1, hg⟩ := hg
  refine ra.si (nx := 10) 24 4400 rfl rfl h1 ?_
  refine ra.s (pc' := 11) (st' := [.inr (some (11, 0))]) (fun _ => rfl) ?_
  refine ra.ga (x := 25) (nx := 14) (c := 13) (i := 19) rfl rfl ?_
  refine ra.s (pc' := 15) (st' := [.inr (some (11, 0)), .inr (some (13, 19))]) (fun _ => rfl) ?_
  refine ra.gi (x := 23) (nx := 18) (v := (A 23 0)) rfl rfl rfl ?_
  refine ra.s (pc' := 19) (st' := [.inr (some (11, 0)), .inl (A 23 0), .inr (some (13, 19))]) (fun _ => rfl) ?_
  refine ra.gi (x := 0) (nx := 22) (v := (A 0 0)) rfl rfl rfl ?_
  refine ra.si (nx := 23) 25 4400 rfl rfl h1 ?_
  refine ra.s (pc' := 24) (st' := [.inr (some (11, 0))]) (fun _ => rfl) ?_
  refine ra.ga (x := 26) (nx := 27) (c := 13) (i := 20) rfl rfl ?_
  refine ra.s (pc' := 28) (st' := [.inr (some (11, 0)), .inr (some (13, 20))]) (fun _ => rfl) ?_
  refine ra.gi (x := 23) (nx := 31) (v := (A 23 0)) rfl rfl rfl ?_
  refine ra.s (pc' := 32) (st' := [.inl a2, .inl (A 23 0), .inr (some (13, 20))]) (fun _ => rfl) ?_
  refine ra.si (nx := 33) 26 4400 rfl rfl h1 ?_
  refine ra.s (pc' := 34) (st' := [.inr (some (11, 0))]) (fun _ => rfl) ?_
  refine ra.ga (x := 27) (nx := 37) (c := 13) (i := 21) rfl rfl ?_
  refine ra.s (pc' := 38) (st' := [.inr (some (11, 0)), .inr (some (13, 21))]) (fun _ => rfl) ?_
  refine ra.gi (x := 23) (nx := 41) (v := (A 23 0)) rfl rfl rfl ?_
  refine ra.s (pc' := 42) (st' := [.inl a3, .inl (A 23 0), .inr (some (13, 21))]) (fun _ => rfl) ?_
  refine ra.si (nx := 43) 27 4400 rfl rfl h1 ?_
  refine ra.s (pc' := 44) (st' := [.inr (some (11, 0))]) (fun _ => rfl) ?_
  refine ra.ga (x := 28) (nx := 47) (c := 13) (i := 22) rfl rfl ?_
  refine ra.s (pc' := 48) (st' := [.inr (some (11, 0)), .inr (some (13, 22))]) (fun _ => rfl) ?_
  refine ra.gi (x := 23) (nx := 51) (v := (A 23 0)) rfl rfl rfl ?_
  refine ra.s (pc' := 52) (st' := [.inl (-1 : Int32), .inl (A 23 0), .inr (some (13, 22))]) (fun _ => rfl) ?_
  refine ra.si (nx := 53) 28 4400 rfl rfl h1 ?_
  refine ra.s (pc' := 54) (st' := [.inr (some (11, 0))]) (fun _ => rfl) ?_
  refine ra.ga (x := 29) (nx := 57) (c := 13) (i := 23) rfl rfl ?_
  refine ra.s (pc' := 58) (st' := [.inr (some (11, 0)), .inr (some (13, 23))]) (fun _ => rfl) ?_
  refine ra.gi (x := 23) (nx := 61) (v := (A 23 0)) rfl rfl rfl ?_
  refine ra.s (pc' := 62) (st' := [.inl (-1 : Int32), .inl (A 23 0), .inr (some (13, 23))]) (fun _ => rfl) ?_
  refine ra.si (nx := 63) 29 4400 rfl rfl h1 ?_
  refine ra.s (pc' := 64) (st' := [.inr (some (11, 0))]) (fun _ => rfl) ?_
  refine ra.s (pc' := 65) (st' := [.inr (some (11, 0)), .inr (some (11, 0))]) (fun _ => rfl) ?_
  refine ra.gi (x := 23) (nx := 68) (v := (A 23 0)) rfl rfl rfl ?_
  refine ra.s (pc' := 69) (st' := [.inl (1 : Int32), .inl (A 23 0), .inr (some (11, 0))]) (fun _ => rfl) ?_
  refine ra.s (pc' := 70) (st' := [.inl ((A 23 0) + (1 : Int32)), .inr (some (11, 0))]) (fun _ => rfl) ?_
  refine ra.pi (x := 23) (nx := 73) rfl rfl ?_
  refine ra.s (pc' := 74) (st' := [.inr (some (11, 0))]) (fun _ => rfl) ?_
  refine ra.gi (x := 23) (nx := 77) (v := ((A 23 0) + (1 : Int32))) rfl rfl rfl ?_
  refine ra.s (pc' := 78) (st' := [.inl (1 : Int32), .inl ((A 23 0) + (1 : Int32))]) (fun _ => rfl) ?_
  refine ra.s (pc' := 79) (st' := [.inl (((A 23 0) + (1 : Int32)) - (1 : Int32))]) (fun _ => rfl) ?_
  subst hk
  exact ra.ret (r := some (.inl (((A 23 0) + (1 : Int32)) - (1 : Int32)))) (fun _ => rfl) ⟨rfl, rfl, rfl⟩
/-- told -/
def rf_told (a1 a2 : Int32) (A : y_A) (js : List y_J) : y_A × List y_J := (if (A 31 (y_ix (A 65 (y_ix a1)))) = (0 : Int32) then ((rf_fuseTold a1 a2 (A 65 (y_ix a1)) A), (((1 : Int32), a1, ((rf_fuseTold a1 a2 (A 65 (y_ix a1)) A) 69 (y_ix a2)), ((rf_fuseTold a1 a2 (A 65 (y_ix a1)) A) 70 (y_ix a2)), (if ((rf_fuseTold a1 a2 (A 65 (y_ix a1)) A) 71 (y_ix a2)) = (0 : Int32) then (0 : Int32) else (1 : Int32))) :: js)) else (if (A 31 (y_ix (A 65 (y_ix a1)))) = (1 : Int32) then ((xm_u2 (xm_u2 A 77 (y_ix a1) (0 : Int32)) 39 (y_ix (A 65 (y_ix a1))) ((A 39 (y_ix (A 65 (y_ix a1)))) - (1 : Int32))), (((1 : Int32), a1, (A 69 (y_ix a2)), (A 70 (y_ix a2)), (if (A 71 (y_ix a2)) = (0 : Int32) then (0 : Int32) else (1 : Int32))) :: js)) else (if (A 31 (y_ix (A 65 (y_ix a1)))) = (2 : Int32) then (A, (((1 : Int32), a1, (A 69 (y_ix a2)), (A 70 (y_ix a2)), (if (A 71 (y_ix a2)) = (0 : Int32) then (0 : Int32) else (1 : Int32))) :: js)) else (if (A 31 (y_ix (A 65 (y_ix a1)))) = (3 : Int32) then (A, (((1 : Int32), a1, (A 69 (y_ix a2)), (A 70 (y_ix a2)), (if (A 71 (y_ix a2)) = (0 : Int32) then (0 : Int32) else (1 : Int32))) :: js)) else (if (A 31 (y_ix (A 65 (y_ix a1)))) = (4 : Int32) then ((rf_retryTold a1 a2 (A 65 (y_ix a1)) A js).1, (rf_retryTold a1 a2 (A 65 (y_ix a1)) A js).2) else (if (A 31 (y_ix (A 65 (y_ix a1)))) = (5 : Int32) then ((rf_hedgeTold a1 a2 A js).1, (rf_hedgeTold a1 a2 A js).2) else (if (A 31 (y_ix (A 65 (y_ix a1)))) = (6 : Int32) then ((rf_fallbackTold a1 a2 (A 65 (y_ix a1)) A js).1, (rf_fallbackTold a1 a2 (A 65 (y_ix a1)) A js).2) else (if (A 31 (y_ix (A 65 (y_ix a1)))) = (7 : Int32) then (if (A 69 (y_ix a2)) = (1 : Int32) then (if (A 53 (y_ix (A 62 (y_ix a1)))) = (0 : Int32) then ((xm_u2 (xm_u2 (xm_u2 A 44 (y_ix (((8 : Int32) * (A 65 (y_ix a1))) + (A 52 (y_ix (A 62 (y_ix a1)))))) (A 70 (y_ix a2))) 45 (y_ix (((8 : Int32) * (A 65 (y_ix a1))) + (A 52 (y_ix (A 62 (y_ix a1)))))) (A 0 0)) 46 (y_ix (((8 : Int32) * (A 65 (y_ix a1))) + (A 52 (y_ix (A 62 (y_ix a1)))))) (A 71 (y_ix a2))), (((1 : Int32), a1, (A 69 (y_ix a2)), (A 70 (y_ix a2)), (if (A 71 (y_ix a2)) = (0 : Int32) then (0 : Int32) else (1 : Int32))) :: js)) else (A, (((1 : Int32), a1, (A 69 (y_ix a2)), (A 70 (y_ix a2)), (if (A 71 (y_ix a2)) = (0 : Int32) then (0 : Int32) else (1 : Int32))) :: js))) else (A, (((1 : Int32), a1, (A 69 (y_ix a2)), (A 70 (y_ix a2)), (if (A 71 (y_ix a2)) = (0 : Int32) then (0 : Int32) else (1 : Int32))) :: js))) else (if (A 31 (y_ix (A 65 (y_ix a1)))) = (8 : Int32) then (A, (((1 : Int32), a1, (A 69 (y_ix a2)), (A 70 (y_ix a2)), (if (A 71 (y_ix a2)) = (0 : Int32) then (0 : Int32) else (1 : Int32))) :: (((3 : Int32), a1, (-1 : Int32), (0 : Int32), (0 : Int32)) :: js))) else (if (A 31 (y_ix (A 65 (y_ix a1)))) = (9 : Int32) then (if (rf_isNamed a2 (A 65 (y_ix a1)) A) = (0 : Int32) then (A, (((1 : Int32), a1, (A 69 (y_ix a2)), (A 70 (y_ix a2)), (if (A 71 (y_ix a2)) = (0 : Int32) then (0 : Int32) else (1 : Int32))) :: js)) else ((xm_u2 (xm_u2 (xm_u2 (xm_u2 (xm_u2 (xm_u2 (xm_u2 (xm_u2 A 24 (y_ix (A 23 0)) (A 33 (y_ix (A 65 (y_ix a1))))) 25 (y_ix (A 23 0)) (A 0 0)) 26 (y_ix (A 23 0)) (A 65 (y_ix a1))) 27 (y_ix (A 23 0)) (-1 : Int32)) 28 (y_ix (A 23 0)) (-1 : Int32)) 29 (y_ix (A 23 0)) (-1 : Int32)) 23 0 ((A 23 0) + (1 : Int32))) 28 (y_ix (((A 23 0) + (1 : Int32)) - (1 : Int32))) (A 70 (y_ix a2))), (((1 : Int32), a1, (2 : Int32), (((A 23 0) + (1 : Int32)) - (1 : Int32)), (0 : Int32)) :: js))) else (A, (((1 : Int32), a1, (A 69 (y_ix a2)), (A 70 (y_ix a2)), (if (A 71 (y_ix a2)) = (0 : Int32) then (0 : Int32) else (1 : Int32))) :: js))))))))))))
def rg_told (a1 a2 : Int32) (A : y_A) (js : List y_J) : Prop := (y_in a1 4400) ∧ (y_in (A 65 (y_ix a1)) 24) ∧ (((A 31 (y_ix (A 65 (y_ix a1)))) = (0 : Int32) → (rg_fuseTold a1 a2 (A 65 (y_ix a1)) A) ∧ (rg_alike a1 a2 (rf_fuseTold a1 a2 (A 65 (y_ix a1)) A) js) ∧ True) ∧ (¬ (A 31 (y_ix (A 65 (y_ix a1)))) = (0 : Int32) → (((A 31 (y_ix (A 65 (y_ix a1)))) = (1 : Int32) → (rg_alike a1 a2 (xm_u2 (xm_u2 A 77 (y_ix a1) (0 : Int32)) 39 (y_ix (A 65 (y_ix a1))) ((A 39 (y_ix (A 65 (y_ix a1)))) - (1 : Int32))) js) ∧ True) ∧ (¬ (A 31 (y_ix (A 65 (y_ix a1)))) = (1 : Int32) → (((A 31 (y_ix (A 65 (y_ix a1)))) = (2 : Int32) → (rg_alike a1 a2 A js) ∧ True) ∧ (¬ (A 31 (y_ix (A 65 (y_ix a1)))) = (2 : Int32) → (((A 31 (y_ix (A 65 (y_ix a1)))) = (3 : Int32) → (rg_alike a1 a2 A js) ∧ True) ∧ (¬ (A 31 (y_ix (A 65 (y_ix a1)))) = (3 : Int32) → (((A 31 (y_ix (A 65 (y_ix a1)))) = (4 : Int32) → (rg_retryTold a1 a2 (A 65 (y_ix a1)) A js) ∧ True) ∧ (¬ (A 31 (y_ix (A 65 (y_ix a1)))) = (4 : Int32) → (((A 31 (y_ix (A 65 (y_ix a1)))) = (5 : Int32) → (rg_hedgeTold a1 a2 A js) ∧ True) ∧ (¬ (A 31 (y_ix (A 65 (y_ix a1)))) = (5 : Int32) → (((A 31 (y_ix (A 65 (y_ix a1)))) = (6 : Int32) → (rg_fallbackTold a1 a2 (A 65 (y_ix a1)) A js) ∧ True) ∧ (¬ (A 31 (y_ix (A 65 (y_ix a1)))) = (6 : Int32) → (((A 31 (y_ix (A 65 (y_ix a1)))) = (7 : Int32) → (y_in a2 4400) ∧ (((A 69 (y_ix a2)) = (1 : Int32) → (y_in (A 62 (y_ix a1)) 60) ∧ (((A 53 (y_ix (A 62 (y_ix a1)))) = (0 : Int32) → (y_in (((8 : Int32) * (A 65 (y_ix a1))) + (A 52 (y_ix (A 62 (y_ix a1))))) 192) ∧ ((A 71 (y_ix a2)) = 0 ∨ (A 71 (y_ix a2)) = 1) ∧ (rg_alike a1 a2 (xm_u2 (xm_u2 (xm_u2 A 44 (y_ix (((8 : Int32) * (A 65 (y_ix a1))) + (A 52 (y_ix (A 62 (y_ix a1)))))) (A 70 (y_ix a2))) 45 (y_ix (((8 : Int32) * (A 65 (y_ix a1))) + (A 52 (y_ix (A 62 (y_ix a1)))))) (A 0 0)) 46 (y_ix (((8 : Int32) * (A 65 (y_ix a1))) + (A 52 (y_ix (A 62 (y_ix a1)))))) (A 71 (y_ix a2))) js) ∧ True) ∧ (¬ (A 53 (y_ix (A 62 (y_ix a1)))) = (0 : Int32) → (rg_alike a1 a2 A js) ∧ True))) ∧ (¬ (A 69 (y_ix a2)) = (1 : Int32) → (rg_alike a1 a2 A js) ∧ True))) ∧ (¬ (A 31 (y_ix (A 65 (y_ix a1)))) = (7 : Int32) → (((A 31 (y_ix (A 65 (y_ix a1)))) = (8 : Int32) → (js.length < 20000) ∧ (rg_alike a1 a2 A (((3 : Int32), a1, (-1 : Int32), (0 : Int32), (0 : Int32)) :: js)) ∧ True) ∧ (¬ (A 31 (y_ix (A 65 (y_ix a1)))) = (8 : Int32) → (((A 31 (y_ix (A 65 (y_ix a1)))) = (9 : Int32) → (rg_isNamed a2 (A 65 (y_ix a1)) A) ∧ (((rf_isNamed a2 (A 65 (y_ix a1)) A) = (0 : Int32) → (rg_alike a1 a2 A js) ∧ True) ∧ (¬ (rf_isNamed a2 (A 65 (y_ix a1)) A) = (0 : Int32) → (rg_fails (A 33 (y_ix (A 65 (y_ix a1)))) (A 65 (y_ix a1)) (-1 : Int32) A) ∧ (y_in a2 4400) ∧ (y_in (((A 23 0) + (1 : Int32)) - (1 : Int32)) 4400) ∧ (js.length < 20000) ∧ True))) ∧ (¬ (A 31 (y_ix (A 65 (y_ix a1)))) = (9 : Int32) → (rg_alike a1 a2 A js) ∧ True))))))))))))))))))))
theorem rh_told {d : Nat} (hd : 4 ≤ d) {a1 a2 : Int32} {A : y_A} {js : List y_J} (hg : rg_told a1 a2 A js) : rc d 141 [.inr (some (11, 0)), .inl a1, .inl a2] A js (y_V (rf_told a1 a2 A js)) := by
  obtain ⟨d, rfl⟩ := Nat.exists_eq_add_of_le' hd
  obtain ⟨F, hk⟩ : ∃ F, rf_told a1 a2 A js = F := ⟨_, rfl⟩
  rw [hk]
  show ra _ _ _ [some (.inr (some (11, 0))), some (.inl a1), some (.inl a2), none, none] _ _ _ _
  unfold rg_told at hg
  unfold rf_told at hk
  refine ra.s (pc' := 1) (st' := [.inr (some (11, 0))]) (fun _ => rfl) ?_
  refine ra.ga (x := 65) (nx := 4) (c := 13) (i := 53) rfl rfl ?_
  refine ra.s (pc' := 5) (st' := [.inl a1, .inr (some (13, 53))]) (fun _ => rfl) ?_
  obtain ⟨h1, hg⟩ := hg
  refine ra.ld (nx := 6) (v := (A 65 (y_ix a1))) 65 4400 rfl rfl h1 rfl ?_
  refine ra.s (pc' := 7) (L' := [some (.inr (some (11, 0))), some (.inl a1), some (.inl a2), some (.inl (A 65 (y_ix a1))), none]) (st' := []) (fun _ => rfl) ?_
  refine ra.s (pc' := 8) (st' := [.inr (some (11, 0))]) (fun _ => rfl) ?_
  refine ra.ga (x := 31) (nx := 11) (c := 13) (i := 24) rfl rfl ?_
  refine ra.s (pc' := 12) (st' := [.inl (A 65 (y_ix a1)), .inr (some (13, 24))]) (fun _ => rfl) ?_
  obtain ⟨h2, hg⟩ := hg
  refine ra.ld (nx := 13) (v := (A 31 (y_ix (A 65 (y_ix a1))))) 31 24 rfl rfl h2 rfl ?_
  refine ra.ts rfl rfl ?_
  refine ra.bw (0 : Int32) rfl hk hg (fun h3 hg hk => ?_) (fun h3 hg hk => ?_)
  · skip
    refine ra.s (pc' := 69) (st' := [.inr (some (11, 0))]) (fun _ => rfl) ?_
    refine ra.s (pc' := 70) (st' := [.inl a1, .inr (some (11, 0))]) (fun _ => rfl) ?_
    refine ra.s (pc' := 71) (st' := [.inl a2, .inl a1, .inr (some (11, 0))]) (fun _ => rfl) ?_
    refine ra.s (pc' := 72) (st' := [.inl (A 65 (y_ix a1)), .inl a2, .inl a1, .inr (some (11, 0))]) (fun _ => rfl) ?_
    obtain ⟨h4, hg⟩ := hg
    refine ra.cV (F := ((rf_fuseTold a1 a2 (A 65 (y_ix a1)) A), js)) (m := 142) (as := [.inr (some (11, 0)), .inl a1, .inl a2, .inl (A 65 (y_ix a1))]) (nx := 75) (L' := [some (.inr (some (11, 0))), some (.inl a1), some (.inl a2), some (.inl (A 65 (y_ix a1))), none]) (st' := []) (fun _ => rfl) (rh_fuseTold (by omega) h4) ?_
    show ra _ _ _ _ [] (rf_fuseTold a1 a2 (A 65 (y_ix a1)) A) js _
    refine ra.s (pc' := 76) (st' := [.inr (some (11, 0))]) (fun _ => rfl) ?_
    refine ra.s (pc' := 77) (st' := [.inl a1, .inr (some (11, 0))]) (fun _ => rfl) ?_
    refine ra.s (pc' := 78) (st' := [.inl a2, .inl a1, .inr (some (11, 0))]) (fun _ => rfl) ?_
    obtain ⟨h5, hg⟩ := hg
    refine ra.cV (F := ((rf_fuseTold a1 a2 (A 65 (y_ix a1)) A), (((1 : Int32), a1, ((rf_fuseTold a1 a2 (A 65 (y_ix a1)) A) 69 (y_ix a2)), ((rf_fuseTold a1 a2 (A 65 (y_ix a1)) A) 70 (y_ix a2)), (if ((rf_fuseTold a1 a2 (A 65 (y_ix a1)) A) 71 (y_ix a2)) = (0 : Int32) then (0 : Int32) else (1 : Int32))) :: js))) (m := 145) (as := [.inr (some (11, 0)), .inl a1, .inl a2]) (nx := 81) (L' := [some (.inr (some (11, 0))), some (.inl a1), some (.inl a2), some (.inl (A 65 (y_ix a1))), none]) (st' := []) (fun _ => rfl) (rh_alike2 (by omega) h5) ?_
    show ra _ _ _ _ [] (rf_fuseTold a1 a2 (A 65 (y_ix a1)) A) (((1 : Int32), a1, ((rf_fuseTold a1 a2 (A 65 (y_ix a1)) A) 69 (y_ix a2)), ((rf_fuseTold a1 a2 (A 65 (y_ix a1)) A) 70 (y_ix a2)), (if ((rf_fuseTold a1 a2 (A 65 (y_ix a1)) A) 71 (y_ix a2)) = (0 : Int32) then (0 : Int32) else (1 : Int32))) :: js) _
    refine ra.s (pc' := 309) (st' := []) (fun _ => rfl) ?_
    subst hk
    exact ra.ret (r := none) (fun _ => rfl) ⟨rfl, rfl, rfl⟩
  · skip
    refine ra.bw (1 : Int32) rfl hk hg (fun h6 hg hk => ?_) (fun h6 hg hk => ?_)
    · skip
      refine ra.s (pc' := 85) (st' := [.inr (some (11, 0))]) (fun _ => rfl) ?_
      refine ra.ga (x := 77) (nx := 88) (c := 14) (i := 4) rfl rfl ?_
      refine ra.s (pc' := 89) (st' := [.inl a1, .inr (some (14, 4))]) (fun _ => rfl) ?_
      refine ra.s (pc' := 90) (st' := [.inl (0 : Int32), .inl a1, .inr (some (14, 4))]) (fun _ => rfl) ?_
      refine ra.sz (nx := 91) 77 4400 rfl rfl h1 (Or.inl rfl) ?_
      refine ra.s (pc' := 92) (st' := [.inr (some (11, 0))]) (fun _ => rfl) ?_
      refine ra.ga (x := 39) (nx := 95) (c := 13) (i := 32) rfl rfl ?_
      refine ra.s (pc' := 96) (st' := [.inl (A 65 (y_ix a1)), .inr (some (13, 32))]) (fun _ => rfl) ?_
      refine ra.s (pc' := 97) (st' := [.inl (A 65 (y_ix a1)), .inr (some (13, 32)), .inl (A 65 (y_ix a1)), .inr (some (13, 32))]) (fun _ => rfl) ?_
      refine ra.ld (nx := 98) (v := (A 39 (y_ix (A 65 (y_ix a1))))) 39 24 rfl rfl h2 rfl ?_
      refine ra.s (pc' := 99) (st' := [.inl (1 : Int32), .inl (A 39 (y_ix (A 65 (y_ix a1)))), .inl (A 65 (y_ix a1)), .inr (some (13, 32))]) (fun _ => rfl) ?_
      refine ra.s (pc' := 100) (st' := [.inl ((A 39 (y_ix (A 65 (y_ix a1)))) - (1 : Int32)), .inl (A 65 (y_ix a1)), .inr (some (13, 32))]) (fun _ => rfl) ?_
      refine ra.si (nx := 101) 39 24 rfl rfl h2 ?_
      refine ra.s (pc' := 102) (st' := [.inr (some (11, 0))]) (fun _ => rfl) ?_
      refine ra.s (pc' := 103) (st' := [.inl a1, .inr (some (11, 0))]) (fun _ => rfl) ?_
      refine ra.s (pc' := 104) (st' := [.inl a2, .inl a1, .inr (some (11, 0))]) (fun _ => rfl) ?_
      obtain ⟨h7, hg⟩ := hg
      refine ra.cV (F := ((xm_u2 (xm_u2 A 77 (y_ix a1) (0 : Int32)) 39 (y_ix (A 65 (y_ix a1))) ((A 39 (y_ix (A 65 (y_ix a1)))) - (1 : Int32))), (((1 : Int32), a1, (A 69 (y_ix a2)), (A 70 (y_ix a2)), (if (A 71 (y_ix a2)) = (0 : Int32) then (0 : Int32) else (1 : Int32))) :: js))) (m := 145) (as := [.inr (some (11, 0)), .inl a1, .inl a2]) (nx := 107) (L' := [some (.inr (some (11, 0))), some (.inl a1), some (.inl a2), some (.inl (A 65 (y_ix a1))), none]) (st' := []) (fun _ => rfl) (rh_alike2 (by omega) h7) ?_
      show ra _ _ _ _ [] (xm_u2 (xm_u2 A 77 (y_ix a1) (0 : Int32)) 39 (y_ix (A 65 (y_ix a1))) ((A 39 (y_ix (A 65 (y_ix a1)))) - (1 : Int32))) (((1 : Int32), a1, (A 69 (y_ix a2)), (A 70 (y_ix a2)), (if (A 71 (y_ix a2)) = (0 : Int32) then (0 : Int32) else (1 : Int32))) :: js) _
      refine ra.s (pc' := 309) (st' := []) (fun _ => rfl) ?_
      subst hk
      exact ra.ret (r := none) (fun _ => rfl) ⟨rfl, rfl, rfl⟩
    · skip
      refine ra.bw (2 : Int32) rfl hk hg (fun h8 hg hk => ?_) (fun h8 hg hk => ?_)
      · skip
        refine ra.s (pc' := 304) (st' := [.inr (some (11, 0))]) (fun _ => rfl) ?_
        refine ra.s (pc' := 305) (st' := [.inl a1, .inr (some (11, 0))]) (fun _ => rfl) ?_
        refine ra.s (pc' := 306) (st' := [.inl a2, .inl a1, .inr (some (11, 0))]) (fun _ => rfl) ?_
        obtain ⟨h9, hg⟩ := hg
        refine ra.cV (F := (A, (((1 : Int32), a1, (A 69 (y_ix a2)), (A 70 (y_ix a2)), (if (A 71 (y_ix a2)) = (0 : Int32) then (0 : Int32) else (1 : Int32))) :: js))) (m := 145) (as := [.inr (some (11, 0)), .inl a1, .inl a2]) (nx := 309) (L' := [some (.inr (some (11, 0))), some (.inl a1), some (.inl a2), some (.inl (A 65 (y_ix a1))), none]) (st' := []) (fun _ => rfl) (rh_alike2 (by omega) h9) ?_
        show ra _ _ _ _ [] A (((1 : Int32), a1, (A 69 (y_ix a2)), (A 70 (y_ix a2)), (if (A 71 (y_ix a2)) = (0 : Int32) then (0 : Int32) else (1 : Int32))) :: js) _
        subst hk
        exact ra.ret (r := none) (fun _ => rfl) ⟨rfl, rfl, rfl⟩
      · skip
        refine ra.bw (3 : Int32) rfl hk hg (fun h10 hg hk => ?_) (fun h10 hg hk => ?_)
        · skip
          refine ra.s (pc' := 304) (st' := [.inr (some (11, 0))]) (fun _ => rfl) ?_
          refine ra.s (pc' := 305) (st' := [.inl a1, .inr (some (11, 0))]) (fun _ => rfl) ?_
          refine ra.s (pc' := 306) (st' := [.inl a2, .inl a1, .inr (some (11, 0))]) (fun _ => rfl) ?_
          obtain ⟨h11, hg⟩ := hg
          refine ra.cV (F := (A, (((1 : Int32), a1, (A 69 (y_ix a2)), (A 70 (y_ix a2)), (if (A 71 (y_ix a2)) = (0 : Int32) then (0 : Int32) else (1 : Int32))) :: js))) (m := 145) (as := [.inr (some (11, 0)), .inl a1, .inl a2]) (nx := 309) (L' := [some (.inr (some (11, 0))), some (.inl a1), some (.inl a2), some (.inl (A 65 (y_ix a1))), none]) (st' := []) (fun _ => rfl) (rh_alike2 (by omega) h11) ?_
          show ra _ _ _ _ [] A (((1 : Int32), a1, (A 69 (y_ix a2)), (A 70 (y_ix a2)), (if (A 71 (y_ix a2)) = (0 : Int32) then (0 : Int32) else (1 : Int32))) :: js) _
          subst hk
          exact ra.ret (r := none) (fun _ => rfl) ⟨rfl, rfl, rfl⟩
        · skip
          refine ra.bw (4 : Int32) rfl hk hg (fun h12 hg hk => ?_) (fun h12 hg hk => ?_)
          · skip
            refine ra.s (pc' := 111) (st' := [.inr (some (11, 0))]) (fun _ => rfl) ?_
            refine ra.s (pc' := 112) (st' := [.inl a1, .inr (some (11, 0))]) (fun _ => rfl) ?_
            refine ra.s (pc' := 113) (st' := [.inl a2, .inl a1, .inr (some (11, 0))]) (fun _ => rfl) ?_
            refine ra.s (pc' := 114) (st' := [.inl (A 65 (y_ix a1)), .inl a2, .inl a1, .inr (some (11, 0))]) (fun _ => rfl) ?_
            obtain ⟨h13, hg⟩ := hg
            refine ra.cV (F := (rf_retryTold a1 a2 (A 65 (y_ix a1)) A js)) (m := 146) (as := [.inr (some (11, 0)), .inl a1, .inl a2, .inl (A 65 (y_ix a1))]) (nx := 117) (L' := [some (.inr (some (11, 0))), some (.inl a1), some (.inl a2), some (.inl (A 65 (y_ix a1))), none]) (st' := []) (fun _ => rfl) (rh_retryTold (by omega) h13) ?_
            show ra _ _ _ _ [] (rf_retryTold a1 a2 (A 65 (y_ix a1)) A js).1 (rf_retryTold a1 a2 (A 65 (y_ix a1)) A js).2 _
            refine ra.s (pc' := 309) (st' := []) (fun _ => rfl) ?_
            subst hk
            exact ra.ret (r := none) (fun _ => rfl) ⟨rfl, rfl, rfl⟩
          · skip
            refine ra.bw (5 : Int32) rfl hk hg (fun h14 hg hk => ?_) (fun h14 hg hk => ?_)
            · skip
              refine ra.s (pc' := 121) (st' := [.inr (some (11, 0))]) (fun _ => rfl) ?_
              refine ra.s (pc' := 122) (st' := [.inl a1, .inr (some (11, 0))]) (fun _ => rfl) ?_
              refine ra.s (pc' := 123) (st' := [.inl a2, .inl a1, .inr (some (11, 0))]) (fun _ => rfl) ?_
              obtain ⟨h15, hg⟩ := hg
              refine ra.cV (F := (rf_hedgeTold a1 a2 A js)) (m := 147) (as := [.inr (some (11, 0)), .inl a1, .inl a2]) (nx := 126) (L' := [some (.inr (some (11, 0))), some (.inl a1), some (.inl a2), some (.inl (A 65 (y_ix a1))), none]) (st' := []) (fun _ => rfl) (rh_hedgeTold (by omega) h15) ?_
              show ra _ _ _ _ [] (rf_hedgeTold a1 a2 A js).1 (rf_hedgeTold a1 a2 A js).2 _
              refine ra.s (pc' := 309) (st' := []) (fun _ => rfl) ?_
              subst hk
              exact ra.ret (r := none) (fun _ => rfl) ⟨rfl, rfl, rfl⟩
            · skip
              refine ra.bw (6 : Int32) rfl hk hg (fun h16 hg hk => ?_) (fun h16 hg hk => ?_)
              · skip
                refine ra.s (pc' := 130) (st' := [.inr (some (11, 0))]) (fun _ => rfl) ?_
                refine ra.s (pc' := 131) (st' := [.inl a1, .inr (some (11, 0))]) (fun _ => rfl) ?_
                refine ra.s (pc' := 132) (st' := [.inl a2, .inl a1, .inr (some (11, 0))]) (fun _ => rfl) ?_
                refine ra.s (pc' := 133) (st' := [.inl (A 65 (y_ix a1)), .inl a2, .inl a1, .inr (some (11, 0))]) (fun _ => rfl) ?_
                obtain ⟨h17, hg⟩ := hg
                refine ra.cV (F := (rf_fallbackTold a1 a2 (A 65 (y_ix a1)) A js)) (m := 150) (as := [.inr (some (11, 0)), .inl a1, .inl a2, .inl (A 65 (y_ix a1))]) (nx := 136) (L' := [some (.inr (some (11, 0))), some (.inl a1), some (.inl a2), some (.inl (A 65 (y_ix a1))), none]) (st' := []) (fun _ => rfl) (rh_fallbackTold (by omega) h17) ?_
                show ra _ _ _ _ [] (rf_fallbackTold a1 a2 (A 65 (y_ix a1)) A js).1 (rf_fallbackTold a1 a2 (A 65 (y_ix a1)) A js).2 _
                refine ra.s (pc' := 309) (st' := []) (fun _ => rfl) ?_
                subst hk
                exact ra.ret (r := none) (fun _ => rfl) ⟨rfl, rfl, rfl⟩
              · skip
                refine ra.bw (7 : Int32) rfl hk hg (fun h18 hg hk => ?_) (fun h18 hg hk => ?_)
                · skip
                  refine ra.s (pc' := 140) (st' := [.inr (some (11, 0))]) (fun _ => rfl) ?_
                  refine ra.ga (x := 69) (nx := 143) (c := 13) (i := 57) rfl rfl ?_
                  refine ra.s (pc' := 144) (st' := [.inl a2, .inr (some (13, 57))]) (fun _ => rfl) ?_
                  obtain ⟨h19, hg⟩ := hg
                  refine ra.ld (nx := 145) (v := (A 69 (y_ix a2))) 69 4400 rfl rfl h19 rfl ?_
                  refine ra.s (pc' := 146) (st' := [.inl (1 : Int32), .inl (A 69 (y_ix a2))]) (fun _ => rfl) ?_
                  refine ra.bn (c := (A 69 (y_ix a2)) = (1 : Int32)) (cd := .ne) (x := (A 69 (y_ix a2))) (y := (1 : Int32)) 218 149 (st' := []) (fun _ => rfl) (y_cne _ _) hk hg (fun h20 hg hk => ?_) (fun h20 hg hk => ?_)
                  · skip
                    refine ra.s (pc' := 150) (st' := [.inr (some (11, 0))]) (fun _ => rfl) ?_
                    refine ra.ga (x := 53) (nx := 153) (c := 13) (i := 43) rfl rfl ?_
                    refine ra.s (pc' := 154) (st' := [.inr (some (11, 0)), .inr (some (13, 43))]) (fun _ => rfl) ?_
                    refine ra.ga (x := 62) (nx := 157) (c := 13) (i := 50) rfl rfl ?_
                    refine ra.s (pc' := 158) (st' := [.inl a1, .inr (some (13, 50)), .inr (some (13, 43))]) (fun _ => rfl) ?_
                    refine ra.ld (nx := 159) (v := (A 62 (y_ix a1))) 62 4400 rfl rfl h1 rfl ?_
                    obtain ⟨h21, hg⟩ := hg
                    refine ra.ld (nx := 160) (v := (A 53 (y_ix (A 62 (y_ix a1))))) 53 60 rfl rfl h21 rfl ?_
                    refine ra.bn (c := (A 53 (y_ix (A 62 (y_ix a1)))) = (0 : Int32)) (cd := .ne) (x := (A 53 (y_ix (A 62 (y_ix a1))))) (y := (0 : Int32)) 218 163 (st' := []) (fun _ => rfl) (y_cne _ _) hk hg (fun h22 hg hk => ?_) (fun h22 hg hk => ?_)
                    · skip
                      refine ra.s (pc' := 165) (st' := [.inl (8 : Int32)]) (fun _ => rfl) ?_
                      refine ra.s (pc' := 166) (st' := [.inl (A 65 (y_ix a1)), .inl (8 : Int32)]) (fun _ => rfl) ?_
                      refine ra.s (pc' := 167) (st' := [.inl ((8 : Int32) * (A 65 (y_ix a1)))]) (fun _ => rfl) ?_
                      refine ra.s (pc' := 168) (st' := [.inr (some (11, 0)), .inl ((8 : Int32) * (A 65 (y_ix a1)))]) (fun _ => rfl) ?_
                      refine ra.ga (x := 52) (nx := 171) (c := 13) (i := 42) rfl rfl ?_
                      refine ra.s (pc' := 172) (st' := [.inr (some (11, 0)), .inr (some (13, 42)), .inl ((8 : Int32) * (A 65 (y_ix a1)))]) (fun _ => rfl) ?_
                      refine ra.ga (x := 62) (nx := 175) (c := 13) (i := 50) rfl rfl ?_
                      refine ra.s (pc' := 176) (st' := [.inl a1, .inr (some (13, 50)), .inr (some (13, 42)), .inl ((8 : Int32) * (A 65 (y_ix a1)))]) (fun _ => rfl) ?_
                      refine ra.ld (nx := 177) (v := (A 62 (y_ix a1))) 62 4400 rfl rfl h1 rfl ?_
                      refine ra.ld (nx := 178) (v := (A 52 (y_ix (A 62 (y_ix a1))))) 52 60 rfl rfl h21 rfl ?_
                      refine ra.s (pc' := 179) (st' := [.inl (((8 : Int32) * (A 65 (y_ix a1))) + (A 52 (y_ix (A 62 (y_ix a1)))))]) (fun _ => rfl) ?_
                      refine ra.s (pc' := 181) (L' := [some (.inr (some (11, 0))), some (.inl a1), some (.inl a2), some (.inl (A 65 (y_ix a1))), some (.inl (((8 : Int32) * (A 65 (y_ix a1))) + (A 52 (y_ix (A 62 (y_ix a1))))))]) (st' := []) (fun _ => rfl) ?_
                      refine ra.s (pc' := 182) (st' := [.inr (some (11, 0))]) (fun _ => rfl) ?_
                      refine ra.ga (x := 44) (nx := 185) (c := 13) (i := 37) rfl rfl ?_
                      refine ra.s (pc' := 187) (st' := [.inl (((8 : Int32) * (A 65 (y_ix a1))) + (A 52 (y_ix (A 62 (y_ix a1))))), .inr (some (13, 37))]) (fun _ => rfl) ?_
                      refine ra.s (pc' := 188) (st' := [.inr (some (11, 0)), .inl (((8 : Int32) * (A 65 (y_ix a1))) + (A 52 (y_ix (A 62 (y_ix a1))))), .inr (some (13, 37))]) (fun _ => rfl) ?_
                      refine ra.ga (x := 70) (nx := 191) (c := 13) (i := 58) rfl rfl ?_
                      refine ra.s (pc' := 192) (st' := [.inl a2, .inr (some (13, 58)), .inl (((8 : Int32) * (A 65 (y_ix a1))) + (A 52 (y_ix (A 62 (y_ix a1))))), .inr (some (13, 37))]) (fun _ => rfl) ?_
                      refine ra.ld (nx := 193) (v := (A 70 (y_ix a2))) 70 4400 rfl rfl h19 rfl ?_
                      obtain ⟨h23, hg⟩ := hg
                      refine ra.si (nx := 194) 44 192 rfl rfl h23 ?_
                      refine ra.s (pc' := 195) (st' := [.inr (some (11, 0))]) (fun _ => rfl) ?_
                      refine ra.ga (x := 45) (nx := 198) (c := 13) (i := 38) rfl rfl ?_
                      refine ra.s (pc' := 200) (st' := [.inl (((8 : Int32) * (A 65 (y_ix a1))) + (A 52 (y_ix (A 62 (y_ix a1))))), .inr (some (13, 38))]) (fun _ => rfl) ?_
                      refine ra.s (pc' := 201) (st' := [.inr (some (11, 0)), .inl (((8 : Int32) * (A 65 (y_ix a1))) + (A 52 (y_ix (A 62 (y_ix a1))))), .inr (some (13, 38))]) (fun _ => rfl) ?_
                      refine ra.gi (x := 0) (nx := 204) (v := (A 0 0)) rfl rfl rfl ?_
                      refine ra.si (nx := 205) 45 192 rfl rfl h23 ?_
                      refine ra.s (pc' := 206) (st' := [.inr (some (11, 0))]) (fun _ => rfl) ?_
                      refine ra.ga (x := 46) (nx := 209) (c := 14) (i := 0) rfl rfl ?_
                      refine ra.s (pc' := 211) (st' := [.inl (((8 : Int32) * (A 65 (y_ix a1))) + (A 52 (y_ix (A 62 (y_ix a1))))), .inr (some (14, 0))]) (fun _ => rfl) ?_
                      refine ra.s (pc' := 212) (st' := [.inr (some (11, 0)), .inl (((8 : Int32) * (A 65 (y_ix a1))) + (A 52 (y_ix (A 62 (y_ix a1))))), .inr (some (14, 0))]) (fun _ => rfl) ?_
                      refine ra.ga (x := 71) (nx := 215) (c := 14) (i := 1) rfl rfl ?_
                      refine ra.s (pc' := 216) (st' := [.inl a2, .inr (some (14, 1)), .inl (((8 : Int32) * (A 65 (y_ix a1))) + (A 52 (y_ix (A 62 (y_ix a1))))), .inr (some (14, 0))]) (fun _ => rfl) ?_
                      refine ra.lz (nx := 217) (v := (A 71 (y_ix a2))) 71 4400 rfl rfl h19 rfl ?_
                      obtain ⟨h24, hg⟩ := hg
                      refine ra.sz (nx := 218) 46 192 rfl rfl h23 h24 ?_
                      refine ra.s (pc' := 219) (st' := [.inr (some (11, 0))]) (fun _ => rfl) ?_
                      refine ra.s (pc' := 220) (st' := [.inl a1, .inr (some (11, 0))]) (fun _ => rfl) ?_
                      refine ra.s (pc' := 221) (st' := [.inl a2, .inl a1, .inr (some (11, 0))]) (fun _ => rfl) ?_
                      obtain ⟨h25, hg⟩ := hg
                      refine ra.cV (F := ((xm_u2 (xm_u2 (xm_u2 A 44 (y_ix (((8 : Int32) * (A 65 (y_ix a1))) + (A 52 (y_ix (A 62 (y_ix a1)))))) (A 70 (y_ix a2))) 45 (y_ix (((8 : Int32) * (A 65 (y_ix a1))) + (A 52 (y_ix (A 62 (y_ix a1)))))) (A 0 0)) 46 (y_ix (((8 : Int32) * (A 65 (y_ix a1))) + (A 52 (y_ix (A 62 (y_ix a1)))))) (A 71 (y_ix a2))), (((1 : Int32), a1, (A 69 (y_ix a2)), (A 70 (y_ix a2)), (if (A 71 (y_ix a2)) = (0 : Int32) then (0 : Int32) else (1 : Int32))) :: js))) (m := 145) (as := [.inr (some (11, 0)), .inl a1, .inl a2]) (nx := 224) (L' := [some (.inr (some (11, 0))), some (.inl a1), some (.inl a2), some (.inl (A 65 (y_ix a1))), some (.inl (((8 : Int32) * (A 65 (y_ix a1))) + (A 52 (y_ix (A 62 (y_ix a1))))))]) (st' := []) (fun _ => rfl) (rh_alike2 (by omega) h25) ?_
                      show ra _ _ _ _ [] (xm_u2 (xm_u2 (xm_u2 A 44 (y_ix (((8 : Int32) * (A 65 (y_ix a1))) + (A 52 (y_ix (A 62 (y_ix a1)))))) (A 70 (y_ix a2))) 45 (y_ix (((8 : Int32) * (A 65 (y_ix a1))) + (A 52 (y_ix (A 62 (y_ix a1)))))) (A 0 0)) 46 (y_ix (((8 : Int32) * (A 65 (y_ix a1))) + (A 52 (y_ix (A 62 (y_ix a1)))))) (A 71 (y_ix a2))) (((1 : Int32), a1, (A 69 (y_ix a2)), (A 70 (y_ix a2)), (if (A 71 (y_ix a2)) = (0 : Int32) then (0 : Int32) else (1 : Int32))) :: js) _
                      refine ra.s (pc' := 309) (st' := []) (fun _ => rfl) ?_
                      subst hk
                      exact ra.ret (r := none) (fun _ => rfl) ⟨rfl, rfl, rfl⟩
                    · skip
                      refine ra.s (pc' := 219) (st' := [.inr (some (11, 0))]) (fun _ => rfl) ?_
                      refine ra.s (pc' := 220) (st' := [.inl a1, .inr (some (11, 0))]) (fun _ => rfl) ?_
                      refine ra.s (pc' := 221) (st' := [.inl a2, .inl a1, .inr (some (11, 0))]) (fun _ => rfl) ?_
                      obtain ⟨h26, hg⟩ := hg
                      refine ra.cV (F := (A, (((1 : Int32), a1, (A 69 (y_ix a2)), (A 70 (y_ix a2)), (if (A 71 (y_ix a2)) = (0 : Int32) then (0 : Int32) else (1 : Int32))) :: js))) (m := 145) (as := [.inr (some (11, 0)), .inl a1, .inl a2]) (nx := 224) (L' := [some (.inr (some (11, 0))), some (.inl a1), some (.inl a2), some (.inl (A 65 (y_ix a1))), none]) (st' := []) (fun _ => rfl) (rh_alike2 (by omega) h26) ?_
                      show ra _ _ _ _ [] A (((1 : Int32), a1, (A 69 (y_ix a2)), (A 70 (y_ix a2)), (if (A 71 (y_ix a2)) = (0 : Int32) then (0 : Int32) else (1 : Int32))) :: js) _
                      refine ra.s (pc' := 309) (st' := []) (fun _ => rfl) ?_
                      subst hk
                      exact ra.ret (r := none) (fun _ => rfl) ⟨rfl, rfl, rfl⟩
                  · skip
                    refine ra.s (pc' := 219) (st' := [.inr (some (11, 0))]) (fun _ => rfl) ?_
                    refine ra.s (pc' := 220) (st' := [.inl a1, .inr (some (11, 0))]) (fun _ => rfl) ?_
                    refine ra.s (pc' := 221) (st' := [.inl a2, .inl a1, .inr (some (11, 0))]) (fun _ => rfl) ?_
                    obtain ⟨h27, hg⟩ := hg
                    refine ra.cV (F := (A, (((1 : Int32), a1, (A 69 (y_ix a2)), (A 70 (y_ix a2)), (if (A 71 (y_ix a2)) = (0 : Int32) then (0 : Int32) else (1 : Int32))) :: js))) (m := 145) (as := [.inr (some (11, 0)), .inl a1, .inl a2]) (nx := 224) (L' := [some (.inr (some (11, 0))), some (.inl a1), some (.inl a2), some (.inl (A 65 (y_ix a1))), none]) (st' := []) (fun _ => rfl) (rh_alike2 (by omega) h27) ?_
                    show ra _ _ _ _ [] A (((1 : Int32), a1, (A 69 (y_ix a2)), (A 70 (y_ix a2)), (if (A 71 (y_ix a2)) = (0 : Int32) then (0 : Int32) else (1 : Int32))) :: js) _
                    refine ra.s (pc' := 309) (st' := []) (fun _ => rfl) ?_
                    subst hk
                    exact ra.ret (r := none) (fun _ => rfl) ⟨rfl, rfl, rfl⟩
                · skip
                  refine ra.bw (8 : Int32) rfl hk hg (fun h28 hg hk => ?_) (fun h28 hg hk => ?_)
                  · skip
                    refine ra.s (pc' := 228) (st' := [.inr (some (11, 0))]) (fun _ => rfl) ?_
                    refine ra.s (pc' := 229) (st' := [.inl (3 : Int32), .inr (some (11, 0))]) (fun _ => rfl) ?_
                    refine ra.s (pc' := 230) (st' := [.inl a1, .inl (3 : Int32), .inr (some (11, 0))]) (fun _ => rfl) ?_
                    refine ra.s (pc' := 231) (st' := [.inl (-1 : Int32), .inl a1, .inl (3 : Int32), .inr (some (11, 0))]) (fun _ => rfl) ?_
                    refine ra.s (pc' := 232) (st' := [.inl (0 : Int32), .inl (-1 : Int32), .inl a1, .inl (3 : Int32), .inr (some (11, 0))]) (fun _ => rfl) ?_
                    refine ra.s (pc' := 233) (st' := [.inl (0 : Int32), .inl (0 : Int32), .inl (-1 : Int32), .inl a1, .inl (3 : Int32), .inr (some (11, 0))]) (fun _ => rfl) ?_
                    obtain ⟨h29, hg⟩ := hg
                    refine ra.cV (m := 131) (as := [.inr (some (11, 0)), .inl (3 : Int32), .inl a1, .inl (-1 : Int32), .inl (0 : Int32), .inl (0 : Int32)]) (nx := 236) (L' := [some (.inr (some (11, 0))), some (.inl a1), some (.inl a2), some (.inl (A 65 (y_ix a1))), none]) (st' := []) (fun _ => rfl) (rh_add h29) ?_
                    show ra _ _ _ _ _ A (((3 : Int32), a1, (-1 : Int32), (0 : Int32), (0 : Int32)) :: js) _
                    refine ra.s (pc' := 237) (st' := [.inr (some (11, 0))]) (fun _ => rfl) ?_
                    refine ra.s (pc' := 238) (st' := [.inl a1, .inr (some (11, 0))]) (fun _ => rfl) ?_
                    refine ra.s (pc' := 239) (st' := [.inl a2, .inl a1, .inr (some (11, 0))]) (fun _ => rfl) ?_
                    obtain ⟨h30, hg⟩ := hg
                    refine ra.cV (F := (A, (((1 : Int32), a1, (A 69 (y_ix a2)), (A 70 (y_ix a2)), (if (A 71 (y_ix a2)) = (0 : Int32) then (0 : Int32) else (1 : Int32))) :: (((3 : Int32), a1, (-1 : Int32), (0 : Int32), (0 : Int32)) :: js)))) (m := 145) (as := [.inr (some (11, 0)), .inl a1, .inl a2]) (nx := 242) (L' := [some (.inr (some (11, 0))), some (.inl a1), some (.inl a2), some (.inl (A 65 (y_ix a1))), none]) (st' := []) (fun _ => rfl) (rh_alike2 (by omega) h30) ?_
                    show ra _ _ _ _ [] A (((1 : Int32), a1, (A 69 (y_ix a2)), (A 70 (y_ix a2)), (if (A 71 (y_ix a2)) = (0 : Int32) then (0 : Int32) else (1 : Int32))) :: (((3 : Int32), a1, (-1 : Int32), (0 : Int32), (0 : Int32)) :: js)) _
                    refine ra.s (pc' := 309) (st' := []) (fun _ => rfl) ?_
                    subst hk
                    exact ra.ret (r := none) (fun _ => rfl) ⟨rfl, rfl, rfl⟩
                  · skip
                    refine ra.bw (9 : Int32) rfl hk hg (fun h31 hg hk => ?_) (fun h31 hg hk => ?_)
                    · skip
                      refine ra.s (pc' := 246) (st' := [.inr (some (11, 0))]) (fun _ => rfl) ?_
                      refine ra.s (pc' := 247) (st' := [.inl a2, .inr (some (11, 0))]) (fun _ => rfl) ?_
                      refine ra.s (pc' := 248) (st' := [.inl (A 65 (y_ix a1)), .inl a2, .inr (some (11, 0))]) (fun _ => rfl) ?_
                      obtain ⟨h32, hg⟩ := hg
                      refine ra.cP (f := (rf_isNamed a2 (A 65 (y_ix a1)) A)) (m := 143) (as := [.inr (some (11, 0)), .inl a2, .inl (A 65 (y_ix a1))]) (nx := 251) (L' := [some (.inr (some (11, 0))), some (.inl a1), some (.inl a2), some (.inl (A 65 (y_ix a1))), none]) (st' := []) (fun _ => rfl) (rh_isNamed (by omega) h32) ?_
                      refine ra.b (c := (rf_isNamed a2 (A 65 (y_ix a1)) A) = (0 : Int32)) (cd := .eq) (x := (rf_isNamed a2 (A 65 (y_ix a1)) A)) (y := (0 : Int32)) 294 254 (st' := []) (fun _ => rfl) (y_ceq _ _) hk hg (fun h33 hg hk => ?_) (fun h33 hg hk => ?_)
                      · skip
                        refine ra.s (pc' := 295) (st' := [.inr (some (11, 0))]) (fun _ => rfl) ?_
                        refine ra.s (pc' := 296) (st' := [.inl a1, .inr (some (11, 0))]) (fun _ => rfl) ?_
                        refine ra.s (pc' := 297) (st' := [.inl a2, .inl a1, .inr (some (11, 0))]) (fun _ => rfl) ?_
                        obtain ⟨h34, hg⟩ := hg
                        refine ra.cV (F := (A, (((1 : Int32), a1, (A 69 (y_ix a2)), (A 70 (y_ix a2)), (if (A 71 (y_ix a2)) = (0 : Int32) then (0 : Int32) else (1 : Int32))) :: js))) (m := 145) (as := [.inr (some (11, 0)), .inl a1, .inl a2]) (nx := 300) (L' := [some (.inr (some (11, 0))), some (.inl a1), some (.inl a2), some (.inl (A 65 (y_ix a1))), none]) (st' := []) (fun _ => rfl) (rh_alike2 (by omega) h34) ?_
                        show ra _ _ _ _ [] A (((1 : Int32), a1, (A 69 (y_ix a2)), (A 70 (y_ix a2)), (if (A 71 (y_ix a2)) = (0 : Int32) then (0 : Int32) else (1 : Int32))) :: js) _
                        refine ra.s (pc' := 309) (st' := []) (fun _ => rfl) ?_
                        subst hk
                        exact ra.ret (r := none) (fun _ => rfl) ⟨rfl, rfl, rfl⟩
                      · skip
                        refine ra.s (pc' := 255) (st' := [.inr (some (11, 0))]) (fun _ => rfl) ?_
                        refine ra.s (pc' := 256) (st' := [.inr (some (11, 0)), .inr (some (11, 0))]) (fun _ => rfl) ?_
                        refine ra.ga (x := 33) (nx := 259) (c := 13) (i := 26) rfl rfl ?_
                        refine ra.s (pc' := 260) (st' := [.inl (A 65 (y_ix a1)), .inr (some (13, 26)), .inr (some (11, 0))]) (fun _ => rfl) ?_
                        refine ra.ld (nx := 261) (v := (A 33 (y_ix (A 65 (y_ix a1))))) 33 24 rfl rfl h2 rfl ?_
                        refine ra.s (pc' := 262) (st' := [.inl (A 65 (y_ix a1)), .inl (A 33 (y_ix (A 65 (y_ix a1)))), .inr (some (11, 0))]) (fun _ => rfl) ?_
                        refine ra.s (pc' := 263) (st' := [.inl (-1 : Int32), .inl (A 65 (y_ix a1)), .inl (A 33 (y_ix (A 65 (y_ix a1)))), .inr (some (11, 0))]) (fun _ => rfl) ?_
                        obtain ⟨h35, hg⟩ := hg
                        refine ra.cI (F := ((rf_fails (A 33 (y_ix (A 65 (y_ix a1)))) (A 65 (y_ix a1)) (-1 : Int32) A).1, (rf_fails (A 33 (y_ix (A 65 (y_ix a1)))) (A 65 (y_ix a1)) (-1 : Int32) A).2, js)) (m := 151) (as := [.inr (some (11, 0)), .inl (A 33 (y_ix (A 65 (y_ix a1)))), .inl (A 65 (y_ix a1)), .inl (-1 : Int32)]) (nx := 266) (L' := [some (.inr (some (11, 0))), some (.inl a1), some (.inl a2), some (.inl (A 65 (y_ix a1))), none]) (st' := []) (fun _ => rfl) (rh_fails (by omega) h35) ?_
                        show ra _ _ _ _ [.inl (((A 23 0) + (1 : Int32)) - (1 : Int32))] (xm_u2 (xm_u2 (xm_u2 (xm_u2 (xm_u2 (xm_u2 (xm_u2 A 24 (y_ix (A 23 0)) (A 33 (y_ix (A 65 (y_ix a1))))) 25 (y_ix (A 23 0)) (A 0 0)) 26 (y_ix (A 23 0)) (A 65 (y_ix a1))) 27 (y_ix (A 23 0)) (-1 : Int32)) 28 (y_ix (A 23 0)) (-1 : Int32)) 29 (y_ix (A 23 0)) (-1 : Int32)) 23 0 ((A 23 0) + (1 : Int32))) js _
                        refine ra.s (pc' := 268) (L' := [some (.inr (some (11, 0))), some (.inl a1), some (.inl a2), some (.inl (A 65 (y_ix a1))), some (.inl (((A 23 0) + (1 : Int32)) - (1 : Int32)))]) (st' := []) (fun _ => rfl) ?_
                        refine ra.s (pc' := 269) (st' := [.inr (some (11, 0))]) (fun _ => rfl) ?_
                        refine ra.ga (x := 28) (nx := 272) (c := 13) (i := 22) rfl rfl ?_
                        refine ra.s (pc' := 274) (st' := [.inl (((A 23 0) + (1 : Int32)) - (1 : Int32)), .inr (some (13, 22))]) (fun _ => rfl) ?_
                        refine ra.s (pc' := 275) (st' := [.inr (some (11, 0)), .inl (((A 23 0) + (1 : Int32)) - (1 : Int32)), .inr (some (13, 22))]) (fun _ => rfl) ?_
                        refine ra.ga (x := 70) (nx := 278) (c := 13) (i := 58) rfl rfl ?_
                        refine ra.s (pc' := 279) (st' := [.inl a2, .inr (some (13, 58)), .inl (((A 23 0) + (1 : Int32)) - (1 : Int32)), .inr (some (13, 22))]) (fun _ => rfl) ?_
                        obtain ⟨h36, hg⟩ := hg
                        refine ra.ld (nx := 280) (v := (A 70 (y_ix a2))) 70 4400 rfl rfl h36 rfl ?_
                        obtain ⟨h37, hg⟩ := hg
                        refine ra.si (nx := 281) 28 4400 rfl rfl h37 ?_
                        refine ra.s (pc' := 282) (st' := [.inr (some (11, 0))]) (fun _ => rfl) ?_
                        refine ra.s (pc' := 283) (st' := [.inl (1 : Int32), .inr (some (11, 0))]) (fun _ => rfl) ?_
                        refine ra.s (pc' := 284) (st' := [.inl a1, .inl (1 : Int32), .inr (some (11, 0))]) (fun _ => rfl) ?_
                        refine ra.s (pc' := 285) (st' := [.inl (2 : Int32), .inl a1, .inl (1 : Int32), .inr (some (11, 0))]) (fun _ => rfl) ?_
                        refine ra.s (pc' := 287) (st' := [.inl (((A 23 0) + (1 : Int32)) - (1 : Int32)), .inl (2 : Int32), .inl a1, .inl (1 : Int32), .inr (some (11, 0))]) (fun _ => rfl) ?_
                        refine ra.s (pc' := 288) (st' := [.inl (0 : Int32), .inl (((A 23 0) + (1 : Int32)) - (1 : Int32)), .inl (2 : Int32), .inl a1, .inl (1 : Int32), .inr (some (11, 0))]) (fun _ => rfl) ?_
                        obtain ⟨h38, hg⟩ := hg
                        refine ra.cV (m := 131) (as := [.inr (some (11, 0)), .inl (1 : Int32), .inl a1, .inl (2 : Int32), .inl (((A 23 0) + (1 : Int32)) - (1 : Int32)), .inl (0 : Int32)]) (nx := 291) (L' := [some (.inr (some (11, 0))), some (.inl a1), some (.inl a2), some (.inl (A 65 (y_ix a1))), some (.inl (((A 23 0) + (1 : Int32)) - (1 : Int32)))]) (st' := []) (fun _ => rfl) (rh_add h38) ?_
                        show ra _ _ _ _ _ (xm_u2 (xm_u2 (xm_u2 (xm_u2 (xm_u2 (xm_u2 (xm_u2 (xm_u2 A 24 (y_ix (A 23 0)) (A 33 (y_ix (A 65 (y_ix a1))))) 25 (y_ix (A 23 0)) (A 0 0)) 26 (y_ix (A 23 0)) (A 65 (y_ix a1))) 27 (y_ix (A 23 0)) (-1 : Int32)) 28 (y_ix (A 23 0)) (-1 : Int32)) 29 (y_ix (A 23 0)) (-1 : Int32)) 23 0 ((A 23 0) + (1 : Int32))) 28 (y_ix (((A 23 0) + (1 : Int32)) - (1 : Int32))) (A 70 (y_ix a2))) (((1 : Int32), a1, (2 : Int32), (((A 23 0) + (1 : Int32)) - (1 : Int32)), (0 : Int32)) :: js) _
                        refine ra.s (pc' := 309) (st' := []) (fun _ => rfl) ?_
                        subst hk
                        exact ra.ret (r := none) (fun _ => rfl) ⟨rfl, rfl, rfl⟩
                    · skip
                      refine ra.s (pc' := 304) (st' := [.inr (some (11, 0))]) (fun _ => rfl) ?_
                      refine ra.s (pc' := 305) (st' := [.inl a1, .inr (some (11, 0))]) (fun _ => rfl) ?_
                      refine ra.s (pc' := 306) (st' := [.inl a2, .inl a1, .inr (some (11, 0))]) (fun _ => rfl) ?_
                      obtain ⟨h39, hg⟩ := hg
                      refine ra.cV (F := (A, (((1 : Int32), a1, (A 69 (y_ix a2)), (A 70 (y_ix a2)), (if (A 71 (y_ix a2)) = (0 : Int32) then (0 : Int32) else (1 : Int32))) :: js))) (m := 145) (as := [.inr (some (11, 0)), .inl a1, .inl a2]) (nx := 309) (L' := [some (.inr (some (11, 0))), some (.inl a1), some (.inl a2), some (.inl (A 65 (y_ix a1))), none]) (st' := []) (fun _ => rfl) (rh_alike2 (by omega) h39) ?_
                      show ra _ _ _ _ [] A (((1 : Int32), a1, (A 69 (y_ix a2)), (A 70 (y_ix a2)), (if (A 71 (y_ix a2)) = (0 : Int32) then (0 : Int32) else (1 : Int32))) :: js) _
                      subst hk
                      exact ra.ret (r := none) (fun _ => rfl) ⟨rfl, rfl, rfl⟩
/-- ends -/
def rf_ends (a1 a2 a3 a4 : Int32) (A : y_A) (js : List y_J) : y_A × List y_J := (if (A 69 (y_ix a1)) = (0 : Int32) then (if a4 = (0 : Int32) then (if (A 64 (y_ix a1)) < (0 : Int32) then (if a2 = (1 : Int32) then ((xm_u2 (xm_u2 (xm_u2 (xm_u2 (xm_u2 (xm_u2 (xm_u2 (xm_u2 A 69 (y_ix a1) a2) 70 (y_ix a1) a3) 71 (y_ix a1) (0 : Int32)) 68 (y_ix a1) (A 0 0)) 58 (y_ix (A 62 (y_ix a1))) (1 : Int32)) 59 (y_ix (A 62 (y_ix a1))) a3) 57 (y_ix (A 62 (y_ix a1))) (A 0 0)) 60 0 ((A 60 0) + (1 : Int32))), js) else ((xm_u2 (xm_u2 (xm_u2 (xm_u2 (xm_u2 (xm_u2 (xm_u2 (xm_u2 A 69 (y_ix a1) a2) 70 (y_ix a1) a3) 71 (y_ix a1) (0 : Int32)) 68 (y_ix a1) (A 0 0)) 58 (y_ix (A 62 (y_ix a1))) (2 : Int32)) 59 (y_ix (A 62 (y_ix a1))) a3) 57 (y_ix (A 62 (y_ix a1))) (A 0 0)) 60 0 ((A 60 0) + (1 : Int32))), js)) else ((rf_told (A 64 (y_ix a1)) a1 (xm_u2 (xm_u2 (xm_u2 (xm_u2 A 69 (y_ix a1) a2) 70 (y_ix a1) a3) 71 (y_ix a1) (0 : Int32)) 68 (y_ix a1) (A 0 0)) js).1, (rf_told (A 64 (y_ix a1)) a1 (xm_u2 (xm_u2 (xm_u2 (xm_u2 A 69 (y_ix a1) a2) 70 (y_ix a1) a3) 71 (y_ix a1) (0 : Int32)) 68 (y_ix a1) (A 0 0)) js).2)) else (if a2 = (1 : Int32) then (if (A 64 (y_ix a1)) < (0 : Int32) then ((xm_u2 (xm_u2 (xm_u2 (xm_u2 (xm_u2 (xm_u2 (xm_u2 (xm_u2 A 69 (y_ix a1) a2) 70 (y_ix a1) a3) 71 (y_ix a1) (1 : Int32)) 68 (y_ix a1) (A 0 0)) 58 (y_ix (A 62 (y_ix a1))) (3 : Int32)) 59 (y_ix (A 62 (y_ix a1))) a3) 57 (y_ix (A 62 (y_ix a1))) (A 0 0)) 60 0 ((A 60 0) + (1 : Int32))), js) else ((rf_told (A 64 (y_ix a1)) a1 (xm_u2 (xm_u2 (xm_u2 (xm_u2 A 69 (y_ix a1) a2) 70 (y_ix a1) a3) 71 (y_ix a1) (1 : Int32)) 68 (y_ix a1) (A 0 0)) js).1, (rf_told (A 64 (y_ix a1)) a1 (xm_u2 (xm_u2 (xm_u2 (xm_u2 A 69 (y_ix a1) a2) 70 (y_ix a1) a3) 71 (y_ix a1) (1 : Int32)) 68 (y_ix a1) (A 0 0)) js).2)) else (if (A 64 (y_ix a1)) < (0 : Int32) then ((xm_u2 (xm_u2 (xm_u2 (xm_u2 (xm_u2 (xm_u2 (xm_u2 (xm_u2 A 69 (y_ix a1) a2) 70 (y_ix a1) a3) 71 (y_ix a1) (0 : Int32)) 68 (y_ix a1) (A 0 0)) 58 (y_ix (A 62 (y_ix a1))) (2 : Int32)) 59 (y_ix (A 62 (y_ix a1))) a3) 57 (y_ix (A 62 (y_ix a1))) (A 0 0)) 60 0 ((A 60 0) + (1 : Int32))), js) else ((rf_told (A 64 (y_ix a1)) a1 (xm_u2 (xm_u2 (xm_u2 (xm_u2 A 69 (y_ix a1) a2) 70 (y_ix a1) a3) 71 (y_ix a1) (0 : Int32)) 68 (y_ix a1) (A 0 0)) js).1, (rf_told (A 64 (y_ix a1)) a1 (xm_u2 (xm_u2 (xm_u2 (xm_u2 A 69 (y_ix a1) a2) 70 (y_ix a1) a3) 71 (y_ix a1) (0 : Int32)) 68 (y_ix a1) (A 0 0)) js).2)))) else (A, js))
def rg_ends (a1 a2 a3 a4 : Int32) (A : y_A) (js : List y_J) : Prop := (y_in a1 4400) ∧ (((A 69 (y_ix a1)) = (0 : Int32) → ((a4 = (0 : Int32) → (((A 64 (y_ix a1)) < (0 : Int32) → ((a2 = (1 : Int32) → (y_in (A 62 (y_ix a1)) 60) ∧ True) ∧ (¬ a2 = (1 : Int32) → (y_in (A 62 (y_ix a1)) 60) ∧ True))) ∧ (¬ (A 64 (y_ix a1)) < (0 : Int32) → (rg_told (A 64 (y_ix a1)) a1 (xm_u2 (xm_u2 (xm_u2 (xm_u2 A 69 (y_ix a1) a2) 70 (y_ix a1) a3) 71 (y_ix a1) (0 : Int32)) 68 (y_ix a1) (A 0 0)) js) ∧ True))) ∧ (¬ a4 = (0 : Int32) → ((a2 = (1 : Int32) → (((A 64 (y_ix a1)) < (0 : Int32) → (y_in (A 62 (y_ix a1)) 60) ∧ True) ∧ (¬ (A 64 (y_ix a1)) < (0 : Int32) → (rg_told (A 64 (y_ix a1)) a1 (xm_u2 (xm_u2 (xm_u2 (xm_u2 A 69 (y_ix a1) a2) 70 (y_ix a1) a3) 71 (y_ix a1) (1 : Int32)) 68 (y_ix a1) (A 0 0)) js) ∧ True))) ∧ (¬ a2 = (1 : Int32) → (((A 64 (y_ix a1)) < (0 : Int32) → (y_in (A 62 (y_ix a1)) 60) ∧ True) ∧ (¬ (A 64 (y_ix a1)) < (0 : Int32) → (rg_told (A 64 (y_ix a1)) a1 (xm_u2 (xm_u2 (xm_u2 (xm_u2 A 69 (y_ix a1) a2) 70 (y_ix a1) a3) 71 (y_ix a1) (0 : Int32)) 68 (y_ix a1) (A 0 0)) js) ∧ True))))))) ∧ (¬ (A 69 (y_ix a1)) = (0 : Int32) → True))
theorem rh_ends {d : Nat} (hd : 5 ≤ d) {a1 a2 a3 a4 : Int32} {A : y_A} {js : List y_J} (hg : rg_ends a1 a2 a3 a4 A js) : rc d 140 [.inr (some (11, 0)), .inl a1, .inl a2, .inl a3, .inl a4] A js (y_V (rf_ends a1 a2 a3 a4 A js)) := by
  obtain ⟨d, rfl⟩ := Nat.exists_eq_add_of_le' hd
  obtain ⟨F, hk⟩ : ∃ F, rf_ends a1 a2 a3 a4 A js = F := ⟨_, rfl⟩
  rw [hk]
  show ra _ _ _ [some (.inr (some (11, 0))), some (.inl a1), some (.inl a2), some (.inl a3), some (.inl a4), none, none] _ _ _ _
  unfold rg_ends at hg
  unfold rf_ends at hk
  refine ra.s (pc' := 1) (st' := [.inr (some (11, 0))]) (fun _ => rfl) ?_
  refine ra.ga (x := 69) (nx := 4) (c := 13) (i := 57) rfl rfl ?_
  refine ra.s (pc' := 5) (st' := [.inl a1, .inr (some (13, 57))]) (fun _ => rfl) ?_
  obtain ⟨h1, hg⟩ := hg
  refine ra.ld (nx := 6) (v := (A 69 (y_ix a1))) 69 4400 rfl rfl h1 rfl ?_
  refine ra.b (c := (A 69 (y_ix a1)) = (0 : Int32)) (cd := .eq) (x := (A 69 (y_ix a1))) (y := (0 : Int32)) 10 9 (st' := []) (fun _ => rfl) (y_ceq _ _) hk hg (fun h2 hg hk => ?_) (fun h2 hg hk => ?_)
  · skip
    refine ra.s (pc' := 11) (st' := [.inr (some (11, 0))]) (fun _ => rfl) ?_
    refine ra.ga (x := 69) (nx := 14) (c := 13) (i := 57) rfl rfl ?_
    refine ra.s (pc' := 15) (st' := [.inl a1, .inr (some (13, 57))]) (fun _ => rfl) ?_
    refine ra.s (pc' := 16) (st' := [.inl a2, .inl a1, .inr (some (13, 57))]) (fun _ => rfl) ?_
    refine ra.si (nx := 17) 69 4400 rfl rfl h1 ?_
    refine ra.s (pc' := 18) (st' := [.inr (some (11, 0))]) (fun _ => rfl) ?_
    refine ra.ga (x := 70) (nx := 21) (c := 13) (i := 58) rfl rfl ?_
    refine ra.s (pc' := 22) (st' := [.inl a1, .inr (some (13, 58))]) (fun _ => rfl) ?_
    refine ra.s (pc' := 23) (st' := [.inl a3, .inl a1, .inr (some (13, 58))]) (fun _ => rfl) ?_
    refine ra.si (nx := 24) 70 4400 rfl rfl h1 ?_
    refine ra.s (pc' := 25) (st' := [.inr (some (11, 0))]) (fun _ => rfl) ?_
    refine ra.ga (x := 71) (nx := 28) (c := 14) (i := 1) rfl rfl ?_
    refine ra.s (pc' := 29) (st' := [.inl a1, .inr (some (14, 1))]) (fun _ => rfl) ?_
    refine ra.s (pc' := 31) (st' := [.inl a4, .inl a1, .inr (some (14, 1))]) (fun _ => rfl) ?_
    refine ra.b (c := a4 = (0 : Int32)) (cd := .eq) (x := a4) (y := (0 : Int32)) 43 34 (st' := [.inl a1, .inr (some (14, 1))]) (fun _ => rfl) (y_ceq _ _) hk hg (fun h3 hg hk => ?_) (fun h3 hg hk => ?_)
    · skip
      refine ra.s (pc' := 44) (st' := [.inl (0 : Int32), .inl a1, .inr (some (14, 1))]) (fun _ => rfl) ?_
      refine ra.sz (nx := 45) 71 4400 rfl rfl h1 (Or.inl rfl) ?_
      refine ra.s (pc' := 46) (st' := [.inr (some (11, 0))]) (fun _ => rfl) ?_
      refine ra.ga (x := 68) (nx := 49) (c := 13) (i := 56) rfl rfl ?_
      refine ra.s (pc' := 50) (st' := [.inl a1, .inr (some (13, 56))]) (fun _ => rfl) ?_
      refine ra.s (pc' := 51) (st' := [.inr (some (11, 0)), .inl a1, .inr (some (13, 56))]) (fun _ => rfl) ?_
      refine ra.gi (x := 0) (nx := 54) (v := (A 0 0)) rfl rfl rfl ?_
      refine ra.si (nx := 55) 68 4400 rfl rfl h1 ?_
      refine ra.s (pc' := 56) (st' := [.inr (some (11, 0))]) (fun _ => rfl) ?_
      refine ra.ga (x := 64) (nx := 59) (c := 13) (i := 52) rfl rfl ?_
      refine ra.s (pc' := 60) (st' := [.inl a1, .inr (some (13, 52))]) (fun _ => rfl) ?_
      refine ra.ld (nx := 61) (v := (A 64 (y_ix a1))) 64 4400 rfl rfl h1 rfl ?_
      refine ra.s (pc' := 63) (L' := [some (.inr (some (11, 0))), some (.inl a1), some (.inl a2), some (.inl a3), some (.inl a4), some (.inl (A 64 (y_ix a1))), none]) (st' := []) (fun _ => rfl) ?_
      refine ra.s (pc' := 65) (st' := [.inl (A 64 (y_ix a1))]) (fun _ => rfl) ?_
      refine ra.b (c := (A 64 (y_ix a1)) < (0 : Int32)) (cd := .lt) (x := (A 64 (y_ix a1))) (y := (0 : Int32)) 76 68 (st' := []) (fun _ => rfl) (y_clt _ _) hk hg (fun h4 hg hk => ?_) (fun h4 hg hk => ?_)
      · skip
        refine ra.s (pc' := 77) (st' := [.inr (some (11, 0))]) (fun _ => rfl) ?_
        refine ra.ga (x := 62) (nx := 80) (c := 13) (i := 50) rfl rfl ?_
        refine ra.s (pc' := 81) (st' := [.inl a1, .inr (some (13, 50))]) (fun _ => rfl) ?_
        refine ra.ld (nx := 82) (v := (A 62 (y_ix a1))) 62 4400 rfl rfl h1 rfl ?_
        refine ra.s (pc' := 84) (L' := [some (.inr (some (11, 0))), some (.inl a1), some (.inl a2), some (.inl a3), some (.inl a4), some (.inl (A 64 (y_ix a1))), some (.inl (A 62 (y_ix a1)))]) (st' := []) (fun _ => rfl) ?_
        refine ra.s (pc' := 85) (st' := [.inr (some (11, 0))]) (fun _ => rfl) ?_
        refine ra.ga (x := 58) (nx := 88) (c := 13) (i := 48) rfl rfl ?_
        refine ra.s (pc' := 90) (st' := [.inl (A 62 (y_ix a1)), .inr (some (13, 48))]) (fun _ => rfl) ?_
        refine ra.s (pc' := 91) (st' := [.inl a2, .inl (A 62 (y_ix a1)), .inr (some (13, 48))]) (fun _ => rfl) ?_
        refine ra.s (pc' := 92) (st' := [.inl (1 : Int32), .inl a2, .inl (A 62 (y_ix a1)), .inr (some (13, 48))]) (fun _ => rfl) ?_
        refine ra.bn (c := a2 = (1 : Int32)) (cd := .ne) (x := a2) (y := (1 : Int32)) 108 95 (st' := [.inl (A 62 (y_ix a1)), .inr (some (13, 48))]) (fun _ => rfl) (y_cne _ _) hk hg (fun h5 hg hk => ?_) (fun h5 hg hk => ?_)
        · skip
          refine ra.s (pc' := 97) (st' := [.inl a4, .inl (A 62 (y_ix a1)), .inr (some (13, 48))]) (fun _ => rfl) ?_
          refine ra.bt (cd := .eq) (x := a4) (y := (0 : Int32)) 104 100 (st' := [.inl (A 62 (y_ix a1)), .inr (some (13, 48))]) (fun _ => rfl) (y_ceq _ _) h3 ?_
          refine ra.s (pc' := 105) (st' := [.inl (1 : Int32), .inl (A 62 (y_ix a1)), .inr (some (13, 48))]) (fun _ => rfl) ?_
          refine ra.s (pc' := 109) (st' := [.inl (1 : Int32), .inl (A 62 (y_ix a1)), .inr (some (13, 48))]) (fun _ => rfl) ?_
          obtain ⟨h6, hg⟩ := hg
          refine ra.si (nx := 110) 58 60 rfl rfl h6 ?_
          refine ra.s (pc' := 111) (st' := [.inr (some (11, 0))]) (fun _ => rfl) ?_
          refine ra.ga (x := 59) (nx := 114) (c := 13) (i := 49) rfl rfl ?_
          refine ra.s (pc' := 116) (st' := [.inl (A 62 (y_ix a1)), .inr (some (13, 49))]) (fun _ => rfl) ?_
          refine ra.s (pc' := 117) (st' := [.inl a3, .inl (A 62 (y_ix a1)), .inr (some (13, 49))]) (fun _ => rfl) ?_
          refine ra.si (nx := 118) 59 60 rfl rfl h6 ?_
          refine ra.s (pc' := 119) (st' := [.inr (some (11, 0))]) (fun _ => rfl) ?_
          refine ra.ga (x := 57) (nx := 122) (c := 13) (i := 47) rfl rfl ?_
          refine ra.s (pc' := 124) (st' := [.inl (A 62 (y_ix a1)), .inr (some (13, 47))]) (fun _ => rfl) ?_
          refine ra.s (pc' := 125) (st' := [.inr (some (11, 0)), .inl (A 62 (y_ix a1)), .inr (some (13, 47))]) (fun _ => rfl) ?_
          refine ra.gi (x := 0) (nx := 128) (v := (A 0 0)) rfl rfl rfl ?_
          refine ra.si (nx := 129) 57 60 rfl rfl h6 ?_
          refine ra.s (pc' := 130) (st' := [.inr (some (11, 0))]) (fun _ => rfl) ?_
          refine ra.s (pc' := 131) (st' := [.inr (some (11, 0)), .inr (some (11, 0))]) (fun _ => rfl) ?_
          refine ra.gi (x := 60) (nx := 134) (v := (A 60 0)) rfl rfl rfl ?_
          refine ra.s (pc' := 135) (st' := [.inl (1 : Int32), .inl (A 60 0), .inr (some (11, 0))]) (fun _ => rfl) ?_
          refine ra.s (pc' := 136) (st' := [.inl ((A 60 0) + (1 : Int32)), .inr (some (11, 0))]) (fun _ => rfl) ?_
          refine ra.pi (x := 60) (nx := 139) rfl rfl ?_
          subst hk
          exact ra.ret (r := none) (fun _ => rfl) ⟨rfl, rfl, rfl⟩
        · skip
          refine ra.s (pc' := 109) (st' := [.inl (2 : Int32), .inl (A 62 (y_ix a1)), .inr (some (13, 48))]) (fun _ => rfl) ?_
          obtain ⟨h7, hg⟩ := hg
          refine ra.si (nx := 110) 58 60 rfl rfl h7 ?_
          refine ra.s (pc' := 111) (st' := [.inr (some (11, 0))]) (fun _ => rfl) ?_
          refine ra.ga (x := 59) (nx := 114) (c := 13) (i := 49) rfl rfl ?_
          refine ra.s (pc' := 116) (st' := [.inl (A 62 (y_ix a1)), .inr (some (13, 49))]) (fun _ => rfl) ?_
          refine ra.s (pc' := 117) (st' := [.inl a3, .inl (A 62 (y_ix a1)), .inr (some (13, 49))]) (fun _ => rfl) ?_
          refine ra.si (nx := 118) 59 60 rfl rfl h7 ?_
          refine ra.s (pc' := 119) (st' := [.inr (some (11, 0))]) (fun _ => rfl) ?_
          refine ra.ga (x := 57) (nx := 122) (c := 13) (i := 47) rfl rfl ?_
          refine ra.s (pc' := 124) (st' := [.inl (A 62 (y_ix a1)), .inr (some (13, 47))]) (fun _ => rfl) ?_
          refine ra.s (pc' := 125) (st' := [.inr (some (11, 0)), .inl (A 62 (y_ix a1)), .inr (some (13, 47))]) (fun _ => rfl) ?_
          refine ra.gi (x := 0) (nx := 128) (v := (A 0 0)) rfl rfl rfl ?_
          refine ra.si (nx := 129) 57 60 rfl rfl h7 ?_
          refine ra.s (pc' := 130) (st' := [.inr (some (11, 0))]) (fun _ => rfl) ?_
          refine ra.s (pc' := 131) (st' := [.inr (some (11, 0)), .inr (some (11, 0))]) (fun _ => rfl) ?_
          refine ra.gi (x := 60) (nx := 134) (v := (A 60 0)) rfl rfl rfl ?_
          refine ra.s (pc' := 135) (st' := [.inl (1 : Int32), .inl (A 60 0), .inr (some (11, 0))]) (fun _ => rfl) ?_
          refine ra.s (pc' := 136) (st' := [.inl ((A 60 0) + (1 : Int32)), .inr (some (11, 0))]) (fun _ => rfl) ?_
          refine ra.pi (x := 60) (nx := 139) rfl rfl ?_
          subst hk
          exact ra.ret (r := none) (fun _ => rfl) ⟨rfl, rfl, rfl⟩
      · skip
        refine ra.s (pc' := 69) (st' := [.inr (some (11, 0))]) (fun _ => rfl) ?_
        refine ra.s (pc' := 71) (st' := [.inl (A 64 (y_ix a1)), .inr (some (11, 0))]) (fun _ => rfl) ?_
        refine ra.s (pc' := 72) (st' := [.inl a1, .inl (A 64 (y_ix a1)), .inr (some (11, 0))]) (fun _ => rfl) ?_
        obtain ⟨h8, hg⟩ := hg
        refine ra.cV (F := (rf_told (A 64 (y_ix a1)) a1 (xm_u2 (xm_u2 (xm_u2 (xm_u2 A 69 (y_ix a1) a2) 70 (y_ix a1) a3) 71 (y_ix a1) (0 : Int32)) 68 (y_ix a1) (A 0 0)) js)) (m := 141) (as := [.inr (some (11, 0)), .inl (A 64 (y_ix a1)), .inl a1]) (nx := 75) (L' := [some (.inr (some (11, 0))), some (.inl a1), some (.inl a2), some (.inl a3), some (.inl a4), some (.inl (A 64 (y_ix a1))), none]) (st' := []) (fun _ => rfl) (rh_told (by omega) h8) ?_
        show ra _ _ _ _ [] (rf_told (A 64 (y_ix a1)) a1 (xm_u2 (xm_u2 (xm_u2 (xm_u2 A 69 (y_ix a1) a2) 70 (y_ix a1) a3) 71 (y_ix a1) (0 : Int32)) 68 (y_ix a1) (A 0 0)) js).1 (rf_told (A 64 (y_ix a1)) a1 (xm_u2 (xm_u2 (xm_u2 (xm_u2 A 69 (y_ix a1) a2) 70 (y_ix a1) a3) 71 (y_ix a1) (0 : Int32)) 68 (y_ix a1) (A 0 0)) js).2 _
        subst hk
        exact ra.ret (r := none) (fun _ => rfl) ⟨rfl, rfl, rfl⟩
    · skip
      refine ra.s (pc' := 35) (st' := [.inl a2, .inl a1, .inr (some (14, 1))]) (fun _ => rfl) ?_
      refine ra.s (pc' := 36) (st' := [.inl (1 : Int32), .inl a2, .inl a1, .inr (some (14, 1))]) (fun _ => rfl) ?_
      refine ra.bn (c := a2 = (1 : Int32)) (cd := .ne) (x := a2) (y := (1 : Int32)) 43 39 (st' := [.inl a1, .inr (some (14, 1))]) (fun _ => rfl) (y_cne _ _) hk hg (fun h9 hg hk => ?_) (fun h9 hg hk => ?_)
      · skip
        refine ra.s (pc' := 40) (st' := [.inl (1 : Int32), .inl a1, .inr (some (14, 1))]) (fun _ => rfl) ?_
        refine ra.s (pc' := 44) (st' := [.inl (1 : Int32), .inl a1, .inr (some (14, 1))]) (fun _ => rfl) ?_
        refine ra.sz (nx := 45) 71 4400 rfl rfl h1 (Or.inr rfl) ?_
        refine ra.s (pc' := 46) (st' := [.inr (some (11, 0))]) (fun _ => rfl) ?_
        refine ra.ga (x := 68) (nx := 49) (c := 13) (i := 56) rfl rfl ?_
        refine ra.s (pc' := 50) (st' := [.inl a1, .inr (some (13, 56))]) (fun _ => rfl) ?_
        refine ra.s (pc' := 51) (st' := [.inr (some (11, 0)), .inl a1, .inr (some (13, 56))]) (fun _ => rfl) ?_
        refine ra.gi (x := 0) (nx := 54) (v := (A 0 0)) rfl rfl rfl ?_
        refine ra.si (nx := 55) 68 4400 rfl rfl h1 ?_
        refine ra.s (pc' := 56) (st' := [.inr (some (11, 0))]) (fun _ => rfl) ?_
        refine ra.ga (x := 64) (nx := 59) (c := 13) (i := 52) rfl rfl ?_
        refine ra.s (pc' := 60) (st' := [.inl a1, .inr (some (13, 52))]) (fun _ => rfl) ?_
        refine ra.ld (nx := 61) (v := (A 64 (y_ix a1))) 64 4400 rfl rfl h1 rfl ?_
        refine ra.s (pc' := 63) (L' := [some (.inr (some (11, 0))), some (.inl a1), some (.inl a2), some (.inl a3), some (.inl a4), some (.inl (A 64 (y_ix a1))), none]) (st' := []) (fun _ => rfl) ?_
        refine ra.s (pc' := 65) (st' := [.inl (A 64 (y_ix a1))]) (fun _ => rfl) ?_
        refine ra.b (c := (A 64 (y_ix a1)) < (0 : Int32)) (cd := .lt) (x := (A 64 (y_ix a1))) (y := (0 : Int32)) 76 68 (st' := []) (fun _ => rfl) (y_clt _ _) hk hg (fun h10 hg hk => ?_) (fun h10 hg hk => ?_)
        · skip
          refine ra.s (pc' := 77) (st' := [.inr (some (11, 0))]) (fun _ => rfl) ?_
          refine ra.ga (x := 62) (nx := 80) (c := 13) (i := 50) rfl rfl ?_
          refine ra.s (pc' := 81) (st' := [.inl a1, .inr (some (13, 50))]) (fun _ => rfl) ?_
          refine ra.ld (nx := 82) (v := (A 62 (y_ix a1))) 62 4400 rfl rfl h1 rfl ?_
          refine ra.s (pc' := 84) (L' := [some (.inr (some (11, 0))), some (.inl a1), some (.inl a2), some (.inl a3), some (.inl a4), some (.inl (A 64 (y_ix a1))), some (.inl (A 62 (y_ix a1)))]) (st' := []) (fun _ => rfl) ?_
          refine ra.s (pc' := 85) (st' := [.inr (some (11, 0))]) (fun _ => rfl) ?_
          refine ra.ga (x := 58) (nx := 88) (c := 13) (i := 48) rfl rfl ?_
          refine ra.s (pc' := 90) (st' := [.inl (A 62 (y_ix a1)), .inr (some (13, 48))]) (fun _ => rfl) ?_
          refine ra.s (pc' := 91) (st' := [.inl a2, .inl (A 62 (y_ix a1)), .inr (some (13, 48))]) (fun _ => rfl) ?_
          refine ra.s (pc' := 92) (st' := [.inl (1 : Int32), .inl a2, .inl (A 62 (y_ix a1)), .inr (some (13, 48))]) (fun _ => rfl) ?_
          refine ra.bf (cd := .ne) (x := a2) (y := (1 : Int32)) 108 95 (st' := [.inl (A 62 (y_ix a1)), .inr (some (13, 48))]) (fun _ => rfl) (y_cne _ _) (fun z => z h9) ?_
          refine ra.s (pc' := 97) (st' := [.inl a4, .inl (A 62 (y_ix a1)), .inr (some (13, 48))]) (fun _ => rfl) ?_
          refine ra.bf (cd := .eq) (x := a4) (y := (0 : Int32)) 104 100 (st' := [.inl (A 62 (y_ix a1)), .inr (some (13, 48))]) (fun _ => rfl) (y_ceq _ _) h3 ?_
          refine ra.s (pc' := 101) (st' := [.inl (3 : Int32), .inl (A 62 (y_ix a1)), .inr (some (13, 48))]) (fun _ => rfl) ?_
          refine ra.s (pc' := 109) (st' := [.inl (3 : Int32), .inl (A 62 (y_ix a1)), .inr (some (13, 48))]) (fun _ => rfl) ?_
          obtain ⟨h11, hg⟩ := hg
          refine ra.si (nx := 110) 58 60 rfl rfl h11 ?_
          refine ra.s (pc' := 111) (st' := [.inr (some (11, 0))]) (fun _ => rfl) ?_
          refine ra.ga (x := 59) (nx := 114) (c := 13) (i := 49) rfl rfl ?_
          refine ra.s (pc' := 116) (st' := [.inl (A 62 (y_ix a1)), .inr (some (13, 49))]) (fun _ => rfl) ?_
          refine ra.s (pc' := 117) (st' := [.inl a3, .inl (A 62 (y_ix a1)), .inr (some (13, 49))]) (fun _ => rfl) ?_
          refine ra.si (nx := 118) 59 60 rfl rfl h11 ?_
          refine ra.s (pc' := 119) (st' := [.inr (some (11, 0))]) (fun _ => rfl) ?_
          refine ra.ga (x := 57) (nx := 122) (c := 13) (i := 47) rfl rfl ?_
          refine ra.s (pc' := 124) (st' := [.inl (A 62 (y_ix a1)), .inr (some (13, 47))]) (fun _ => rfl) ?_
          refine ra.s (pc' := 125) (st' := [.inr (some (11, 0)), .inl (A 62 (y_ix a1)), .inr (some (13, 47))]) (fun _ => rfl) ?_
          refine ra.gi (x := 0) (nx := 128) (v := (A 0 0)) rfl rfl rfl ?_
          refine ra.si (nx := 129) 57 60 rfl rfl h11 ?_
          refine ra.s (pc' := 130) (st' := [.inr (some (11, 0))]) (fun _ => rfl) ?_
          refine ra.s (pc' := 131) (st' := [.inr (some (11, 0)), .inr (some (11, 0))]) (fun _ => rfl) ?_
          refine ra.gi (x := 60) (nx := 134) (v := (A 60 0)) rfl rfl rfl ?_
          refine ra.s (pc' := 135) (st' := [.inl (1 : Int32), .inl (A 60 0), .inr (some (11, 0))]) (fun _ => rfl) ?_
          refine ra.s (pc' := 136) (st' := [.inl ((A 60 0) + (1 : Int32)), .inr (some (11, 0))]) (fun _ => rfl) ?_
          refine ra.pi (x := 60) (nx := 139) rfl rfl ?_
          subst hk
          exact ra.ret (r := none) (fun _ => rfl) ⟨rfl, rfl, rfl⟩
        · skip
          refine ra.s (pc' := 69) (st' := [.inr (some (11, 0))]) (fun _ => rfl) ?_
          refine ra.s (pc' := 71) (st' := [.inl (A 64 (y_ix a1)), .inr (some (11, 0))]) (fun _ => rfl) ?_
          refine ra.s (pc' := 72) (st' := [.inl a1, .inl (A 64 (y_ix a1)), .inr (some (11, 0))]) (fun _ => rfl) ?_
          obtain ⟨h12, hg⟩ := hg
          refine ra.cV (F := (rf_told (A 64 (y_ix a1)) a1 (xm_u2 (xm_u2 (xm_u2 (xm_u2 A 69 (y_ix a1) a2) 70 (y_ix a1) a3) 71 (y_ix a1) (1 : Int32)) 68 (y_ix a1) (A 0 0)) js)) (m := 141) (as := [.inr (some (11, 0)), .inl (A 64 (y_ix a1)), .inl a1]) (nx := 75) (L' := [some (.inr (some (11, 0))), some (.inl a1), some (.inl a2), some (.inl a3), some (.inl a4), some (.inl (A 64 (y_ix a1))), none]) (st' := []) (fun _ => rfl) (rh_told (by omega) h12) ?_
          show ra _ _ _ _ [] (rf_told (A 64 (y_ix a1)) a1 (xm_u2 (xm_u2 (xm_u2 (xm_u2 A 69 (y_ix a1) a2) 70 (y_ix a1) a3) 71 (y_ix a1) (1 : Int32)) 68 (y_ix a1) (A 0 0)) js).1 (rf_told (A 64 (y_ix a1)) a1 (xm_u2 (xm_u2 (xm_u2 (xm_u2 A 69 (y_ix a1) a2) 70 (y_ix a1) a3) 71 (y_ix a1) (1 : Int32)) 68 (y_ix a1) (A 0 0)) js).2 _
          subst hk
          exact ra.ret (r := none) (fun _ => rfl) ⟨rfl, rfl, rfl⟩
      · skip
        refine ra.s (pc' := 44) (st' := [.inl (0 : Int32), .inl a1, .inr (some (14, 1))]) (fun _ => rfl) ?_
        refine ra.sz (nx := 45) 71 4400 rfl rfl h1 (Or.inl rfl) ?_
        refine ra.s (pc' := 46) (st' := [.inr (some (11, 0))]) (fun _ => rfl) ?_
        refine ra.ga (x := 68) (nx := 49) (c := 13) (i := 56) rfl rfl ?_
        refine ra.s (pc' := 50) (st' := [.inl a1, .inr (some (13, 56))]) (fun _ => rfl) ?_
        refine ra.s (pc' := 51) (st' := [.inr (some (11, 0)), .inl a1, .inr (some (13, 56))]) (fun _ => rfl) ?_
        refine ra.gi (x := 0) (nx := 54) (v := (A 0 0)) rfl rfl rfl ?_
        refine ra.si (nx := 55) 68 4400 rfl rfl h1 ?_
        refine ra.s (pc' := 56) (st' := [.inr (some (11, 0))]) (fun _ => rfl) ?_
        refine ra.ga (x := 64) (nx := 59) (c := 13) (i := 52) rfl rfl ?_
        refine ra.s (pc' := 60) (st' := [.inl a1, .inr (some (13, 52))]) (fun _ => rfl) ?_
        refine ra.ld (nx := 61) (v := (A 64 (y_ix a1))) 64 4400 rfl rfl h1 rfl ?_
        refine ra.s (pc' := 63) (L' := [some (.inr (some (11, 0))), some (.inl a1), some (.inl a2), some (.inl a3), some (.inl a4), some (.inl (A 64 (y_ix a1))), none]) (st' := []) (fun _ => rfl) ?_
        refine ra.s (pc' := 65) (st' := [.inl (A 64 (y_ix a1))]) (fun _ => rfl) ?_
        refine ra.b (c := (A 64 (y_ix a1)) < (0 : Int32)) (cd := .lt) (x := (A 64 (y_ix a1))) (y := (0 : Int32)) 76 68 (st' := []) (fun _ => rfl) (y_clt _ _) hk hg (fun h13 hg hk => ?_) (fun h13 hg hk => ?_)
        · skip
          refine ra.s (pc' := 77) (st' := [.inr (some (11, 0))]) (fun _ => rfl) ?_
          refine ra.ga (x := 62) (nx := 80) (c := 13) (i := 50) rfl rfl ?_
          refine ra.s (pc' := 81) (st' := [.inl a1, .inr (some (13, 50))]) (fun _ => rfl) ?_
          refine ra.ld (nx := 82) (v := (A 62 (y_ix a1))) 62 4400 rfl rfl h1 rfl ?_
          refine ra.s (pc' := 84) (L' := [some (.inr (some (11, 0))), some (.inl a1), some (.inl a2), some (.inl a3), some (.inl a4), some (.inl (A 64 (y_ix a1))), some (.inl (A 62 (y_ix a1)))]) (st' := []) (fun _ => rfl) ?_
          refine ra.s (pc' := 85) (st' := [.inr (some (11, 0))]) (fun _ => rfl) ?_
          refine ra.ga (x := 58) (nx := 88) (c := 13) (i := 48) rfl rfl ?_
          refine ra.s (pc' := 90) (st' := [.inl (A 62 (y_ix a1)), .inr (some (13, 48))]) (fun _ => rfl) ?_
          refine ra.s (pc' := 91) (st' := [.inl a2, .inl (A 62 (y_ix a1)), .inr (some (13, 48))]) (fun _ => rfl) ?_
          refine ra.s (pc' := 92) (st' := [.inl (1 : Int32), .inl a2, .inl (A 62 (y_ix a1)), .inr (some (13, 48))]) (fun _ => rfl) ?_
          refine ra.bt (cd := .ne) (x := a2) (y := (1 : Int32)) 108 95 (st' := [.inl (A 62 (y_ix a1)), .inr (some (13, 48))]) (fun _ => rfl) (y_cne _ _) h9 ?_
          refine ra.s (pc' := 109) (st' := [.inl (2 : Int32), .inl (A 62 (y_ix a1)), .inr (some (13, 48))]) (fun _ => rfl) ?_
          obtain ⟨h14, hg⟩ := hg
          refine ra.si (nx := 110) 58 60 rfl rfl h14 ?_
          refine ra.s (pc' := 111) (st' := [.inr (some (11, 0))]) (fun _ => rfl) ?_
          refine ra.ga (x := 59) (nx := 114) (c := 13) (i := 49) rfl rfl ?_
          refine ra.s (pc' := 116) (st' := [.inl (A 62 (y_ix a1)), .inr (some (13, 49))]) (fun _ => rfl) ?_
          refine ra.s (pc' := 117) (st' := [.inl a3, .inl (A 62 (y_ix a1)), .inr (some (13, 49))]) (fun _ => rfl) ?_
          refine ra.si (nx := 118) 59 60 rfl rfl h14 ?_
          refine ra.s (pc' := 119) (st' := [.inr (some (11, 0))]) (fun _ => rfl) ?_
          refine ra.ga (x := 57) (nx := 122) (c := 13) (i := 47) rfl rfl ?_
          refine ra.s (pc' := 124) (st' := [.inl (A 62 (y_ix a1)), .inr (some (13, 47))]) (fun _ => rfl) ?_
          refine ra.s (pc' := 125) (st' := [.inr (some (11, 0)), .inl (A 62 (y_ix a1)), .inr (some (13, 47))]) (fun _ => rfl) ?_
          refine ra.gi (x := 0) (nx := 128) (v := (A 0 0)) rfl rfl rfl ?_
          refine ra.si (nx := 129) 57 60 rfl rfl h14 ?_
          refine ra.s (pc' := 130) (st' := [.inr (some (11, 0))]) (fun _ => rfl) ?_
          refine ra.s (pc' := 131) (st' := [.inr (some (11, 0)), .inr (some (11, 0))]) (fun _ => rfl) ?_
          refine ra.gi (x := 60) (nx := 134) (v := (A 60 0)) rfl rfl rfl ?_
          refine ra.s (pc' := 135) (st' := [.inl (1 : Int32), .inl (A 60 0), .inr (some (11, 0))]) (fun _ => rfl) ?_
          refine ra.s (pc' := 136) (st' := [.inl ((A 60 0) + (1 : Int32)), .inr (some (11, 0))]) (fun _ => rfl) ?_
          refine ra.pi (x := 60) (nx := 139) rfl rfl ?_
          subst hk
          exact ra.ret (r := none) (fun _ => rfl) ⟨rfl, rfl, rfl⟩
        · skip
          refine ra.s (pc' := 69) (st' := [.inr (some (11, 0))]) (fun _ => rfl) ?_
          refine ra.s (pc' := 71) (st' := [.inl (A 64 (y_ix a1)), .inr (some (11, 0))]) (fun _ => rfl) ?_
          refine ra.s (pc' := 72) (st' := [.inl a1, .inl (A 64 (y_ix a1)), .inr (some (11, 0))]) (fun _ => rfl) ?_
          obtain ⟨h15, hg⟩ := hg
          refine ra.cV (F := (rf_told (A 64 (y_ix a1)) a1 (xm_u2 (xm_u2 (xm_u2 (xm_u2 A 69 (y_ix a1) a2) 70 (y_ix a1) a3) 71 (y_ix a1) (0 : Int32)) 68 (y_ix a1) (A 0 0)) js)) (m := 141) (as := [.inr (some (11, 0)), .inl (A 64 (y_ix a1)), .inl a1]) (nx := 75) (L' := [some (.inr (some (11, 0))), some (.inl a1), some (.inl a2), some (.inl a3), some (.inl a4), some (.inl (A 64 (y_ix a1))), none]) (st' := []) (fun _ => rfl) (rh_told (by omega) h15) ?_
          show ra _ _ _ _ [] (rf_told (A 64 (y_ix a1)) a1 (xm_u2 (xm_u2 (xm_u2 (xm_u2 A 69 (y_ix a1) a2) 70 (y_ix a1) a3) 71 (y_ix a1) (0 : Int32)) 68 (y_ix a1) (A 0 0)) js).1 (rf_told (A 64 (y_ix a1)) a1 (xm_u2 (xm_u2 (xm_u2 (xm_u2 A 69 (y_ix a1) a2) 70 (y_ix a1) a3) 71 (y_ix a1) (0 : Int32)) 68 (y_ix a1) (A 0 0)) js).2 _
          subst hk
          exact ra.ret (r := none) (fun _ => rfl) ⟨rfl, rfl, rfl⟩
  · skip
    subst hk
    exact ra.ret (r := none) (fun _ => rfl) ⟨rfl, rfl, rfl⟩
/-- failsNow -/
def rf_failsNow (a1 a2 : Int32) (A : y_A) (js : List y_J) : y_A × List y_J := (if (A 69 (y_ix a1)) = (0 : Int32) then ((xm_u2 (xm_u2 (xm_u2 (xm_u2 (xm_u2 (xm_u2 (xm_u2 A 24 (y_ix (A 23 0)) a2) 25 (y_ix (A 23 0)) (A 0 0)) 26 (y_ix (A 23 0)) (A 65 (y_ix a1))) 27 (y_ix (A 23 0)) (-1 : Int32)) 28 (y_ix (A 23 0)) (-1 : Int32)) 29 (y_ix (A 23 0)) (-1 : Int32)) 23 0 ((A 23 0) + (1 : Int32))), (((1 : Int32), a1, (2 : Int32), (((A 23 0) + (1 : Int32)) - (1 : Int32)), (0 : Int32)) :: js)) else (A, js))
def rg_failsNow (a1 a2 : Int32) (A : y_A) (js : List y_J) : Prop := (y_in a1 4400) ∧ (((A 69 (y_ix a1)) = (0 : Int32) → (rg_fails a2 (A 65 (y_ix a1)) (-1 : Int32) A) ∧ (js.length < 20000) ∧ True) ∧ (¬ (A 69 (y_ix a1)) = (0 : Int32) → True))
theorem rh_failsNow {d : Nat} (hd : 1 ≤ d) {a1 a2 : Int32} {A : y_A} {js : List y_J} (hg : rg_failsNow a1 a2 A js) : rc d 152 [.inr (some (11, 0)), .inl a1, .inl a2] A js (y_V (rf_failsNow a1 a2 A js)) := by
  obtain ⟨d, rfl⟩ := Nat.exists_eq_add_of_le' hd
  obtain ⟨F, hk⟩ : ∃ F, rf_failsNow a1 a2 A js = F := ⟨_, rfl⟩
  rw [hk]
  show ra _ _ _ [some (.inr (some (11, 0))), some (.inl a1), some (.inl a2)] _ _ _ _
  unfold rg_failsNow at hg
  unfold rf_failsNow at hk
  refine ra.s (pc' := 1) (st' := [.inr (some (11, 0))]) (fun _ => rfl) ?_
  refine ra.ga (x := 69) (nx := 4) (c := 13) (i := 57) rfl rfl ?_
  refine ra.s (pc' := 5) (st' := [.inl a1, .inr (some (13, 57))]) (fun _ => rfl) ?_
  obtain ⟨h1, hg⟩ := hg
  refine ra.ld (nx := 6) (v := (A 69 (y_ix a1))) 69 4400 rfl rfl h1 rfl ?_
  refine ra.bn (c := (A 69 (y_ix a1)) = (0 : Int32)) (cd := .ne) (x := (A 69 (y_ix a1))) (y := (0 : Int32)) 29 9 (st' := []) (fun _ => rfl) (y_cne _ _) hk hg (fun h2 hg hk => ?_) (fun h2 hg hk => ?_)
  · skip
    refine ra.s (pc' := 10) (st' := [.inr (some (11, 0))]) (fun _ => rfl) ?_
    refine ra.s (pc' := 11) (st' := [.inl (1 : Int32), .inr (some (11, 0))]) (fun _ => rfl) ?_
    refine ra.s (pc' := 12) (st' := [.inl a1, .inl (1 : Int32), .inr (some (11, 0))]) (fun _ => rfl) ?_
    refine ra.s (pc' := 13) (st' := [.inl (2 : Int32), .inl a1, .inl (1 : Int32), .inr (some (11, 0))]) (fun _ => rfl) ?_
    refine ra.s (pc' := 14) (st' := [.inr (some (11, 0)), .inl (2 : Int32), .inl a1, .inl (1 : Int32), .inr (some (11, 0))]) (fun _ => rfl) ?_
    refine ra.s (pc' := 15) (st' := [.inl a2, .inr (some (11, 0)), .inl (2 : Int32), .inl a1, .inl (1 : Int32), .inr (some (11, 0))]) (fun _ => rfl) ?_
    refine ra.s (pc' := 16) (st' := [.inr (some (11, 0)), .inl a2, .inr (some (11, 0)), .inl (2 : Int32), .inl a1, .inl (1 : Int32), .inr (some (11, 0))]) (fun _ => rfl) ?_
    refine ra.ga (x := 65) (nx := 19) (c := 13) (i := 53) rfl rfl ?_
    refine ra.s (pc' := 20) (st' := [.inl a1, .inr (some (13, 53)), .inl a2, .inr (some (11, 0)), .inl (2 : Int32), .inl a1, .inl (1 : Int32), .inr (some (11, 0))]) (fun _ => rfl) ?_
    refine ra.ld (nx := 21) (v := (A 65 (y_ix a1))) 65 4400 rfl rfl h1 rfl ?_
    refine ra.s (pc' := 22) (st' := [.inl (-1 : Int32), .inl (A 65 (y_ix a1)), .inl a2, .inr (some (11, 0)), .inl (2 : Int32), .inl a1, .inl (1 : Int32), .inr (some (11, 0))]) (fun _ => rfl) ?_
    obtain ⟨h3, hg⟩ := hg
    refine ra.cI (F := ((rf_fails a2 (A 65 (y_ix a1)) (-1 : Int32) A).1, (rf_fails a2 (A 65 (y_ix a1)) (-1 : Int32) A).2, js)) (m := 151) (as := [.inr (some (11, 0)), .inl a2, .inl (A 65 (y_ix a1)), .inl (-1 : Int32)]) (nx := 25) (L' := [some (.inr (some (11, 0))), some (.inl a1), some (.inl a2)]) (st' := [.inl (2 : Int32), .inl a1, .inl (1 : Int32), .inr (some (11, 0))]) (fun _ => rfl) (rh_fails (by omega) h3) ?_
    show ra _ _ _ _ [.inl (((A 23 0) + (1 : Int32)) - (1 : Int32)), .inl (2 : Int32), .inl a1, .inl (1 : Int32), .inr (some (11, 0))] (xm_u2 (xm_u2 (xm_u2 (xm_u2 (xm_u2 (xm_u2 (xm_u2 A 24 (y_ix (A 23 0)) a2) 25 (y_ix (A 23 0)) (A 0 0)) 26 (y_ix (A 23 0)) (A 65 (y_ix a1))) 27 (y_ix (A 23 0)) (-1 : Int32)) 28 (y_ix (A 23 0)) (-1 : Int32)) 29 (y_ix (A 23 0)) (-1 : Int32)) 23 0 ((A 23 0) + (1 : Int32))) js _
    refine ra.s (pc' := 26) (st' := [.inl (0 : Int32), .inl (((A 23 0) + (1 : Int32)) - (1 : Int32)), .inl (2 : Int32), .inl a1, .inl (1 : Int32), .inr (some (11, 0))]) (fun _ => rfl) ?_
    obtain ⟨h4, hg⟩ := hg
    refine ra.cV (m := 131) (as := [.inr (some (11, 0)), .inl (1 : Int32), .inl a1, .inl (2 : Int32), .inl (((A 23 0) + (1 : Int32)) - (1 : Int32)), .inl (0 : Int32)]) (nx := 29) (L' := [some (.inr (some (11, 0))), some (.inl a1), some (.inl a2)]) (st' := []) (fun _ => rfl) (rh_add h4) ?_
    show ra _ _ _ _ _ (xm_u2 (xm_u2 (xm_u2 (xm_u2 (xm_u2 (xm_u2 (xm_u2 A 24 (y_ix (A 23 0)) a2) 25 (y_ix (A 23 0)) (A 0 0)) 26 (y_ix (A 23 0)) (A 65 (y_ix a1))) 27 (y_ix (A 23 0)) (-1 : Int32)) 28 (y_ix (A 23 0)) (-1 : Int32)) 29 (y_ix (A 23 0)) (-1 : Int32)) 23 0 ((A 23 0) + (1 : Int32))) (((1 : Int32), a1, (2 : Int32), (((A 23 0) + (1 : Int32)) - (1 : Int32)), (0 : Int32)) :: js) _
    subst hk
    exact ra.ret (r := none) (fun _ => rfl) ⟨rfl, rfl, rfl⟩
  · skip
    subst hk
    exact ra.ret (r := none) (fun _ => rfl) ⟨rfl, rfl, rfl⟩
def rf_freeJoined_4 : Nat → Int32 → Int32 → Int32 → y_A → List y_J → y_A × List y_J
  | 0, _, _, _, A, js => (A, js)
  | n + 1, l1, l2, l3, A, js => (if (A 61 0) ≤ l3 then (A, js) else (if (A 74 (y_ix l3)) = l1 then (if (A 69 (y_ix l3)) = (0 : Int32) then (A, (((1 : Int32), l3, (A 69 (y_ix l1)), (A 70 (y_ix l1)), (if (A 71 (y_ix l1)) = (0 : Int32) then (0 : Int32) else (1 : Int32))) :: (((3 : Int32), l1, l3, (0 : Int32), (0 : Int32)) :: js))) else (rf_freeJoined_4 n l1 l2 (l3 + (1 : Int32)) A js)) else (rf_freeJoined_4 n l1 l2 (l3 + (1 : Int32)) A js)))
def rg_freeJoined_4 : Nat → Int32 → Int32 → Int32 → y_A → List y_J → Prop
  | 0, _, _, _, _, _ => False
  | n + 1, l1, l2, l3, A, js => (((A 61 0) ≤ l3 → True) ∧ (¬ (A 61 0) ≤ l3 → (y_in l3 4400) ∧ (((A 74 (y_ix l3)) = l1 → (((A 69 (y_ix l3)) = (0 : Int32) → (js.length < 20000) ∧ (rg_alike l3 l1 A (((3 : Int32), l1, l3, (0 : Int32), (0 : Int32)) :: js)) ∧ True) ∧ (¬ (A 69 (y_ix l3)) = (0 : Int32) → (rg_freeJoined_4 n l1 l2 (l3 + (1 : Int32)) A js)))) ∧ (¬ (A 74 (y_ix l3)) = l1 → (rg_freeJoined_4 n l1 l2 (l3 + (1 : Int32)) A js)))))
theorem rh_freeJoined_4 {d : Nat} (hd : 2 ≤ d) {F : y_A × List y_J} (n : Nat) : ∀ (l1 l2 l3 : Int32) (A : y_A) (js : List y_J), rg_freeJoined_4 n l1 l2 l3 A js → rf_freeJoined_4 n l1 l2 l3 A js = F → ra d 153 4 [some (.inr (some (11, 0))), some (.inl l1), some (.inl l2), some (.inl l3)] [] A js (y_V F) := by
  obtain ⟨d, rfl⟩ := Nat.exists_eq_add_of_le' hd
  induction n with
  | zero => intro l1 l2 l3 A js hg; exact hg.elim
  | succ n ih =>
    intro l1 l2 l3 A js hg hk
    unfold rg_freeJoined_4 at hg
    unfold rf_freeJoined_4 at hk
    refine ra.s (pc' := 5) (st' := [.inl l3]) (fun _ => rfl) ?_
    refine ra.s (pc' := 6) (st' := [.inr (some (11, 0)), .inl l3]) (fun _ => rfl) ?_
    refine ra.gi (x := 61) (nx := 9) (v := (A 61 0)) rfl rfl rfl ?_
    refine ra.b (c := (A 61 0) ≤ l3) (cd := .ge) (x := l3) (y := (A 61 0)) 56 12 (st' := []) (fun _ => rfl) (y_cge _ _) hk hg (fun h1 hg hk => ?_) (fun h1 hg hk => ?_)
    · skip
      subst hk
      exact ra.ret (r := none) (fun _ => rfl) ⟨rfl, rfl, rfl⟩
    · skip
      refine ra.s (pc' := 13) (st' := [.inr (some (11, 0))]) (fun _ => rfl) ?_
      refine ra.ga (x := 74) (nx := 16) (c := 13) (i := 61) rfl rfl ?_
      refine ra.s (pc' := 17) (st' := [.inl l3, .inr (some (13, 61))]) (fun _ => rfl) ?_
      obtain ⟨h2, hg⟩ := hg
      refine ra.ld (nx := 18) (v := (A 74 (y_ix l3))) 74 4400 rfl rfl h2 rfl ?_
      refine ra.s (pc' := 19) (st' := [.inl l1, .inl (A 74 (y_ix l3))]) (fun _ => rfl) ?_
      refine ra.bn (c := (A 74 (y_ix l3)) = l1) (cd := .ne) (x := (A 74 (y_ix l3))) (y := l1) 50 22 (st' := []) (fun _ => rfl) (y_cne _ _) hk hg (fun h3 hg hk => ?_) (fun h3 hg hk => ?_)
      · skip
        refine ra.s (pc' := 23) (st' := [.inr (some (11, 0))]) (fun _ => rfl) ?_
        refine ra.ga (x := 69) (nx := 26) (c := 13) (i := 57) rfl rfl ?_
        refine ra.s (pc' := 27) (st' := [.inl l3, .inr (some (13, 57))]) (fun _ => rfl) ?_
        refine ra.ld (nx := 28) (v := (A 69 (y_ix l3))) 69 4400 rfl rfl h2 rfl ?_
        refine ra.b (c := (A 69 (y_ix l3)) = (0 : Int32)) (cd := .eq) (x := (A 69 (y_ix l3))) (y := (0 : Int32)) 34 31 (st' := []) (fun _ => rfl) (y_ceq _ _) hk hg (fun h4 hg hk => ?_) (fun h4 hg hk => ?_)
        · skip
          refine ra.s (pc' := 35) (st' := [.inr (some (11, 0))]) (fun _ => rfl) ?_
          refine ra.s (pc' := 36) (st' := [.inl (3 : Int32), .inr (some (11, 0))]) (fun _ => rfl) ?_
          refine ra.s (pc' := 37) (st' := [.inl l1, .inl (3 : Int32), .inr (some (11, 0))]) (fun _ => rfl) ?_
          refine ra.s (pc' := 38) (st' := [.inl l3, .inl l1, .inl (3 : Int32), .inr (some (11, 0))]) (fun _ => rfl) ?_
          refine ra.s (pc' := 39) (st' := [.inl (0 : Int32), .inl l3, .inl l1, .inl (3 : Int32), .inr (some (11, 0))]) (fun _ => rfl) ?_
          refine ra.s (pc' := 40) (st' := [.inl (0 : Int32), .inl (0 : Int32), .inl l3, .inl l1, .inl (3 : Int32), .inr (some (11, 0))]) (fun _ => rfl) ?_
          obtain ⟨h5, hg⟩ := hg
          refine ra.cV (m := 131) (as := [.inr (some (11, 0)), .inl (3 : Int32), .inl l1, .inl l3, .inl (0 : Int32), .inl (0 : Int32)]) (nx := 43) (L' := [some (.inr (some (11, 0))), some (.inl l1), some (.inl l2), some (.inl l3)]) (st' := []) (fun _ => rfl) (rh_add h5) ?_
          show ra _ _ _ _ _ A (((3 : Int32), l1, l3, (0 : Int32), (0 : Int32)) :: js) _
          refine ra.s (pc' := 44) (st' := [.inr (some (11, 0))]) (fun _ => rfl) ?_
          refine ra.s (pc' := 45) (st' := [.inl l3, .inr (some (11, 0))]) (fun _ => rfl) ?_
          refine ra.s (pc' := 46) (st' := [.inl l1, .inl l3, .inr (some (11, 0))]) (fun _ => rfl) ?_
          obtain ⟨h6, hg⟩ := hg
          refine ra.cV (F := (A, (((1 : Int32), l3, (A 69 (y_ix l1)), (A 70 (y_ix l1)), (if (A 71 (y_ix l1)) = (0 : Int32) then (0 : Int32) else (1 : Int32))) :: (((3 : Int32), l1, l3, (0 : Int32), (0 : Int32)) :: js)))) (m := 145) (as := [.inr (some (11, 0)), .inl l3, .inl l1]) (nx := 49) (L' := [some (.inr (some (11, 0))), some (.inl l1), some (.inl l2), some (.inl l3)]) (st' := []) (fun _ => rfl) (rh_alike2 (by omega) h6) ?_
          show ra _ _ _ _ [] A (((1 : Int32), l3, (A 69 (y_ix l1)), (A 70 (y_ix l1)), (if (A 71 (y_ix l1)) = (0 : Int32) then (0 : Int32) else (1 : Int32))) :: (((3 : Int32), l1, l3, (0 : Int32), (0 : Int32)) :: js)) _
          subst hk
          exact ra.ret (r := none) (fun _ => rfl) ⟨rfl, rfl, rfl⟩
        · skip
          refine ra.s (pc' := 50) (st' := []) (fun _ => rfl) ?_
          refine ra.s (pc' := 53) (L' := [some (.inr (some (11, 0))), some (.inl l1), some (.inl l2), some (.inl (l3 + (1 : Int32)))]) (st' := []) (fun _ => rfl) ?_
          refine ra.s (pc' := 4) (st' := []) (fun _ => rfl) ?_
          exact ih l1 l2 (l3 + (1 : Int32)) A js hg hk
      · skip
        refine ra.s (pc' := 53) (L' := [some (.inr (some (11, 0))), some (.inl l1), some (.inl l2), some (.inl (l3 + (1 : Int32)))]) (st' := []) (fun _ => rfl) ?_
        refine ra.s (pc' := 4) (st' := []) (fun _ => rfl) ?_
        exact ih l1 l2 (l3 + (1 : Int32)) A js hg hk
/-- freeJoined -/
def rf_freeJoined (a1 a2 : Int32) (A : y_A) (js : List y_J) : y_A × List y_J := (rf_freeJoined_4 20000 a1 a2 (a2 + (1 : Int32)) A js)
def rg_freeJoined (a1 a2 : Int32) (A : y_A) (js : List y_J) : Prop := (rg_freeJoined_4 20000 a1 a2 (a2 + (1 : Int32)) A js)
theorem rh_freeJoined {d : Nat} (hd : 2 ≤ d) {a1 a2 : Int32} {A : y_A} {js : List y_J} (hg : rg_freeJoined a1 a2 A js) : rc d 153 [.inr (some (11, 0)), .inl a1, .inl a2] A js (y_V (rf_freeJoined a1 a2 A js)) := by
  obtain ⟨d, rfl⟩ := Nat.exists_eq_add_of_le' hd
  obtain ⟨F, hk⟩ : ∃ F, rf_freeJoined a1 a2 A js = F := ⟨_, rfl⟩
  rw [hk]
  show ra _ _ _ [some (.inr (some (11, 0))), some (.inl a1), some (.inl a2), none] _ _ _ _
  unfold rg_freeJoined at hg
  unfold rf_freeJoined at hk
  refine ra.s (pc' := 1) (st' := [.inl a2]) (fun _ => rfl) ?_
  refine ra.s (pc' := 2) (st' := [.inl (1 : Int32), .inl a2]) (fun _ => rfl) ?_
  refine ra.s (pc' := 3) (st' := [.inl (a2 + (1 : Int32))]) (fun _ => rfl) ?_
  refine ra.s (pc' := 4) (L' := [some (.inr (some (11, 0))), some (.inl a1), some (.inl a2), some (.inl (a2 + (1 : Int32)))]) (st' := []) (fun _ => rfl) ?_
  exact rh_freeJoined_4 (by omega) 20000 a1 a2 (a2 + (1 : Int32)) A js hg hk
def rf_takenBack_104 : Nat → Int32 → Int32 → Int32 → Int32 → Int32 → y_A → Int32
  | 0, _, _, _, _, _, _ => 0
  | n + 1, l1, l2, l3, l4, l5, A => (if (A 43 (y_ix (((10 : Int32) * l4) + l5))) = l3 then l5 else (rf_takenBack_104 n l1 l2 l3 l4 (l5 + (1 : Int32)) A))
def rg_takenBack_104 : Nat → Int32 → Int32 → Int32 → Int32 → Int32 → y_A → Prop
  | 0, _, _, _, _, _, _ => False
  | n + 1, l1, l2, l3, l4, l5, A => (y_in (((10 : Int32) * l4) + l5) 240) ∧ (((A 43 (y_ix (((10 : Int32) * l4) + l5))) = l3 → True) ∧ (¬ (A 43 (y_ix (((10 : Int32) * l4) + l5))) = l3 → (rg_takenBack_104 n l1 l2 l3 l4 (l5 + (1 : Int32)) A)))
theorem rh_takenBack_104 {d : Nat} (hd : 1 ≤ d) {Q : Option xm_V → y_A → List y_J → Prop} {F : Int32} (n : Nat) : ∀ (l1 l2 l3 l4 l5 : Int32) (e6 : Option xm_V) (A : y_A) (js : List y_J), rg_takenBack_104 n l1 l2 l3 l4 l5 A → rf_takenBack_104 n l1 l2 l3 l4 l5 A = F → (∀ (z6 : Option xm_V), ra d 154 127 [some (.inr (some (11, 0))), some (.inl l1), some (.inl l2), some (.inl l3), some (.inl l4), some (.inl F), z6] [] A js Q) → ra d 154 104 [some (.inr (some (11, 0))), some (.inl l1), some (.inl l2), some (.inl l3), some (.inl l4), some (.inl l5), e6] [] A js Q := by
  obtain ⟨d, rfl⟩ := Nat.exists_eq_add_of_le' hd
  induction n with
  | zero => intro l1 l2 l3 l4 l5 e6 A js hg; exact hg.elim
  | succ n ih =>
    intro l1 l2 l3 l4 l5 e6 A js hg hk hE
    unfold rg_takenBack_104 at hg
    unfold rf_takenBack_104 at hk
    refine ra.s (pc' := 105) (st' := [.inr (some (11, 0))]) (fun _ => rfl) ?_
    refine ra.ga (x := 43) (nx := 108) (c := 13) (i := 36) rfl rfl ?_
    refine ra.s (pc' := 110) (st' := [.inl (10 : Int32), .inr (some (13, 36))]) (fun _ => rfl) ?_
    refine ra.s (pc' := 112) (st' := [.inl l4, .inl (10 : Int32), .inr (some (13, 36))]) (fun _ => rfl) ?_
    refine ra.s (pc' := 113) (st' := [.inl ((10 : Int32) * l4), .inr (some (13, 36))]) (fun _ => rfl) ?_
    refine ra.s (pc' := 115) (st' := [.inl l5, .inl ((10 : Int32) * l4), .inr (some (13, 36))]) (fun _ => rfl) ?_
    refine ra.s (pc' := 116) (st' := [.inl (((10 : Int32) * l4) + l5), .inr (some (13, 36))]) (fun _ => rfl) ?_
    obtain ⟨h1, hg⟩ := hg
    refine ra.ld (nx := 117) (v := (A 43 (y_ix (((10 : Int32) * l4) + l5)))) 43 240 rfl rfl h1 rfl ?_
    refine ra.s (pc' := 118) (st' := [.inl l3, .inl (A 43 (y_ix (((10 : Int32) * l4) + l5)))]) (fun _ => rfl) ?_
    refine ra.b (c := (A 43 (y_ix (((10 : Int32) * l4) + l5))) = l3) (cd := .eq) (x := (A 43 (y_ix (((10 : Int32) * l4) + l5)))) (y := l3) 127 121 (st' := []) (fun _ => rfl) (y_ceq _ _) hk hg (fun h2 hg hk => ?_) (fun h2 hg hk => ?_)
    · skip
      subst hk
      exact hE e6
    · skip
      refine ra.s (pc' := 124) (L' := [some (.inr (some (11, 0))), some (.inl l1), some (.inl l2), some (.inl l3), some (.inl l4), some (.inl (l5 + (1 : Int32))), e6]) (st' := []) (fun _ => rfl) ?_
      refine ra.s (pc' := 104) (st' := []) (fun _ => rfl) ?_
      exact ih l1 l2 l3 l4 (l5 + (1 : Int32)) e6 A js hg hk hE
def rf_takenBack_131 : Nat → Int32 → Int32 → Int32 → Int32 → Int32 → Int32 → y_A → Int32 × y_A
  | 0, _, _, _, _, _, _, A => (0, A)
  | n + 1, l1, l2, l3, l4, l5, l6, A => (if (A 40 (y_ix l4)) ≤ (l6 + (1 : Int32)) then (l6, A) else (rf_takenBack_131 n l1 l2 l3 l4 l5 (l6 + (1 : Int32)) (xm_u2 A 43 (y_ix (((10 : Int32) * l4) + l6)) (A 43 (y_ix ((((10 : Int32) * l4) + l6) + (1 : Int32)))))))
def rg_takenBack_131 : Nat → Int32 → Int32 → Int32 → Int32 → Int32 → Int32 → y_A → Prop
  | 0, _, _, _, _, _, _, _ => False
  | n + 1, l1, l2, l3, l4, l5, l6, A => (y_in l4 24) ∧ (((A 40 (y_ix l4)) ≤ (l6 + (1 : Int32)) → True) ∧ (¬ (A 40 (y_ix l4)) ≤ (l6 + (1 : Int32)) → (y_in ((((10 : Int32) * l4) + l6) + (1 : Int32)) 240) ∧ (y_in (((10 : Int32) * l4) + l6) 240) ∧ (rg_takenBack_131 n l1 l2 l3 l4 l5 (l6 + (1 : Int32)) (xm_u2 A 43 (y_ix (((10 : Int32) * l4) + l6)) (A 43 (y_ix ((((10 : Int32) * l4) + l6) + (1 : Int32))))))))
theorem rh_takenBack_131 {d : Nat} (hd : 1 ≤ d) {Q : Option xm_V → y_A → List y_J → Prop} {F : Int32 × y_A} (n : Nat) : ∀ (l1 l2 l3 l4 l5 l6 : Int32) (A : y_A) (js : List y_J), rg_takenBack_131 n l1 l2 l3 l4 l5 l6 A → rf_takenBack_131 n l1 l2 l3 l4 l5 l6 A = F → (ra d 154 179 [some (.inr (some (11, 0))), some (.inl l1), some (.inl l2), some (.inl l3), some (.inl l4), some (.inl l5), some (.inl F.1)] [] F.2 js Q) → ra d 154 131 [some (.inr (some (11, 0))), some (.inl l1), some (.inl l2), some (.inl l3), some (.inl l4), some (.inl l5), some (.inl l6)] [] A js Q := by
  obtain ⟨d, rfl⟩ := Nat.exists_eq_add_of_le' hd
  induction n with
  | zero => intro l1 l2 l3 l4 l5 l6 A js hg; exact hg.elim
  | succ n ih =>
    intro l1 l2 l3 l4 l5 l6 A js hg hk hE
    unfold rg_takenBack_131 at hg
    unfold rf_takenBack_131 at hk
    refine ra.s (pc' := 133) (st' := [.inl l6]) (fun _ => rfl) ?_
    refine ra.s (pc' := 134) (st' := [.inl (1 : Int32), .inl l6]) (fun _ => rfl) ?_
    refine ra.s (pc' := 135) (st' := [.inl (l6 + (1 : Int32))]) (fun _ => rfl) ?_
    refine ra.s (pc' := 136) (st' := [.inr (some (11, 0)), .inl (l6 + (1 : Int32))]) (fun _ => rfl) ?_
    refine ra.ga (x := 40) (nx := 139) (c := 13) (i := 33) rfl rfl ?_
    refine ra.s (pc' := 141) (st' := [.inl l4, .inr (some (13, 33)), .inl (l6 + (1 : Int32))]) (fun _ => rfl) ?_
    obtain ⟨h1, hg⟩ := hg
    refine ra.ld (nx := 142) (v := (A 40 (y_ix l4))) 40 24 rfl rfl h1 rfl ?_
    refine ra.b (c := (A 40 (y_ix l4)) ≤ (l6 + (1 : Int32))) (cd := .ge) (x := (l6 + (1 : Int32))) (y := (A 40 (y_ix l4))) 179 145 (st' := []) (fun _ => rfl) (y_cge _ _) hk hg (fun h2 hg hk => ?_) (fun h2 hg hk => ?_)
    · skip
      subst hk
      exact hE
    · skip
      refine ra.s (pc' := 146) (st' := [.inr (some (11, 0))]) (fun _ => rfl) ?_
      refine ra.ga (x := 43) (nx := 149) (c := 13) (i := 36) rfl rfl ?_
      refine ra.s (pc' := 151) (st' := [.inl (10 : Int32), .inr (some (13, 36))]) (fun _ => rfl) ?_
      refine ra.s (pc' := 153) (st' := [.inl l4, .inl (10 : Int32), .inr (some (13, 36))]) (fun _ => rfl) ?_
      refine ra.s (pc' := 154) (st' := [.inl ((10 : Int32) * l4), .inr (some (13, 36))]) (fun _ => rfl) ?_
      refine ra.s (pc' := 156) (st' := [.inl l6, .inl ((10 : Int32) * l4), .inr (some (13, 36))]) (fun _ => rfl) ?_
      refine ra.s (pc' := 157) (st' := [.inl (((10 : Int32) * l4) + l6), .inr (some (13, 36))]) (fun _ => rfl) ?_
      refine ra.s (pc' := 158) (st' := [.inr (some (11, 0)), .inl (((10 : Int32) * l4) + l6), .inr (some (13, 36))]) (fun _ => rfl) ?_
      refine ra.ga (x := 43) (nx := 161) (c := 13) (i := 36) rfl rfl ?_
      refine ra.s (pc' := 163) (st' := [.inl (10 : Int32), .inr (some (13, 36)), .inl (((10 : Int32) * l4) + l6), .inr (some (13, 36))]) (fun _ => rfl) ?_
      refine ra.s (pc' := 165) (st' := [.inl l4, .inl (10 : Int32), .inr (some (13, 36)), .inl (((10 : Int32) * l4) + l6), .inr (some (13, 36))]) (fun _ => rfl) ?_
      refine ra.s (pc' := 166) (st' := [.inl ((10 : Int32) * l4), .inr (some (13, 36)), .inl (((10 : Int32) * l4) + l6), .inr (some (13, 36))]) (fun _ => rfl) ?_
      refine ra.s (pc' := 168) (st' := [.inl l6, .inl ((10 : Int32) * l4), .inr (some (13, 36)), .inl (((10 : Int32) * l4) + l6), .inr (some (13, 36))]) (fun _ => rfl) ?_
      refine ra.s (pc' := 169) (st' := [.inl (((10 : Int32) * l4) + l6), .inr (some (13, 36)), .inl (((10 : Int32) * l4) + l6), .inr (some (13, 36))]) (fun _ => rfl) ?_
      refine ra.s (pc' := 170) (st' := [.inl (1 : Int32), .inl (((10 : Int32) * l4) + l6), .inr (some (13, 36)), .inl (((10 : Int32) * l4) + l6), .inr (some (13, 36))]) (fun _ => rfl) ?_
      refine ra.s (pc' := 171) (st' := [.inl ((((10 : Int32) * l4) + l6) + (1 : Int32)), .inr (some (13, 36)), .inl (((10 : Int32) * l4) + l6), .inr (some (13, 36))]) (fun _ => rfl) ?_
      obtain ⟨h3, hg⟩ := hg
      refine ra.ld (nx := 172) (v := (A 43 (y_ix ((((10 : Int32) * l4) + l6) + (1 : Int32))))) 43 240 rfl rfl h3 rfl ?_
      obtain ⟨h4, hg⟩ := hg
      refine ra.si (nx := 173) 43 240 rfl rfl h4 ?_
      refine ra.s (pc' := 176) (L' := [some (.inr (some (11, 0))), some (.inl l1), some (.inl l2), some (.inl l3), some (.inl l4), some (.inl l5), some (.inl (l6 + (1 : Int32)))]) (st' := []) (fun _ => rfl) ?_
      refine ra.s (pc' := 131) (st' := []) (fun _ => rfl) ?_
      exact ih l1 l2 l3 l4 l5 (l6 + (1 : Int32)) (xm_u2 A 43 (y_ix (((10 : Int32) * l4) + l6)) (A 43 (y_ix ((((10 : Int32) * l4) + l6) + (1 : Int32))))) js hg hk hE
/-- takenBack -/
def rf_takenBack (a1 a2 : Int32) (A : y_A) (js : List y_J) : y_A × List y_J := (if a2 ≤ (a1 + (1 : Int32)) then (if (0 : Int32) ≤ (A 65 (y_ix (A 81 (y_ix a1)))) then (if (A 79 (y_ix (A 81 (y_ix a1)))) = (0 : Int32) then (if (A 77 (y_ix (A 81 (y_ix a1)))) = (0 : Int32) then (if (A 75 (y_ix (A 81 (y_ix a1)))) = (0 : Int32) then (if (A 78 (y_ix (A 81 (y_ix a1)))) = (0 : Int32) then (A, js) else (A, (((5 : Int32), (A 81 (y_ix a1)), (-1 : Int32), (0 : Int32), (0 : Int32)) :: js))) else (if ((rf_takenBack_131 20000 a1 a2 (A 81 (y_ix a1)) (A 65 (y_ix (A 81 (y_ix a1)))) (rf_takenBack_104 20000 a1 a2 (A 81 (y_ix a1)) (A 65 (y_ix (A 81 (y_ix a1)))) (0 : Int32) (xm_u2 A 75 (y_ix (A 81 (y_ix a1))) (0 : Int32))) (rf_takenBack_104 20000 a1 a2 (A 81 (y_ix a1)) (A 65 (y_ix (A 81 (y_ix a1)))) (0 : Int32) (xm_u2 A 75 (y_ix (A 81 (y_ix a1))) (0 : Int32))) (xm_u2 A 75 (y_ix (A 81 (y_ix a1))) (0 : Int32))).2 78 (y_ix (A 81 (y_ix a1)))) = (0 : Int32) then ((xm_u2 (rf_takenBack_131 20000 a1 a2 (A 81 (y_ix a1)) (A 65 (y_ix (A 81 (y_ix a1)))) (rf_takenBack_104 20000 a1 a2 (A 81 (y_ix a1)) (A 65 (y_ix (A 81 (y_ix a1)))) (0 : Int32) (xm_u2 A 75 (y_ix (A 81 (y_ix a1))) (0 : Int32))) (rf_takenBack_104 20000 a1 a2 (A 81 (y_ix a1)) (A 65 (y_ix (A 81 (y_ix a1)))) (0 : Int32) (xm_u2 A 75 (y_ix (A 81 (y_ix a1))) (0 : Int32))) (xm_u2 A 75 (y_ix (A 81 (y_ix a1))) (0 : Int32))).2 40 (y_ix (A 65 (y_ix (A 81 (y_ix a1))))) (((rf_takenBack_131 20000 a1 a2 (A 81 (y_ix a1)) (A 65 (y_ix (A 81 (y_ix a1)))) (rf_takenBack_104 20000 a1 a2 (A 81 (y_ix a1)) (A 65 (y_ix (A 81 (y_ix a1)))) (0 : Int32) (xm_u2 A 75 (y_ix (A 81 (y_ix a1))) (0 : Int32))) (rf_takenBack_104 20000 a1 a2 (A 81 (y_ix a1)) (A 65 (y_ix (A 81 (y_ix a1)))) (0 : Int32) (xm_u2 A 75 (y_ix (A 81 (y_ix a1))) (0 : Int32))) (xm_u2 A 75 (y_ix (A 81 (y_ix a1))) (0 : Int32))).2 40 (y_ix (A 65 (y_ix (A 81 (y_ix a1)))))) - (1 : Int32))), js) else ((xm_u2 (rf_takenBack_131 20000 a1 a2 (A 81 (y_ix a1)) (A 65 (y_ix (A 81 (y_ix a1)))) (rf_takenBack_104 20000 a1 a2 (A 81 (y_ix a1)) (A 65 (y_ix (A 81 (y_ix a1)))) (0 : Int32) (xm_u2 A 75 (y_ix (A 81 (y_ix a1))) (0 : Int32))) (rf_takenBack_104 20000 a1 a2 (A 81 (y_ix a1)) (A 65 (y_ix (A 81 (y_ix a1)))) (0 : Int32) (xm_u2 A 75 (y_ix (A 81 (y_ix a1))) (0 : Int32))) (xm_u2 A 75 (y_ix (A 81 (y_ix a1))) (0 : Int32))).2 40 (y_ix (A 65 (y_ix (A 81 (y_ix a1))))) (((rf_takenBack_131 20000 a1 a2 (A 81 (y_ix a1)) (A 65 (y_ix (A 81 (y_ix a1)))) (rf_takenBack_104 20000 a1 a2 (A 81 (y_ix a1)) (A 65 (y_ix (A 81 (y_ix a1)))) (0 : Int32) (xm_u2 A 75 (y_ix (A 81 (y_ix a1))) (0 : Int32))) (rf_takenBack_104 20000 a1 a2 (A 81 (y_ix a1)) (A 65 (y_ix (A 81 (y_ix a1)))) (0 : Int32) (xm_u2 A 75 (y_ix (A 81 (y_ix a1))) (0 : Int32))) (xm_u2 A 75 (y_ix (A 81 (y_ix a1))) (0 : Int32))).2 40 (y_ix (A 65 (y_ix (A 81 (y_ix a1)))))) - (1 : Int32))), (((5 : Int32), (A 81 (y_ix a1)), (-1 : Int32), (0 : Int32), (0 : Int32)) :: js)))) else (if (A 75 (y_ix (A 81 (y_ix a1)))) = (0 : Int32) then (if (A 78 (y_ix (A 81 (y_ix a1)))) = (0 : Int32) then ((xm_u2 (xm_u2 A 77 (y_ix (A 81 (y_ix a1))) (0 : Int32)) 39 (y_ix (A 65 (y_ix (A 81 (y_ix a1))))) ((A 39 (y_ix (A 65 (y_ix (A 81 (y_ix a1)))))) - (1 : Int32))), js) else ((xm_u2 (xm_u2 A 77 (y_ix (A 81 (y_ix a1))) (0 : Int32)) 39 (y_ix (A 65 (y_ix (A 81 (y_ix a1))))) ((A 39 (y_ix (A 65 (y_ix (A 81 (y_ix a1)))))) - (1 : Int32))), (((5 : Int32), (A 81 (y_ix a1)), (-1 : Int32), (0 : Int32), (0 : Int32)) :: js))) else (if ((rf_takenBack_131 20000 a1 a2 (A 81 (y_ix a1)) (A 65 (y_ix (A 81 (y_ix a1)))) (rf_takenBack_104 20000 a1 a2 (A 81 (y_ix a1)) (A 65 (y_ix (A 81 (y_ix a1)))) (0 : Int32) (xm_u2 (xm_u2 (xm_u2 A 77 (y_ix (A 81 (y_ix a1))) (0 : Int32)) 39 (y_ix (A 65 (y_ix (A 81 (y_ix a1))))) ((A 39 (y_ix (A 65 (y_ix (A 81 (y_ix a1)))))) - (1 : Int32))) 75 (y_ix (A 81 (y_ix a1))) (0 : Int32))) (rf_takenBack_104 20000 a1 a2 (A 81 (y_ix a1)) (A 65 (y_ix (A 81 (y_ix a1)))) (0 : Int32) (xm_u2 (xm_u2 (xm_u2 A 77 (y_ix (A 81 (y_ix a1))) (0 : Int32)) 39 (y_ix (A 65 (y_ix (A 81 (y_ix a1))))) ((A 39 (y_ix (A 65 (y_ix (A 81 (y_ix a1)))))) - (1 : Int32))) 75 (y_ix (A 81 (y_ix a1))) (0 : Int32))) (xm_u2 (xm_u2 (xm_u2 A 77 (y_ix (A 81 (y_ix a1))) (0 : Int32)) 39 (y_ix (A 65 (y_ix (A 81 (y_ix a1))))) ((A 39 (y_ix (A 65 (y_ix (A 81 (y_ix a1)))))) - (1 : Int32))) 75 (y_ix (A 81 (y_ix a1))) (0 : Int32))).2 78 (y_ix (A 81 (y_ix a1)))) = (0 : Int32) then ((xm_u2 (rf_takenBack_131 20000 a1 a2 (A 81 (y_ix a1)) (A 65 (y_ix (A 81 (y_ix a1)))) (rf_takenBack_104 20000 a1 a2 (A 81 (y_ix a1)) (A 65 (y_ix (A 81 (y_ix a1)))) (0 : Int32) (xm_u2 (xm_u2 (xm_u2 A 77 (y_ix (A 81 (y_ix a1))) (0 : Int32)) 39 (y_ix (A 65 (y_ix (A 81 (y_ix a1))))) ((A 39 (y_ix (A 65 (y_ix (A 81 (y_ix a1)))))) - (1 : Int32))) 75 (y_ix (A 81 (y_ix a1))) (0 : Int32))) (rf_takenBack_104 20000 a1 a2 (A 81 (y_ix a1)) (A 65 (y_ix (A 81 (y_ix a1)))) (0 : Int32) (xm_u2 (xm_u2 (xm_u2 A 77 (y_ix (A 81 (y_ix a1))) (0 : Int32)) 39 (y_ix (A 65 (y_ix (A 81 (y_ix a1))))) ((A 39 (y_ix (A 65 (y_ix (A 81 (y_ix a1)))))) - (1 : Int32))) 75 (y_ix (A 81 (y_ix a1))) (0 : Int32))) (xm_u2 (xm_u2 (xm_u2 A 77 (y_ix (A 81 (y_ix a1))) (0 : Int32)) 39 (y_ix (A 65 (y_ix (A 81 (y_ix a1))))) ((A 39 (y_ix (A 65 (y_ix (A 81 (y_ix a1)))))) - (1 : Int32))) 75 (y_ix (A 81 (y_ix a1))) (0 : Int32))).2 40 (y_ix (A 65 (y_ix (A 81 (y_ix a1))))) (((rf_takenBack_131 20000 a1 a2 (A 81 (y_ix a1)) (A 65 (y_ix (A 81 (y_ix a1)))) (rf_takenBack_104 20000 a1 a2 (A 81 (y_ix a1)) (A 65 (y_ix (A 81 (y_ix a1)))) (0 : Int32) (xm_u2 (xm_u2 (xm_u2 A 77 (y_ix (A 81 (y_ix a1))) (0 : Int32)) 39 (y_ix (A 65 (y_ix (A 81 (y_ix a1))))) ((A 39 (y_ix (A 65 (y_ix (A 81 (y_ix a1)))))) - (1 : Int32))) 75 (y_ix (A 81 (y_ix a1))) (0 : Int32))) (rf_takenBack_104 20000 a1 a2 (A 81 (y_ix a1)) (A 65 (y_ix (A 81 (y_ix a1)))) (0 : Int32) (xm_u2 (xm_u2 (xm_u2 A 77 (y_ix (A 81 (y_ix a1))) (0 : Int32)) 39 (y_ix (A 65 (y_ix (A 81 (y_ix a1))))) ((A 39 (y_ix (A 65 (y_ix (A 81 (y_ix a1)))))) - (1 : Int32))) 75 (y_ix (A 81 (y_ix a1))) (0 : Int32))) (xm_u2 (xm_u2 (xm_u2 A 77 (y_ix (A 81 (y_ix a1))) (0 : Int32)) 39 (y_ix (A 65 (y_ix (A 81 (y_ix a1))))) ((A 39 (y_ix (A 65 (y_ix (A 81 (y_ix a1)))))) - (1 : Int32))) 75 (y_ix (A 81 (y_ix a1))) (0 : Int32))).2 40 (y_ix (A 65 (y_ix (A 81 (y_ix a1)))))) - (1 : Int32))), js) else ((xm_u2 (rf_takenBack_131 20000 a1 a2 (A 81 (y_ix a1)) (A 65 (y_ix (A 81 (y_ix a1)))) (rf_takenBack_104 20000 a1 a2 (A 81 (y_ix a1)) (A 65 (y_ix (A 81 (y_ix a1)))) (0 : Int32) (xm_u2 (xm_u2 (xm_u2 A 77 (y_ix (A 81 (y_ix a1))) (0 : Int32)) 39 (y_ix (A 65 (y_ix (A 81 (y_ix a1))))) ((A 39 (y_ix (A 65 (y_ix (A 81 (y_ix a1)))))) - (1 : Int32))) 75 (y_ix (A 81 (y_ix a1))) (0 : Int32))) (rf_takenBack_104 20000 a1 a2 (A 81 (y_ix a1)) (A 65 (y_ix (A 81 (y_ix a1)))) (0 : Int32) (xm_u2 (xm_u2 (xm_u2 A 77 (y_ix (A 81 (y_ix a1))) (0 : Int32)) 39 (y_ix (A 65 (y_ix (A 81 (y_ix a1))))) ((A 39 (y_ix (A 65 (y_ix (A 81 (y_ix a1)))))) - (1 : Int32))) 75 (y_ix (A 81 (y_ix a1))) (0 : Int32))) (xm_u2 (xm_u2 (xm_u2 A 77 (y_ix (A 81 (y_ix a1))) (0 : Int32)) 39 (y_ix (A 65 (y_ix (A 81 (y_ix a1))))) ((A 39 (y_ix (A 65 (y_ix (A 81 (y_ix a1)))))) - (1 : Int32))) 75 (y_ix (A 81 (y_ix a1))) (0 : Int32))).2 40 (y_ix (A 65 (y_ix (A 81 (y_ix a1))))) (((rf_takenBack_131 20000 a1 a2 (A 81 (y_ix a1)) (A 65 (y_ix (A 81 (y_ix a1)))) (rf_takenBack_104 20000 a1 a2 (A 81 (y_ix a1)) (A 65 (y_ix (A 81 (y_ix a1)))) (0 : Int32) (xm_u2 (xm_u2 (xm_u2 A 77 (y_ix (A 81 (y_ix a1))) (0 : Int32)) 39 (y_ix (A 65 (y_ix (A 81 (y_ix a1))))) ((A 39 (y_ix (A 65 (y_ix (A 81 (y_ix a1)))))) - (1 : Int32))) 75 (y_ix (A 81 (y_ix a1))) (0 : Int32))) (rf_takenBack_104 20000 a1 a2 (A 81 (y_ix a1)) (A 65 (y_ix (A 81 (y_ix a1)))) (0 : Int32) (xm_u2 (xm_u2 (xm_u2 A 77 (y_ix (A 81 (y_ix a1))) (0 : Int32)) 39 (y_ix (A 65 (y_ix (A 81 (y_ix a1))))) ((A 39 (y_ix (A 65 (y_ix (A 81 (y_ix a1)))))) - (1 : Int32))) 75 (y_ix (A 81 (y_ix a1))) (0 : Int32))) (xm_u2 (xm_u2 (xm_u2 A 77 (y_ix (A 81 (y_ix a1))) (0 : Int32)) 39 (y_ix (A 65 (y_ix (A 81 (y_ix a1))))) ((A 39 (y_ix (A 65 (y_ix (A 81 (y_ix a1)))))) - (1 : Int32))) 75 (y_ix (A 81 (y_ix a1))) (0 : Int32))).2 40 (y_ix (A 65 (y_ix (A 81 (y_ix a1)))))) - (1 : Int32))), (((5 : Int32), (A 81 (y_ix a1)), (-1 : Int32), (0 : Int32), (0 : Int32)) :: js))))) else (if (A 77 (y_ix (A 81 (y_ix a1)))) = (0 : Int32) then (if (A 75 (y_ix (A 81 (y_ix a1)))) = (0 : Int32) then (if (A 78 (y_ix (A 81 (y_ix a1)))) = (0 : Int32) then ((xm_u2 (xm_u2 A 36 (y_ix (A 65 (y_ix (A 81 (y_ix a1))))) (1 : Int32)) 38 (y_ix (A 65 (y_ix (A 81 (y_ix a1))))) (A 0 0)), js) else ((xm_u2 (xm_u2 A 36 (y_ix (A 65 (y_ix (A 81 (y_ix a1))))) (1 : Int32)) 38 (y_ix (A 65 (y_ix (A 81 (y_ix a1))))) (A 0 0)), (((5 : Int32), (A 81 (y_ix a1)), (-1 : Int32), (0 : Int32), (0 : Int32)) :: js))) else (if ((rf_takenBack_131 20000 a1 a2 (A 81 (y_ix a1)) (A 65 (y_ix (A 81 (y_ix a1)))) (rf_takenBack_104 20000 a1 a2 (A 81 (y_ix a1)) (A 65 (y_ix (A 81 (y_ix a1)))) (0 : Int32) (xm_u2 (xm_u2 (xm_u2 A 36 (y_ix (A 65 (y_ix (A 81 (y_ix a1))))) (1 : Int32)) 38 (y_ix (A 65 (y_ix (A 81 (y_ix a1))))) (A 0 0)) 75 (y_ix (A 81 (y_ix a1))) (0 : Int32))) (rf_takenBack_104 20000 a1 a2 (A 81 (y_ix a1)) (A 65 (y_ix (A 81 (y_ix a1)))) (0 : Int32) (xm_u2 (xm_u2 (xm_u2 A 36 (y_ix (A 65 (y_ix (A 81 (y_ix a1))))) (1 : Int32)) 38 (y_ix (A 65 (y_ix (A 81 (y_ix a1))))) (A 0 0)) 75 (y_ix (A 81 (y_ix a1))) (0 : Int32))) (xm_u2 (xm_u2 (xm_u2 A 36 (y_ix (A 65 (y_ix (A 81 (y_ix a1))))) (1 : Int32)) 38 (y_ix (A 65 (y_ix (A 81 (y_ix a1))))) (A 0 0)) 75 (y_ix (A 81 (y_ix a1))) (0 : Int32))).2 78 (y_ix (A 81 (y_ix a1)))) = (0 : Int32) then ((xm_u2 (rf_takenBack_131 20000 a1 a2 (A 81 (y_ix a1)) (A 65 (y_ix (A 81 (y_ix a1)))) (rf_takenBack_104 20000 a1 a2 (A 81 (y_ix a1)) (A 65 (y_ix (A 81 (y_ix a1)))) (0 : Int32) (xm_u2 (xm_u2 (xm_u2 A 36 (y_ix (A 65 (y_ix (A 81 (y_ix a1))))) (1 : Int32)) 38 (y_ix (A 65 (y_ix (A 81 (y_ix a1))))) (A 0 0)) 75 (y_ix (A 81 (y_ix a1))) (0 : Int32))) (rf_takenBack_104 20000 a1 a2 (A 81 (y_ix a1)) (A 65 (y_ix (A 81 (y_ix a1)))) (0 : Int32) (xm_u2 (xm_u2 (xm_u2 A 36 (y_ix (A 65 (y_ix (A 81 (y_ix a1))))) (1 : Int32)) 38 (y_ix (A 65 (y_ix (A 81 (y_ix a1))))) (A 0 0)) 75 (y_ix (A 81 (y_ix a1))) (0 : Int32))) (xm_u2 (xm_u2 (xm_u2 A 36 (y_ix (A 65 (y_ix (A 81 (y_ix a1))))) (1 : Int32)) 38 (y_ix (A 65 (y_ix (A 81 (y_ix a1))))) (A 0 0)) 75 (y_ix (A 81 (y_ix a1))) (0 : Int32))).2 40 (y_ix (A 65 (y_ix (A 81 (y_ix a1))))) (((rf_takenBack_131 20000 a1 a2 (A 81 (y_ix a1)) (A 65 (y_ix (A 81 (y_ix a1)))) (rf_takenBack_104 20000 a1 a2 (A 81 (y_ix a1)) (A 65 (y_ix (A 81 (y_ix a1)))) (0 : Int32) (xm_u2 (xm_u2 (xm_u2 A 36 (y_ix (A 65 (y_ix (A 81 (y_ix a1))))) (1 : Int32)) 38 (y_ix (A 65 (y_ix (A 81 (y_ix a1))))) (A 0 0)) 75 (y_ix (A 81 (y_ix a1))) (0 : Int32))) (rf_takenBack_104 20000 a1 a2 (A 81 (y_ix a1)) (A 65 (y_ix (A 81 (y_ix a1)))) (0 : Int32) (xm_u2 (xm_u2 (xm_u2 A 36 (y_ix (A 65 (y_ix (A 81 (y_ix a1))))) (1 : Int32)) 38 (y_ix (A 65 (y_ix (A 81 (y_ix a1))))) (A 0 0)) 75 (y_ix (A 81 (y_ix a1))) (0 : Int32))) (xm_u2 (xm_u2 (xm_u2 A 36 (y_ix (A 65 (y_ix (A 81 (y_ix a1))))) (1 : Int32)) 38 (y_ix (A 65 (y_ix (A 81 (y_ix a1))))) (A 0 0)) 75 (y_ix (A 81 (y_ix a1))) (0 : Int32))).2 40 (y_ix (A 65 (y_ix (A 81 (y_ix a1)))))) - (1 : Int32))), js) else ((xm_u2 (rf_takenBack_131 20000 a1 a2 (A 81 (y_ix a1)) (A 65 (y_ix (A 81 (y_ix a1)))) (rf_takenBack_104 20000 a1 a2 (A 81 (y_ix a1)) (A 65 (y_ix (A 81 (y_ix a1)))) (0 : Int32) (xm_u2 (xm_u2 (xm_u2 A 36 (y_ix (A 65 (y_ix (A 81 (y_ix a1))))) (1 : Int32)) 38 (y_ix (A 65 (y_ix (A 81 (y_ix a1))))) (A 0 0)) 75 (y_ix (A 81 (y_ix a1))) (0 : Int32))) (rf_takenBack_104 20000 a1 a2 (A 81 (y_ix a1)) (A 65 (y_ix (A 81 (y_ix a1)))) (0 : Int32) (xm_u2 (xm_u2 (xm_u2 A 36 (y_ix (A 65 (y_ix (A 81 (y_ix a1))))) (1 : Int32)) 38 (y_ix (A 65 (y_ix (A 81 (y_ix a1))))) (A 0 0)) 75 (y_ix (A 81 (y_ix a1))) (0 : Int32))) (xm_u2 (xm_u2 (xm_u2 A 36 (y_ix (A 65 (y_ix (A 81 (y_ix a1))))) (1 : Int32)) 38 (y_ix (A 65 (y_ix (A 81 (y_ix a1))))) (A 0 0)) 75 (y_ix (A 81 (y_ix a1))) (0 : Int32))).2 40 (y_ix (A 65 (y_ix (A 81 (y_ix a1))))) (((rf_takenBack_131 20000 a1 a2 (A 81 (y_ix a1)) (A 65 (y_ix (A 81 (y_ix a1)))) (rf_takenBack_104 20000 a1 a2 (A 81 (y_ix a1)) (A 65 (y_ix (A 81 (y_ix a1)))) (0 : Int32) (xm_u2 (xm_u2 (xm_u2 A 36 (y_ix (A 65 (y_ix (A 81 (y_ix a1))))) (1 : Int32)) 38 (y_ix (A 65 (y_ix (A 81 (y_ix a1))))) (A 0 0)) 75 (y_ix (A 81 (y_ix a1))) (0 : Int32))) (rf_takenBack_104 20000 a1 a2 (A 81 (y_ix a1)) (A 65 (y_ix (A 81 (y_ix a1)))) (0 : Int32) (xm_u2 (xm_u2 (xm_u2 A 36 (y_ix (A 65 (y_ix (A 81 (y_ix a1))))) (1 : Int32)) 38 (y_ix (A 65 (y_ix (A 81 (y_ix a1))))) (A 0 0)) 75 (y_ix (A 81 (y_ix a1))) (0 : Int32))) (xm_u2 (xm_u2 (xm_u2 A 36 (y_ix (A 65 (y_ix (A 81 (y_ix a1))))) (1 : Int32)) 38 (y_ix (A 65 (y_ix (A 81 (y_ix a1))))) (A 0 0)) 75 (y_ix (A 81 (y_ix a1))) (0 : Int32))).2 40 (y_ix (A 65 (y_ix (A 81 (y_ix a1)))))) - (1 : Int32))), (((5 : Int32), (A 81 (y_ix a1)), (-1 : Int32), (0 : Int32), (0 : Int32)) :: js)))) else (if (A 75 (y_ix (A 81 (y_ix a1)))) = (0 : Int32) then (if (A 78 (y_ix (A 81 (y_ix a1)))) = (0 : Int32) then ((xm_u2 (xm_u2 (xm_u2 (xm_u2 A 36 (y_ix (A 65 (y_ix (A 81 (y_ix a1))))) (1 : Int32)) 38 (y_ix (A 65 (y_ix (A 81 (y_ix a1))))) (A 0 0)) 77 (y_ix (A 81 (y_ix a1))) (0 : Int32)) 39 (y_ix (A 65 (y_ix (A 81 (y_ix a1))))) ((A 39 (y_ix (A 65 (y_ix (A 81 (y_ix a1)))))) - (1 : Int32))), js) else ((xm_u2 (xm_u2 (xm_u2 (xm_u2 A 36 (y_ix (A 65 (y_ix (A 81 (y_ix a1))))) (1 : Int32)) 38 (y_ix (A 65 (y_ix (A 81 (y_ix a1))))) (A 0 0)) 77 (y_ix (A 81 (y_ix a1))) (0 : Int32)) 39 (y_ix (A 65 (y_ix (A 81 (y_ix a1))))) ((A 39 (y_ix (A 65 (y_ix (A 81 (y_ix a1)))))) - (1 : Int32))), (((5 : Int32), (A 81 (y_ix a1)), (-1 : Int32), (0 : Int32), (0 : Int32)) :: js))) else (if ((rf_takenBack_131 20000 a1 a2 (A 81 (y_ix a1)) (A 65 (y_ix (A 81 (y_ix a1)))) (rf_takenBack_104 20000 a1 a2 (A 81 (y_ix a1)) (A 65 (y_ix (A 81 (y_ix a1)))) (0 : Int32) (xm_u2 (xm_u2 (xm_u2 (xm_u2 (xm_u2 A 36 (y_ix (A 65 (y_ix (A 81 (y_ix a1))))) (1 : Int32)) 38 (y_ix (A 65 (y_ix (A 81 (y_ix a1))))) (A 0 0)) 77 (y_ix (A 81 (y_ix a1))) (0 : Int32)) 39 (y_ix (A 65 (y_ix (A 81 (y_ix a1))))) ((A 39 (y_ix (A 65 (y_ix (A 81 (y_ix a1)))))) - (1 : Int32))) 75 (y_ix (A 81 (y_ix a1))) (0 : Int32))) (rf_takenBack_104 20000 a1 a2 (A 81 (y_ix a1)) (A 65 (y_ix (A 81 (y_ix a1)))) (0 : Int32) (xm_u2 (xm_u2 (xm_u2 (xm_u2 (xm_u2 A 36 (y_ix (A 65 (y_ix (A 81 (y_ix a1))))) (1 : Int32)) 38 (y_ix (A 65 (y_ix (A 81 (y_ix a1))))) (A 0 0)) 77 (y_ix (A 81 (y_ix a1))) (0 : Int32)) 39 (y_ix (A 65 (y_ix (A 81 (y_ix a1))))) ((A 39 (y_ix (A 65 (y_ix (A 81 (y_ix a1)))))) - (1 : Int32))) 75 (y_ix (A 81 (y_ix a1))) (0 : Int32))) (xm_u2 (xm_u2 (xm_u2 (xm_u2 (xm_u2 A 36 (y_ix (A 65 (y_ix (A 81 (y_ix a1))))) (1 : Int32)) 38 (y_ix (A 65 (y_ix (A 81 (y_ix a1))))) (A 0 0)) 77 (y_ix (A 81 (y_ix a1))) (0 : Int32)) 39 (y_ix (A 65 (y_ix (A 81 (y_ix a1))))) ((A 39 (y_ix (A 65 (y_ix (A 81 (y_ix a1)))))) - (1 : Int32))) 75 (y_ix (A 81 (y_ix a1))) (0 : Int32))).2 78 (y_ix (A 81 (y_ix a1)))) = (0 : Int32) then ((xm_u2 (rf_takenBack_131 20000 a1 a2 (A 81 (y_ix a1)) (A 65 (y_ix (A 81 (y_ix a1)))) (rf_takenBack_104 20000 a1 a2 (A 81 (y_ix a1)) (A 65 (y_ix (A 81 (y_ix a1)))) (0 : Int32) (xm_u2 (xm_u2 (xm_u2 (xm_u2 (xm_u2 A 36 (y_ix (A 65 (y_ix (A 81 (y_ix a1))))) (1 : Int32)) 38 (y_ix (A 65 (y_ix (A 81 (y_ix a1))))) (A 0 0)) 77 (y_ix (A 81 (y_ix a1))) (0 : Int32)) 39 (y_ix (A 65 (y_ix (A 81 (y_ix a1))))) ((A 39 (y_ix (A 65 (y_ix (A 81 (y_ix a1)))))) - (1 : Int32))) 75 (y_ix (A 81 (y_ix a1))) (0 : Int32))) (rf_takenBack_104 20000 a1 a2 (A 81 (y_ix a1)) (A 65 (y_ix (A 81 (y_ix a1)))) (0 : Int32) (xm_u2 (xm_u2 (xm_u2 (xm_u2 (xm_u2 A 36 (y_ix (A 65 (y_ix (A 81 (y_ix a1))))) (1 : Int32)) 38 (y_ix (A 65 (y_ix (A 81 (y_ix a1))))) (A 0 0)) 77 (y_ix (A 81 (y_ix a1))) (0 : Int32)) 39 (y_ix (A 65 (y_ix (A 81 (y_ix a1))))) ((A 39 (y_ix (A 65 (y_ix (A 81 (y_ix a1)))))) - (1 : Int32))) 75 (y_ix (A 81 (y_ix a1))) (0 : Int32))) (xm_u2 (xm_u2 (xm_u2 (xm_u2 (xm_u2 A 36 (y_ix (A 65 (y_ix (A 81 (y_ix a1))))) (1 : Int32)) 38 (y_ix (A 65 (y_ix (A 81 (y_ix a1))))) (A 0 0)) 77 (y_ix (A 81 (y_ix a1))) (0 : Int32)) 39 (y_ix (A 65 (y_ix (A 81 (y_ix a1))))) ((A 39 (y_ix (A 65 (y_ix (A 81 (y_ix a1)))))) - (1 : Int32))) 75 (y_ix (A 81 (y_ix a1))) (0 : Int32))).2 40 (y_ix (A 65 (y_ix (A 81 (y_ix a1))))) (((rf_takenBack_131 20000 a1 a2 (A 81 (y_ix a1)) (A 65 (y_ix (A 81 (y_ix a1)))) (rf_takenBack_104 20000 a1 a2 (A 81 (y_ix a1)) (A 65 (y_ix (A 81 (y_ix a1)))) (0 : Int32) (xm_u2 (xm_u2 (xm_u2 (xm_u2 (xm_u2 A 36 (y_ix (A 65 (y_ix (A 81 (y_ix a1))))) (1 : Int32)) 38 (y_ix (A 65 (y_ix (A 81 (y_ix a1))))) (A 0 0)) 77 (y_ix (A 81 (y_ix a1))) (0 : Int32)) 39 (y_ix (A 65 (y_ix (A 81 (y_ix a1))))) ((A 39 (y_ix (A 65 (y_ix (A 81 (y_ix a1)))))) - (1 : Int32))) 75 (y_ix (A 81 (y_ix a1))) (0 : Int32))) (rf_takenBack_104 20000 a1 a2 (A 81 (y_ix a1)) (A 65 (y_ix (A 81 (y_ix a1)))) (0 : Int32) (xm_u2 (xm_u2 (xm_u2 (xm_u2 (xm_u2 A 36 (y_ix (A 65 (y_ix (A 81 (y_ix a1))))) (1 : Int32)) 38 (y_ix (A 65 (y_ix (A 81 (y_ix a1))))) (A 0 0)) 77 (y_ix (A 81 (y_ix a1))) (0 : Int32)) 39 (y_ix (A 65 (y_ix (A 81 (y_ix a1))))) ((A 39 (y_ix (A 65 (y_ix (A 81 (y_ix a1)))))) - (1 : Int32))) 75 (y_ix (A 81 (y_ix a1))) (0 : Int32))) (xm_u2 (xm_u2 (xm_u2 (xm_u2 (xm_u2 A 36 (y_ix (A 65 (y_ix (A 81 (y_ix a1))))) (1 : Int32)) 38 (y_ix (A 65 (y_ix (A 81 (y_ix a1))))) (A 0 0)) 77 (y_ix (A 81 (y_ix a1))) (0 : Int32)) 39 (y_ix (A 65 (y_ix (A 81 (y_ix a1))))) ((A 39 (y_ix (A 65 (y_ix (A 81 (y_ix a1)))))) - (1 : Int32))) 75 (y_ix (A 81 (y_ix a1))) (0 : Int32))).2 40 (y_ix (A 65 (y_ix (A 81 (y_ix a1)))))) - (1 : Int32))), js) else ((xm_u2 (rf_takenBack_131 20000 a1 a2 (A 81 (y_ix a1)) (A 65 (y_ix (A 81 (y_ix a1)))) (rf_takenBack_104 20000 a1 a2 (A 81 (y_ix a1)) (A 65 (y_ix (A 81 (y_ix a1)))) (0 : Int32) (xm_u2 (xm_u2 (xm_u2 (xm_u2 (xm_u2 A 36 (y_ix (A 65 (y_ix (A 81 (y_ix a1))))) (1 : Int32)) 38 (y_ix (A 65 (y_ix (A 81 (y_ix a1))))) (A 0 0)) 77 (y_ix (A 81 (y_ix a1))) (0 : Int32)) 39 (y_ix (A 65 (y_ix (A 81 (y_ix a1))))) ((A 39 (y_ix (A 65 (y_ix (A 81 (y_ix a1)))))) - (1 : Int32))) 75 (y_ix (A 81 (y_ix a1))) (0 : Int32))) (rf_takenBack_104 20000 a1 a2 (A 81 (y_ix a1)) (A 65 (y_ix (A 81 (y_ix a1)))) (0 : Int32) (xm_u2 (xm_u2 (xm_u2 (xm_u2 (xm_u2 A 36 (y_ix (A 65 (y_ix (A 81 (y_ix a1))))) (1 : Int32)) 38 (y_ix (A 65 (y_ix (A 81 (y_ix a1))))) (A 0 0)) 77 (y_ix (A 81 (y_ix a1))) (0 : Int32)) 39 (y_ix (A 65 (y_ix (A 81 (y_ix a1))))) ((A 39 (y_ix (A 65 (y_ix (A 81 (y_ix a1)))))) - (1 : Int32))) 75 (y_ix (A 81 (y_ix a1))) (0 : Int32))) (xm_u2 (xm_u2 (xm_u2 (xm_u2 (xm_u2 A 36 (y_ix (A 65 (y_ix (A 81 (y_ix a1))))) (1 : Int32)) 38 (y_ix (A 65 (y_ix (A 81 (y_ix a1))))) (A 0 0)) 77 (y_ix (A 81 (y_ix a1))) (0 : Int32)) 39 (y_ix (A 65 (y_ix (A 81 (y_ix a1))))) ((A 39 (y_ix (A 65 (y_ix (A 81 (y_ix a1)))))) - (1 : Int32))) 75 (y_ix (A 81 (y_ix a1))) (0 : Int32))).2 40 (y_ix (A 65 (y_ix (A 81 (y_ix a1))))) (((rf_takenBack_131 20000 a1 a2 (A 81 (y_ix a1)) (A 65 (y_ix (A 81 (y_ix a1)))) (rf_takenBack_104 20000 a1 a2 (A 81 (y_ix a1)) (A 65 (y_ix (A 81 (y_ix a1)))) (0 : Int32) (xm_u2 (xm_u2 (xm_u2 (xm_u2 (xm_u2 A 36 (y_ix (A 65 (y_ix (A 81 (y_ix a1))))) (1 : Int32)) 38 (y_ix (A 65 (y_ix (A 81 (y_ix a1))))) (A 0 0)) 77 (y_ix (A 81 (y_ix a1))) (0 : Int32)) 39 (y_ix (A 65 (y_ix (A 81 (y_ix a1))))) ((A 39 (y_ix (A 65 (y_ix (A 81 (y_ix a1)))))) - (1 : Int32))) 75 (y_ix (A 81 (y_ix a1))) (0 : Int32))) (rf_takenBack_104 20000 a1 a2 (A 81 (y_ix a1)) (A 65 (y_ix (A 81 (y_ix a1)))) (0 : Int32) (xm_u2 (xm_u2 (xm_u2 (xm_u2 (xm_u2 A 36 (y_ix (A 65 (y_ix (A 81 (y_ix a1))))) (1 : Int32)) 38 (y_ix (A 65 (y_ix (A 81 (y_ix a1))))) (A 0 0)) 77 (y_ix (A 81 (y_ix a1))) (0 : Int32)) 39 (y_ix (A 65 (y_ix (A 81 (y_ix a1))))) ((A 39 (y_ix (A 65 (y_ix (A 81 (y_ix a1)))))) - (1 : Int32))) 75 (y_ix (A 81 (y_ix a1))) (0 : Int32))) (xm_u2 (xm_u2 (xm_u2 (xm_u2 (xm_u2 A 36 (y_ix (A 65 (y_ix (A 81 (y_ix a1))))) (1 : Int32)) 38 (y_ix (A 65 (y_ix (A 81 (y_ix a1))))) (A 0 0)) 77 (y_ix (A 81 (y_ix a1))) (0 : Int32)) 39 (y_ix (A 65 (y_ix (A 81 (y_ix a1))))) ((A 39 (y_ix (A 65 (y_ix (A 81 (y_ix a1)))))) - (1 : Int32))) 75 (y_ix (A 81 (y_ix a1))) (0 : Int32))).2 40 (y_ix (A 65 (y_ix (A 81 (y_ix a1)))))) - (1 : Int32))), (((5 : Int32), (A 81 (y_ix a1)), (-1 : Int32), (0 : Int32), (0 : Int32)) :: js)))))) else (A, js)) else (if (0 : Int32) ≤ (A 65 (y_ix (A 81 (y_ix a1)))) then (if (A 79 (y_ix (A 81 (y_ix a1)))) = (0 : Int32) then (if (A 77 (y_ix (A 81 (y_ix a1)))) = (0 : Int32) then (if (A 75 (y_ix (A 81 (y_ix a1)))) = (0 : Int32) then (if (A 78 (y_ix (A 81 (y_ix a1)))) = (0 : Int32) then (A, (((4 : Int32), (a1 + (1 : Int32)), a2, (0 : Int32), (0 : Int32)) :: js)) else (A, (((5 : Int32), (A 81 (y_ix a1)), (-1 : Int32), (0 : Int32), (0 : Int32)) :: (((4 : Int32), (a1 + (1 : Int32)), a2, (0 : Int32), (0 : Int32)) :: js)))) else (if ((rf_takenBack_131 20000 a1 a2 (A 81 (y_ix a1)) (A 65 (y_ix (A 81 (y_ix a1)))) (rf_takenBack_104 20000 a1 a2 (A 81 (y_ix a1)) (A 65 (y_ix (A 81 (y_ix a1)))) (0 : Int32) (xm_u2 A 75 (y_ix (A 81 (y_ix a1))) (0 : Int32))) (rf_takenBack_104 20000 a1 a2 (A 81 (y_ix a1)) (A 65 (y_ix (A 81 (y_ix a1)))) (0 : Int32) (xm_u2 A 75 (y_ix (A 81 (y_ix a1))) (0 : Int32))) (xm_u2 A 75 (y_ix (A 81 (y_ix a1))) (0 : Int32))).2 78 (y_ix (A 81 (y_ix a1)))) = (0 : Int32) then ((xm_u2 (rf_takenBack_131 20000 a1 a2 (A 81 (y_ix a1)) (A 65 (y_ix (A 81 (y_ix a1)))) (rf_takenBack_104 20000 a1 a2 (A 81 (y_ix a1)) (A 65 (y_ix (A 81 (y_ix a1)))) (0 : Int32) (xm_u2 A 75 (y_ix (A 81 (y_ix a1))) (0 : Int32))) (rf_takenBack_104 20000 a1 a2 (A 81 (y_ix a1)) (A 65 (y_ix (A 81 (y_ix a1)))) (0 : Int32) (xm_u2 A 75 (y_ix (A 81 (y_ix a1))) (0 : Int32))) (xm_u2 A 75 (y_ix (A 81 (y_ix a1))) (0 : Int32))).2 40 (y_ix (A 65 (y_ix (A 81 (y_ix a1))))) (((rf_takenBack_131 20000 a1 a2 (A 81 (y_ix a1)) (A 65 (y_ix (A 81 (y_ix a1)))) (rf_takenBack_104 20000 a1 a2 (A 81 (y_ix a1)) (A 65 (y_ix (A 81 (y_ix a1)))) (0 : Int32) (xm_u2 A 75 (y_ix (A 81 (y_ix a1))) (0 : Int32))) (rf_takenBack_104 20000 a1 a2 (A 81 (y_ix a1)) (A 65 (y_ix (A 81 (y_ix a1)))) (0 : Int32) (xm_u2 A 75 (y_ix (A 81 (y_ix a1))) (0 : Int32))) (xm_u2 A 75 (y_ix (A 81 (y_ix a1))) (0 : Int32))).2 40 (y_ix (A 65 (y_ix (A 81 (y_ix a1)))))) - (1 : Int32))), (((4 : Int32), (a1 + (1 : Int32)), a2, (0 : Int32), (0 : Int32)) :: js)) else ((xm_u2 (rf_takenBack_131 20000 a1 a2 (A 81 (y_ix a1)) (A 65 (y_ix (A 81 (y_ix a1)))) (rf_takenBack_104 20000 a1 a2 (A 81 (y_ix a1)) (A 65 (y_ix (A 81 (y_ix a1)))) (0 : Int32) (xm_u2 A 75 (y_ix (A 81 (y_ix a1))) (0 : Int32))) (rf_takenBack_104 20000 a1 a2 (A 81 (y_ix a1)) (A 65 (y_ix (A 81 (y_ix a1)))) (0 : Int32) (xm_u2 A 75 (y_ix (A 81 (y_ix a1))) (0 : Int32))) (xm_u2 A 75 (y_ix (A 81 (y_ix a1))) (0 : Int32))).2 40 (y_ix (A 65 (y_ix (A 81 (y_ix a1))))) (((rf_takenBack_131 20000 a1 a2 (A 81 (y_ix a1)) (A 65 (y_ix (A 81 (y_ix a1)))) (rf_takenBack_104 20000 a1 a2 (A 81 (y_ix a1)) (A 65 (y_ix (A 81 (y_ix a1)))) (0 : Int32) (xm_u2 A 75 (y_ix (A 81 (y_ix a1))) (0 : Int32))) (rf_takenBack_104 20000 a1 a2 (A 81 (y_ix a1)) (A 65 (y_ix (A 81 (y_ix a1)))) (0 : Int32) (xm_u2 A 75 (y_ix (A 81 (y_ix a1))) (0 : Int32))) (xm_u2 A 75 (y_ix (A 81 (y_ix a1))) (0 : Int32))).2 40 (y_ix (A 65 (y_ix (A 81 (y_ix a1)))))) - (1 : Int32))), (((5 : Int32), (A 81 (y_ix a1)), (-1 : Int32), (0 : Int32), (0 : Int32)) :: (((4 : Int32), (a1 + (1 : Int32)), a2, (0 : Int32), (0 : Int32)) :: js))))) else (if (A 75 (y_ix (A 81 (y_ix a1)))) = (0 : Int32) then (if (A 78 (y_ix (A 81 (y_ix a1)))) = (0 : Int32) then ((xm_u2 (xm_u2 A 77 (y_ix (A 81 (y_ix a1))) (0 : Int32)) 39 (y_ix (A 65 (y_ix (A 81 (y_ix a1))))) ((A 39 (y_ix (A 65 (y_ix (A 81 (y_ix a1)))))) - (1 : Int32))), (((4 : Int32), (a1 + (1 : Int32)), a2, (0 : Int32), (0 : Int32)) :: js)) else ((xm_u2 (xm_u2 A 77 (y_ix (A 81 (y_ix a1))) (0 : Int32)) 39 (y_ix (A 65 (y_ix (A 81 (y_ix a1))))) ((A 39 (y_ix (A 65 (y_ix (A 81 (y_ix a1)))))) - (1 : Int32))), (((5 : Int32), (A 81 (y_ix a1)), (-1 : Int32), (0 : Int32), (0 : Int32)) :: (((4 : Int32), (a1 + (1 : Int32)), a2, (0 : Int32), (0 : Int32)) :: js)))) else (if ((rf_takenBack_131 20000 a1 a2 (A 81 (y_ix a1)) (A 65 (y_ix (A 81 (y_ix a1)))) (rf_takenBack_104 20000 a1 a2 (A 81 (y_ix a1)) (A 65 (y_ix (A 81 (y_ix a1)))) (0 : Int32) (xm_u2 (xm_u2 (xm_u2 A 77 (y_ix (A 81 (y_ix a1))) (0 : Int32)) 39 (y_ix (A 65 (y_ix (A 81 (y_ix a1))))) ((A 39 (y_ix (A 65 (y_ix (A 81 (y_ix a1)))))) - (1 : Int32))) 75 (y_ix (A 81 (y_ix a1))) (0 : Int32))) (rf_takenBack_104 20000 a1 a2 (A 81 (y_ix a1)) (A 65 (y_ix (A 81 (y_ix a1)))) (0 : Int32) (xm_u2 (xm_u2 (xm_u2 A 77 (y_ix (A 81 (y_ix a1))) (0 : Int32)) 39 (y_ix (A 65 (y_ix (A 81 (y_ix a1))))) ((A 39 (y_ix (A 65 (y_ix (A 81 (y_ix a1)))))) - (1 : Int32))) 75 (y_ix (A 81 (y_ix a1))) (0 : Int32))) (xm_u2 (xm_u2 (xm_u2 A 77 (y_ix (A 81 (y_ix a1))) (0 : Int32)) 39 (y_ix (A 65 (y_ix (A 81 (y_ix a1))))) ((A 39 (y_ix (A 65 (y_ix (A 81 (y_ix a1)))))) - (1 : Int32))) 75 (y_ix (A 81 (y_ix a1))) (0 : Int32))).2 78 (y_ix (A 81 (y_ix a1)))) = (0 : Int32) then ((xm_u2 (rf_takenBack_131 20000 a1 a2 (A 81 (y_ix a1)) (A 65 (y_ix (A 81 (y_ix a1)))) (rf_takenBack_104 20000 a1 a2 (A 81 (y_ix a1)) (A 65 (y_ix (A 81 (y_ix a1)))) (0 : Int32) (xm_u2 (xm_u2 (xm_u2 A 77 (y_ix (A 81 (y_ix a1))) (0 : Int32)) 39 (y_ix (A 65 (y_ix (A 81 (y_ix a1))))) ((A 39 (y_ix (A 65 (y_ix (A 81 (y_ix a1)))))) - (1 : Int32))) 75 (y_ix (A 81 (y_ix a1))) (0 : Int32))) (rf_takenBack_104 20000 a1 a2 (A 81 (y_ix a1)) (A 65 (y_ix (A 81 (y_ix a1)))) (0 : Int32) (xm_u2 (xm_u2 (xm_u2 A 77 (y_ix (A 81 (y_ix a1))) (0 : Int32)) 39 (y_ix (A 65 (y_ix (A 81 (y_ix a1))))) ((A 39 (y_ix (A 65 (y_ix (A 81 (y_ix a1)))))) - (1 : Int32))) 75 (y_ix (A 81 (y_ix a1))) (0 : Int32))) (xm_u2 (xm_u2 (xm_u2 A 77 (y_ix (A 81 (y_ix a1))) (0 : Int32)) 39 (y_ix (A 65 (y_ix (A 81 (y_ix a1))))) ((A 39 (y_ix (A 65 (y_ix (A 81 (y_ix a1)))))) - (1 : Int32))) 75 (y_ix (A 81 (y_ix a1))) (0 : Int32))).2 40 (y_ix (A 65 (y_ix (A 81 (y_ix a1))))) (((rf_takenBack_131 20000 a1 a2 (A 81 (y_ix a1)) (A 65 (y_ix (A 81 (y_ix a1)))) (rf_takenBack_104 20000 a1 a2 (A 81 (y_ix a1)) (A 65 (y_ix (A 81 (y_ix a1)))) (0 : Int32) (xm_u2 (xm_u2 (xm_u2 A 77 (y_ix (A 81 (y_ix a1))) (0 : Int32)) 39 (y_ix (A 65 (y_ix (A 81 (y_ix a1))))) ((A 39 (y_ix (A 65 (y_ix (A 81 (y_ix a1)))))) - (1 : Int32))) 75 (y_ix (A 81 (y_ix a1))) (0 : Int32))) (rf_takenBack_104 20000 a1 a2 (A 81 (y_ix a1)) (A 65 (y_ix (A 81 (y_ix a1)))) (0 : Int32) (xm_u2 (xm_u2 (xm_u2 A 77 (y_ix (A 81 (y_ix a1))) (0 : Int32)) 39 (y_ix (A 65 (y_ix (A 81 (y_ix a1))))) ((A 39 (y_ix (A 65 (y_ix (A 81 (y_ix a1)))))) - (1 : Int32))) 75 (y_ix (A 81 (y_ix a1))) (0 : Int32))) (xm_u2 (xm_u2 (xm_u2 A 77 (y_ix (A 81 (y_ix a1))) (0 : Int32)) 39 (y_ix (A 65 (y_ix (A 81 (y_ix a1))))) ((A 39 (y_ix (A 65 (y_ix (A 81 (y_ix a1)))))) - (1 : Int32))) 75 (y_ix (A 81 (y_ix a1))) (0 : Int32))).2 40 (y_ix (A 65 (y_ix (A 81 (y_ix a1)))))) - (1 : Int32))), (((4 : Int32), (a1 + (1 : Int32)), a2, (0 : Int32), (0 : Int32)) :: js)) else ((xm_u2 (rf_takenBack_131 20000 a1 a2 (A 81 (y_ix a1)) (A 65 (y_ix (A 81 (y_ix a1)))) (rf_takenBack_104 20000 a1 a2 (A 81 (y_ix a1)) (A 65 (y_ix (A 81 (y_ix a1)))) (0 : Int32) (xm_u2 (xm_u2 (xm_u2 A 77 (y_ix (A 81 (y_ix a1))) (0 : Int32)) 39 (y_ix (A 65 (y_ix (A 81 (y_ix a1))))) ((A 39 (y_ix (A 65 (y_ix (A 81 (y_ix a1)))))) - (1 : Int32))) 75 (y_ix (A 81 (y_ix a1))) (0 : Int32))) (rf_takenBack_104 20000 a1 a2 (A 81 (y_ix a1)) (A 65 (y_ix (A 81 (y_ix a1)))) (0 : Int32) (xm_u2 (xm_u2 (xm_u2 A 77 (y_ix (A 81 (y_ix a1))) (0 : Int32)) 39 (y_ix (A 65 (y_ix (A 81 (y_ix a1))))) ((A 39 (y_ix (A 65 (y_ix (A 81 (y_ix a1)))))) - (1 : Int32))) 75 (y_ix (A 81 (y_ix a1))) (0 : Int32))) (xm_u2 (xm_u2 (xm_u2 A 77 (y_ix (A 81 (y_ix a1))) (0 : Int32)) 39 (y_ix (A 65 (y_ix (A 81 (y_ix a1))))) ((A 39 (y_ix (A 65 (y_ix (A 81 (y_ix a1)))))) - (1 : Int32))) 75 (y_ix (A 81 (y_ix a1))) (0 : Int32))).2 40 (y_ix (A 65 (y_ix (A 81 (y_ix a1))))) (((rf_takenBack_131 20000 a1 a2 (A 81 (y_ix a1)) (A 65 (y_ix (A 81 (y_ix a1)))) (rf_takenBack_104 20000 a1 a2 (A 81 (y_ix a1)) (A 65 (y_ix (A 81 (y_ix a1)))) (0 : Int32) (xm_u2 (xm_u2 (xm_u2 A 77 (y_ix (A 81 (y_ix a1))) (0 : Int32)) 39 (y_ix (A 65 (y_ix (A 81 (y_ix a1))))) ((A 39 (y_ix (A 65 (y_ix (A 81 (y_ix a1)))))) - (1 : Int32))) 75 (y_ix (A 81 (y_ix a1))) (0 : Int32))) (rf_takenBack_104 20000 a1 a2 (A 81 (y_ix a1)) (A 65 (y_ix (A 81 (y_ix a1)))) (0 : Int32) (xm_u2 (xm_u2 (xm_u2 A 77 (y_ix (A 81 (y_ix a1))) (0 : Int32)) 39 (y_ix (A 65 (y_ix (A 81 (y_ix a1))))) ((A 39 (y_ix (A 65 (y_ix (A 81 (y_ix a1)))))) - (1 : Int32))) 75 (y_ix (A 81 (y_ix a1))) (0 : Int32))) (xm_u2 (xm_u2 (xm_u2 A 77 (y_ix (A 81 (y_ix a1))) (0 : Int32)) 39 (y_ix (A 65 (y_ix (A 81 (y_ix a1))))) ((A 39 (y_ix (A 65 (y_ix (A 81 (y_ix a1)))))) - (1 : Int32))) 75 (y_ix (A 81 (y_ix a1))) (0 : Int32))).2 40 (y_ix (A 65 (y_ix (A 81 (y_ix a1)))))) - (1 : Int32))), (((5 : Int32), (A 81 (y_ix a1)), (-1 : Int32), (0 : Int32), (0 : Int32)) :: (((4 : Int32), (a1 + (1 : Int32)), a2, (0 : Int32), (0 : Int32)) :: js)))))) else (if (A 77 (y_ix (A 81 (y_ix a1)))) = (0 : Int32) then (if (A 75 (y_ix (A 81 (y_ix a1)))) = (0 : Int32) then (if (A 78 (y_ix (A 81 (y_ix a1)))) = (0 : Int32) then ((xm_u2 (xm_u2 A 36 (y_ix (A 65 (y_ix (A 81 (y_ix a1))))) (1 : Int32)) 38 (y_ix (A 65 (y_ix (A 81 (y_ix a1))))) (A 0 0)), (((4 : Int32), (a1 + (1 : Int32)), a2, (0 : Int32), (0 : Int32)) :: js)) else ((xm_u2 (xm_u2 A 36 (y_ix (A 65 (y_ix (A 81 (y_ix a1))))) (1 : Int32)) 38 (y_ix (A 65 (y_ix (A 81 (y_ix a1))))) (A 0 0)), (((5 : Int32), (A 81 (y_ix a1)), (-1 : Int32), (0 : Int32), (0 : Int32)) :: (((4 : Int32), (a1 + (1 : Int32)), a2, (0 : Int32), (0 : Int32)) :: js)))) else (if ((rf_takenBack_131 20000 a1 a2 (A 81 (y_ix a1)) (A 65 (y_ix (A 81 (y_ix a1)))) (rf_takenBack_104 20000 a1 a2 (A 81 (y_ix a1)) (A 65 (y_ix (A 81 (y_ix a1)))) (0 : Int32) (xm_u2 (xm_u2 (xm_u2 A 36 (y_ix (A 65 (y_ix (A 81 (y_ix a1))))) (1 : Int32)) 38 (y_ix (A 65 (y_ix (A 81 (y_ix a1))))) (A 0 0)) 75 (y_ix (A 81 (y_ix a1))) (0 : Int32))) (rf_takenBack_104 20000 a1 a2 (A 81 (y_ix a1)) (A 65 (y_ix (A 81 (y_ix a1)))) (0 : Int32) (xm_u2 (xm_u2 (xm_u2 A 36 (y_ix (A 65 (y_ix (A 81 (y_ix a1))))) (1 : Int32)) 38 (y_ix (A 65 (y_ix (A 81 (y_ix a1))))) (A 0 0)) 75 (y_ix (A 81 (y_ix a1))) (0 : Int32))) (xm_u2 (xm_u2 (xm_u2 A 36 (y_ix (A 65 (y_ix (A 81 (y_ix a1))))) (1 : Int32)) 38 (y_ix (A 65 (y_ix (A 81 (y_ix a1))))) (A 0 0)) 75 (y_ix (A 81 (y_ix a1))) (0 : Int32))).2 78 (y_ix (A 81 (y_ix a1)))) = (0 : Int32) then ((xm_u2 (rf_takenBack_131 20000 a1 a2 (A 81 (y_ix a1)) (A 65 (y_ix (A 81 (y_ix a1)))) (rf_takenBack_104 20000 a1 a2 (A 81 (y_ix a1)) (A 65 (y_ix (A 81 (y_ix a1)))) (0 : Int32) (xm_u2 (xm_u2 (xm_u2 A 36 (y_ix (A 65 (y_ix (A 81 (y_ix a1))))) (1 : Int32)) 38 (y_ix (A 65 (y_ix (A 81 (y_ix a1))))) (A 0 0)) 75 (y_ix (A 81 (y_ix a1))) (0 : Int32))) (rf_takenBack_104 20000 a1 a2 (A 81 (y_ix a1)) (A 65 (y_ix (A 81 (y_ix a1)))) (0 : Int32) (xm_u2 (xm_u2 (xm_u2 A 36 (y_ix (A 65 (y_ix (A 81 (y_ix a1))))) (1 : Int32)) 38 (y_ix (A 65 (y_ix (A 81 (y_ix a1))))) (A 0 0)) 75 (y_ix (A 81 (y_ix a1))) (0 : Int32))) (xm_u2 (xm_u2 (xm_u2 A 36 (y_ix (A 65 (y_ix (A 81 (y_ix a1))))) (1 : Int32)) 38 (y_ix (A 65 (y_ix (A 81 (y_ix a1))))) (A 0 0)) 75 (y_ix (A 81 (y_ix a1))) (0 : Int32))).2 40 (y_ix (A 65 (y_ix (A 81 (y_ix a1))))) (((rf_takenBack_131 20000 a1 a2 (A 81 (y_ix a1)) (A 65 (y_ix (A 81 (y_ix a1)))) (rf_takenBack_104 20000 a1 a2 (A 81 (y_ix a1)) (A 65 (y_ix (A 81 (y_ix a1)))) (0 : Int32) (xm_u2 (xm_u2 (xm_u2 A 36 (y_ix (A 65 (y_ix (A 81 (y_ix a1))))) (1 : Int32)) 38 (y_ix (A 65 (y_ix (A 81 (y_ix a1))))) (A 0 0)) 75 (y_ix (A 81 (y_ix a1))) (0 : Int32))) (rf_takenBack_104 20000 a1 a2 (A 81 (y_ix a1)) (A 65 (y_ix (A 81 (y_ix a1)))) (0 : Int32) (xm_u2 (xm_u2 (xm_u2 A 36 (y_ix (A 65 (y_ix (A 81 (y_ix a1))))) (1 : Int32)) 38 (y_ix (A 65 (y_ix (A 81 (y_ix a1))))) (A 0 0)) 75 (y_ix (A 81 (y_ix a1))) (0 : Int32))) (xm_u2 (xm_u2 (xm_u2 A 36 (y_ix (A 65 (y_ix (A 81 (y_ix a1))))) (1 : Int32)) 38 (y_ix (A 65 (y_ix (A 81 (y_ix a1))))) (A 0 0)) 75 (y_ix (A 81 (y_ix a1))) (0 : Int32))).2 40 (y_ix (A 65 (y_ix (A 81 (y_ix a1)))))) - (1 : Int32))), (((4 : Int32), (a1 + (1 : Int32)), a2, (0 : Int32), (0 : Int32)) :: js)) else ((xm_u2 (rf_takenBack_131 20000 a1 a2 (A 81 (y_ix a1)) (A 65 (y_ix (A 81 (y_ix a1)))) (rf_takenBack_104 20000 a1 a2 (A 81 (y_ix a1)) (A 65 (y_ix (A 81 (y_ix a1)))) (0 : Int32) (xm_u2 (xm_u2 (xm_u2 A 36 (y_ix (A 65 (y_ix (A 81 (y_ix a1))))) (1 : Int32)) 38 (y_ix (A 65 (y_ix (A 81 (y_ix a1))))) (A 0 0)) 75 (y_ix (A 81 (y_ix a1))) (0 : Int32))) (rf_takenBack_104 20000 a1 a2 (A 81 (y_ix a1)) (A 65 (y_ix (A 81 (y_ix a1)))) (0 : Int32) (xm_u2 (xm_u2 (xm_u2 A 36 (y_ix (A 65 (y_ix (A 81 (y_ix a1))))) (1 : Int32)) 38 (y_ix (A 65 (y_ix (A 81 (y_ix a1))))) (A 0 0)) 75 (y_ix (A 81 (y_ix a1))) (0 : Int32))) (xm_u2 (xm_u2 (xm_u2 A 36 (y_ix (A 65 (y_ix (A 81 (y_ix a1))))) (1 : Int32)) 38 (y_ix (A 65 (y_ix (A 81 (y_ix a1))))) (A 0 0)) 75 (y_ix (A 81 (y_ix a1))) (0 : Int32))).2 40 (y_ix (A 65 (y_ix (A 81 (y_ix a1))))) (((rf_takenBack_131 20000 a1 a2 (A 81 (y_ix a1)) (A 65 (y_ix (A 81 (y_ix a1)))) (rf_takenBack_104 20000 a1 a2 (A 81 (y_ix a1)) (A 65 (y_ix (A 81 (y_ix a1)))) (0 : Int32) (xm_u2 (xm_u2 (xm_u2 A 36 (y_ix (A 65 (y_ix (A 81 (y_ix a1))))) (1 : Int32)) 38 (y_ix (A 65 (y_ix (A 81 (y_ix a1))))) (A 0 0)) 75 (y_ix (A 81 (y_ix a1))) (0 : Int32))) (rf_takenBack_104 20000 a1 a2 (A 81 (y_ix a1)) (A 65 (y_ix (A 81 (y_ix a1)))) (0 : Int32) (xm_u2 (xm_u2 (xm_u2 A 36 (y_ix (A 65 (y_ix (A 81 (y_ix a1))))) (1 : Int32)) 38 (y_ix (A 65 (y_ix (A 81 (y_ix a1))))) (A 0 0)) 75 (y_ix (A 81 (y_ix a1))) (0 : Int32))) (xm_u2 (xm_u2 (xm_u2 A 36 (y_ix (A 65 (y_ix (A 81 (y_ix a1))))) (1 : Int32)) 38 (y_ix (A 65 (y_ix (A 81 (y_ix a1))))) (A 0 0)) 75 (y_ix (A 81 (y_ix a1))) (0 : Int32))).2 40 (y_ix (A 65 (y_ix (A 81 (y_ix a1)))))) - (1 : Int32))), (((5 : Int32), (A 81 (y_ix a1)), (-1 : Int32), (0 : Int32), (0 : Int32)) :: (((4 : Int32), (a1 + (1 : Int32)), a2, (0 : Int32), (0 : Int32)) :: js))))) else (if (A 75 (y_ix (A 81 (y_ix a1)))) = (0 : Int32) then (if (A 78 (y_ix (A 81 (y_ix a1)))) = (0 : Int32) then ((xm_u2 (xm_u2 (xm_u2 (xm_u2 A 36 (y_ix (A 65 (y_ix (A 81 (y_ix a1))))) (1 : Int32)) 38 (y_ix (A 65 (y_ix (A 81 (y_ix a1))))) (A 0 0)) 77 (y_ix (A 81 (y_ix a1))) (0 : Int32)) 39 (y_ix (A 65 (y_ix (A 81 (y_ix a1))))) ((A 39 (y_ix (A 65 (y_ix (A 81 (y_ix a1)))))) - (1 : Int32))), (((4 : Int32), (a1 + (1 : Int32)), a2, (0 : Int32), (0 : Int32)) :: js)) else ((xm_u2 (xm_u2 (xm_u2 (xm_u2 A 36 (y_ix (A 65 (y_ix (A 81 (y_ix a1))))) (1 : Int32)) 38 (y_ix (A 65 (y_ix (A 81 (y_ix a1))))) (A 0 0)) 77 (y_ix (A 81 (y_ix a1))) (0 : Int32)) 39 (y_ix (A 65 (y_ix (A 81 (y_ix a1))))) ((A 39 (y_ix (A 65 (y_ix (A 81 (y_ix a1)))))) - (1 : Int32))), (((5 : Int32), (A 81 (y_ix a1)), (-1 : Int32), (0 : Int32), (0 : Int32)) :: (((4 : Int32), (a1 + (1 : Int32)), a2, (0 : Int32), (0 : Int32)) :: js)))) else (if ((rf_takenBack_131 20000 a1 a2 (A 81 (y_ix a1)) (A 65 (y_ix (A 81 (y_ix a1)))) (rf_takenBack_104 20000 a1 a2 (A 81 (y_ix a1)) (A 65 (y_ix (A 81 (y_ix a1)))) (0 : Int32) (xm_u2 (xm_u2 (xm_u2 (xm_u2 (xm_u2 A 36 (y_ix (A 65 (y_ix (A 81 (y_ix a1))))) (1 : Int32)) 38 (y_ix (A 65 (y_ix (A 81 (y_ix a1))))) (A 0 0)) 77 (y_ix (A 81 (y_ix a1))) (0 : Int32)) 39 (y_ix (A 65 (y_ix (A 81 (y_ix a1))))) ((A 39 (y_ix (A 65 (y_ix (A 81 (y_ix a1)))))) - (1 : Int32))) 75 (y_ix (A 81 (y_ix a1))) (0 : Int32))) (rf_takenBack_104 20000 a1 a2 (A 81 (y_ix a1)) (A 65 (y_ix (A 81 (y_ix a1)))) (0 : Int32) (xm_u2 (xm_u2 (xm_u2 (xm_u2 (xm_u2 A 36 (y_ix (A 65 (y_ix (A 81 (y_ix a1))))) (1 : Int32)) 38 (y_ix (A 65 (y_ix (A 81 (y_ix a1))))) (A 0 0)) 77 (y_ix (A 81 (y_ix a1))) (0 : Int32)) 39 (y_ix (A 65 (y_ix (A 81 (y_ix a1))))) ((A 39 (y_ix (A 65 (y_ix (A 81 (y_ix a1)))))) - (1 : Int32))) 75 (y_ix (A 81 (y_ix a1))) (0 : Int32))) (xm_u2 (xm_u2 (xm_u2 (xm_u2 (xm_u2 A 36 (y_ix (A 65 (y_ix (A 81 (y_ix a1))))) (1 : Int32)) 38 (y_ix (A 65 (y_ix (A 81 (y_ix a1))))) (A 0 0)) 77 (y_ix (A 81 (y_ix a1))) (0 : Int32)) 39 (y_ix (A 65 (y_ix (A 81 (y_ix a1))))) ((A 39 (y_ix (A 65 (y_ix (A 81 (y_ix a1)))))) - (1 : Int32))) 75 (y_ix (A 81 (y_ix a1))) (0 : Int32))).2 78 (y_ix (A 81 (y_ix a1)))) = (0 : Int32) then ((xm_u2 (rf_takenBack_131 20000 a1 a2 (A 81 (y_ix a1)) (A 65 (y_ix (A 81 (y_ix a1)))) (rf_takenBack_104 20000 a1 a2 (A 81 (y_ix a1)) (A 65 (y_ix (A 81 (y_ix a1)))) (0 : Int32) (xm_u2 (xm_u2 (xm_u2 (xm_u2 (xm_u2 A 36 (y_ix (A 65 (y_ix (A 81 (y_ix a1))))) (1 : Int32)) 38 (y_ix (A 65 (y_ix (A 81 (y_ix a1))))) (A 0 0)) 77 (y_ix (A 81 (y_ix a1))) (0 : Int32)) 39 (y_ix (A 65 (y_ix (A 81 (y_ix a1))))) ((A 39 (y_ix (A 65 (y_ix (A 81 (y_ix a1)))))) - (1 : Int32))) 75 (y_ix (A 81 (y_ix a1))) (0 : Int32))) (rf_takenBack_104 20000 a1 a2 (A 81 (y_ix a1)) (A 65 (y_ix (A 81 (y_ix a1)))) (0 : Int32) (xm_u2 (xm_u2 (xm_u2 (xm_u2 (xm_u2 A 36 (y_ix (A 65 (y_ix (A 81 (y_ix a1))))) (1 : Int32)) 38 (y_ix (A 65 (y_ix (A 81 (y_ix a1))))) (A 0 0)) 77 (y_ix (A 81 (y_ix a1))) (0 : Int32)) 39 (y_ix (A 65 (y_ix (A 81 (y_ix a1))))) ((A 39 (y_ix (A 65 (y_ix (A 81 (y_ix a1)))))) - (1 : Int32))) 75 (y_ix (A 81 (y_ix a1))) (0 : Int32))) (xm_u2 (xm_u2 (xm_u2 (xm_u2 (xm_u2 A 36 (y_ix (A 65 (y_ix (A 81 (y_ix a1))))) (1 : Int32)) 38 (y_ix (A 65 (y_ix (A 81 (y_ix a1))))) (A 0 0)) 77 (y_ix (A 81 (y_ix a1))) (0 : Int32)) 39 (y_ix (A 65 (y_ix (A 81 (y_ix a1))))) ((A 39 (y_ix (A 65 (y_ix (A 81 (y_ix a1)))))) - (1 : Int32))) 75 (y_ix (A 81 (y_ix a1))) (0 : Int32))).2 40 (y_ix (A 65 (y_ix (A 81 (y_ix a1))))) (((rf_takenBack_131 20000 a1 a2 (A 81 (y_ix a1)) (A 65 (y_ix (A 81 (y_ix a1)))) (rf_takenBack_104 20000 a1 a2 (A 81 (y_ix a1)) (A 65 (y_ix (A 81 (y_ix a1)))) (0 : Int32) (xm_u2 (xm_u2 (xm_u2 (xm_u2 (xm_u2 A 36 (y_ix (A 65 (y_ix (A 81 (y_ix a1))))) (1 : Int32)) 38 (y_ix (A 65 (y_ix (A 81 (y_ix a1))))) (A 0 0)) 77 (y_ix (A 81 (y_ix a1))) (0 : Int32)) 39 (y_ix (A 65 (y_ix (A 81 (y_ix a1))))) ((A 39 (y_ix (A 65 (y_ix (A 81 (y_ix a1)))))) - (1 : Int32))) 75 (y_ix (A 81 (y_ix a1))) (0 : Int32))) (rf_takenBack_104 20000 a1 a2 (A 81 (y_ix a1)) (A 65 (y_ix (A 81 (y_ix a1)))) (0 : Int32) (xm_u2 (xm_u2 (xm_u2 (xm_u2 (xm_u2 A 36 (y_ix (A 65 (y_ix (A 81 (y_ix a1))))) (1 : Int32)) 38 (y_ix (A 65 (y_ix (A 81 (y_ix a1))))) (A 0 0)) 77 (y_ix (A 81 (y_ix a1))) (0 : Int32)) 39 (y_ix (A 65 (y_ix (A 81 (y_ix a1))))) ((A 39 (y_ix (A 65 (y_ix (A 81 (y_ix a1)))))) - (1 : Int32))) 75 (y_ix (A 81 (y_ix a1))) (0 : Int32))) (xm_u2 (xm_u2 (xm_u2 (xm_u2 (xm_u2 A 36 (y_ix (A 65 (y_ix (A 81 (y_ix a1))))) (1 : Int32)) 38 (y_ix (A 65 (y_ix (A 81 (y_ix a1))))) (A 0 0)) 77 (y_ix (A 81 (y_ix a1))) (0 : Int32)) 39 (y_ix (A 65 (y_ix (A 81 (y_ix a1))))) ((A 39 (y_ix (A 65 (y_ix (A 81 (y_ix a1)))))) - (1 : Int32))) 75 (y_ix (A 81 (y_ix a1))) (0 : Int32))).2 40 (y_ix (A 65 (y_ix (A 81 (y_ix a1)))))) - (1 : Int32))), (((4 : Int32), (a1 + (1 : Int32)), a2, (0 : Int32), (0 : Int32)) :: js)) else ((xm_u2 (rf_takenBack_131 20000 a1 a2 (A 81 (y_ix a1)) (A 65 (y_ix (A 81 (y_ix a1)))) (rf_takenBack_104 20000 a1 a2 (A 81 (y_ix a1)) (A 65 (y_ix (A 81 (y_ix a1)))) (0 : Int32) (xm_u2 (xm_u2 (xm_u2 (xm_u2 (xm_u2 A 36 (y_ix (A 65 (y_ix (A 81 (y_ix a1))))) (1 : Int32)) 38 (y_ix (A 65 (y_ix (A 81 (y_ix a1))))) (A 0 0)) 77 (y_ix (A 81 (y_ix a1))) (0 : Int32)) 39 (y_ix (A 65 (y_ix (A 81 (y_ix a1))))) ((A 39 (y_ix (A 65 (y_ix (A 81 (y_ix a1)))))) - (1 : Int32))) 75 (y_ix (A 81 (y_ix a1))) (0 : Int32))) (rf_takenBack_104 20000 a1 a2 (A 81 (y_ix a1)) (A 65 (y_ix (A 81 (y_ix a1)))) (0 : Int32) (xm_u2 (xm_u2 (xm_u2 (xm_u2 (xm_u2 A 36 (y_ix (A 65 (y_ix (A 81 (y_ix a1))))) (1 : Int32)) 38 (y_ix (A 65 (y_ix (A 81 (y_ix a1))))) (A 0 0)) 77 (y_ix (A 81 (y_ix a1))) (0 : Int32)) 39 (y_ix (A 65 (y_ix (A 81 (y_ix a1))))) ((A 39 (y_ix (A 65 (y_ix (A 81 (y_ix a1)))))) - (1 : Int32))) 75 (y_ix (A 81 (y_ix a1))) (0 : Int32))) (xm_u2 (xm_u2 (xm_u2 (xm_u2 (xm_u2 A 36 (y_ix (A 65 (y_ix (A 81 (y_ix a1))))) (1 : Int32)) 38 (y_ix (A 65 (y_ix (A 81 (y_ix a1))))) (A 0 0)) 77 (y_ix (A 81 (y_ix a1))) (0 : Int32)) 39 (y_ix (A 65 (y_ix (A 81 (y_ix a1))))) ((A 39 (y_ix (A 65 (y_ix (A 81 (y_ix a1)))))) - (1 : Int32))) 75 (y_ix (A 81 (y_ix a1))) (0 : Int32))).2 40 (y_ix (A 65 (y_ix (A 81 (y_ix a1))))) (((rf_takenBack_131 20000 a1 a2 (A 81 (y_ix a1)) (A 65 (y_ix (A 81 (y_ix a1)))) (rf_takenBack_104 20000 a1 a2 (A 81 (y_ix a1)) (A 65 (y_ix (A 81 (y_ix a1)))) (0 : Int32) (xm_u2 (xm_u2 (xm_u2 (xm_u2 (xm_u2 A 36 (y_ix (A 65 (y_ix (A 81 (y_ix a1))))) (1 : Int32)) 38 (y_ix (A 65 (y_ix (A 81 (y_ix a1))))) (A 0 0)) 77 (y_ix (A 81 (y_ix a1))) (0 : Int32)) 39 (y_ix (A 65 (y_ix (A 81 (y_ix a1))))) ((A 39 (y_ix (A 65 (y_ix (A 81 (y_ix a1)))))) - (1 : Int32))) 75 (y_ix (A 81 (y_ix a1))) (0 : Int32))) (rf_takenBack_104 20000 a1 a2 (A 81 (y_ix a1)) (A 65 (y_ix (A 81 (y_ix a1)))) (0 : Int32) (xm_u2 (xm_u2 (xm_u2 (xm_u2 (xm_u2 A 36 (y_ix (A 65 (y_ix (A 81 (y_ix a1))))) (1 : Int32)) 38 (y_ix (A 65 (y_ix (A 81 (y_ix a1))))) (A 0 0)) 77 (y_ix (A 81 (y_ix a1))) (0 : Int32)) 39 (y_ix (A 65 (y_ix (A 81 (y_ix a1))))) ((A 39 (y_ix (A 65 (y_ix (A 81 (y_ix a1)))))) - (1 : Int32))) 75 (y_ix (A 81 (y_ix a1))) (0 : Int32))) (xm_u2 (xm_u2 (xm_u2 (xm_u2 (xm_u2 A 36 (y_ix (A 65 (y_ix (A 81 (y_ix a1))))) (1 : Int32)) 38 (y_ix (A 65 (y_ix (A 81 (y_ix a1))))) (A 0 0)) 77 (y_ix (A 81 (y_ix a1))) (0 : Int32)) 39 (y_ix (A 65 (y_ix (A 81 (y_ix a1))))) ((A 39 (y_ix (A 65 (y_ix (A 81 (y_ix a1)))))) - (1 : Int32))) 75 (y_ix (A 81 (y_ix a1))) (0 : Int32))).2 40 (y_ix (A 65 (y_ix (A 81 (y_ix a1)))))) - (1 : Int32))), (((5 : Int32), (A 81 (y_ix a1)), (-1 : Int32), (0 : Int32), (0 : Int32)) :: (((4 : Int32), (a1 + (1 : Int32)), a2, (0 : Int32), (0 : Int32)) :: js))))))) else (A, (((4 : Int32), (a1 + (1 : Int32)), a2, (0 : Int32), (0 : Int32)) :: js))))
def rg_takenBack (a1 a2 : Int32) (A : y_A) (js : List y_J) : Prop := ((a2 ≤ (a1 + (1 : Int32)) → (y_in a1 4400) ∧ (y_in (A 81 (y_ix a1)) 4400) ∧ (((0 : Int32) ≤ (A 65 (y_ix (A 81 (y_ix a1)))) → (((A 79 (y_ix (A 81 (y_ix a1)))) = (0 : Int32) → (((A 77 (y_ix (A 81 (y_ix a1)))) = (0 : Int32) → (((A 75 (y_ix (A 81 (y_ix a1)))) = (0 : Int32) → (((A 78 (y_ix (A 81 (y_ix a1)))) = (0 : Int32) → True) ∧ (¬ (A 78 (y_ix (A 81 (y_ix a1)))) = (0 : Int32) → (js.length < 20000) ∧ True))) ∧ (¬ (A 75 (y_ix (A 81 (y_ix a1)))) = (0 : Int32) → (rg_takenBack_104 20000 a1 a2 (A 81 (y_ix a1)) (A 65 (y_ix (A 81 (y_ix a1)))) (0 : Int32) (xm_u2 A 75 (y_ix (A 81 (y_ix a1))) (0 : Int32))) ∧ (rg_takenBack_131 20000 a1 a2 (A 81 (y_ix a1)) (A 65 (y_ix (A 81 (y_ix a1)))) (rf_takenBack_104 20000 a1 a2 (A 81 (y_ix a1)) (A 65 (y_ix (A 81 (y_ix a1)))) (0 : Int32) (xm_u2 A 75 (y_ix (A 81 (y_ix a1))) (0 : Int32))) (rf_takenBack_104 20000 a1 a2 (A 81 (y_ix a1)) (A 65 (y_ix (A 81 (y_ix a1)))) (0 : Int32) (xm_u2 A 75 (y_ix (A 81 (y_ix a1))) (0 : Int32))) (xm_u2 A 75 (y_ix (A 81 (y_ix a1))) (0 : Int32))) ∧ (y_in (A 65 (y_ix (A 81 (y_ix a1)))) 24) ∧ ((((rf_takenBack_131 20000 a1 a2 (A 81 (y_ix a1)) (A 65 (y_ix (A 81 (y_ix a1)))) (rf_takenBack_104 20000 a1 a2 (A 81 (y_ix a1)) (A 65 (y_ix (A 81 (y_ix a1)))) (0 : Int32) (xm_u2 A 75 (y_ix (A 81 (y_ix a1))) (0 : Int32))) (rf_takenBack_104 20000 a1 a2 (A 81 (y_ix a1)) (A 65 (y_ix (A 81 (y_ix a1)))) (0 : Int32) (xm_u2 A 75 (y_ix (A 81 (y_ix a1))) (0 : Int32))) (xm_u2 A 75 (y_ix (A 81 (y_ix a1))) (0 : Int32))).2 78 (y_ix (A 81 (y_ix a1)))) = (0 : Int32) → True) ∧ (¬ ((rf_takenBack_131 20000 a1 a2 (A 81 (y_ix a1)) (A 65 (y_ix (A 81 (y_ix a1)))) (rf_takenBack_104 20000 a1 a2 (A 81 (y_ix a1)) (A 65 (y_ix (A 81 (y_ix a1)))) (0 : Int32) (xm_u2 A 75 (y_ix (A 81 (y_ix a1))) (0 : Int32))) (rf_takenBack_104 20000 a1 a2 (A 81 (y_ix a1)) (A 65 (y_ix (A 81 (y_ix a1)))) (0 : Int32) (xm_u2 A 75 (y_ix (A 81 (y_ix a1))) (0 : Int32))) (xm_u2 A 75 (y_ix (A 81 (y_ix a1))) (0 : Int32))).2 78 (y_ix (A 81 (y_ix a1)))) = (0 : Int32) → (js.length < 20000) ∧ True))))) ∧ (¬ (A 77 (y_ix (A 81 (y_ix a1)))) = (0 : Int32) → (y_in (A 65 (y_ix (A 81 (y_ix a1)))) 24) ∧ (((A 75 (y_ix (A 81 (y_ix a1)))) = (0 : Int32) → (((A 78 (y_ix (A 81 (y_ix a1)))) = (0 : Int32) → True) ∧ (¬ (A 78 (y_ix (A 81 (y_ix a1)))) = (0 : Int32) → (js.length < 20000) ∧ True))) ∧ (¬ (A 75 (y_ix (A 81 (y_ix a1)))) = (0 : Int32) → (rg_takenBack_104 20000 a1 a2 (A 81 (y_ix a1)) (A 65 (y_ix (A 81 (y_ix a1)))) (0 : Int32) (xm_u2 (xm_u2 (xm_u2 A 77 (y_ix (A 81 (y_ix a1))) (0 : Int32)) 39 (y_ix (A 65 (y_ix (A 81 (y_ix a1))))) ((A 39 (y_ix (A 65 (y_ix (A 81 (y_ix a1)))))) - (1 : Int32))) 75 (y_ix (A 81 (y_ix a1))) (0 : Int32))) ∧ (rg_takenBack_131 20000 a1 a2 (A 81 (y_ix a1)) (A 65 (y_ix (A 81 (y_ix a1)))) (rf_takenBack_104 20000 a1 a2 (A 81 (y_ix a1)) (A 65 (y_ix (A 81 (y_ix a1)))) (0 : Int32) (xm_u2 (xm_u2 (xm_u2 A 77 (y_ix (A 81 (y_ix a1))) (0 : Int32)) 39 (y_ix (A 65 (y_ix (A 81 (y_ix a1))))) ((A 39 (y_ix (A 65 (y_ix (A 81 (y_ix a1)))))) - (1 : Int32))) 75 (y_ix (A 81 (y_ix a1))) (0 : Int32))) (rf_takenBack_104 20000 a1 a2 (A 81 (y_ix a1)) (A 65 (y_ix (A 81 (y_ix a1)))) (0 : Int32) (xm_u2 (xm_u2 (xm_u2 A 77 (y_ix (A 81 (y_ix a1))) (0 : Int32)) 39 (y_ix (A 65 (y_ix (A 81 (y_ix a1))))) ((A 39 (y_ix (A 65 (y_ix (A 81 (y_ix a1)))))) - (1 : Int32))) 75 (y_ix (A 81 (y_ix a1))) (0 : Int32))) (xm_u2 (xm_u2 (xm_u2 A 77 (y_ix (A 81 (y_ix a1))) (0 : Int32)) 39 (y_ix (A 65 (y_ix (A 81 (y_ix a1))))) ((A 39 (y_ix (A 65 (y_ix (A 81 (y_ix a1)))))) - (1 : Int32))) 75 (y_ix (A 81 (y_ix a1))) (0 : Int32))) ∧ ((((rf_takenBack_131 20000 a1 a2 (A 81 (y_ix a1)) (A 65 (y_ix (A 81 (y_ix a1)))) (rf_takenBack_104 20000 a1 a2 (A 81 (y_ix a1)) (A 65 (y_ix (A 81 (y_ix a1)))) (0 : Int32) (xm_u2 (xm_u2 (xm_u2 A 77 (y_ix (A 81 (y_ix a1))) (0 : Int32)) 39 (y_ix (A 65 (y_ix (A 81 (y_ix a1))))) ((A 39 (y_ix (A 65 (y_ix (A 81 (y_ix a1)))))) - (1 : Int32))) 75 (y_ix (A 81 (y_ix a1))) (0 : Int32))) (rf_takenBack_104 20000 a1 a2 (A 81 (y_ix a1)) (A 65 (y_ix (A 81 (y_ix a1)))) (0 : Int32) (xm_u2 (xm_u2 (xm_u2 A 77 (y_ix (A 81 (y_ix a1))) (0 : Int32)) 39 (y_ix (A 65 (y_ix (A 81 (y_ix a1))))) ((A 39 (y_ix (A 65 (y_ix (A 81 (y_ix a1)))))) - (1 : Int32))) 75 (y_ix (A 81 (y_ix a1))) (0 : Int32))) (xm_u2 (xm_u2 (xm_u2 A 77 (y_ix (A 81 (y_ix a1))) (0 : Int32)) 39 (y_ix (A 65 (y_ix (A 81 (y_ix a1))))) ((A 39 (y_ix (A 65 (y_ix (A 81 (y_ix a1)))))) - (1 : Int32))) 75 (y_ix (A 81 (y_ix a1))) (0 : Int32))).2 78 (y_ix (A 81 (y_ix a1)))) = (0 : Int32) → True) ∧ (¬ ((rf_takenBack_131 20000 a1 a2 (A 81 (y_ix a1)) (A 65 (y_ix (A 81 (y_ix a1)))) (rf_takenBack_104 20000 a1 a2 (A 81 (y_ix a1)) (A 65 (y_ix (A 81 (y_ix a1)))) (0 : Int32) (xm_u2 (xm_u2 (xm_u2 A 77 (y_ix (A 81 (y_ix a1))) (0 : Int32)) 39 (y_ix (A 65 (y_ix (A 81 (y_ix a1))))) ((A 39 (y_ix (A 65 (y_ix (A 81 (y_ix a1)))))) - (1 : Int32))) 75 (y_ix (A 81 (y_ix a1))) (0 : Int32))) (rf_takenBack_104 20000 a1 a2 (A 81 (y_ix a1)) (A 65 (y_ix (A 81 (y_ix a1)))) (0 : Int32) (xm_u2 (xm_u2 (xm_u2 A 77 (y_ix (A 81 (y_ix a1))) (0 : Int32)) 39 (y_ix (A 65 (y_ix (A 81 (y_ix a1))))) ((A 39 (y_ix (A 65 (y_ix (A 81 (y_ix a1)))))) - (1 : Int32))) 75 (y_ix (A 81 (y_ix a1))) (0 : Int32))) (xm_u2 (xm_u2 (xm_u2 A 77 (y_ix (A 81 (y_ix a1))) (0 : Int32)) 39 (y_ix (A 65 (y_ix (A 81 (y_ix a1))))) ((A 39 (y_ix (A 65 (y_ix (A 81 (y_ix a1)))))) - (1 : Int32))) 75 (y_ix (A 81 (y_ix a1))) (0 : Int32))).2 78 (y_ix (A 81 (y_ix a1)))) = (0 : Int32) → (js.length < 20000) ∧ True))))))) ∧ (¬ (A 79 (y_ix (A 81 (y_ix a1)))) = (0 : Int32) → (rg_opens (A 65 (y_ix (A 81 (y_ix a1)))) (A 0 0) A) ∧ (((A 77 (y_ix (A 81 (y_ix a1)))) = (0 : Int32) → (((A 75 (y_ix (A 81 (y_ix a1)))) = (0 : Int32) → (((A 78 (y_ix (A 81 (y_ix a1)))) = (0 : Int32) → True) ∧ (¬ (A 78 (y_ix (A 81 (y_ix a1)))) = (0 : Int32) → (js.length < 20000) ∧ True))) ∧ (¬ (A 75 (y_ix (A 81 (y_ix a1)))) = (0 : Int32) → (rg_takenBack_104 20000 a1 a2 (A 81 (y_ix a1)) (A 65 (y_ix (A 81 (y_ix a1)))) (0 : Int32) (xm_u2 (xm_u2 (xm_u2 A 36 (y_ix (A 65 (y_ix (A 81 (y_ix a1))))) (1 : Int32)) 38 (y_ix (A 65 (y_ix (A 81 (y_ix a1))))) (A 0 0)) 75 (y_ix (A 81 (y_ix a1))) (0 : Int32))) ∧ (rg_takenBack_131 20000 a1 a2 (A 81 (y_ix a1)) (A 65 (y_ix (A 81 (y_ix a1)))) (rf_takenBack_104 20000 a1 a2 (A 81 (y_ix a1)) (A 65 (y_ix (A 81 (y_ix a1)))) (0 : Int32) (xm_u2 (xm_u2 (xm_u2 A 36 (y_ix (A 65 (y_ix (A 81 (y_ix a1))))) (1 : Int32)) 38 (y_ix (A 65 (y_ix (A 81 (y_ix a1))))) (A 0 0)) 75 (y_ix (A 81 (y_ix a1))) (0 : Int32))) (rf_takenBack_104 20000 a1 a2 (A 81 (y_ix a1)) (A 65 (y_ix (A 81 (y_ix a1)))) (0 : Int32) (xm_u2 (xm_u2 (xm_u2 A 36 (y_ix (A 65 (y_ix (A 81 (y_ix a1))))) (1 : Int32)) 38 (y_ix (A 65 (y_ix (A 81 (y_ix a1))))) (A 0 0)) 75 (y_ix (A 81 (y_ix a1))) (0 : Int32))) (xm_u2 (xm_u2 (xm_u2 A 36 (y_ix (A 65 (y_ix (A 81 (y_ix a1))))) (1 : Int32)) 38 (y_ix (A 65 (y_ix (A 81 (y_ix a1))))) (A 0 0)) 75 (y_ix (A 81 (y_ix a1))) (0 : Int32))) ∧ (y_in (A 65 (y_ix (A 81 (y_ix a1)))) 24) ∧ ((((rf_takenBack_131 20000 a1 a2 (A 81 (y_ix a1)) (A 65 (y_ix (A 81 (y_ix a1)))) (rf_takenBack_104 20000 a1 a2 (A 81 (y_ix a1)) (A 65 (y_ix (A 81 (y_ix a1)))) (0 : Int32) (xm_u2 (xm_u2 (xm_u2 A 36 (y_ix (A 65 (y_ix (A 81 (y_ix a1))))) (1 : Int32)) 38 (y_ix (A 65 (y_ix (A 81 (y_ix a1))))) (A 0 0)) 75 (y_ix (A 81 (y_ix a1))) (0 : Int32))) (rf_takenBack_104 20000 a1 a2 (A 81 (y_ix a1)) (A 65 (y_ix (A 81 (y_ix a1)))) (0 : Int32) (xm_u2 (xm_u2 (xm_u2 A 36 (y_ix (A 65 (y_ix (A 81 (y_ix a1))))) (1 : Int32)) 38 (y_ix (A 65 (y_ix (A 81 (y_ix a1))))) (A 0 0)) 75 (y_ix (A 81 (y_ix a1))) (0 : Int32))) (xm_u2 (xm_u2 (xm_u2 A 36 (y_ix (A 65 (y_ix (A 81 (y_ix a1))))) (1 : Int32)) 38 (y_ix (A 65 (y_ix (A 81 (y_ix a1))))) (A 0 0)) 75 (y_ix (A 81 (y_ix a1))) (0 : Int32))).2 78 (y_ix (A 81 (y_ix a1)))) = (0 : Int32) → True) ∧ (¬ ((rf_takenBack_131 20000 a1 a2 (A 81 (y_ix a1)) (A 65 (y_ix (A 81 (y_ix a1)))) (rf_takenBack_104 20000 a1 a2 (A 81 (y_ix a1)) (A 65 (y_ix (A 81 (y_ix a1)))) (0 : Int32) (xm_u2 (xm_u2 (xm_u2 A 36 (y_ix (A 65 (y_ix (A 81 (y_ix a1))))) (1 : Int32)) 38 (y_ix (A 65 (y_ix (A 81 (y_ix a1))))) (A 0 0)) 75 (y_ix (A 81 (y_ix a1))) (0 : Int32))) (rf_takenBack_104 20000 a1 a2 (A 81 (y_ix a1)) (A 65 (y_ix (A 81 (y_ix a1)))) (0 : Int32) (xm_u2 (xm_u2 (xm_u2 A 36 (y_ix (A 65 (y_ix (A 81 (y_ix a1))))) (1 : Int32)) 38 (y_ix (A 65 (y_ix (A 81 (y_ix a1))))) (A 0 0)) 75 (y_ix (A 81 (y_ix a1))) (0 : Int32))) (xm_u2 (xm_u2 (xm_u2 A 36 (y_ix (A 65 (y_ix (A 81 (y_ix a1))))) (1 : Int32)) 38 (y_ix (A 65 (y_ix (A 81 (y_ix a1))))) (A 0 0)) 75 (y_ix (A 81 (y_ix a1))) (0 : Int32))).2 78 (y_ix (A 81 (y_ix a1)))) = (0 : Int32) → (js.length < 20000) ∧ True))))) ∧ (¬ (A 77 (y_ix (A 81 (y_ix a1)))) = (0 : Int32) → (y_in (A 65 (y_ix (A 81 (y_ix a1)))) 24) ∧ (((A 75 (y_ix (A 81 (y_ix a1)))) = (0 : Int32) → (((A 78 (y_ix (A 81 (y_ix a1)))) = (0 : Int32) → True) ∧ (¬ (A 78 (y_ix (A 81 (y_ix a1)))) = (0 : Int32) → (js.length < 20000) ∧ True))) ∧ (¬ (A 75 (y_ix (A 81 (y_ix a1)))) = (0 : Int32) → (rg_takenBack_104 20000 a1 a2 (A 81 (y_ix a1)) (A 65 (y_ix (A 81 (y_ix a1)))) (0 : Int32) (xm_u2 (xm_u2 (xm_u2 (xm_u2 (xm_u2 A 36 (y_ix (A 65 (y_ix (A 81 (y_ix a1))))) (1 : Int32)) 38 (y_ix (A 65 (y_ix (A 81 (y_ix a1))))) (A 0 0)) 77 (y_ix (A 81 (y_ix a1))) (0 : Int32)) 39 (y_ix (A 65 (y_ix (A 81 (y_ix a1))))) ((A 39 (y_ix (A 65 (y_ix (A 81 (y_ix a1)))))) - (1 : Int32))) 75 (y_ix (A 81 (y_ix a1))) (0 : Int32))) ∧ (rg_takenBack_131 20000 a1 a2 (A 81 (y_ix a1)) (A 65 (y_ix (A 81 (y_ix a1)))) (rf_takenBack_104 20000 a1 a2 (A 81 (y_ix a1)) (A 65 (y_ix (A 81 (y_ix a1)))) (0 : Int32) (xm_u2 (xm_u2 (xm_u2 (xm_u2 (xm_u2 A 36 (y_ix (A 65 (y_ix (A 81 (y_ix a1))))) (1 : Int32)) 38 (y_ix (A 65 (y_ix (A 81 (y_ix a1))))) (A 0 0)) 77 (y_ix (A 81 (y_ix a1))) (0 : Int32)) 39 (y_ix (A 65 (y_ix (A 81 (y_ix a1))))) ((A 39 (y_ix (A 65 (y_ix (A 81 (y_ix a1)))))) - (1 : Int32))) 75 (y_ix (A 81 (y_ix a1))) (0 : Int32))) (rf_takenBack_104 20000 a1 a2 (A 81 (y_ix a1)) (A 65 (y_ix (A 81 (y_ix a1)))) (0 : Int32) (xm_u2 (xm_u2 (xm_u2 (xm_u2 (xm_u2 A 36 (y_ix (A 65 (y_ix (A 81 (y_ix a1))))) (1 : Int32)) 38 (y_ix (A 65 (y_ix (A 81 (y_ix a1))))) (A 0 0)) 77 (y_ix (A 81 (y_ix a1))) (0 : Int32)) 39 (y_ix (A 65 (y_ix (A 81 (y_ix a1))))) ((A 39 (y_ix (A 65 (y_ix (A 81 (y_ix a1)))))) - (1 : Int32))) 75 (y_ix (A 81 (y_ix a1))) (0 : Int32))) (xm_u2 (xm_u2 (xm_u2 (xm_u2 (xm_u2 A 36 (y_ix (A 65 (y_ix (A 81 (y_ix a1))))) (1 : Int32)) 38 (y_ix (A 65 (y_ix (A 81 (y_ix a1))))) (A 0 0)) 77 (y_ix (A 81 (y_ix a1))) (0 : Int32)) 39 (y_ix (A 65 (y_ix (A 81 (y_ix a1))))) ((A 39 (y_ix (A 65 (y_ix (A 81 (y_ix a1)))))) - (1 : Int32))) 75 (y_ix (A 81 (y_ix a1))) (0 : Int32))) ∧ ((((rf_takenBack_131 20000 a1 a2 (A 81 (y_ix a1)) (A 65 (y_ix (A 81 (y_ix a1)))) (rf_takenBack_104 20000 a1 a2 (A 81 (y_ix a1)) (A 65 (y_ix (A 81 (y_ix a1)))) (0 : Int32) (xm_u2 (xm_u2 (xm_u2 (xm_u2 (xm_u2 A 36 (y_ix (A 65 (y_ix (A 81 (y_ix a1))))) (1 : Int32)) 38 (y_ix (A 65 (y_ix (A 81 (y_ix a1))))) (A 0 0)) 77 (y_ix (A 81 (y_ix a1))) (0 : Int32)) 39 (y_ix (A 65 (y_ix (A 81 (y_ix a1))))) ((A 39 (y_ix (A 65 (y_ix (A 81 (y_ix a1)))))) - (1 : Int32))) 75 (y_ix (A 81 (y_ix a1))) (0 : Int32))) (rf_takenBack_104 20000 a1 a2 (A 81 (y_ix a1)) (A 65 (y_ix (A 81 (y_ix a1)))) (0 : Int32) (xm_u2 (xm_u2 (xm_u2 (xm_u2 (xm_u2 A 36 (y_ix (A 65 (y_ix (A 81 (y_ix a1))))) (1 : Int32)) 38 (y_ix (A 65 (y_ix (A 81 (y_ix a1))))) (A 0 0)) 77 (y_ix (A 81 (y_ix a1))) (0 : Int32)) 39 (y_ix (A 65 (y_ix (A 81 (y_ix a1))))) ((A 39 (y_ix (A 65 (y_ix (A 81 (y_ix a1)))))) - (1 : Int32))) 75 (y_ix (A 81 (y_ix a1))) (0 : Int32))) (xm_u2 (xm_u2 (xm_u2 (xm_u2 (xm_u2 A 36 (y_ix (A 65 (y_ix (A 81 (y_ix a1))))) (1 : Int32)) 38 (y_ix (A 65 (y_ix (A 81 (y_ix a1))))) (A 0 0)) 77 (y_ix (A 81 (y_ix a1))) (0 : Int32)) 39 (y_ix (A 65 (y_ix (A 81 (y_ix a1))))) ((A 39 (y_ix (A 65 (y_ix (A 81 (y_ix a1)))))) - (1 : Int32))) 75 (y_ix (A 81 (y_ix a1))) (0 : Int32))).2 78 (y_ix (A 81 (y_ix a1)))) = (0 : Int32) → True) ∧ (¬ ((rf_takenBack_131 20000 a1 a2 (A 81 (y_ix a1)) (A 65 (y_ix (A 81 (y_ix a1)))) (rf_takenBack_104 20000 a1 a2 (A 81 (y_ix a1)) (A 65 (y_ix (A 81 (y_ix a1)))) (0 : Int32) (xm_u2 (xm_u2 (xm_u2 (xm_u2 (xm_u2 A 36 (y_ix (A 65 (y_ix (A 81 (y_ix a1))))) (1 : Int32)) 38 (y_ix (A 65 (y_ix (A 81 (y_ix a1))))) (A 0 0)) 77 (y_ix (A 81 (y_ix a1))) (0 : Int32)) 39 (y_ix (A 65 (y_ix (A 81 (y_ix a1))))) ((A 39 (y_ix (A 65 (y_ix (A 81 (y_ix a1)))))) - (1 : Int32))) 75 (y_ix (A 81 (y_ix a1))) (0 : Int32))) (rf_takenBack_104 20000 a1 a2 (A 81 (y_ix a1)) (A 65 (y_ix (A 81 (y_ix a1)))) (0 : Int32) (xm_u2 (xm_u2 (xm_u2 (xm_u2 (xm_u2 A 36 (y_ix (A 65 (y_ix (A 81 (y_ix a1))))) (1 : Int32)) 38 (y_ix (A 65 (y_ix (A 81 (y_ix a1))))) (A 0 0)) 77 (y_ix (A 81 (y_ix a1))) (0 : Int32)) 39 (y_ix (A 65 (y_ix (A 81 (y_ix a1))))) ((A 39 (y_ix (A 65 (y_ix (A 81 (y_ix a1)))))) - (1 : Int32))) 75 (y_ix (A 81 (y_ix a1))) (0 : Int32))) (xm_u2 (xm_u2 (xm_u2 (xm_u2 (xm_u2 A 36 (y_ix (A 65 (y_ix (A 81 (y_ix a1))))) (1 : Int32)) 38 (y_ix (A 65 (y_ix (A 81 (y_ix a1))))) (A 0 0)) 77 (y_ix (A 81 (y_ix a1))) (0 : Int32)) 39 (y_ix (A 65 (y_ix (A 81 (y_ix a1))))) ((A 39 (y_ix (A 65 (y_ix (A 81 (y_ix a1)))))) - (1 : Int32))) 75 (y_ix (A 81 (y_ix a1))) (0 : Int32))).2 78 (y_ix (A 81 (y_ix a1)))) = (0 : Int32) → (js.length < 20000) ∧ True))))))))) ∧ (¬ (0 : Int32) ≤ (A 65 (y_ix (A 81 (y_ix a1)))) → True))) ∧ (¬ a2 ≤ (a1 + (1 : Int32)) → (js.length < 20000) ∧ (y_in a1 4400) ∧ (y_in (A 81 (y_ix a1)) 4400) ∧ (((0 : Int32) ≤ (A 65 (y_ix (A 81 (y_ix a1)))) → (((A 79 (y_ix (A 81 (y_ix a1)))) = (0 : Int32) → (((A 77 (y_ix (A 81 (y_ix a1)))) = (0 : Int32) → (((A 75 (y_ix (A 81 (y_ix a1)))) = (0 : Int32) → (((A 78 (y_ix (A 81 (y_ix a1)))) = (0 : Int32) → True) ∧ (¬ (A 78 (y_ix (A 81 (y_ix a1)))) = (0 : Int32) → ((((4 : Int32), (a1 + (1 : Int32)), a2, (0 : Int32), (0 : Int32)) :: js).length < 20000) ∧ True))) ∧ (¬ (A 75 (y_ix (A 81 (y_ix a1)))) = (0 : Int32) → (rg_takenBack_104 20000 a1 a2 (A 81 (y_ix a1)) (A 65 (y_ix (A 81 (y_ix a1)))) (0 : Int32) (xm_u2 A 75 (y_ix (A 81 (y_ix a1))) (0 : Int32))) ∧ (rg_takenBack_131 20000 a1 a2 (A 81 (y_ix a1)) (A 65 (y_ix (A 81 (y_ix a1)))) (rf_takenBack_104 20000 a1 a2 (A 81 (y_ix a1)) (A 65 (y_ix (A 81 (y_ix a1)))) (0 : Int32) (xm_u2 A 75 (y_ix (A 81 (y_ix a1))) (0 : Int32))) (rf_takenBack_104 20000 a1 a2 (A 81 (y_ix a1)) (A 65 (y_ix (A 81 (y_ix a1)))) (0 : Int32) (xm_u2 A 75 (y_ix (A 81 (y_ix a1))) (0 : Int32))) (xm_u2 A 75 (y_ix (A 81 (y_ix a1))) (0 : Int32))) ∧ (y_in (A 65 (y_ix (A 81 (y_ix a1)))) 24) ∧ ((((rf_takenBack_131 20000 a1 a2 (A 81 (y_ix a1)) (A 65 (y_ix (A 81 (y_ix a1)))) (rf_takenBack_104 20000 a1 a2 (A 81 (y_ix a1)) (A 65 (y_ix (A 81 (y_ix a1)))) (0 : Int32) (xm_u2 A 75 (y_ix (A 81 (y_ix a1))) (0 : Int32))) (rf_takenBack_104 20000 a1 a2 (A 81 (y_ix a1)) (A 65 (y_ix (A 81 (y_ix a1)))) (0 : Int32) (xm_u2 A 75 (y_ix (A 81 (y_ix a1))) (0 : Int32))) (xm_u2 A 75 (y_ix (A 81 (y_ix a1))) (0 : Int32))).2 78 (y_ix (A 81 (y_ix a1)))) = (0 : Int32) → True) ∧ (¬ ((rf_takenBack_131 20000 a1 a2 (A 81 (y_ix a1)) (A 65 (y_ix (A 81 (y_ix a1)))) (rf_takenBack_104 20000 a1 a2 (A 81 (y_ix a1)) (A 65 (y_ix (A 81 (y_ix a1)))) (0 : Int32) (xm_u2 A 75 (y_ix (A 81 (y_ix a1))) (0 : Int32))) (rf_takenBack_104 20000 a1 a2 (A 81 (y_ix a1)) (A 65 (y_ix (A 81 (y_ix a1)))) (0 : Int32) (xm_u2 A 75 (y_ix (A 81 (y_ix a1))) (0 : Int32))) (xm_u2 A 75 (y_ix (A 81 (y_ix a1))) (0 : Int32))).2 78 (y_ix (A 81 (y_ix a1)))) = (0 : Int32) → ((((4 : Int32), (a1 + (1 : Int32)), a2, (0 : Int32), (0 : Int32)) :: js).length < 20000) ∧ True))))) ∧ (¬ (A 77 (y_ix (A 81 (y_ix a1)))) = (0 : Int32) → (y_in (A 65 (y_ix (A 81 (y_ix a1)))) 24) ∧ (((A 75 (y_ix (A 81 (y_ix a1)))) = (0 : Int32) → (((A 78 (y_ix (A 81 (y_ix a1)))) = (0 : Int32) → True) ∧ (¬ (A 78 (y_ix (A 81 (y_ix a1)))) = (0 : Int32) → ((((4 : Int32), (a1 + (1 : Int32)), a2, (0 : Int32), (0 : Int32)) :: js).length < 20000) ∧ True))) ∧ (¬ (A 75 (y_ix (A 81 (y_ix a1)))) = (0 : Int32) → (rg_takenBack_104 20000 a1 a2 (A 81 (y_ix a1)) (A 65 (y_ix (A 81 (y_ix a1)))) (0 : Int32) (xm_u2 (xm_u2 (xm_u2 A 77 (y_ix (A 81 (y_ix a1))) (0 : Int32)) 39 (y_ix (A 65 (y_ix (A 81 (y_ix a1))))) ((A 39 (y_ix (A 65 (y_ix (A 81 (y_ix a1)))))) - (1 : Int32))) 75 (y_ix (A 81 (y_ix a1))) (0 : Int32))) ∧ (rg_takenBack_131 20000 a1 a2 (A 81 (y_ix a1)) (A 65 (y_ix (A 81 (y_ix a1)))) (rf_takenBack_104 20000 a1 a2 (A 81 (y_ix a1)) (A 65 (y_ix (A 81 (y_ix a1)))) (0 : Int32) (xm_u2 (xm_u2 (xm_u2 A 77 (y_ix (A 81 (y_ix a1))) (0 : Int32)) 39 (y_ix (A 65 (y_ix (A 81 (y_ix a1))))) ((A 39 (y_ix (A 65 (y_ix (A 81 (y_ix a1)))))) - (1 : Int32))) 75 (y_ix (A 81 (y_ix a1))) (0 : Int32))) (rf_takenBack_104 20000 a1 a2 (A 81 (y_ix a1)) (A 65 (y_ix (A 81 (y_ix a1)))) (0 : Int32) (xm_u2 (xm_u2 (xm_u2 A 77 (y_ix (A 81 (y_ix a1))) (0 : Int32)) 39 (y_ix (A 65 (y_ix (A 81 (y_ix a1))))) ((A 39 (y_ix (A 65 (y_ix (A 81 (y_ix a1)))))) - (1 : Int32))) 75 (y_ix (A 81 (y_ix a1))) (0 : Int32))) (xm_u2 (xm_u2 (xm_u2 A 77 (y_ix (A 81 (y_ix a1))) (0 : Int32)) 39 (y_ix (A 65 (y_ix (A 81 (y_ix a1))))) ((A 39 (y_ix (A 65 (y_ix (A 81 (y_ix a1)))))) - (1 : Int32))) 75 (y_ix (A 81 (y_ix a1))) (0 : Int32))) ∧ ((((rf_takenBack_131 20000 a1 a2 (A 81 (y_ix a1)) (A 65 (y_ix (A 81 (y_ix a1)))) (rf_takenBack_104 20000 a1 a2 (A 81 (y_ix a1)) (A 65 (y_ix (A 81 (y_ix a1)))) (0 : Int32) (xm_u2 (xm_u2 (xm_u2 A 77 (y_ix (A 81 (y_ix a1))) (0 : Int32)) 39 (y_ix (A 65 (y_ix (A 81 (y_ix a1))))) ((A 39 (y_ix (A 65 (y_ix (A 81 (y_ix a1)))))) - (1 : Int32))) 75 (y_ix (A 81 (y_ix a1))) (0 : Int32))) (rf_takenBack_104 20000 a1 a2 (A 81 (y_ix a1)) (A 65 (y_ix (A 81 (y_ix a1)))) (0 : Int32) (xm_u2 (xm_u2 (xm_u2 A 77 (y_ix (A 81 (y_ix a1))) (0 : Int32)) 39 (y_ix (A 65 (y_ix (A 81 (y_ix a1))))) ((A 39 (y_ix (A 65 (y_ix (A 81 (y_ix a1)))))) - (1 : Int32))) 75 (y_ix (A 81 (y_ix a1))) (0 : Int32))) (xm_u2 (xm_u2 (xm_u2 A 77 (y_ix (A 81 (y_ix a1))) (0 : Int32)) 39 (y_ix (A 65 (y_ix (A 81 (y_ix a1))))) ((A 39 (y_ix (A 65 (y_ix (A 81 (y_ix a1)))))) - (1 : Int32))) 75 (y_ix (A 81 (y_ix a1))) (0 : Int32))).2 78 (y_ix (A 81 (y_ix a1)))) = (0 : Int32) → True) ∧ (¬ ((rf_takenBack_131 20000 a1 a2 (A 81 (y_ix a1)) (A 65 (y_ix (A 81 (y_ix a1)))) (rf_takenBack_104 20000 a1 a2 (A 81 (y_ix a1)) (A 65 (y_ix (A 81 (y_ix a1)))) (0 : Int32) (xm_u2 (xm_u2 (xm_u2 A 77 (y_ix (A 81 (y_ix a1))) (0 : Int32)) 39 (y_ix (A 65 (y_ix (A 81 (y_ix a1))))) ((A 39 (y_ix (A 65 (y_ix (A 81 (y_ix a1)))))) - (1 : Int32))) 75 (y_ix (A 81 (y_ix a1))) (0 : Int32))) (rf_takenBack_104 20000 a1 a2 (A 81 (y_ix a1)) (A 65 (y_ix (A 81 (y_ix a1)))) (0 : Int32) (xm_u2 (xm_u2 (xm_u2 A 77 (y_ix (A 81 (y_ix a1))) (0 : Int32)) 39 (y_ix (A 65 (y_ix (A 81 (y_ix a1))))) ((A 39 (y_ix (A 65 (y_ix (A 81 (y_ix a1)))))) - (1 : Int32))) 75 (y_ix (A 81 (y_ix a1))) (0 : Int32))) (xm_u2 (xm_u2 (xm_u2 A 77 (y_ix (A 81 (y_ix a1))) (0 : Int32)) 39 (y_ix (A 65 (y_ix (A 81 (y_ix a1))))) ((A 39 (y_ix (A 65 (y_ix (A 81 (y_ix a1)))))) - (1 : Int32))) 75 (y_ix (A 81 (y_ix a1))) (0 : Int32))).2 78 (y_ix (A 81 (y_ix a1)))) = (0 : Int32) → ((((4 : Int32), (a1 + (1 : Int32)), a2, (0 : Int32), (0 : Int32)) :: js).length < 20000) ∧ True))))))) ∧ (¬ (A 79 (y_ix (A 81 (y_ix a1)))) = (0 : Int32) → (rg_opens (A 65 (y_ix (A 81 (y_ix a1)))) (A 0 0) A) ∧ (((A 77 (y_ix (A 81 (y_ix a1)))) = (0 : Int32) → (((A 75 (y_ix (A 81 (y_ix a1)))) = (0 : Int32) → (((A 78 (y_ix (A 81 (y_ix a1)))) = (0 : Int32) → True) ∧ (¬ (A 78 (y_ix (A 81 (y_ix a1)))) = (0 : Int32) → ((((4 : Int32), (a1 + (1 : Int32)), a2, (0 : Int32), (0 : Int32)) :: js).length < 20000) ∧ True))) ∧ (¬ (A 75 (y_ix (A 81 (y_ix a1)))) = (0 : Int32) → (rg_takenBack_104 20000 a1 a2 (A 81 (y_ix a1)) (A 65 (y_ix (A 81 (y_ix a1)))) (0 : Int32) (xm_u2 (xm_u2 (xm_u2 A 36 (y_ix (A 65 (y_ix (A 81 (y_ix a1))))) (1 : Int32)) 38 (y_ix (A 65 (y_ix (A 81 (y_ix a1))))) (A 0 0)) 75 (y_ix (A 81 (y_ix a1))) (0 : Int32))) ∧ (rg_takenBack_131 20000 a1 a2 (A 81 (y_ix a1)) (A 65 (y_ix (A 81 (y_ix a1)))) (rf_takenBack_104 20000 a1 a2 (A 81 (y_ix a1)) (A 65 (y_ix (A 81 (y_ix a1)))) (0 : Int32) (xm_u2 (xm_u2 (xm_u2 A 36 (y_ix (A 65 (y_ix (A 81 (y_ix a1))))) (1 : Int32)) 38 (y_ix (A 65 (y_ix (A 81 (y_ix a1))))) (A 0 0)) 75 (y_ix (A 81 (y_ix a1))) (0 : Int32))) (rf_takenBack_104 20000 a1 a2 (A 81 (y_ix a1)) (A 65 (y_ix (A 81 (y_ix a1)))) (0 : Int32) (xm_u2 (xm_u2 (xm_u2 A 36 (y_ix (A 65 (y_ix (A 81 (y_ix a1))))) (1 : Int32)) 38 (y_ix (A 65 (y_ix (A 81 (y_ix a1))))) (A 0 0)) 75 (y_ix (A 81 (y_ix a1))) (0 : Int32))) (xm_u2 (xm_u2 (xm_u2 A 36 (y_ix (A 65 (y_ix (A 81 (y_ix a1))))) (1 : Int32)) 38 (y_ix (A 65 (y_ix (A 81 (y_ix a1))))) (A 0 0)) 75 (y_ix (A 81 (y_ix a1))) (0 : Int32))) ∧ (y_in (A 65 (y_ix (A 81 (y_ix a1)))) 24) ∧ ((((rf_takenBack_131 20000 a1 a2 (A 81 (y_ix a1)) (A 65 (y_ix (A 81 (y_ix a1)))) (rf_takenBack_104 20000 a1 a2 (A 81 (y_ix a1)) (A 65 (y_ix (A 81 (y_ix a1)))) (0 : Int32) (xm_u2 (xm_u2 (xm_u2 A 36 (y_ix (A 65 (y_ix (A 81 (y_ix a1))))) (1 : Int32)) 38 (y_ix (A 65 (y_ix (A 81 (y_ix a1))))) (A 0 0)) 75 (y_ix (A 81 (y_ix a1))) (0 : Int32))) (rf_takenBack_104 20000 a1 a2 (A 81 (y_ix a1)) (A 65 (y_ix (A 81 (y_ix a1)))) (0 : Int32) (xm_u2 (xm_u2 (xm_u2 A 36 (y_ix (A 65 (y_ix (A 81 (y_ix a1))))) (1 : Int32)) 38 (y_ix (A 65 (y_ix (A 81 (y_ix a1))))) (A 0 0)) 75 (y_ix (A 81 (y_ix a1))) (0 : Int32))) (xm_u2 (xm_u2 (xm_u2 A 36 (y_ix (A 65 (y_ix (A 81 (y_ix a1))))) (1 : Int32)) 38 (y_ix (A 65 (y_ix (A 81 (y_ix a1))))) (A 0 0)) 75 (y_ix (A 81 (y_ix a1))) (0 : Int32))).2 78 (y_ix (A 81 (y_ix a1)))) = (0 : Int32) → True) ∧ (¬ ((rf_takenBack_131 20000 a1 a2 (A 81 (y_ix a1)) (A 65 (y_ix (A 81 (y_ix a1)))) (rf_takenBack_104 20000 a1 a2 (A 81 (y_ix a1)) (A 65 (y_ix (A 81 (y_ix a1)))) (0 : Int32) (xm_u2 (xm_u2 (xm_u2 A 36 (y_ix (A 65 (y_ix (A 81 (y_ix a1))))) (1 : Int32)) 38 (y_ix (A 65 (y_ix (A 81 (y_ix a1))))) (A 0 0)) 75 (y_ix (A 81 (y_ix a1))) (0 : Int32))) (rf_takenBack_104 20000 a1 a2 (A 81 (y_ix a1)) (A 65 (y_ix (A 81 (y_ix a1)))) (0 : Int32) (xm_u2 (xm_u2 (xm_u2 A 36 (y_ix (A 65 (y_ix (A 81 (y_ix a1))))) (1 : Int32)) 38 (y_ix (A 65 (y_ix (A 81 (y_ix a1))))) (A 0 0)) 75 (y_ix (A 81 (y_ix a1))) (0 : Int32))) (xm_u2 (xm_u2 (xm_u2 A 36 (y_ix (A 65 (y_ix (A 81 (y_ix a1))))) (1 : Int32)) 38 (y_ix (A 65 (y_ix (A 81 (y_ix a1))))) (A 0 0)) 75 (y_ix (A 81 (y_ix a1))) (0 : Int32))).2 78 (y_ix (A 81 (y_ix a1)))) = (0 : Int32) → ((((4 : Int32), (a1 + (1 : Int32)), a2, (0 : Int32), (0 : Int32)) :: js).length < 20000) ∧ True))))) ∧ (¬ (A 77 (y_ix (A 81 (y_ix a1)))) = (0 : Int32) → (y_in (A 65 (y_ix (A 81 (y_ix a1)))) 24) ∧ (((A 75 (y_ix (A 81 (y_ix a1)))) = (0 : Int32) → (((A 78 (y_ix (A 81 (y_ix a1)))) = (0 : Int32) → True) ∧ (¬ (A 78 (y_ix (A 81 (y_ix a1)))) = (0 : Int32) → ((((4 : Int32), (a1 + (1 : Int32)), a2, (0 : Int32), (0 : Int32)) :: js).length < 20000) ∧ True))) ∧ (¬ (A 75 (y_ix (A 81 (y_ix a1)))) = (0 : Int32) → (rg_takenBack_104 20000 a1 a2 (A 81 (y_ix a1)) (A 65 (y_ix (A 81 (y_ix a1)))) (0 : Int32) (xm_u2 (xm_u2 (xm_u2 (xm_u2 (xm_u2 A 36 (y_ix (A 65 (y_ix (A 81 (y_ix a1))))) (1 : Int32)) 38 (y_ix (A 65 (y_ix (A 81 (y_ix a1))))) (A 0 0)) 77 (y_ix (A 81 (y_ix a1))) (0 : Int32)) 39 (y_ix (A 65 (y_ix (A 81 (y_ix a1))))) ((A 39 (y_ix (A 65 (y_ix (A 81 (y_ix a1)))))) - (1 : Int32))) 75 (y_ix (A 81 (y_ix a1))) (0 : Int32))) ∧ (rg_takenBack_131 20000 a1 a2 (A 81 (y_ix a1)) (A 65 (y_ix (A 81 (y_ix a1)))) (rf_takenBack_104 20000 a1 a2 (A 81 (y_ix a1)) (A 65 (y_ix (A 81 (y_ix a1)))) (0 : Int32) (xm_u2 (xm_u2 (xm_u2 (xm_u2 (xm_u2 A 36 (y_ix (A 65 (y_ix (A 81 (y_ix a1))))) (1 : Int32)) 38 (y_ix (A 65 (y_ix (A 81 (y_ix a1))))) (A 0 0)) 77 (y_ix (A 81 (y_ix a1))) (0 : Int32)) 39 (y_ix (A 65 (y_ix (A 81 (y_ix a1))))) ((A 39 (y_ix (A 65 (y_ix (A 81 (y_ix a1)))))) - (1 : Int32))) 75 (y_ix (A 81 (y_ix a1))) (0 : Int32))) (rf_takenBack_104 20000 a1 a2 (A 81 (y_ix a1)) (A 65 (y_ix (A 81 (y_ix a1)))) (0 : Int32) (xm_u2 (xm_u2 (xm_u2 (xm_u2 (xm_u2 A 36 (y_ix (A 65 (y_ix (A 81 (y_ix a1))))) (1 : Int32)) 38 (y_ix (A 65 (y_ix (A 81 (y_ix a1))))) (A 0 0)) 77 (y_ix (A 81 (y_ix a1))) (0 : Int32)) 39 (y_ix (A 65 (y_ix (A 81 (y_ix a1))))) ((A 39 (y_ix (A 65 (y_ix (A 81 (y_ix a1)))))) - (1 : Int32))) 75 (y_ix (A 81 (y_ix a1))) (0 : Int32))) (xm_u2 (xm_u2 (xm_u2 (xm_u2 (xm_u2 A 36 (y_ix (A 65 (y_ix (A 81 (y_ix a1))))) (1 : Int32)) 38 (y_ix (A 65 (y_ix (A 81 (y_ix a1))))) (A 0 0)) 77 (y_ix (A 81 (y_ix a1))) (0 : Int32)) 39 (y_ix (A 65 (y_ix (A 81 (y_ix a1))))) ((A 39 (y_ix (A 65 (y_ix (A 81 (y_ix a1)))))) - (1 : Int32))) 75 (y_ix (A 81 (y_ix a1))) (0 : Int32))) ∧ ((((rf_takenBack_131 20000 a1 a2 (A 81 (y_ix a1)) (A 65 (y_ix (A 81 (y_ix a1)))) (rf_takenBack_104 20000 a1 a2 (A 81 (y_ix a1)) (A 65 (y_ix (A 81 (y_ix a1)))) (0 : Int32) (xm_u2 (xm_u2 (xm_u2 (xm_u2 (xm_u2 A 36 (y_ix (A 65 (y_ix (A 81 (y_ix a1))))) (1 : Int32)) 38 (y_ix (A 65 (y_ix (A 81 (y_ix a1))))) (A 0 0)) 77 (y_ix (A 81 (y_ix a1))) (0 : Int32)) 39 (y_ix (A 65 (y_ix (A 81 (y_ix a1))))) ((A 39 (y_ix (A 65 (y_ix (A 81 (y_ix a1)))))) - (1 : Int32))) 75 (y_ix (A 81 (y_ix a1))) (0 : Int32))) (rf_takenBack_104 20000 a1 a2 (A 81 (y_ix a1)) (A 65 (y_ix (A 81 (y_ix a1)))) (0 : Int32) (xm_u2 (xm_u2 (xm_u2 (xm_u2 (xm_u2 A 36 (y_ix (A 65 (y_ix (A 81 (y_ix a1))))) (1 : Int32)) 38 (y_ix (A 65 (y_ix (A 81 (y_ix a1))))) (A 0 0)) 77 (y_ix (A 81 (y_ix a1))) (0 : Int32)) 39 (y_ix (A 65 (y_ix (A 81 (y_ix a1))))) ((A 39 (y_ix (A 65 (y_ix (A 81 (y_ix a1)))))) - (1 : Int32))) 75 (y_ix (A 81 (y_ix a1))) (0 : Int32))) (xm_u2 (xm_u2 (xm_u2 (xm_u2 (xm_u2 A 36 (y_ix (A 65 (y_ix (A 81 (y_ix a1))))) (1 : Int32)) 38 (y_ix (A 65 (y_ix (A 81 (y_ix a1))))) (A 0 0)) 77 (y_ix (A 81 (y_ix a1))) (0 : Int32)) 39 (y_ix (A 65 (y_ix (A 81 (y_ix a1))))) ((A 39 (y_ix (A 65 (y_ix (A 81 (y_ix a1)))))) - (1 : Int32))) 75 (y_ix (A 81 (y_ix a1))) (0 : Int32))).2 78 (y_ix (A 81 (y_ix a1)))) = (0 : Int32) → True) ∧ (¬ ((rf_takenBack_131 20000 a1 a2 (A 81 (y_ix a1)) (A 65 (y_ix (A 81 (y_ix a1)))) (rf_takenBack_104 20000 a1 a2 (A 81 (y_ix a1)) (A 65 (y_ix (A 81 (y_ix a1)))) (0 : Int32) (xm_u2 (xm_u2 (xm_u2 (xm_u2 (xm_u2 A 36 (y_ix (A 65 (y_ix (A 81 (y_ix a1))))) (1 : Int32)) 38 (y_ix (A 65 (y_ix (A 81 (y_ix a1))))) (A 0 0)) 77 (y_ix (A 81 (y_ix a1))) (0 : Int32)) 39 (y_ix (A 65 (y_ix (A 81 (y_ix a1))))) ((A 39 (y_ix (A 65 (y_ix (A 81 (y_ix a1)))))) - (1 : Int32))) 75 (y_ix (A 81 (y_ix a1))) (0 : Int32))) (rf_takenBack_104 20000 a1 a2 (A 81 (y_ix a1)) (A 65 (y_ix (A 81 (y_ix a1)))) (0 : Int32) (xm_u2 (xm_u2 (xm_u2 (xm_u2 (xm_u2 A 36 (y_ix (A 65 (y_ix (A 81 (y_ix a1))))) (1 : Int32)) 38 (y_ix (A 65 (y_ix (A 81 (y_ix a1))))) (A 0 0)) 77 (y_ix (A 81 (y_ix a1))) (0 : Int32)) 39 (y_ix (A 65 (y_ix (A 81 (y_ix a1))))) ((A 39 (y_ix (A 65 (y_ix (A 81 (y_ix a1)))))) - (1 : Int32))) 75 (y_ix (A 81 (y_ix a1))) (0 : Int32))) (xm_u2 (xm_u2 (xm_u2 (xm_u2 (xm_u2 A 36 (y_ix (A 65 (y_ix (A 81 (y_ix a1))))) (1 : Int32)) 38 (y_ix (A 65 (y_ix (A 81 (y_ix a1))))) (A 0 0)) 77 (y_ix (A 81 (y_ix a1))) (0 : Int32)) 39 (y_ix (A 65 (y_ix (A 81 (y_ix a1))))) ((A 39 (y_ix (A 65 (y_ix (A 81 (y_ix a1)))))) - (1 : Int32))) 75 (y_ix (A 81 (y_ix a1))) (0 : Int32))).2 78 (y_ix (A 81 (y_ix a1)))) = (0 : Int32) → ((((4 : Int32), (a1 + (1 : Int32)), a2, (0 : Int32), (0 : Int32)) :: js).length < 20000) ∧ True))))))))) ∧ (¬ (0 : Int32) ≤ (A 65 (y_ix (A 81 (y_ix a1)))) → True))))
theorem rh_takenBack {d : Nat} (hd : 1 ≤ d) {a1 a2 : Int32} {A : y_A} {js : List y_J} (hg : rg_takenBack a1 a2 A js) : rc d 154 [.inr (some (11, 0)), .inl a1, .inl a2] A js (y_V (rf_takenBack a1 a2 A js)) := by
  obtain ⟨d, rfl⟩ := Nat.exists_eq_add_of_le' hd
  obtain ⟨F, hk⟩ : ∃ F, rf_takenBack a1 a2 A js = F := ⟨_, rfl⟩
  rw [hk]
  show ra _ _ _ [some (.inr (some (11, 0))), some (.inl a1), some (.inl a2), none, none, none, none] _ _ _ _
  unfold rg_takenBack at hg
  unfold rf_takenBack at hk
  refine ra.s (pc' := 1) (st' := [.inl a1]) (fun _ => rfl) ?_
  refine ra.s (pc' := 2) (st' := [.inl (1 : Int32), .inl a1]) (fun _ => rfl) ?_
  refine ra.s (pc' := 3) (st' := [.inl (a1 + (1 : Int32))]) (fun _ => rfl) ?_
  refine ra.s (pc' := 4) (st' := [.inl a2, .inl (a1 + (1 : Int32))]) (fun _ => rfl) ?_
  refine ra.b (c := a2 ≤ (a1 + (1 : Int32))) (cd := .ge) (x := (a1 + (1 : Int32))) (y := a2) 18 7 (st' := []) (fun _ => rfl) (y_cge _ _) hk hg (fun h1 hg hk => ?_) (fun h1 hg hk => ?_)
  · skip
    refine ra.s (pc' := 19) (st' := [.inr (some (11, 0))]) (fun _ => rfl) ?_
    refine ra.ga (x := 81) (nx := 22) (c := 13) (i := 62) rfl rfl ?_
    refine ra.s (pc' := 23) (st' := [.inl a1, .inr (some (13, 62))]) (fun _ => rfl) ?_
    obtain ⟨h2, hg⟩ := hg
    refine ra.ld (nx := 24) (v := (A 81 (y_ix a1))) 81 4400 rfl rfl h2 rfl ?_
    refine ra.s (pc' := 25) (L' := [some (.inr (some (11, 0))), some (.inl a1), some (.inl a2), some (.inl (A 81 (y_ix a1))), none, none, none]) (st' := []) (fun _ => rfl) ?_
    refine ra.s (pc' := 26) (st' := [.inr (some (11, 0))]) (fun _ => rfl) ?_
    refine ra.ga (x := 65) (nx := 29) (c := 13) (i := 53) rfl rfl ?_
    refine ra.s (pc' := 30) (st' := [.inl (A 81 (y_ix a1)), .inr (some (13, 53))]) (fun _ => rfl) ?_
    obtain ⟨h3, hg⟩ := hg
    refine ra.ld (nx := 31) (v := (A 65 (y_ix (A 81 (y_ix a1))))) 65 4400 rfl rfl h3 rfl ?_
    refine ra.s (pc' := 33) (L' := [some (.inr (some (11, 0))), some (.inl a1), some (.inl a2), some (.inl (A 81 (y_ix a1))), some (.inl (A 65 (y_ix (A 81 (y_ix a1))))), none, none]) (st' := []) (fun _ => rfl) ?_
    refine ra.s (pc' := 35) (st' := [.inl (A 65 (y_ix (A 81 (y_ix a1))))]) (fun _ => rfl) ?_
    refine ra.b (c := (0 : Int32) ≤ (A 65 (y_ix (A 81 (y_ix a1))))) (cd := .ge) (x := (A 65 (y_ix (A 81 (y_ix a1))))) (y := (0 : Int32)) 39 38 (st' := []) (fun _ => rfl) (y_cge _ _) hk hg (fun h4 hg hk => ?_) (fun h4 hg hk => ?_)
    · skip
      refine ra.s (pc' := 40) (st' := [.inr (some (11, 0))]) (fun _ => rfl) ?_
      refine ra.ga (x := 79) (nx := 43) (c := 14) (i := 6) rfl rfl ?_
      refine ra.s (pc' := 44) (st' := [.inl (A 81 (y_ix a1)), .inr (some (14, 6))]) (fun _ => rfl) ?_
      refine ra.lz (nx := 45) (v := (A 79 (y_ix (A 81 (y_ix a1))))) 79 4400 rfl rfl h3 rfl ?_
      refine ra.b (c := (A 79 (y_ix (A 81 (y_ix a1)))) = (0 : Int32)) (cd := .eq) (x := (A 79 (y_ix (A 81 (y_ix a1))))) (y := (0 : Int32)) 58 48 (st' := []) (fun _ => rfl) (y_ceq _ _) hk hg (fun h5 hg hk => ?_) (fun h5 hg hk => ?_)
      · skip
        refine ra.s (pc' := 59) (st' := [.inr (some (11, 0))]) (fun _ => rfl) ?_
        refine ra.ga (x := 77) (nx := 62) (c := 14) (i := 4) rfl rfl ?_
        refine ra.s (pc' := 63) (st' := [.inl (A 81 (y_ix a1)), .inr (some (14, 4))]) (fun _ => rfl) ?_
        refine ra.lz (nx := 64) (v := (A 77 (y_ix (A 81 (y_ix a1))))) 77 4400 rfl rfl h3 rfl ?_
        refine ra.b (c := (A 77 (y_ix (A 81 (y_ix a1)))) = (0 : Int32)) (cd := .eq) (x := (A 77 (y_ix (A 81 (y_ix a1))))) (y := (0 : Int32)) 85 67 (st' := []) (fun _ => rfl) (y_ceq _ _) hk hg (fun h6 hg hk => ?_) (fun h6 hg hk => ?_)
        · skip
          refine ra.s (pc' := 86) (st' := [.inr (some (11, 0))]) (fun _ => rfl) ?_
          refine ra.ga (x := 75) (nx := 89) (c := 14) (i := 2) rfl rfl ?_
          refine ra.s (pc' := 90) (st' := [.inl (A 81 (y_ix a1)), .inr (some (14, 2))]) (fun _ => rfl) ?_
          refine ra.lz (nx := 91) (v := (A 75 (y_ix (A 81 (y_ix a1))))) 75 4400 rfl rfl h3 rfl ?_
          refine ra.b (c := (A 75 (y_ix (A 81 (y_ix a1)))) = (0 : Int32)) (cd := .eq) (x := (A 75 (y_ix (A 81 (y_ix a1))))) (y := (0 : Int32)) 190 94 (st' := []) (fun _ => rfl) (y_ceq _ _) hk hg (fun h7 hg hk => ?_) (fun h7 hg hk => ?_)
          · skip
            refine ra.s (pc' := 191) (st' := [.inr (some (11, 0))]) (fun _ => rfl) ?_
            refine ra.ga (x := 78) (nx := 194) (c := 14) (i := 5) rfl rfl ?_
            refine ra.s (pc' := 195) (st' := [.inl (A 81 (y_ix a1)), .inr (some (14, 5))]) (fun _ => rfl) ?_
            refine ra.lz (nx := 196) (v := (A 78 (y_ix (A 81 (y_ix a1))))) 78 4400 rfl rfl h3 rfl ?_
            refine ra.b (c := (A 78 (y_ix (A 81 (y_ix a1)))) = (0 : Int32)) (cd := .eq) (x := (A 78 (y_ix (A 81 (y_ix a1))))) (y := (0 : Int32)) 208 199 (st' := []) (fun _ => rfl) (y_ceq _ _) hk hg (fun h8 hg hk => ?_) (fun h8 hg hk => ?_)
            · skip
              subst hk
              exact ra.ret (r := none) (fun _ => rfl) ⟨rfl, rfl, rfl⟩
            · skip
              refine ra.s (pc' := 200) (st' := [.inr (some (11, 0))]) (fun _ => rfl) ?_
              refine ra.s (pc' := 201) (st' := [.inl (5 : Int32), .inr (some (11, 0))]) (fun _ => rfl) ?_
              refine ra.s (pc' := 202) (st' := [.inl (A 81 (y_ix a1)), .inl (5 : Int32), .inr (some (11, 0))]) (fun _ => rfl) ?_
              refine ra.s (pc' := 203) (st' := [.inl (-1 : Int32), .inl (A 81 (y_ix a1)), .inl (5 : Int32), .inr (some (11, 0))]) (fun _ => rfl) ?_
              refine ra.s (pc' := 204) (st' := [.inl (0 : Int32), .inl (-1 : Int32), .inl (A 81 (y_ix a1)), .inl (5 : Int32), .inr (some (11, 0))]) (fun _ => rfl) ?_
              refine ra.s (pc' := 205) (st' := [.inl (0 : Int32), .inl (0 : Int32), .inl (-1 : Int32), .inl (A 81 (y_ix a1)), .inl (5 : Int32), .inr (some (11, 0))]) (fun _ => rfl) ?_
              obtain ⟨h9, hg⟩ := hg
              refine ra.cV (m := 131) (as := [.inr (some (11, 0)), .inl (5 : Int32), .inl (A 81 (y_ix a1)), .inl (-1 : Int32), .inl (0 : Int32), .inl (0 : Int32)]) (nx := 208) (L' := [some (.inr (some (11, 0))), some (.inl a1), some (.inl a2), some (.inl (A 81 (y_ix a1))), some (.inl (A 65 (y_ix (A 81 (y_ix a1))))), none, none]) (st' := []) (fun _ => rfl) (rh_add h9) ?_
              show ra _ _ _ _ _ A (((5 : Int32), (A 81 (y_ix a1)), (-1 : Int32), (0 : Int32), (0 : Int32)) :: js) _
              subst hk
              exact ra.ret (r := none) (fun _ => rfl) ⟨rfl, rfl, rfl⟩
          · skip
            refine ra.s (pc' := 95) (st' := [.inr (some (11, 0))]) (fun _ => rfl) ?_
            refine ra.ga (x := 75) (nx := 98) (c := 14) (i := 2) rfl rfl ?_
            refine ra.s (pc' := 99) (st' := [.inl (A 81 (y_ix a1)), .inr (some (14, 2))]) (fun _ => rfl) ?_
            refine ra.s (pc' := 100) (st' := [.inl (0 : Int32), .inl (A 81 (y_ix a1)), .inr (some (14, 2))]) (fun _ => rfl) ?_
            refine ra.sz (nx := 101) 75 4400 rfl rfl h3 (Or.inl rfl) ?_
            refine ra.s (pc' := 102) (st' := [.inl (0 : Int32)]) (fun _ => rfl) ?_
            refine ra.s (pc' := 104) (L' := [some (.inr (some (11, 0))), some (.inl a1), some (.inl a2), some (.inl (A 81 (y_ix a1))), some (.inl (A 65 (y_ix (A 81 (y_ix a1))))), some (.inl (0 : Int32)), none]) (st' := []) (fun _ => rfl) ?_
            obtain ⟨h10, hg⟩ := hg
            refine rh_takenBack_104 (by omega) 20000 a1 a2 (A 81 (y_ix a1)) (A 65 (y_ix (A 81 (y_ix a1)))) (0 : Int32) none (xm_u2 A 75 (y_ix (A 81 (y_ix a1))) (0 : Int32)) js h10 rfl ?_
            intro e1x
            refine ra.s (pc' := 129) (st' := [.inl (rf_takenBack_104 20000 a1 a2 (A 81 (y_ix a1)) (A 65 (y_ix (A 81 (y_ix a1)))) (0 : Int32) (xm_u2 A 75 (y_ix (A 81 (y_ix a1))) (0 : Int32)))]) (fun _ => rfl) ?_
            refine ra.s (pc' := 131) (L' := [some (.inr (some (11, 0))), some (.inl a1), some (.inl a2), some (.inl (A 81 (y_ix a1))), some (.inl (A 65 (y_ix (A 81 (y_ix a1))))), some (.inl (rf_takenBack_104 20000 a1 a2 (A 81 (y_ix a1)) (A 65 (y_ix (A 81 (y_ix a1)))) (0 : Int32) (xm_u2 A 75 (y_ix (A 81 (y_ix a1))) (0 : Int32)))), some (.inl (rf_takenBack_104 20000 a1 a2 (A 81 (y_ix a1)) (A 65 (y_ix (A 81 (y_ix a1)))) (0 : Int32) (xm_u2 A 75 (y_ix (A 81 (y_ix a1))) (0 : Int32))))]) (st' := []) (fun _ => rfl) ?_
            obtain ⟨h11, hg⟩ := hg
            refine rh_takenBack_131 (by omega) 20000 a1 a2 (A 81 (y_ix a1)) (A 65 (y_ix (A 81 (y_ix a1)))) (rf_takenBack_104 20000 a1 a2 (A 81 (y_ix a1)) (A 65 (y_ix (A 81 (y_ix a1)))) (0 : Int32) (xm_u2 A 75 (y_ix (A 81 (y_ix a1))) (0 : Int32))) (rf_takenBack_104 20000 a1 a2 (A 81 (y_ix a1)) (A 65 (y_ix (A 81 (y_ix a1)))) (0 : Int32) (xm_u2 A 75 (y_ix (A 81 (y_ix a1))) (0 : Int32))) (xm_u2 A 75 (y_ix (A 81 (y_ix a1))) (0 : Int32)) js h11 rfl ?_
            refine ra.s (pc' := 180) (st' := [.inr (some (11, 0))]) (fun _ => rfl) ?_
            refine ra.ga (x := 40) (nx := 183) (c := 13) (i := 33) rfl rfl ?_
            refine ra.s (pc' := 185) (st' := [.inl (A 65 (y_ix (A 81 (y_ix a1)))), .inr (some (13, 33))]) (fun _ => rfl) ?_
            refine ra.s (pc' := 186) (st' := [.inl (A 65 (y_ix (A 81 (y_ix a1)))), .inr (some (13, 33)), .inl (A 65 (y_ix (A 81 (y_ix a1)))), .inr (some (13, 33))]) (fun _ => rfl) ?_
            obtain ⟨h12, hg⟩ := hg
            refine ra.ld (nx := 187) (v := ((rf_takenBack_131 20000 a1 a2 (A 81 (y_ix a1)) (A 65 (y_ix (A 81 (y_ix a1)))) (rf_takenBack_104 20000 a1 a2 (A 81 (y_ix a1)) (A 65 (y_ix (A 81 (y_ix a1)))) (0 : Int32) (xm_u2 A 75 (y_ix (A 81 (y_ix a1))) (0 : Int32))) (rf_takenBack_104 20000 a1 a2 (A 81 (y_ix a1)) (A 65 (y_ix (A 81 (y_ix a1)))) (0 : Int32) (xm_u2 A 75 (y_ix (A 81 (y_ix a1))) (0 : Int32))) (xm_u2 A 75 (y_ix (A 81 (y_ix a1))) (0 : Int32))).2 40 (y_ix (A 65 (y_ix (A 81 (y_ix a1))))))) 40 24 rfl rfl h12 rfl ?_
            refine ra.s (pc' := 188) (st' := [.inl (1 : Int32), .inl ((rf_takenBack_131 20000 a1 a2 (A 81 (y_ix a1)) (A 65 (y_ix (A 81 (y_ix a1)))) (rf_takenBack_104 20000 a1 a2 (A 81 (y_ix a1)) (A 65 (y_ix (A 81 (y_ix a1)))) (0 : Int32) (xm_u2 A 75 (y_ix (A 81 (y_ix a1))) (0 : Int32))) (rf_takenBack_104 20000 a1 a2 (A 81 (y_ix a1)) (A 65 (y_ix (A 81 (y_ix a1)))) (0 : Int32) (xm_u2 A 75 (y_ix (A 81 (y_ix a1))) (0 : Int32))) (xm_u2 A 75 (y_ix (A 81 (y_ix a1))) (0 : Int32))).2 40 (y_ix (A 65 (y_ix (A 81 (y_ix a1)))))), .inl (A 65 (y_ix (A 81 (y_ix a1)))), .inr (some (13, 33))]) (fun _ => rfl) ?_
            refine ra.s (pc' := 189) (st' := [.inl (((rf_takenBack_131 20000 a1 a2 (A 81 (y_ix a1)) (A 65 (y_ix (A 81 (y_ix a1)))) (rf_takenBack_104 20000 a1 a2 (A 81 (y_ix a1)) (A 65 (y_ix (A 81 (y_ix a1)))) (0 : Int32) (xm_u2 A 75 (y_ix (A 81 (y_ix a1))) (0 : Int32))) (rf_takenBack_104 20000 a1 a2 (A 81 (y_ix a1)) (A 65 (y_ix (A 81 (y_ix a1)))) (0 : Int32) (xm_u2 A 75 (y_ix (A 81 (y_ix a1))) (0 : Int32))) (xm_u2 A 75 (y_ix (A 81 (y_ix a1))) (0 : Int32))).2 40 (y_ix (A 65 (y_ix (A 81 (y_ix a1)))))) - (1 : Int32)), .inl (A 65 (y_ix (A 81 (y_ix a1)))), .inr (some (13, 33))]) (fun _ => rfl) ?_
            refine ra.si (nx := 190) 40 24 rfl rfl h12 ?_
            refine ra.s (pc' := 191) (st' := [.inr (some (11, 0))]) (fun _ => rfl) ?_
            refine ra.ga (x := 78) (nx := 194) (c := 14) (i := 5) rfl rfl ?_
            refine ra.s (pc' := 195) (st' := [.inl (A 81 (y_ix a1)), .inr (some (14, 5))]) (fun _ => rfl) ?_
            refine ra.lz (nx := 196) (v := ((rf_takenBack_131 20000 a1 a2 (A 81 (y_ix a1)) (A 65 (y_ix (A 81 (y_ix a1)))) (rf_takenBack_104 20000 a1 a2 (A 81 (y_ix a1)) (A 65 (y_ix (A 81 (y_ix a1)))) (0 : Int32) (xm_u2 A 75 (y_ix (A 81 (y_ix a1))) (0 : Int32))) (rf_takenBack_104 20000 a1 a2 (A 81 (y_ix a1)) (A 65 (y_ix (A 81 (y_ix a1)))) (0 : Int32) (xm_u2 A 75 (y_ix (A 81 (y_ix a1))) (0 : Int32))) (xm_u2 A 75 (y_ix (A 81 (y_ix a1))) (0 : Int32))).2 78 (y_ix (A 81 (y_ix a1))))) 78 4400 rfl rfl h3 rfl ?_
            refine ra.b (c := ((rf_takenBack_131 20000 a1 a2 (A 81 (y_ix a1)) (A 65 (y_ix (A 81 (y_ix a1)))) (rf_takenBack_104 20000 a1 a2 (A 81 (y_ix a1)) (A 65 (y_ix (A 81 (y_ix a1)))) (0 : Int32) (xm_u2 A 75 (y_ix (A 81 (y_ix a1))) (0 : Int32))) (rf_takenBack_104 20000 a1 a2 (A 81 (y_ix a1)) (A 65 (y_ix (A 81 (y_ix a1)))) (0 : Int32) (xm_u2 A 75 (y_ix (A 81 (y_ix a1))) (0 : Int32))) (xm_u2 A 75 (y_ix (A 81 (y_ix a1))) (0 : Int32))).2 78 (y_ix (A 81 (y_ix a1)))) = (0 : Int32)) (cd := .eq) (x := ((rf_takenBack_131 20000 a1 a2 (A 81 (y_ix a1)) (A 65 (y_ix (A 81 (y_ix a1)))) (rf_takenBack_104 20000 a1 a2 (A 81 (y_ix a1)) (A 65 (y_ix (A 81 (y_ix a1)))) (0 : Int32) (xm_u2 A 75 (y_ix (A 81 (y_ix a1))) (0 : Int32))) (rf_takenBack_104 20000 a1 a2 (A 81 (y_ix a1)) (A 65 (y_ix (A 81 (y_ix a1)))) (0 : Int32) (xm_u2 A 75 (y_ix (A 81 (y_ix a1))) (0 : Int32))) (xm_u2 A 75 (y_ix (A 81 (y_ix a1))) (0 : Int32))).2 78 (y_ix (A 81 (y_ix a1))))) (y := (0 : Int32)) 208 199 (st' := []) (fun _ => rfl) (y_ceq _ _) hk hg (fun h13 hg hk => ?_) (fun h13 hg hk => ?_)
            · skip
              subst hk
              exact ra.ret (r := none) (fun _ => rfl) ⟨rfl, rfl, rfl⟩
            · skip
              refine ra.s (pc' := 200) (st' := [.inr (some (11, 0))]) (fun _ => rfl) ?_
              refine ra.s (pc' := 201) (st' := [.inl (5 : Int32), .inr (some (11, 0))]) (fun _ => rfl) ?_
              refine ra.s (pc' := 202) (st' := [.inl (A 81 (y_ix a1)), .inl (5 : Int32), .inr (some (11, 0))]) (fun _ => rfl) ?_
              refine ra.s (pc' := 203) (st' := [.inl (-1 : Int32), .inl (A 81 (y_ix a1)), .inl (5 : Int32), .inr (some (11, 0))]) (fun _ => rfl) ?_
              refine ra.s (pc' := 204) (st' := [.inl (0 : Int32), .inl (-1 : Int32), .inl (A 81 (y_ix a1)), .inl (5 : Int32), .inr (some (11, 0))]) (fun _ => rfl) ?_
              refine ra.s (pc' := 205) (st' := [.inl (0 : Int32), .inl (0 : Int32), .inl (-1 : Int32), .inl (A 81 (y_ix a1)), .inl (5 : Int32), .inr (some (11, 0))]) (fun _ => rfl) ?_
              obtain ⟨h14, hg⟩ := hg
              refine ra.cV (m := 131) (as := [.inr (some (11, 0)), .inl (5 : Int32), .inl (A 81 (y_ix a1)), .inl (-1 : Int32), .inl (0 : Int32), .inl (0 : Int32)]) (nx := 208) (L' := [some (.inr (some (11, 0))), some (.inl a1), some (.inl a2), some (.inl (A 81 (y_ix a1))), some (.inl (A 65 (y_ix (A 81 (y_ix a1))))), some (.inl (rf_takenBack_104 20000 a1 a2 (A 81 (y_ix a1)) (A 65 (y_ix (A 81 (y_ix a1)))) (0 : Int32) (xm_u2 A 75 (y_ix (A 81 (y_ix a1))) (0 : Int32)))), some (.inl (rf_takenBack_131 20000 a1 a2 (A 81 (y_ix a1)) (A 65 (y_ix (A 81 (y_ix a1)))) (rf_takenBack_104 20000 a1 a2 (A 81 (y_ix a1)) (A 65 (y_ix (A 81 (y_ix a1)))) (0 : Int32) (xm_u2 A 75 (y_ix (A 81 (y_ix a1))) (0 : Int32))) (rf_takenBack_104 20000 a1 a2 (A 81 (y_ix a1)) (A 65 (y_ix (A 81 (y_ix a1)))) (0 : Int32) (xm_u2 A 75 (y_ix (A 81 (y_ix a1))) (0 : Int32))) (xm_u2 A 75 (y_ix (A 81 (y_ix a1))) (0 : Int32))).1)]) (st' := []) (fun _ => rfl) (rh_add h14) ?_
              show ra _ _ _ _ _ (xm_u2 (rf_takenBack_131 20000 a1 a2 (A 81 (y_ix a1)) (A 65 (y_ix (A 81 (y_ix a1)))) (rf_takenBack_104 20000 a1 a2 (A 81 (y_ix a1)) (A 65 (y_ix (A 81 (y_ix a1)))) (0 : Int32) (xm_u2 A 75 (y_ix (A 81 (y_ix a1))) (0 : Int32))) (rf_takenBack_104 20000 a1 a2 (A 81 (y_ix a1)) (A 65 (y_ix (A 81 (y_ix a1)))) (0 : Int32) (xm_u2 A 75 (y_ix (A 81 (y_ix a1))) (0 : Int32))) (xm_u2 A 75 (y_ix (A 81 (y_ix a1))) (0 : Int32))).2 40 (y_ix (A 65 (y_ix (A 81 (y_ix a1))))) (((rf_takenBack_131 20000 a1 a2 (A 81 (y_ix a1)) (A 65 (y_ix (A 81 (y_ix a1)))) (rf_takenBack_104 20000 a1 a2 (A 81 (y_ix a1)) (A 65 (y_ix (A 81 (y_ix a1)))) (0 : Int32) (xm_u2 A 75 (y_ix (A 81 (y_ix a1))) (0 : Int32))) (rf_takenBack_104 20000 a1 a2 (A 81 (y_ix a1)) (A 65 (y_ix (A 81 (y_ix a1)))) (0 : Int32) (xm_u2 A 75 (y_ix (A 81 (y_ix a1))) (0 : Int32))) (xm_u2 A 75 (y_ix (A 81 (y_ix a1))) (0 : Int32))).2 40 (y_ix (A 65 (y_ix (A 81 (y_ix a1)))))) - (1 : Int32))) (((5 : Int32), (A 81 (y_ix a1)), (-1 : Int32), (0 : Int32), (0 : Int32)) :: js) _
              subst hk
              exact ra.ret (r := none) (fun _ => rfl) ⟨rfl, rfl, rfl⟩
        · skip
          refine ra.s (pc' := 68) (st' := [.inr (some (11, 0))]) (fun _ => rfl) ?_
          refine ra.ga (x := 77) (nx := 71) (c := 14) (i := 4) rfl rfl ?_
          refine ra.s (pc' := 72) (st' := [.inl (A 81 (y_ix a1)), .inr (some (14, 4))]) (fun _ => rfl) ?_
          refine ra.s (pc' := 73) (st' := [.inl (0 : Int32), .inl (A 81 (y_ix a1)), .inr (some (14, 4))]) (fun _ => rfl) ?_
          refine ra.sz (nx := 74) 77 4400 rfl rfl h3 (Or.inl rfl) ?_
          refine ra.s (pc' := 75) (st' := [.inr (some (11, 0))]) (fun _ => rfl) ?_
          refine ra.ga (x := 39) (nx := 78) (c := 13) (i := 32) rfl rfl ?_
          refine ra.s (pc' := 80) (st' := [.inl (A 65 (y_ix (A 81 (y_ix a1)))), .inr (some (13, 32))]) (fun _ => rfl) ?_
          refine ra.s (pc' := 81) (st' := [.inl (A 65 (y_ix (A 81 (y_ix a1)))), .inr (some (13, 32)), .inl (A 65 (y_ix (A 81 (y_ix a1)))), .inr (some (13, 32))]) (fun _ => rfl) ?_
          obtain ⟨h15, hg⟩ := hg
          refine ra.ld (nx := 82) (v := (A 39 (y_ix (A 65 (y_ix (A 81 (y_ix a1))))))) 39 24 rfl rfl h15 rfl ?_
          refine ra.s (pc' := 83) (st' := [.inl (1 : Int32), .inl (A 39 (y_ix (A 65 (y_ix (A 81 (y_ix a1)))))), .inl (A 65 (y_ix (A 81 (y_ix a1)))), .inr (some (13, 32))]) (fun _ => rfl) ?_
          refine ra.s (pc' := 84) (st' := [.inl ((A 39 (y_ix (A 65 (y_ix (A 81 (y_ix a1)))))) - (1 : Int32)), .inl (A 65 (y_ix (A 81 (y_ix a1)))), .inr (some (13, 32))]) (fun _ => rfl) ?_
          refine ra.si (nx := 85) 39 24 rfl rfl h15 ?_
          refine ra.s (pc' := 86) (st' := [.inr (some (11, 0))]) (fun _ => rfl) ?_
          refine ra.ga (x := 75) (nx := 89) (c := 14) (i := 2) rfl rfl ?_
          refine ra.s (pc' := 90) (st' := [.inl (A 81 (y_ix a1)), .inr (some (14, 2))]) (fun _ => rfl) ?_
          refine ra.lz (nx := 91) (v := (A 75 (y_ix (A 81 (y_ix a1))))) 75 4400 rfl rfl h3 rfl ?_
          refine ra.b (c := (A 75 (y_ix (A 81 (y_ix a1)))) = (0 : Int32)) (cd := .eq) (x := (A 75 (y_ix (A 81 (y_ix a1))))) (y := (0 : Int32)) 190 94 (st' := []) (fun _ => rfl) (y_ceq _ _) hk hg (fun h16 hg hk => ?_) (fun h16 hg hk => ?_)
          · skip
            refine ra.s (pc' := 191) (st' := [.inr (some (11, 0))]) (fun _ => rfl) ?_
            refine ra.ga (x := 78) (nx := 194) (c := 14) (i := 5) rfl rfl ?_
            refine ra.s (pc' := 195) (st' := [.inl (A 81 (y_ix a1)), .inr (some (14, 5))]) (fun _ => rfl) ?_
            refine ra.lz (nx := 196) (v := (A 78 (y_ix (A 81 (y_ix a1))))) 78 4400 rfl rfl h3 rfl ?_
            refine ra.b (c := (A 78 (y_ix (A 81 (y_ix a1)))) = (0 : Int32)) (cd := .eq) (x := (A 78 (y_ix (A 81 (y_ix a1))))) (y := (0 : Int32)) 208 199 (st' := []) (fun _ => rfl) (y_ceq _ _) hk hg (fun h17 hg hk => ?_) (fun h17 hg hk => ?_)
            · skip
              subst hk
              exact ra.ret (r := none) (fun _ => rfl) ⟨rfl, rfl, rfl⟩
            · skip
              refine ra.s (pc' := 200) (st' := [.inr (some (11, 0))]) (fun _ => rfl) ?_
              refine ra.s (pc' := 201) (st' := [.inl (5 : Int32), .inr (some (11, 0))]) (fun _ => rfl) ?_
              refine ra.s (pc' := 202) (st' := [.inl (A 81 (y_ix a1)), .inl (5 : Int32), .inr (some (11, 0))]) (fun _ => rfl) ?_
              refine ra.s (pc' := 203) (st' := [.inl (-1 : Int32), .inl (A 81 (y_ix a1)), .inl (5 : Int32), .inr (some (11, 0))]) (fun _ => rfl) ?_
              refine ra.s (pc' := 204) (st' := [.inl (0 : Int32), .inl (-1 : Int32), .inl (A 81 (y_ix a1)), .inl (5 : Int32), .inr (some (11, 0))]) (fun _ => rfl) ?_
              refine ra.s (pc' := 205) (st' := [.inl (0 : Int32), .inl (0 : Int32), .inl (-1 : Int32), .inl (A 81 (y_ix a1)), .inl (5 : Int32), .inr (some (11, 0))]) (fun _ => rfl) ?_
              obtain ⟨h18, hg⟩ := hg
              refine ra.cV (m := 131) (as := [.inr (some (11, 0)), .inl (5 : Int32), .inl (A 81 (y_ix a1)), .inl (-1 : Int32), .inl (0 : Int32), .inl (0 : Int32)]) (nx := 208) (L' := [some (.inr (some (11, 0))), some (.inl a1), some (.inl a2), some (.inl (A 81 (y_ix a1))), some (.inl (A 65 (y_ix (A 81 (y_ix a1))))), none, none]) (st' := []) (fun _ => rfl) (rh_add h18) ?_
              show ra _ _ _ _ _ (xm_u2 (xm_u2 A 77 (y_ix (A 81 (y_ix a1))) (0 : Int32)) 39 (y_ix (A 65 (y_ix (A 81 (y_ix a1))))) ((A 39 (y_ix (A 65 (y_ix (A 81 (y_ix a1)))))) - (1 : Int32))) (((5 : Int32), (A 81 (y_ix a1)), (-1 : Int32), (0 : Int32), (0 : Int32)) :: js) _
              subst hk
              exact ra.ret (r := none) (fun _ => rfl) ⟨rfl, rfl, rfl⟩
          · skip
            refine ra.s (pc' := 95) (st' := [.inr (some (11, 0))]) (fun _ => rfl) ?_
            refine ra.ga (x := 75) (nx := 98) (c := 14) (i := 2) rfl rfl ?_
            refine ra.s (pc' := 99) (st' := [.inl (A 81 (y_ix a1)), .inr (some (14, 2))]) (fun _ => rfl) ?_
            refine ra.s (pc' := 100) (st' := [.inl (0 : Int32), .inl (A 81 (y_ix a1)), .inr (some (14, 2))]) (fun _ => rfl) ?_
            refine ra.sz (nx := 101) 75 4400 rfl rfl h3 (Or.inl rfl) ?_
            refine ra.s (pc' := 102) (st' := [.inl (0 : Int32)]) (fun _ => rfl) ?_
            refine ra.s (pc' := 104) (L' := [some (.inr (some (11, 0))), some (.inl a1), some (.inl a2), some (.inl (A 81 (y_ix a1))), some (.inl (A 65 (y_ix (A 81 (y_ix a1))))), some (.inl (0 : Int32)), none]) (st' := []) (fun _ => rfl) ?_
            obtain ⟨h19, hg⟩ := hg
            refine rh_takenBack_104 (by omega) 20000 a1 a2 (A 81 (y_ix a1)) (A 65 (y_ix (A 81 (y_ix a1)))) (0 : Int32) none (xm_u2 (xm_u2 (xm_u2 A 77 (y_ix (A 81 (y_ix a1))) (0 : Int32)) 39 (y_ix (A 65 (y_ix (A 81 (y_ix a1))))) ((A 39 (y_ix (A 65 (y_ix (A 81 (y_ix a1)))))) - (1 : Int32))) 75 (y_ix (A 81 (y_ix a1))) (0 : Int32)) js h19 rfl ?_
            intro e2x
            refine ra.s (pc' := 129) (st' := [.inl (rf_takenBack_104 20000 a1 a2 (A 81 (y_ix a1)) (A 65 (y_ix (A 81 (y_ix a1)))) (0 : Int32) (xm_u2 (xm_u2 (xm_u2 A 77 (y_ix (A 81 (y_ix a1))) (0 : Int32)) 39 (y_ix (A 65 (y_ix (A 81 (y_ix a1))))) ((A 39 (y_ix (A 65 (y_ix (A 81 (y_ix a1)))))) - (1 : Int32))) 75 (y_ix (A 81 (y_ix a1))) (0 : Int32)))]) (fun _ => rfl) ?_
            refine ra.s (pc' := 131) (L' := [some (.inr (some (11, 0))), some (.inl a1), some (.inl a2), some (.inl (A 81 (y_ix a1))), some (.inl (A 65 (y_ix (A 81 (y_ix a1))))), some (.inl (rf_takenBack_104 20000 a1 a2 (A 81 (y_ix a1)) (A 65 (y_ix (A 81 (y_ix a1)))) (0 : Int32) (xm_u2 (xm_u2 (xm_u2 A 77 (y_ix (A 81 (y_ix a1))) (0 : Int32)) 39 (y_ix (A 65 (y_ix (A 81 (y_ix a1))))) ((A 39 (y_ix (A 65 (y_ix (A 81 (y_ix a1)))))) - (1 : Int32))) 75 (y_ix (A 81 (y_ix a1))) (0 : Int32)))), some (.inl (rf_takenBack_104 20000 a1 a2 (A 81 (y_ix a1)) (A 65 (y_ix (A 81 (y_ix a1)))) (0 : Int32) (xm_u2 (xm_u2 (xm_u2 A 77 (y_ix (A 81 (y_ix a1))) (0 : Int32)) 39 (y_ix (A 65 (y_ix (A 81 (y_ix a1))))) ((A 39 (y_ix (A 65 (y_ix (A 81 (y_ix a1)))))) - (1 : Int32))) 75 (y_ix (A 81 (y_ix a1))) (0 : Int32))))]) (st' := []) (fun _ => rfl) ?_
            obtain ⟨h20, hg⟩ := hg
            refine rh_takenBack_131 (by omega) 20000 a1 a2 (A 81 (y_ix a1)) (A 65 (y_ix (A 81 (y_ix a1)))) (rf_takenBack_104 20000 a1 a2 (A 81 (y_ix a1)) (A 65 (y_ix (A 81 (y_ix a1)))) (0 : Int32) (xm_u2 (xm_u2 (xm_u2 A 77 (y_ix (A 81 (y_ix a1))) (0 : Int32)) 39 (y_ix (A 65 (y_ix (A 81 (y_ix a1))))) ((A 39 (y_ix (A 65 (y_ix (A 81 (y_ix a1)))))) - (1 : Int32))) 75 (y_ix (A 81 (y_ix a1))) (0 : Int32))) (rf_takenBack_104 20000 a1 a2 (A 81 (y_ix a1)) (A 65 (y_ix (A 81 (y_ix a1)))) (0 : Int32) (xm_u2 (xm_u2 (xm_u2 A 77 (y_ix (A 81 (y_ix a1))) (0 : Int32)) 39 (y_ix (A 65 (y_ix (A 81 (y_ix a1))))) ((A 39 (y_ix (A 65 (y_ix (A 81 (y_ix a1)))))) - (1 : Int32))) 75 (y_ix (A 81 (y_ix a1))) (0 : Int32))) (xm_u2 (xm_u2 (xm_u2 A 77 (y_ix (A 81 (y_ix a1))) (0 : Int32)) 39 (y_ix (A 65 (y_ix (A 81 (y_ix a1))))) ((A 39 (y_ix (A 65 (y_ix (A 81 (y_ix a1)))))) - (1 : Int32))) 75 (y_ix (A 81 (y_ix a1))) (0 : Int32)) js h20 rfl ?_
            refine ra.s (pc' := 180) (st' := [.inr (some (11, 0))]) (fun _ => rfl) ?_
            refine ra.ga (x := 40) (nx := 183) (c := 13) (i := 33) rfl rfl ?_
            refine ra.s (pc' := 185) (st' := [.inl (A 65 (y_ix (A 81 (y_ix a1)))), .inr (some (13, 33))]) (fun _ => rfl) ?_
            refine ra.s (pc' := 186) (st' := [.inl (A 65 (y_ix (A 81 (y_ix a1)))), .inr (some (13, 33)), .inl (A 65 (y_ix (A 81 (y_ix a1)))), .inr (some (13, 33))]) (fun _ => rfl) ?_
            refine ra.ld (nx := 187) (v := ((rf_takenBack_131 20000 a1 a2 (A 81 (y_ix a1)) (A 65 (y_ix (A 81 (y_ix a1)))) (rf_takenBack_104 20000 a1 a2 (A 81 (y_ix a1)) (A 65 (y_ix (A 81 (y_ix a1)))) (0 : Int32) (xm_u2 (xm_u2 (xm_u2 A 77 (y_ix (A 81 (y_ix a1))) (0 : Int32)) 39 (y_ix (A 65 (y_ix (A 81 (y_ix a1))))) ((A 39 (y_ix (A 65 (y_ix (A 81 (y_ix a1)))))) - (1 : Int32))) 75 (y_ix (A 81 (y_ix a1))) (0 : Int32))) (rf_takenBack_104 20000 a1 a2 (A 81 (y_ix a1)) (A 65 (y_ix (A 81 (y_ix a1)))) (0 : Int32) (xm_u2 (xm_u2 (xm_u2 A 77 (y_ix (A 81 (y_ix a1))) (0 : Int32)) 39 (y_ix (A 65 (y_ix (A 81 (y_ix a1))))) ((A 39 (y_ix (A 65 (y_ix (A 81 (y_ix a1)))))) - (1 : Int32))) 75 (y_ix (A 81 (y_ix a1))) (0 : Int32))) (xm_u2 (xm_u2 (xm_u2 A 77 (y_ix (A 81 (y_ix a1))) (0 : Int32)) 39 (y_ix (A 65 (y_ix (A 81 (y_ix a1))))) ((A 39 (y_ix (A 65 (y_ix (A 81 (y_ix a1)))))) - (1 : Int32))) 75 (y_ix (A 81 (y_ix a1))) (0 : Int32))).2 40 (y_ix (A 65 (y_ix (A 81 (y_ix a1))))))) 40 24 rfl rfl h15 rfl ?_
            refine ra.s (pc' := 188) (st' := [.inl (1 : Int32), .inl ((rf_takenBack_131 20000 a1 a2 (A 81 (y_ix a1)) (A 65 (y_ix (A 81 (y_ix a1)))) (rf_takenBack_104 20000 a1 a2 (A 81 (y_ix a1)) (A 65 (y_ix (A 81 (y_ix a1)))) (0 : Int32) (xm_u2 (xm_u2 (xm_u2 A 77 (y_ix (A 81 (y_ix a1))) (0 : Int32)) 39 (y_ix (A 65 (y_ix (A 81 (y_ix a1))))) ((A 39 (y_ix (A 65 (y_ix (A 81 (y_ix a1)))))) - (1 : Int32))) 75 (y_ix (A 81 (y_ix a1))) (0 : Int32))) (rf_takenBack_104 20000 a1 a2 (A 81 (y_ix a1)) (A 65 (y_ix (A 81 (y_ix a1)))) (0 : Int32) (xm_u2 (xm_u2 (xm_u2 A 77 (y_ix (A 81 (y_ix a1))) (0 : Int32)) 39 (y_ix (A 65 (y_ix (A 81 (y_ix a1))))) ((A 39 (y_ix (A 65 (y_ix (A 81 (y_ix a1)))))) - (1 : Int32))) 75 (y_ix (A 81 (y_ix a1))) (0 : Int32))) (xm_u2 (xm_u2 (xm_u2 A 77 (y_ix (A 81 (y_ix a1))) (0 : Int32)) 39 (y_ix (A 65 (y_ix (A 81 (y_ix a1))))) ((A 39 (y_ix (A 65 (y_ix (A 81 (y_ix a1)))))) - (1 : Int32))) 75 (y_ix (A 81 (y_ix a1))) (0 : Int32))).2 40 (y_ix (A 65 (y_ix (A 81 (y_ix a1)))))), .inl (A 65 (y_ix (A 81 (y_ix a1)))), .inr (some (13, 33))]) (fun _ => rfl) ?_
            refine ra.s (pc' := 189) (st' := [.inl (((rf_takenBack_131 20000 a1 a2 (A 81 (y_ix a1)) (A 65 (y_ix (A 81 (y_ix a1)))) (rf_takenBack_104 20000 a1 a2 (A 81 (y_ix a1)) (A 65 (y_ix (A 81 (y_ix a1)))) (0 : Int32) (xm_u2 (xm_u2 (xm_u2 A 77 (y_ix (A 81 (y_ix a1))) (0 : Int32)) 39 (y_ix (A 65 (y_ix (A 81 (y_ix a1))))) ((A 39 (y_ix (A 65 (y_ix (A 81 (y_ix a1)))))) - (1 : Int32))) 75 (y_ix (A 81 (y_ix a1))) (0 : Int32))) (rf_takenBack_104 20000 a1 a2 (A 81 (y_ix a1)) (A 65 (y_ix (A 81 (y_ix a1)))) (0 : Int32) (xm_u2 (xm_u2 (xm_u2 A 77 (y_ix (A 81 (y_ix a1))) (0 : Int32)) 39 (y_ix (A 65 (y_ix (A 81 (y_ix a1))))) ((A 39 (y_ix (A 65 (y_ix (A 81 (y_ix a1)))))) - (1 : Int32))) 75 (y_ix (A 81 (y_ix a1))) (0 : Int32))) (xm_u2 (xm_u2 (xm_u2 A 77 (y_ix (A 81 (y_ix a1))) (0 : Int32)) 39 (y_ix (A 65 (y_ix (A 81 (y_ix a1))))) ((A 39 (y_ix (A 65 (y_ix (A 81 (y_ix a1)))))) - (1 : Int32))) 75 (y_ix (A 81 (y_ix a1))) (0 : Int32))).2 40 (y_ix (A 65 (y_ix (A 81 (y_ix a1)))))) - (1 : Int32)), .inl (A 65 (y_ix (A 81 (y_ix a1)))), .inr (some (13, 33))]) (fun _ => rfl) ?_
            refine ra.si (nx := 190) 40 24 rfl rfl h15 ?_
            refine ra.s (pc' := 191) (st' := [.inr (some (11, 0))]) (fun _ => rfl) ?_
            refine ra.ga (x := 78) (nx := 194) (c := 14) (i := 5) rfl rfl ?_
            refine ra.s (pc' := 195) (st' := [.inl (A 81 (y_ix a1)), .inr (some (14, 5))]) (fun _ => rfl) ?_
            refine ra.lz (nx := 196) (v := ((rf_takenBack_131 20000 a1 a2 (A 81 (y_ix a1)) (A 65 (y_ix (A 81 (y_ix a1)))) (rf_takenBack_104 20000 a1 a2 (A 81 (y_ix a1)) (A 65 (y_ix (A 81 (y_ix a1)))) (0 : Int32) (xm_u2 (xm_u2 (xm_u2 A 77 (y_ix (A 81 (y_ix a1))) (0 : Int32)) 39 (y_ix (A 65 (y_ix (A 81 (y_ix a1))))) ((A 39 (y_ix (A 65 (y_ix (A 81 (y_ix a1)))))) - (1 : Int32))) 75 (y_ix (A 81 (y_ix a1))) (0 : Int32))) (rf_takenBack_104 20000 a1 a2 (A 81 (y_ix a1)) (A 65 (y_ix (A 81 (y_ix a1)))) (0 : Int32) (xm_u2 (xm_u2 (xm_u2 A 77 (y_ix (A 81 (y_ix a1))) (0 : Int32)) 39 (y_ix (A 65 (y_ix (A 81 (y_ix a1))))) ((A 39 (y_ix (A 65 (y_ix (A 81 (y_ix a1)))))) - (1 : Int32))) 75 (y_ix (A 81 (y_ix a1))) (0 : Int32))) (xm_u2 (xm_u2 (xm_u2 A 77 (y_ix (A 81 (y_ix a1))) (0 : Int32)) 39 (y_ix (A 65 (y_ix (A 81 (y_ix a1))))) ((A 39 (y_ix (A 65 (y_ix (A 81 (y_ix a1)))))) - (1 : Int32))) 75 (y_ix (A 81 (y_ix a1))) (0 : Int32))).2 78 (y_ix (A 81 (y_ix a1))))) 78 4400 rfl rfl h3 rfl ?_
            refine ra.b (c := ((rf_takenBack_131 20000 a1 a2 (A 81 (y_ix a1)) (A 65 (y_ix (A 81 (y_ix a1)))) (rf_takenBack_104 20000 a1 a2 (A 81 (y_ix a1)) (A 65 (y_ix (A 81 (y_ix a1)))) (0 : Int32) (xm_u2 (xm_u2 (xm_u2 A 77 (y_ix (A 81 (y_ix a1))) (0 : Int32)) 39 (y_ix (A 65 (y_ix (A 81 (y_ix a1))))) ((A 39 (y_ix (A 65 (y_ix (A 81 (y_ix a1)))))) - (1 : Int32))) 75 (y_ix (A 81 (y_ix a1))) (0 : Int32))) (rf_takenBack_104 20000 a1 a2 (A 81 (y_ix a1)) (A 65 (y_ix (A 81 (y_ix a1)))) (0 : Int32) (xm_u2 (xm_u2 (xm_u2 A 77 (y_ix (A 81 (y_ix a1))) (0 : Int32)) 39 (y_ix (A 65 (y_ix (A 81 (y_ix a1))))) ((A 39 (y_ix (A 65 (y_ix (A 81 (y_ix a1)))))) - (1 : Int32))) 75 (y_ix (A 81 (y_ix a1))) (0 : Int32))) (xm_u2 (xm_u2 (xm_u2 A 77 (y_ix (A 81 (y_ix a1))) (0 : Int32)) 39 (y_ix (A 65 (y_ix (A 81 (y_ix a1))))) ((A 39 (y_ix (A 65 (y_ix (A 81 (y_ix a1)))))) - (1 : Int32))) 75 (y_ix (A 81 (y_ix a1))) (0 : Int32))).2 78 (y_ix (A 81 (y_ix a1)))) = (0 : Int32)) (cd := .eq) (x := ((rf_takenBack_131 20000 a1 a2 (A 81 (y_ix a1)) (A 65 (y_ix (A 81 (y_ix a1)))) (rf_takenBack_104 20000 a1 a2 (A 81 (y_ix a1)) (A 65 (y_ix (A 81 (y_ix a1)))) (0 : Int32) (xm_u2 (xm_u2 (xm_u2 A 77 (y_ix (A 81 (y_ix a1))) (0 : Int32)) 39 (y_ix (A 65 (y_ix (A 81 (y_ix a1))))) ((A 39 (y_ix (A 65 (y_ix (A 81 (y_ix a1)))))) - (1 : Int32))) 75 (y_ix (A 81 (y_ix a1))) (0 : Int32))) (rf_takenBack_104 20000 a1 a2 (A 81 (y_ix a1)) (A 65 (y_ix (A 81 (y_ix a1)))) (0 : Int32) (xm_u2 (xm_u2 (xm_u2 A 77 (y_ix (A 81 (y_ix a1))) (0 : Int32)) 39 (y_ix (A 65 (y_ix (A 81 (y_ix a1))))) ((A 39 (y_ix (A 65 (y_ix (A 81 (y_ix a1)))))) - (1 : Int32))) 75 (y_ix (A 81 (y_ix a1))) (0 : Int32))) (xm_u2 (xm_u2 (xm_u2 A 77 (y_ix (A 81 (y_ix a1))) (0 : Int32)) 39 (y_ix (A 65 (y_ix (A 81 (y_ix a1))))) ((A 39 (y_ix (A 65 (y_ix (A 81 (y_ix a1)))))) - (1 : Int32))) 75 (y_ix (A 81 (y_ix a1))) (0 : Int32))).2 78 (y_ix (A 81 (y_ix a1))))) (y := (0 : Int32)) 208 199 (st' := []) (fun _ => rfl) (y_ceq _ _) hk hg (fun h21 hg hk => ?_) (fun h21 hg hk => ?_)
            · skip
              subst hk
              exact ra.ret (r := none) (fun _ => rfl) ⟨rfl, rfl, rfl⟩
            · skip
              refine ra.s (pc' := 200) (st' := [.inr (some (11, 0))]) (fun _ => rfl) ?_
              refine ra.s (pc' := 201) (st' := [.inl (5 : Int32), .inr (some (11, 0))]) (fun _ => rfl) ?_
              refine ra.s (pc' := 202) (st' := [.inl (A 81 (y_ix a1)), .inl (5 : Int32), .inr (some (11, 0))]) (fun _ => rfl) ?_
              refine ra.s (pc' := 203) (st' := [.inl (-1 : Int32), .inl (A 81 (y_ix a1)), .inl (5 : Int32), .inr (some (11, 0))]) (fun _ => rfl) ?_
              refine ra.s (pc' := 204) (st' := [.inl (0 : Int32), .inl (-1 : Int32), .inl (A 81 (y_ix a1)), .inl (5 : Int32), .inr (some (11, 0))]) (fun _ => rfl) ?_
              refine ra.s (pc' := 205) (st' := [.inl (0 : Int32), .inl (0 : Int32), .inl (-1 : Int32), .inl (A 81 (y_ix a1)), .inl (5 : Int32), .inr (some (11, 0))]) (fun _ => rfl) ?_
              obtain ⟨h22, hg⟩ := hg
              refine ra.cV (m := 131) (as := [.inr (some (11, 0)), .inl (5 : Int32), .inl (A 81 (y_ix a1)), .inl (-1 : Int32), .inl (0 : Int32), .inl (0 : Int32)]) (nx := 208) (L' := [some (.inr (some (11, 0))), some (.inl a1), some (.inl a2), some (.inl (A 81 (y_ix a1))), some (.inl (A 65 (y_ix (A 81 (y_ix a1))))), some (.inl (rf_takenBack_104 20000 a1 a2 (A 81 (y_ix a1)) (A 65 (y_ix (A 81 (y_ix a1)))) (0 : Int32) (xm_u2 (xm_u2 (xm_u2 A 77 (y_ix (A 81 (y_ix a1))) (0 : Int32)) 39 (y_ix (A 65 (y_ix (A 81 (y_ix a1))))) ((A 39 (y_ix (A 65 (y_ix (A 81 (y_ix a1)))))) - (1 : Int32))) 75 (y_ix (A 81 (y_ix a1))) (0 : Int32)))), some (.inl (rf_takenBack_131 20000 a1 a2 (A 81 (y_ix a1)) (A 65 (y_ix (A 81 (y_ix a1)))) (rf_takenBack_104 20000 a1 a2 (A 81 (y_ix a1)) (A 65 (y_ix (A 81 (y_ix a1)))) (0 : Int32) (xm_u2 (xm_u2 (xm_u2 A 77 (y_ix (A 81 (y_ix a1))) (0 : Int32)) 39 (y_ix (A 65 (y_ix (A 81 (y_ix a1))))) ((A 39 (y_ix (A 65 (y_ix (A 81 (y_ix a1)))))) - (1 : Int32))) 75 (y_ix (A 81 (y_ix a1))) (0 : Int32))) (rf_takenBack_104 20000 a1 a2 (A 81 (y_ix a1)) (A 65 (y_ix (A 81 (y_ix a1)))) (0 : Int32) (xm_u2 (xm_u2 (xm_u2 A 77 (y_ix (A 81 (y_ix a1))) (0 : Int32)) 39 (y_ix (A 65 (y_ix (A 81 (y_ix a1))))) ((A 39 (y_ix (A 65 (y_ix (A 81 (y_ix a1)))))) - (1 : Int32))) 75 (y_ix (A 81 (y_ix a1))) (0 : Int32))) (xm_u2 (xm_u2 (xm_u2 A 77 (y_ix (A 81 (y_ix a1))) (0 : Int32)) 39 (y_ix (A 65 (y_ix (A 81 (y_ix a1))))) ((A 39 (y_ix (A 65 (y_ix (A 81 (y_ix a1)))))) - (1 : Int32))) 75 (y_ix (A 81 (y_ix a1))) (0 : Int32))).1)]) (st' := []) (fun _ => rfl) (rh_add h22) ?_
              show ra _ _ _ _ _ (xm_u2 (rf_takenBack_131 20000 a1 a2 (A 81 (y_ix a1)) (A 65 (y_ix (A 81 (y_ix a1)))) (rf_takenBack_104 20000 a1 a2 (A 81 (y_ix a1)) (A 65 (y_ix (A 81 (y_ix a1)))) (0 : Int32) (xm_u2 (xm_u2 (xm_u2 A 77 (y_ix (A 81 (y_ix a1))) (0 : Int32)) 39 (y_ix (A 65 (y_ix (A 81 (y_ix a1))))) ((A 39 (y_ix (A 65 (y_ix (A 81 (y_ix a1)))))) - (1 : Int32))) 75 (y_ix (A 81 (y_ix a1))) (0 : Int32))) (rf_takenBack_104 20000 a1 a2 (A 81 (y_ix a1)) (A 65 (y_ix (A 81 (y_ix a1)))) (0 : Int32) (xm_u2 (xm_u2 (xm_u2 A 77 (y_ix (A 81 (y_ix a1))) (0 : Int32)) 39 (y_ix (A 65 (y_ix (A 81 (y_ix a1))))) ((A 39 (y_ix (A 65 (y_ix (A 81 (y_ix a1)))))) - (1 : Int32))) 75 (y_ix (A 81 (y_ix a1))) (0 : Int32))) (xm_u2 (xm_u2 (xm_u2 A 77 (y_ix (A 81 (y_ix a1))) (0 : Int32)) 39 (y_ix (A 65 (y_ix (A 81 (y_ix a1))))) ((A 39 (y_ix (A 65 (y_ix (A 81 (y_ix a1)))))) - (1 : Int32))) 75 (y_ix (A 81 (y_ix a1))) (0 : Int32))).2 40 (y_ix (A 65 (y_ix (A 81 (y_ix a1))))) (((rf_takenBack_131 20000 a1 a2 (A 81 (y_ix a1)) (A 65 (y_ix (A 81 (y_ix a1)))) (rf_takenBack_104 20000 a1 a2 (A 81 (y_ix a1)) (A 65 (y_ix (A 81 (y_ix a1)))) (0 : Int32) (xm_u2 (xm_u2 (xm_u2 A 77 (y_ix (A 81 (y_ix a1))) (0 : Int32)) 39 (y_ix (A 65 (y_ix (A 81 (y_ix a1))))) ((A 39 (y_ix (A 65 (y_ix (A 81 (y_ix a1)))))) - (1 : Int32))) 75 (y_ix (A 81 (y_ix a1))) (0 : Int32))) (rf_takenBack_104 20000 a1 a2 (A 81 (y_ix a1)) (A 65 (y_ix (A 81 (y_ix a1)))) (0 : Int32) (xm_u2 (xm_u2 (xm_u2 A 77 (y_ix (A 81 (y_ix a1))) (0 : Int32)) 39 (y_ix (A 65 (y_ix (A 81 (y_ix a1))))) ((A 39 (y_ix (A 65 (y_ix (A 81 (y_ix a1)))))) - (1 : Int32))) 75 (y_ix (A 81 (y_ix a1))) (0 : Int32))) (xm_u2 (xm_u2 (xm_u2 A 77 (y_ix (A 81 (y_ix a1))) (0 : Int32)) 39 (y_ix (A 65 (y_ix (A 81 (y_ix a1))))) ((A 39 (y_ix (A 65 (y_ix (A 81 (y_ix a1)))))) - (1 : Int32))) 75 (y_ix (A 81 (y_ix a1))) (0 : Int32))).2 40 (y_ix (A 65 (y_ix (A 81 (y_ix a1)))))) - (1 : Int32))) (((5 : Int32), (A 81 (y_ix a1)), (-1 : Int32), (0 : Int32), (0 : Int32)) :: js) _
              subst hk
              exact ra.ret (r := none) (fun _ => rfl) ⟨rfl, rfl, rfl⟩
      · skip
        refine ra.s (pc' := 49) (st' := [.inr (some (11, 0))]) (fun _ => rfl) ?_
        refine ra.s (pc' := 51) (st' := [.inl (A 65 (y_ix (A 81 (y_ix a1)))), .inr (some (11, 0))]) (fun _ => rfl) ?_
        refine ra.s (pc' := 52) (st' := [.inr (some (11, 0)), .inl (A 65 (y_ix (A 81 (y_ix a1)))), .inr (some (11, 0))]) (fun _ => rfl) ?_
        refine ra.gi (x := 0) (nx := 55) (v := (A 0 0)) rfl rfl rfl ?_
        obtain ⟨h23, hg⟩ := hg
        refine ra.cV (F := ((rf_opens (A 65 (y_ix (A 81 (y_ix a1)))) (A 0 0) A), js)) (m := 144) (as := [.inr (some (11, 0)), .inl (A 65 (y_ix (A 81 (y_ix a1)))), .inl (A 0 0)]) (nx := 58) (L' := [some (.inr (some (11, 0))), some (.inl a1), some (.inl a2), some (.inl (A 81 (y_ix a1))), some (.inl (A 65 (y_ix (A 81 (y_ix a1))))), none, none]) (st' := []) (fun _ => rfl) (rh_opens (by omega) h23) ?_
        show ra _ _ _ _ [] (xm_u2 (xm_u2 A 36 (y_ix (A 65 (y_ix (A 81 (y_ix a1))))) (1 : Int32)) 38 (y_ix (A 65 (y_ix (A 81 (y_ix a1))))) (A 0 0)) js _
        refine ra.s (pc' := 59) (st' := [.inr (some (11, 0))]) (fun _ => rfl) ?_
        refine ra.ga (x := 77) (nx := 62) (c := 14) (i := 4) rfl rfl ?_
        refine ra.s (pc' := 63) (st' := [.inl (A 81 (y_ix a1)), .inr (some (14, 4))]) (fun _ => rfl) ?_
        refine ra.lz (nx := 64) (v := (A 77 (y_ix (A 81 (y_ix a1))))) 77 4400 rfl rfl h3 rfl ?_
        refine ra.b (c := (A 77 (y_ix (A 81 (y_ix a1)))) = (0 : Int32)) (cd := .eq) (x := (A 77 (y_ix (A 81 (y_ix a1))))) (y := (0 : Int32)) 85 67 (st' := []) (fun _ => rfl) (y_ceq _ _) hk hg (fun h24 hg hk => ?_) (fun h24 hg hk => ?_)
        · skip
          refine ra.s (pc' := 86) (st' := [.inr (some (11, 0))]) (fun _ => rfl) ?_
          refine ra.ga (x := 75) (nx := 89) (c := 14) (i := 2) rfl rfl ?_
          refine ra.s (pc' := 90) (st' := [.inl (A 81 (y_ix a1)), .inr (some (14, 2))]) (fun _ => rfl) ?_
          refine ra.lz (nx := 91) (v := (A 75 (y_ix (A 81 (y_ix a1))))) 75 4400 rfl rfl h3 rfl ?_
          refine ra.b (c := (A 75 (y_ix (A 81 (y_ix a1)))) = (0 : Int32)) (cd := .eq) (x := (A 75 (y_ix (A 81 (y_ix a1))))) (y := (0 : Int32)) 190 94 (st' := []) (fun _ => rfl) (y_ceq _ _) hk hg (fun h25 hg hk => ?_) (fun h25 hg hk => ?_)
          · skip
            refine ra.s (pc' := 191) (st' := [.inr (some (11, 0))]) (fun _ => rfl) ?_
            refine ra.ga (x := 78) (nx := 194) (c := 14) (i := 5) rfl rfl ?_
            refine ra.s (pc' := 195) (st' := [.inl (A 81 (y_ix a1)), .inr (some (14, 5))]) (fun _ => rfl) ?_
            refine ra.lz (nx := 196) (v := (A 78 (y_ix (A 81 (y_ix a1))))) 78 4400 rfl rfl h3 rfl ?_
            refine ra.b (c := (A 78 (y_ix (A 81 (y_ix a1)))) = (0 : Int32)) (cd := .eq) (x := (A 78 (y_ix (A 81 (y_ix a1))))) (y := (0 : Int32)) 208 199 (st' := []) (fun _ => rfl) (y_ceq _ _) hk hg (fun h26 hg hk => ?_) (fun h26 hg hk => ?_)
            · skip
              subst hk
              exact ra.ret (r := none) (fun _ => rfl) ⟨rfl, rfl, rfl⟩
            · skip
              refine ra.s (pc' := 200) (st' := [.inr (some (11, 0))]) (fun _ => rfl) ?_
              refine ra.s (pc' := 201) (st' := [.inl (5 : Int32), .inr (some (11, 0))]) (fun _ => rfl) ?_
              refine ra.s (pc' := 202) (st' := [.inl (A 81 (y_ix a1)), .inl (5 : Int32), .inr (some (11, 0))]) (fun _ => rfl) ?_
              refine ra.s (pc' := 203) (st' := [.inl (-1 : Int32), .inl (A 81 (y_ix a1)), .inl (5 : Int32), .inr (some (11, 0))]) (fun _ => rfl) ?_
              refine ra.s (pc' := 204) (st' := [.inl (0 : Int32), .inl (-1 : Int32), .inl (A 81 (y_ix a1)), .inl (5 : Int32), .inr (some (11, 0))]) (fun _ => rfl) ?_
              refine ra.s (pc' := 205) (st' := [.inl (0 : Int32), .inl (0 : Int32), .inl (-1 : Int32), .inl (A 81 (y_ix a1)), .inl (5 : Int32), .inr (some (11, 0))]) (fun _ => rfl) ?_
              obtain ⟨h27, hg⟩ := hg
              refine ra.cV (m := 131) (as := [.inr (some (11, 0)), .inl (5 : Int32), .inl (A 81 (y_ix a1)), .inl (-1 : Int32), .inl (0 : Int32), .inl (0 : Int32)]) (nx := 208) (L' := [some (.inr (some (11, 0))), some (.inl a1), some (.inl a2), some (.inl (A 81 (y_ix a1))), some (.inl (A 65 (y_ix (A 81 (y_ix a1))))), none, none]) (st' := []) (fun _ => rfl) (rh_add h27) ?_
              show ra _ _ _ _ _ (xm_u2 (xm_u2 A 36 (y_ix (A 65 (y_ix (A 81 (y_ix a1))))) (1 : Int32)) 38 (y_ix (A 65 (y_ix (A 81 (y_ix a1))))) (A 0 0)) (((5 : Int32), (A 81 (y_ix a1)), (-1 : Int32), (0 : Int32), (0 : Int32)) :: js) _
              subst hk
              exact ra.ret (r := none) (fun _ => rfl) ⟨rfl, rfl, rfl⟩
          · skip
            refine ra.s (pc' := 95) (st' := [.inr (some (11, 0))]) (fun _ => rfl) ?_
            refine ra.ga (x := 75) (nx := 98) (c := 14) (i := 2) rfl rfl ?_
            refine ra.s (pc' := 99) (st' := [.inl (A 81 (y_ix a1)), .inr (some (14, 2))]) (fun _ => rfl) ?_
            refine ra.s (pc' := 100) (st' := [.inl (0 : Int32), .inl (A 81 (y_ix a1)), .inr (some (14, 2))]) (fun _ => rfl) ?_
            refine ra.sz (nx := 101) 75 4400 rfl rfl h3 (Or.inl rfl) ?_
            refine ra.s (pc' := 102) (st' := [.inl (0 : Int32)]) (fun _ => rfl) ?_
            refine ra.s (pc' := 104) (L' := [some (.inr (some (11, 0))), some (.inl a1), some (.inl a2), some (.inl (A 81 (y_ix a1))), some (.inl (A 65 (y_ix (A 81 (y_ix a1))))), some (.inl (0 : Int32)), none]) (st' := []) (fun _ => rfl) ?_
            obtain ⟨h28, hg⟩ := hg
            refine rh_takenBack_104 (by omega) 20000 a1 a2 (A 81 (y_ix a1)) (A 65 (y_ix (A 81 (y_ix a1)))) (0 : Int32) none (xm_u2 (xm_u2 (xm_u2 A 36 (y_ix (A 65 (y_ix (A 81 (y_ix a1))))) (1 : Int32)) 38 (y_ix (A 65 (y_ix (A 81 (y_ix a1))))) (A 0 0)) 75 (y_ix (A 81 (y_ix a1))) (0 : Int32)) js h28 rfl ?_
            intro e3x
            refine ra.s (pc' := 129) (st' := [.inl (rf_takenBack_104 20000 a1 a2 (A 81 (y_ix a1)) (A 65 (y_ix (A 81 (y_ix a1)))) (0 : Int32) (xm_u2 (xm_u2 (xm_u2 A 36 (y_ix (A 65 (y_ix (A 81 (y_ix a1))))) (1 : Int32)) 38 (y_ix (A 65 (y_ix (A 81 (y_ix a1))))) (A 0 0)) 75 (y_ix (A 81 (y_ix a1))) (0 : Int32)))]) (fun _ => rfl) ?_
            refine ra.s (pc' := 131) (L' := [some (.inr (some (11, 0))), some (.inl a1), some (.inl a2), some (.inl (A 81 (y_ix a1))), some (.inl (A 65 (y_ix (A 81 (y_ix a1))))), some (.inl (rf_takenBack_104 20000 a1 a2 (A 81 (y_ix a1)) (A 65 (y_ix (A 81 (y_ix a1)))) (0 : Int32) (xm_u2 (xm_u2 (xm_u2 A 36 (y_ix (A 65 (y_ix (A 81 (y_ix a1))))) (1 : Int32)) 38 (y_ix (A 65 (y_ix (A 81 (y_ix a1))))) (A 0 0)) 75 (y_ix (A 81 (y_ix a1))) (0 : Int32)))), some (.inl (rf_takenBack_104 20000 a1 a2 (A 81 (y_ix a1)) (A 65 (y_ix (A 81 (y_ix a1)))) (0 : Int32) (xm_u2 (xm_u2 (xm_u2 A 36 (y_ix (A 65 (y_ix (A 81 (y_ix a1))))) (1 : Int32)) 38 (y_ix (A 65 (y_ix (A 81 (y_ix a1))))) (A 0 0)) 75 (y_ix (A 81 (y_ix a1))) (0 : Int32))))]) (st' := []) (fun _ => rfl) ?_
            obtain ⟨h29, hg⟩ := hg
            refine rh_takenBack_131 (by omega) 20000 a1 a2 (A 81 (y_ix a1)) (A 65 (y_ix (A 81 (y_ix a1)))) (rf_takenBack_104 20000 a1 a2 (A 81 (y_ix a1)) (A 65 (y_ix (A 81 (y_ix a1)))) (0 : Int32) (xm_u2 (xm_u2 (xm_u2 A 36 (y_ix (A 65 (y_ix (A 81 (y_ix a1))))) (1 : Int32)) 38 (y_ix (A 65 (y_ix (A 81 (y_ix a1))))) (A 0 0)) 75 (y_ix (A 81 (y_ix a1))) (0 : Int32))) (rf_takenBack_104 20000 a1 a2 (A 81 (y_ix a1)) (A 65 (y_ix (A 81 (y_ix a1)))) (0 : Int32) (xm_u2 (xm_u2 (xm_u2 A 36 (y_ix (A 65 (y_ix (A 81 (y_ix a1))))) (1 : Int32)) 38 (y_ix (A 65 (y_ix (A 81 (y_ix a1))))) (A 0 0)) 75 (y_ix (A 81 (y_ix a1))) (0 : Int32))) (xm_u2 (xm_u2 (xm_u2 A 36 (y_ix (A 65 (y_ix (A 81 (y_ix a1))))) (1 : Int32)) 38 (y_ix (A 65 (y_ix (A 81 (y_ix a1))))) (A 0 0)) 75 (y_ix (A 81 (y_ix a1))) (0 : Int32)) js h29 rfl ?_
            refine ra.s (pc' := 180) (st' := [.inr (some (11, 0))]) (fun _ => rfl) ?_
            refine ra.ga (x := 40) (nx := 183) (c := 13) (i := 33) rfl rfl ?_
            refine ra.s (pc' := 185) (st' := [.inl (A 65 (y_ix (A 81 (y_ix a1)))), .inr (some (13, 33))]) (fun _ => rfl) ?_
            refine ra.s (pc' := 186) (st' := [.inl (A 65 (y_ix (A 81 (y_ix a1)))), .inr (some (13, 33)), .inl (A 65 (y_ix (A 81 (y_ix a1)))), .inr (some (13, 33))]) (fun _ => rfl) ?_
            obtain ⟨h30, hg⟩ := hg
            refine ra.ld (nx := 187) (v := ((rf_takenBack_131 20000 a1 a2 (A 81 (y_ix a1)) (A 65 (y_ix (A 81 (y_ix a1)))) (rf_takenBack_104 20000 a1 a2 (A 81 (y_ix a1)) (A 65 (y_ix (A 81 (y_ix a1)))) (0 : Int32) (xm_u2 (xm_u2 (xm_u2 A 36 (y_ix (A 65 (y_ix (A 81 (y_ix a1))))) (1 : Int32)) 38 (y_ix (A 65 (y_ix (A 81 (y_ix a1))))) (A 0 0)) 75 (y_ix (A 81 (y_ix a1))) (0 : Int32))) (rf_takenBack_104 20000 a1 a2 (A 81 (y_ix a1)) (A 65 (y_ix (A 81 (y_ix a1)))) (0 : Int32) (xm_u2 (xm_u2 (xm_u2 A 36 (y_ix (A 65 (y_ix (A 81 (y_ix a1))))) (1 : Int32)) 38 (y_ix (A 65 (y_ix (A 81 (y_ix a1))))) (A 0 0)) 75 (y_ix (A 81 (y_ix a1))) (0 : Int32))) (xm_u2 (xm_u2 (xm_u2 A 36 (y_ix (A 65 (y_ix (A 81 (y_ix a1))))) (1 : Int32)) 38 (y_ix (A 65 (y_ix (A 81 (y_ix a1))))) (A 0 0)) 75 (y_ix (A 81 (y_ix a1))) (0 : Int32))).2 40 (y_ix (A 65 (y_ix (A 81 (y_ix a1))))))) 40 24 rfl rfl h30 rfl ?_
            refine ra.s (pc' := 188) (st' := [.inl (1 : Int32), .inl ((rf_takenBack_131 20000 a1 a2 (A 81 (y_ix a1)) (A 65 (y_ix (A 81 (y_ix a1)))) (rf_takenBack_104 20000 a1 a2 (A 81 (y_ix a1)) (A 65 (y_ix (A 81 (y_ix a1)))) (0 : Int32) (xm_u2 (xm_u2 (xm_u2 A 36 (y_ix (A 65 (y_ix (A 81 (y_ix a1))))) (1 : Int32)) 38 (y_ix (A 65 (y_ix (A 81 (y_ix a1))))) (A 0 0)) 75 (y_ix (A 81 (y_ix a1))) (0 : Int32))) (rf_takenBack_104 20000 a1 a2 (A 81 (y_ix a1)) (A 65 (y_ix (A 81 (y_ix a1)))) (0 : Int32) (xm_u2 (xm_u2 (xm_u2 A 36 (y_ix (A 65 (y_ix (A 81 (y_ix a1))))) (1 : Int32)) 38 (y_ix (A 65 (y_ix (A 81 (y_ix a1))))) (A 0 0)) 75 (y_ix (A 81 (y_ix a1))) (0 : Int32))) (xm_u2 (xm_u2 (xm_u2 A 36 (y_ix (A 65 (y_ix (A 81 (y_ix a1))))) (1 : Int32)) 38 (y_ix (A 65 (y_ix (A 81 (y_ix a1))))) (A 0 0)) 75 (y_ix (A 81 (y_ix a1))) (0 : Int32))).2 40 (y_ix (A 65 (y_ix (A 81 (y_ix a1)))))), .inl (A 65 (y_ix (A 81 (y_ix a1)))), .inr (some (13, 33))]) (fun _ => rfl) ?_
            refine ra.s (pc' := 189) (st' := [.inl (((rf_takenBack_131 20000 a1 a2 (A 81 (y_ix a1)) (A 65 (y_ix (A 81 (y_ix a1)))) (rf_takenBack_104 20000 a1 a2 (A 81 (y_ix a1)) (A 65 (y_ix (A 81 (y_ix a1)))) (0 : Int32) (xm_u2 (xm_u2 (xm_u2 A 36 (y_ix (A 65 (y_ix (A 81 (y_ix a1))))) (1 : Int32)) 38 (y_ix (A 65 (y_ix (A 81 (y_ix a1))))) (A 0 0)) 75 (y_ix (A 81 (y_ix a1))) (0 : Int32))) (rf_takenBack_104 20000 a1 a2 (A 81 (y_ix a1)) (A 65 (y_ix (A 81 (y_ix a1)))) (0 : Int32) (xm_u2 (xm_u2 (xm_u2 A 36 (y_ix (A 65 (y_ix (A 81 (y_ix a1))))) (1 : Int32)) 38 (y_ix (A 65 (y_ix (A 81 (y_ix a1))))) (A 0 0)) 75 (y_ix (A 81 (y_ix a1))) (0 : Int32))) (xm_u2 (xm_u2 (xm_u2 A 36 (y_ix (A 65 (y_ix (A 81 (y_ix a1))))) (1 : Int32)) 38 (y_ix (A 65 (y_ix (A 81 (y_ix a1))))) (A 0 0)) 75 (y_ix (A 81 (y_ix a1))) (0 : Int32))).2 40 (y_ix (A 65 (y_ix (A 81 (y_ix a1)))))) - (1 : Int32)), .inl (A 65 (y_ix (A 81 (y_ix a1)))), .inr (some (13, 33))]) (fun _ => rfl) ?_
            refine ra.si (nx := 190) 40 24 rfl rfl h30 ?_
            refine ra.s (pc' := 191) (st' := [.inr (some (11, 0))]) (fun _ => rfl) ?_
            refine ra.ga (x := 78) (nx := 194) (c := 14) (i := 5) rfl rfl ?_
            refine ra.s (pc' := 195) (st' := [.inl (A 81 (y_ix a1)), .inr (some (14, 5))]) (fun _ => rfl) ?_
            refine ra.lz (nx := 196) (v := ((rf_takenBack_131 20000 a1 a2 (A 81 (y_ix a1)) (A 65 (y_ix (A 81 (y_ix a1)))) (rf_takenBack_104 20000 a1 a2 (A 81 (y_ix a1)) (A 65 (y_ix (A 81 (y_ix a1)))) (0 : Int32) (xm_u2 (xm_u2 (xm_u2 A 36 (y_ix (A 65 (y_ix (A 81 (y_ix a1))))) (1 : Int32)) 38 (y_ix (A 65 (y_ix (A 81 (y_ix a1))))) (A 0 0)) 75 (y_ix (A 81 (y_ix a1))) (0 : Int32))) (rf_takenBack_104 20000 a1 a2 (A 81 (y_ix a1)) (A 65 (y_ix (A 81 (y_ix a1)))) (0 : Int32) (xm_u2 (xm_u2 (xm_u2 A 36 (y_ix (A 65 (y_ix (A 81 (y_ix a1))))) (1 : Int32)) 38 (y_ix (A 65 (y_ix (A 81 (y_ix a1))))) (A 0 0)) 75 (y_ix (A 81 (y_ix a1))) (0 : Int32))) (xm_u2 (xm_u2 (xm_u2 A 36 (y_ix (A 65 (y_ix (A 81 (y_ix a1))))) (1 : Int32)) 38 (y_ix (A 65 (y_ix (A 81 (y_ix a1))))) (A 0 0)) 75 (y_ix (A 81 (y_ix a1))) (0 : Int32))).2 78 (y_ix (A 81 (y_ix a1))))) 78 4400 rfl rfl h3 rfl ?_
            refine ra.b (c := ((rf_takenBack_131 20000 a1 a2 (A 81 (y_ix a1)) (A 65 (y_ix (A 81 (y_ix a1)))) (rf_takenBack_104 20000 a1 a2 (A 81 (y_ix a1)) (A 65 (y_ix (A 81 (y_ix a1)))) (0 : Int32) (xm_u2 (xm_u2 (xm_u2 A 36 (y_ix (A 65 (y_ix (A 81 (y_ix a1))))) (1 : Int32)) 38 (y_ix (A 65 (y_ix (A 81 (y_ix a1))))) (A 0 0)) 75 (y_ix (A 81 (y_ix a1))) (0 : Int32))) (rf_takenBack_104 20000 a1 a2 (A 81 (y_ix a1)) (A 65 (y_ix (A 81 (y_ix a1)))) (0 : Int32) (xm_u2 (xm_u2 (xm_u2 A 36 (y_ix (A 65 (y_ix (A 81 (y_ix a1))))) (1 : Int32)) 38 (y_ix (A 65 (y_ix (A 81 (y_ix a1))))) (A 0 0)) 75 (y_ix (A 81 (y_ix a1))) (0 : Int32))) (xm_u2 (xm_u2 (xm_u2 A 36 (y_ix (A 65 (y_ix (A 81 (y_ix a1))))) (1 : Int32)) 38 (y_ix (A 65 (y_ix (A 81 (y_ix a1))))) (A 0 0)) 75 (y_ix (A 81 (y_ix a1))) (0 : Int32))).2 78 (y_ix (A 81 (y_ix a1)))) = (0 : Int32)) (cd := .eq) (x := ((rf_takenBack_131 20000 a1 a2 (A 81 (y_ix a1)) (A 65 (y_ix (A 81 (y_ix a1)))) (rf_takenBack_104 20000 a1 a2 (A 81 (y_ix a1)) (A 65 (y_ix (A 81 (y_ix a1)))) (0 : Int32) (xm_u2 (xm_u2 (xm_u2 A 36 (y_ix (A 65 (y_ix (A 81 (y_ix a1))))) (1 : Int32)) 38 (y_ix (A 65 (y_ix (A 81 (y_ix a1))))) (A 0 0)) 75 (y_ix (A 81 (y_ix a1))) (0 : Int32))) (rf_takenBack_104 20000 a1 a2 (A 81 (y_ix a1)) (A 65 (y_ix (A 81 (y_ix a1)))) (0 : Int32) (xm_u2 (xm_u2 (xm_u2 A 36 (y_ix (A 65 (y_ix (A 81 (y_ix a1))))) (1 : Int32)) 38 (y_ix (A 65 (y_ix (A 81 (y_ix a1))))) (A 0 0)) 75 (y_ix (A 81 (y_ix a1))) (0 : Int32))) (xm_u2 (xm_u2 (xm_u2 A 36 (y_ix (A 65 (y_ix (A 81 (y_ix a1))))) (1 : Int32)) 38 (y_ix (A 65 (y_ix (A 81 (y_ix a1))))) (A 0 0)) 75 (y_ix (A 81 (y_ix a1))) (0 : Int32))).2 78 (y_ix (A 81 (y_ix a1))))) (y := (0 : Int32)) 208 199 (st' := []) (fun _ => rfl) (y_ceq _ _) hk hg (fun h31 hg hk => ?_) (fun h31 hg hk => ?_)
            · skip
              subst hk
              exact ra.ret (r := none) (fun _ => rfl) ⟨rfl, rfl, rfl⟩
            · skip
              refine ra.s (pc' := 200) (st' := [.inr (some (11, 0))]) (fun _ => rfl) ?_
              refine ra.s (pc' := 201) (st' := [.inl (5 : Int32), .inr (some (11, 0))]) (fun _ => rfl) ?_
              refine ra.s (pc' := 202) (st' := [.inl (A 81 (y_ix a1)), .inl (5 : Int32), .inr (some (11, 0))]) (fun _ => rfl) ?_
              refine ra.s (pc' := 203) (st' := [.inl (-1 : Int32), .inl (A 81 (y_ix a1)), .inl (5 : Int32), .inr (some (11, 0))]) (fun _ => rfl) ?_
              refine ra.s (pc' := 204) (st' := [.inl (0 : Int32), .inl (-1 : Int32), .inl (A 81 (y_ix a1)), .inl (5 : Int32), .inr (some (11, 0))]) (fun _ => rfl) ?_
              refine ra.s (pc' := 205) (st' := [.inl (0 : Int32), .inl (0 : Int32), .inl (-1 : Int32), .inl (A 81 (y_ix a1)), .inl (5 : Int32), .inr (some (11, 0))]) (fun _ => rfl) ?_
              obtain ⟨h32, hg⟩ := hg
              refine ra.cV (m := 131) (as := [.inr (some (11, 0)), .inl (5 : Int32), .inl (A 81 (y_ix a1)), .inl (-1 : Int32), .inl (0 : Int32), .inl (0 : Int32)]) (nx := 208) (L' := [some (.inr (some (11, 0))), some (.inl a1), some (.inl a2), some (.inl (A 81 (y_ix a1))), some (.inl (A 65 (y_ix (A 81 (y_ix a1))))), some (.inl (rf_takenBack_104 20000 a1 a2 (A 81 (y_ix a1)) (A 65 (y_ix (A 81 (y_ix a1)))) (0 : Int32) (xm_u2 (xm_u2 (xm_u2 A 36 (y_ix (A 65 (y_ix (A 81 (y_ix a1))))) (1 : Int32)) 38 (y_ix (A 65 (y_ix (A 81 (y_ix a1))))) (A 0 0)) 75 (y_ix (A 81 (y_ix a1))) (0 : Int32)))), some (.inl (rf_takenBack_131 20000 a1 a2 (A 81 (y_ix a1)) (A 65 (y_ix (A 81 (y_ix a1)))) (rf_takenBack_104 20000 a1 a2 (A 81 (y_ix a1)) (A 65 (y_ix (A 81 (y_ix a1)))) (0 : Int32) (xm_u2 (xm_u2 (xm_u2 A 36 (y_ix (A 65 (y_ix (A 81 (y_ix a1))))) (1 : Int32)) 38 (y_ix (A 65 (y_ix (A 81 (y_ix a1))))) (A 0 0)) 75 (y_ix (A 81 (y_ix a1))) (0 : Int32))) (rf_takenBack_104 20000 a1 a2 (A 81 (y_ix a1)) (A 65 (y_ix (A 81 (y_ix a1)))) (0 : Int32) (xm_u2 (xm_u2 (xm_u2 A 36 (y_ix (A 65 (y_ix (A 81 (y_ix a1))))) (1 : Int32)) 38 (y_ix (A 65 (y_ix (A 81 (y_ix a1))))) (A 0 0)) 75 (y_ix (A 81 (y_ix a1))) (0 : Int32))) (xm_u2 (xm_u2 (xm_u2 A 36 (y_ix (A 65 (y_ix (A 81 (y_ix a1))))) (1 : Int32)) 38 (y_ix (A 65 (y_ix (A 81 (y_ix a1))))) (A 0 0)) 75 (y_ix (A 81 (y_ix a1))) (0 : Int32))).1)]) (st' := []) (fun _ => rfl) (rh_add h32) ?_
              show ra _ _ _ _ _ (xm_u2 (rf_takenBack_131 20000 a1 a2 (A 81 (y_ix a1)) (A 65 (y_ix (A 81 (y_ix a1)))) (rf_takenBack_104 20000 a1 a2 (A 81 (y_ix a1)) (A 65 (y_ix (A 81 (y_ix a1)))) (0 : Int32) (xm_u2 (xm_u2 (xm_u2 A 36 (y_ix (A 65 (y_ix (A 81 (y_ix a1))))) (1 : Int32)) 38 (y_ix (A 65 (y_ix (A 81 (y_ix a1))))) (A 0 0)) 75 (y_ix (A 81 (y_ix a1))) (0 : Int32))) (rf_takenBack_104 20000 a1 a2 (A 81 (y_ix a1)) (A 65 (y_ix (A 81 (y_ix a1)))) (0 : Int32) (xm_u2 (xm_u2 (xm_u2 A 36 (y_ix (A 65 (y_ix (A 81 (y_ix a1))))) (1 : Int32)) 38 (y_ix (A 65 (y_ix (A 81 (y_ix a1))))) (A 0 0)) 75 (y_ix (A 81 (y_ix a1))) (0 : Int32))) (xm_u2 (xm_u2 (xm_u2 A 36 (y_ix (A 65 (y_ix (A 81 (y_ix a1))))) (1 : Int32)) 38 (y_ix (A 65 (y_ix (A 81 (y_ix a1))))) (A 0 0)) 75 (y_ix (A 81 (y_ix a1))) (0 : Int32))).2 40 (y_ix (A 65 (y_ix (A 81 (y_ix a1))))) (((rf_takenBack_131 20000 a1 a2 (A 81 (y_ix a1)) (A 65 (y_ix (A 81 (y_ix a1)))) (rf_takenBack_104 20000 a1 a2 (A 81 (y_ix a1)) (A 65 (y_ix (A 81 (y_ix a1)))) (0 : Int32) (xm_u2 (xm_u2 (xm_u2 A 36 (y_ix (A 65 (y_ix (A 81 (y_ix a1))))) (1 : Int32)) 38 (y_ix (A 65 (y_ix (A 81 (y_ix a1))))) (A 0 0)) 75 (y_ix (A 81 (y_ix a1))) (0 : Int32))) (rf_takenBack_104 20000 a1 a2 (A 81 (y_ix a1)) (A 65 (y_ix (A 81 (y_ix a1)))) (0 : Int32) (xm_u2 (xm_u2 (xm_u2 A 36 (y_ix (A 65 (y_ix (A 81 (y_ix a1))))) (1 : Int32)) 38 (y_ix (A 65 (y_ix (A 81 (y_ix a1))))) (A 0 0)) 75 (y_ix (A 81 (y_ix a1))) (0 : Int32))) (xm_u2 (xm_u2 (xm_u2 A 36 (y_ix (A 65 (y_ix (A 81 (y_ix a1))))) (1 : Int32)) 38 (y_ix (A 65 (y_ix (A 81 (y_ix a1))))) (A 0 0)) 75 (y_ix (A 81 (y_ix a1))) (0 : Int32))).2 40 (y_ix (A 65 (y_ix (A 81 (y_ix a1)))))) - (1 : Int32))) (((5 : Int32), (A 81 (y_ix a1)), (-1 : Int32), (0 : Int32), (0 : Int32)) :: js) _
              subst hk
              exact ra.ret (r := none) (fun _ => rfl) ⟨rfl, rfl, rfl⟩
        · skip
          refine ra.s (pc' := 68) (st' := [.inr (some (11, 0))]) (fun _ => rfl) ?_
          refine ra.ga (x := 77) (nx := 71) (c := 14) (i := 4) rfl rfl ?_
          refine ra.s (pc' := 72) (st' := [.inl (A 81 (y_ix a1)), .inr (some (14, 4))]) (fun _ => rfl) ?_
          refine ra.s (pc' := 73) (st' := [.inl (0 : Int32), .inl (A 81 (y_ix a1)), .inr (some (14, 4))]) (fun _ => rfl) ?_
          refine ra.sz (nx := 74) 77 4400 rfl rfl h3 (Or.inl rfl) ?_
          refine ra.s (pc' := 75) (st' := [.inr (some (11, 0))]) (fun _ => rfl) ?_
          refine ra.ga (x := 39) (nx := 78) (c := 13) (i := 32) rfl rfl ?_
          refine ra.s (pc' := 80) (st' := [.inl (A 65 (y_ix (A 81 (y_ix a1)))), .inr (some (13, 32))]) (fun _ => rfl) ?_
          refine ra.s (pc' := 81) (st' := [.inl (A 65 (y_ix (A 81 (y_ix a1)))), .inr (some (13, 32)), .inl (A 65 (y_ix (A 81 (y_ix a1)))), .inr (some (13, 32))]) (fun _ => rfl) ?_
          obtain ⟨h33, hg⟩ := hg
          refine ra.ld (nx := 82) (v := (A 39 (y_ix (A 65 (y_ix (A 81 (y_ix a1))))))) 39 24 rfl rfl h33 rfl ?_
          refine ra.s (pc' := 83) (st' := [.inl (1 : Int32), .inl (A 39 (y_ix (A 65 (y_ix (A 81 (y_ix a1)))))), .inl (A 65 (y_ix (A 81 (y_ix a1)))), .inr (some (13, 32))]) (fun _ => rfl) ?_
          refine ra.s (pc' := 84) (st' := [.inl ((A 39 (y_ix (A 65 (y_ix (A 81 (y_ix a1)))))) - (1 : Int32)), .inl (A 65 (y_ix (A 81 (y_ix a1)))), .inr (some (13, 32))]) (fun _ => rfl) ?_
          refine ra.si (nx := 85) 39 24 rfl rfl h33 ?_
          refine ra.s (pc' := 86) (st' := [.inr (some (11, 0))]) (fun _ => rfl) ?_
          refine ra.ga (x := 75) (nx := 89) (c := 14) (i := 2) rfl rfl ?_
          refine ra.s (pc' := 90) (st' := [.inl (A 81 (y_ix a1)), .inr (some (14, 2))]) (fun _ => rfl) ?_
          refine ra.lz (nx := 91) (v := (A 75 (y_ix (A 81 (y_ix a1))))) 75 4400 rfl rfl h3 rfl ?_
          refine ra.b (c := (A 75 (y_ix (A 81 (y_ix a1)))) = (0 : Int32)) (cd := .eq) (x := (A 75 (y_ix (A 81 (y_ix a1))))) (y := (0 : Int32)) 190 94 (st' := []) (fun _ => rfl) (y_ceq _ _) hk hg (fun h34 hg hk => ?_) (fun h34 hg hk => ?_)
          · skip
            refine ra.s (pc' := 191) (st' := [.inr (some (11, 0))]) (fun _ => rfl) ?_
            refine ra.ga (x := 78) (nx := 194) (c := 14) (i := 5) rfl rfl ?_
            refine ra.s (pc' := 195) (st' := [.inl (A 81 (y_ix a1)), .inr (some (14, 5))]) (fun _ => rfl) ?_
            refine ra.lz (nx := 196) (v := (A 78 (y_ix (A 81 (y_ix a1))))) 78 4400 rfl rfl h3 rfl ?_
            refine ra.b (c := (A 78 (y_ix (A 81 (y_ix a1)))) = (0 : Int32)) (cd := .eq) (x := (A 78 (y_ix (A 81 (y_ix a1))))) (y := (0 : Int32)) 208 199 (st' := []) (fun _ => rfl) (y_ceq _ _) hk hg (fun h35 hg hk => ?_) (fun h35 hg hk => ?_)
            · skip
              subst hk
              exact ra.ret (r := none) (fun _ => rfl) ⟨rfl, rfl, rfl⟩
            · skip
              refine ra.s (pc' := 200) (st' := [.inr (some (11, 0))]) (fun _ => rfl) ?_
              refine ra.s (pc' := 201) (st' := [.inl (5 : Int32), .inr (some (11, 0))]) (fun _ => rfl) ?_
              refine ra.s (pc' := 202) (st' := [.inl (A 81 (y_ix a1)), .inl (5 : Int32), .inr (some (11, 0))]) (fun _ => rfl) ?_
              refine ra.s (pc' := 203) (st' := [.inl (-1 : Int32), .inl (A 81 (y_ix a1)), .inl (5 : Int32), .inr (some (11, 0))]) (fun _ => rfl) ?_
              refine ra.s (pc' := 204) (st' := [.inl (0 : Int32), .inl (-1 : Int32), .inl (A 81 (y_ix a1)), .inl (5 : Int32), .inr (some (11, 0))]) (fun _ => rfl) ?_
              refine ra.s (pc' := 205) (st' := [.inl (0 : Int32), .inl (0 : Int32), .inl (-1 : Int32), .inl (A 81 (y_ix a1)), .inl (5 : Int32), .inr (some (11, 0))]) (fun _ => rfl) ?_
              obtain ⟨h36, hg⟩ := hg
              refine ra.cV (m := 131) (as := [.inr (some (11, 0)), .inl (5 : Int32), .inl (A 81 (y_ix a1)), .inl (-1 : Int32), .inl (0 : Int32), .inl (0 : Int32)]) (nx := 208) (L' := [some (.inr (some (11, 0))), some (.inl a1), some (.inl a2), some (.inl (A 81 (y_ix a1))), some (.inl (A 65 (y_ix (A 81 (y_ix a1))))), none, none]) (st' := []) (fun _ => rfl) (rh_add h36) ?_
              show ra _ _ _ _ _ (xm_u2 (xm_u2 (xm_u2 (xm_u2 A 36 (y_ix (A 65 (y_ix (A 81 (y_ix a1))))) (1 : Int32)) 38 (y_ix (A 65 (y_ix (A 81 (y_ix a1))))) (A 0 0)) 77 (y_ix (A 81 (y_ix a1))) (0 : Int32)) 39 (y_ix (A 65 (y_ix (A 81 (y_ix a1))))) ((A 39 (y_ix (A 65 (y_ix (A 81 (y_ix a1)))))) - (1 : Int32))) (((5 : Int32), (A 81 (y_ix a1)), (-1 : Int32), (0 : Int32), (0 : Int32)) :: js) _
              subst hk
              exact ra.ret (r := none) (fun _ => rfl) ⟨rfl, rfl, rfl⟩
          · skip
            refine ra.s (pc' := 95) (st' := [.inr (some (11, 0))]) (fun _ => rfl) ?_
            refine ra.ga (x := 75) (nx := 98) (c := 14) (i := 2) rfl rfl ?_
            refine ra.s (pc' := 99) (st' := [.inl (A 81 (y_ix a1)), .inr (some (14, 2))]) (fun _ => rfl) ?_
            refine ra.s (pc' := 100) (st' := [.inl (0 : Int32), .inl (A 81 (y_ix a1)), .inr (some (14, 2))]) (fun _ => rfl) ?_
            refine ra.sz (nx := 101) 75 4400 rfl rfl h3 (Or.inl rfl) ?_
            refine ra.s (pc' := 102) (st' := [.inl (0 : Int32)]) (fun _ => rfl) ?_
            refine ra.s (pc' := 104) (L' := [some (.inr (some (11, 0))), some (.inl a1), some (.inl a2), some (.inl (A 81 (y_ix a1))), some (.inl (A 65 (y_ix (A 81 (y_ix a1))))), some (.inl (0 : Int32)), none]) (st' := []) (fun _ => rfl) ?_
            obtain ⟨h37, hg⟩ := hg
            refine rh_takenBack_104 (by omega) 20000 a1 a2 (A 81 (y_ix a1)) (A 65 (y_ix (A 81 (y_ix a1)))) (0 : Int32) none (xm_u2 (xm_u2 (xm_u2 (xm_u2 (xm_u2 A 36 (y_ix (A 65 (y_ix (A 81 (y_ix a1))))) (1 : Int32)) 38 (y_ix (A 65 (y_ix (A 81 (y_ix a1))))) (A 0 0)) 77 (y_ix (A 81 (y_ix a1))) (0 : Int32)) 39 (y_ix (A 65 (y_ix (A 81 (y_ix a1))))) ((A 39 (y_ix (A 65 (y_ix (A 81 (y_ix a1)))))) - (1 : Int32))) 75 (y_ix (A 81 (y_ix a1))) (0 : Int32)) js h37 rfl ?_
            intro e4x
            refine ra.s (pc' := 129) (st' := [.inl (rf_takenBack_104 20000 a1 a2 (A 81 (y_ix a1)) (A 65 (y_ix (A 81 (y_ix a1)))) (0 : Int32) (xm_u2 (xm_u2 (xm_u2 (xm_u2 (xm_u2 A 36 (y_ix (A 65 (y_ix (A 81 (y_ix a1))))) (1 : Int32)) 38 (y_ix (A 65 (y_ix (A 81 (y_ix a1))))) (A 0 0)) 77 (y_ix (A 81 (y_ix a1))) (0 : Int32)) 39 (y_ix (A 65 (y_ix (A 81 (y_ix a1))))) ((A 39 (y_ix (A 65 (y_ix (A 81 (y_ix a1)))))) - (1 : Int32))) 75 (y_ix (A 81 (y_ix a1))) (0 : Int32)))]) (fun _ => rfl) ?_
            refine ra.s (pc' := 131) (L' := [some (.inr (some (11, 0))), some (.inl a1), some (.inl a2), some (.inl (A 81 (y_ix a1))), some (.inl (A 65 (y_ix (A 81 (y_ix a1))))), some (.inl (rf_takenBack_104 20000 a1 a2 (A 81 (y_ix a1)) (A 65 (y_ix (A 81 (y_ix a1)))) (0 : Int32) (xm_u2 (xm_u2 (xm_u2 (xm_u2 (xm_u2 A 36 (y_ix (A 65 (y_ix (A 81 (y_ix a1))))) (1 : Int32)) 38 (y_ix (A 65 (y_ix (A 81 (y_ix a1))))) (A 0 0)) 77 (y_ix (A 81 (y_ix a1))) (0 : Int32)) 39 (y_ix (A 65 (y_ix (A 81 (y_ix a1))))) ((A 39 (y_ix (A 65 (y_ix (A 81 (y_ix a1)))))) - (1 : Int32))) 75 (y_ix (A 81 (y_ix a1))) (0 : Int32)))), some (.inl (rf_takenBack_104 20000 a1 a2 (A 81 (y_ix a1)) (A 65 (y_ix (A 81 (y_ix a1)))) (0 : Int32) (xm_u2 (xm_u2 (xm_u2 (xm_u2 (xm_u2 A 36 (y_ix (A 65 (y_ix (A 81 (y_ix a1))))) (1 : Int32)) 38 (y_ix (A 65 (y_ix (A 81 (y_ix a1))))) (A 0 0)) 77 (y_ix (A 81 (y_ix a1))) (0 : Int32)) 39 (y_ix (A 65 (y_ix (A 81 (y_ix a1))))) ((A 39 (y_ix (A 65 (y_ix (A 81 (y_ix a1)))))) - (1 : Int32))) 75 (y_ix (A 81 (y_ix a1))) (0 : Int32))))]) (st' := []) (fun _ => rfl) ?_
            obtain ⟨h38, hg⟩ := hg
            refine rh_takenBack_131 (by omega) 20000 a1 a2 (A 81 (y_ix a1)) (A 65 (y_ix (A 81 (y_ix a1)))) (rf_takenBack_104 20000 a1 a2 (A 81 (y_ix a1)) (A 65 (y_ix (A 81 (y_ix a1)))) (0 : Int32) (xm_u2 (xm_u2 (xm_u2 (xm_u2 (xm_u2 A 36 (y_ix (A 65 (y_ix (A 81 (y_ix a1))))) (1 : Int32)) 38 (y_ix (A 65 (y_ix (A 81 (y_ix a1))))) (A 0 0)) 77 (y_ix (A 81 (y_ix a1))) (0 : Int32)) 39 (y_ix (A 65 (y_ix (A 81 (y_ix a1))))) ((A 39 (y_ix (A 65 (y_ix (A 81 (y_ix a1)))))) - (1 : Int32))) 75 (y_ix (A 81 (y_ix a1))) (0 : Int32))) (rf_takenBack_104 20000 a1 a2 (A 81 (y_ix a1)) (A 65 (y_ix (A 81 (y_ix a1)))) (0 : Int32) (xm_u2 (xm_u2 (xm_u2 (xm_u2 (xm_u2 A 36 (y_ix (A 65 (y_ix (A 81 (y_ix a1))))) (1 : Int32)) 38 (y_ix (A 65 (y_ix (A 81 (y_ix a1))))) (A 0 0)) 77 (y_ix (A 81 (y_ix a1))) (0 : Int32)) 39 (y_ix (A 65 (y_ix (A 81 (y_ix a1))))) ((A 39 (y_ix (A 65 (y_ix (A 81 (y_ix a1)))))) - (1 : Int32))) 75 (y_ix (A 81 (y_ix a1))) (0 : Int32))) (xm_u2 (xm_u2 (xm_u2 (xm_u2 (xm_u2 A 36 (y_ix (A 65 (y_ix (A 81 (y_ix a1))))) (1 : Int32)) 38 (y_ix (A 65 (y_ix (A 81 (y_ix a1))))) (A 0 0)) 77 (y_ix (A 81 (y_ix a1))) (0 : Int32)) 39 (y_ix (A 65 (y_ix (A 81 (y_ix a1))))) ((A 39 (y_ix (A 65 (y_ix (A 81 (y_ix a1)))))) - (1 : Int32))) 75 (y_ix (A 81 (y_ix a1))) (0 : Int32)) js h38 rfl ?_
            refine ra.s (pc' := 180) (st' := [.inr (some (11, 0))]) (fun _ => rfl) ?_
            refine ra.ga (x := 40) (nx := 183) (c := 13) (i := 33) rfl rfl ?_
            refine ra.s (pc' := 185) (st' := [.inl (A 65 (y_ix (A 81 (y_ix a1)))), .inr (some (13, 33))]) (fun _ => rfl) ?_
            refine ra.s (pc' := 186) (st' := [.inl (A 65 (y_ix (A 81 (y_ix a1)))), .inr (some (13, 33)), .inl (A 65 (y_ix (A 81 (y_ix a1)))), .inr (some (13, 33))]) (fun _ => rfl) ?_
            refine ra.ld (nx := 187) (v := ((rf_takenBack_131 20000 a1 a2 (A 81 (y_ix a1)) (A 65 (y_ix (A 81 (y_ix a1)))) (rf_takenBack_104 20000 a1 a2 (A 81 (y_ix a1)) (A 65 (y_ix (A 81 (y_ix a1)))) (0 : Int32) (xm_u2 (xm_u2 (xm_u2 (xm_u2 (xm_u2 A 36 (y_ix (A 65 (y_ix (A 81 (y_ix a1))))) (1 : Int32)) 38 (y_ix (A 65 (y_ix (A 81 (y_ix a1))))) (A 0 0)) 77 (y_ix (A 81 (y_ix a1))) (0 : Int32)) 39 (y_ix (A 65 (y_ix (A 81 (y_ix a1))))) ((A 39 (y_ix (A 65 (y_ix (A 81 (y_ix a1)))))) - (1 : Int32))) 75 (y_ix (A 81 (y_ix a1))) (0 : Int32))) (rf_takenBack_104 20000 a1 a2 (A 81 (y_ix a1)) (A 65 (y_ix (A 81 (y_ix a1)))) (0 : Int32) (xm_u2 (xm_u2 (xm_u2 (xm_u2 (xm_u2 A 36 (y_ix (A 65 (y_ix (A 81 (y_ix a1))))) (1 : Int32)) 38 (y_ix (A 65 (y_ix (A 81 (y_ix a1))))) (A 0 0)) 77 (y_ix (A 81 (y_ix a1))) (0 : Int32)) 39 (y_ix (A 65 (y_ix (A 81 (y_ix a1))))) ((A 39 (y_ix (A 65 (y_ix (A 81 (y_ix a1)))))) - (1 : Int32))) 75 (y_ix (A 81 (y_ix a1))) (0 : Int32))) (xm_u2 (xm_u2 (xm_u2 (xm_u2 (xm_u2 A 36 (y_ix (A 65 (y_ix (A 81 (y_ix a1))))) (1 : Int32)) 38 (y_ix (A 65 (y_ix (A 81 (y_ix a1))))) (A 0 0)) 77 (y_ix (A 81 (y_ix a1))) (0 : Int32)) 39 (y_ix (A 65 (y_ix (A 81 (y_ix a1))))) ((A 39 (y_ix (A 65 (y_ix (A 81 (y_ix a1)))))) - (1 : Int32))) 75 (y_ix (A 81 (y_ix a1))) (0 : Int32))).2 40 (y_ix (A 65 (y_ix (A 81 (y_ix a1))))))) 40 24 rfl rfl h33 rfl ?_
            refine ra.s (pc' := 188) (st' := [.inl (1 : Int32), .inl ((rf_takenBack_131 20000 a1 a2 (A 81 (y_ix a1)) (A 65 (y_ix (A 81 (y_ix a1)))) (rf_takenBack_104 20000 a1 a2 (A 81 (y_ix a1)) (A 65 (y_ix (A 81 (y_ix a1)))) (0 : Int32) (xm_u2 (xm_u2 (xm_u2 (xm_u2 (xm_u2 A 36 (y_ix (A 65 (y_ix (A 81 (y_ix a1))))) (1 : Int32)) 38 (y_ix (A 65 (y_ix (A 81 (y_ix a1))))) (A 0 0)) 77 (y_ix (A 81 (y_ix a1))) (0 : Int32)) 39 (y_ix (A 65 (y_ix (A 81 (y_ix a1))))) ((A 39 (y_ix (A 65 (y_ix (A 81 (y_ix a1)))))) - (1 : Int32))) 75 (y_ix (A 81 (y_ix a1))) (0 : Int32))) (rf_takenBack_104 20000 a1 a2 (A 81 (y_ix a1)) (A 65 (y_ix (A 81 (y_ix a1)))) (0 : Int32) (xm_u2 (xm_u2 (xm_u2 (xm_u2 (xm_u2 A 36 (y_ix (A 65 (y_ix (A 81 (y_ix a1))))) (1 : Int32)) 38 (y_ix (A 65 (y_ix (A 81 (y_ix a1))))) (A 0 0)) 77 (y_ix (A 81 (y_ix a1))) (0 : Int32)) 39 (y_ix (A 65 (y_ix (A 81 (y_ix a1))))) ((A 39 (y_ix (A 65 (y_ix (A 81 (y_ix a1)))))) - (1 : Int32))) 75 (y_ix (A 81 (y_ix a1))) (0 : Int32))) (xm_u2 (xm_u2 (xm_u2 (xm_u2 (xm_u2 A 36 (y_ix (A 65 (y_ix (A 81 (y_ix a1))))) (1 : Int32)) 38 (y_ix (A 65 (y_ix (A 81 (y_ix a1))))) (A 0 0)) 77 (y_ix (A 81 (y_ix a1))) (0 : Int32)) 39 (y_ix (A 65 (y_ix (A 81 (y_ix a1))))) ((A 39 (y_ix (A 65 (y_ix (A 81 (y_ix a1)))))) - (1 : Int32))) 75 (y_ix (A 81 (y_ix a1))) (0 : Int32))).2 40 (y_ix (A 65 (y_ix (A 81 (y_ix a1)))))), .inl (A 65 (y_ix (A 81 (y_ix a1)))), .inr (some (13, 33))]) (fun _ => rfl) ?_
            refine ra.s (pc' := 189) (st' := [.inl (((rf_takenBack_131 20000 a1 a2 (A 81 (y_ix a1)) (A 65 (y_ix (A 81 (y_ix a1)))) (rf_takenBack_104 20000 a1 a2 (A 81 (y_ix a1)) (A 65 (y_ix (A 81 (y_ix a1)))) (0 : Int32) (xm_u2 (xm_u2 (xm_u2 (xm_u2 (xm_u2 A 36 (y_ix (A 65 (y_ix (A 81 (y_ix a1))))) (1 : Int32)) 38 (y_ix (A 65 (y_ix (A 81 (y_ix a1))))) (A 0 0)) 77 (y_ix (A 81 (y_ix a1))) (0 : Int32)) 39 (y_ix (A 65 (y_ix (A 81 (y_ix a1))))) ((A 39 (y_ix (A 65 (y_ix (A 81 (y_ix a1)))))) - (1 : Int32))) 75 (y_ix (A 81 (y_ix a1))) (0 : Int32))) (rf_takenBack_104 20000 a1 a2 (A 81 (y_ix a1)) (A 65 (y_ix (A 81 (y_ix a1)))) (0 : Int32) (xm_u2 (xm_u2 (xm_u2 (xm_u2 (xm_u2 A 36 (y_ix (A 65 (y_ix (A 81 (y_ix a1))))) (1 : Int32)) 38 (y_ix (A 65 (y_ix (A 81 (y_ix a1))))) (A 0 0)) 77 (y_ix (A 81 (y_ix a1))) (0 : Int32)) 39 (y_ix (A 65 (y_ix (A 81 (y_ix a1))))) ((A 39 (y_ix (A 65 (y_ix (A 81 (y_ix a1)))))) - (1 : Int32))) 75 (y_ix (A 81 (y_ix a1))) (0 : Int32))) (xm_u2 (xm_u2 (xm_u2 (xm_u2 (xm_u2 A 36 (y_ix (A 65 (y_ix (A 81 (y_ix a1))))) (1 : Int32)) 38 (y_ix (A 65 (y_ix (A 81 (y_ix a1))))) (A 0 0)) 77 (y_ix (A 81 (y_ix a1))) (0 : Int32)) 39 (y_ix (A 65 (y_ix (A 81 (y_ix a1))))) ((A 39 (y_ix (A 65 (y_ix (A 81 (y_ix a1)))))) - (1 : Int32))) 75 (y_ix (A 81 (y_ix a1))) (0 : Int32))).2 40 (y_ix (A 65 (y_ix (A 81 (y_ix a1)))))) - (1 : Int32)), .inl (A 65 (y_ix (A 81 (y_ix a1)))), .inr (some (13, 33))]) (fun _ => rfl) ?_
            refine ra.si (nx := 190) 40 24 rfl rfl h33 ?_
            refine ra.s (pc' := 191) (st' := [.inr (some (11, 0))]) (fun _ => rfl) ?_
            refine ra.ga (x := 78) (nx := 194) (c := 14) (i := 5) rfl rfl ?_
            refine ra.s (pc' := 195) (st' := [.inl (A 81 (y_ix a1)), .inr (some (14, 5))]) (fun _ => rfl) ?_
            refine ra.lz (nx := 196) (v := ((rf_takenBack_131 20000 a1 a2 (A 81 (y_ix a1)) (A 65 (y_ix (A 81 (y_ix a1)))) (rf_takenBack_104 20000 a1 a2 (A 81 (y_ix a1)) (A 65 (y_ix (A 81 (y_ix a1)))) (0 : Int32) (xm_u2 (xm_u2 (xm_u2 (xm_u2 (xm_u2 A 36 (y_ix (A 65 (y_ix (A 81 (y_ix a1))))) (1 : Int32)) 38 (y_ix (A 65 (y_ix (A 81 (y_ix a1))))) (A 0 0)) 77 (y_ix (A 81 (y_ix a1))) (0 : Int32)) 39 (y_ix (A 65 (y_ix (A 81 (y_ix a1))))) ((A 39 (y_ix (A 65 (y_ix (A 81 (y_ix a1)))))) - (1 : Int32))) 75 (y_ix (A 81 (y_ix a1))) (0 : Int32))) (rf_takenBack_104 20000 a1 a2 (A 81 (y_ix a1)) (A 65 (y_ix (A 81 (y_ix a1)))) (0 : Int32) (xm_u2 (xm_u2 (xm_u2 (xm_u2 (xm_u2 A 36 (y_ix (A 65 (y_ix (A 81 (y_ix a1))))) (1 : Int32)) 38 (y_ix (A 65 (y_ix (A 81 (y_ix a1))))) (A 0 0)) 77 (y_ix (A 81 (y_ix a1))) (0 : Int32)) 39 (y_ix (A 65 (y_ix (A 81 (y_ix a1))))) ((A 39 (y_ix (A 65 (y_ix (A 81 (y_ix a1)))))) - (1 : Int32))) 75 (y_ix (A 81 (y_ix a1))) (0 : Int32))) (xm_u2 (xm_u2 (xm_u2 (xm_u2 (xm_u2 A 36 (y_ix (A 65 (y_ix (A 81 (y_ix a1))))) (1 : Int32)) 38 (y_ix (A 65 (y_ix (A 81 (y_ix a1))))) (A 0 0)) 77 (y_ix (A 81 (y_ix a1))) (0 : Int32)) 39 (y_ix (A 65 (y_ix (A 81 (y_ix a1))))) ((A 39 (y_ix (A 65 (y_ix (A 81 (y_ix a1)))))) - (1 : Int32))) 75 (y_ix (A 81 (y_ix a1))) (0 : Int32))).2 78 (y_ix (A 81 (y_ix a1))))) 78 4400 rfl rfl h3 rfl ?_
            refine ra.b (c := ((rf_takenBack_131 20000 a1 a2 (A 81 (y_ix a1)) (A 65 (y_ix (A 81 (y_ix a1)))) (rf_takenBack_104 20000 a1 a2 (A 81 (y_ix a1)) (A 65 (y_ix (A 81 (y_ix a1)))) (0 : Int32) (xm_u2 (xm_u2 (xm_u2 (xm_u2 (xm_u2 A 36 (y_ix (A 65 (y_ix (A 81 (y_ix a1))))) (1 : Int32)) 38 (y_ix (A 65 (y_ix (A 81 (y_ix a1))))) (A 0 0)) 77 (y_ix (A 81 (y_ix a1))) (0 : Int32)) 39 (y_ix (A 65 (y_ix (A 81 (y_ix a1))))) ((A 39 (y_ix (A 65 (y_ix (A 81 (y_ix a1)))))) - (1 : Int32))) 75 (y_ix (A 81 (y_ix a1))) (0 : Int32))) (rf_takenBack_104 20000 a1 a2 (A 81 (y_ix a1)) (A 65 (y_ix (A 81 (y_ix a1)))) (0 : Int32) (xm_u2 (xm_u2 (xm_u2 (xm_u2 (xm_u2 A 36 (y_ix (A 65 (y_ix (A 81 (y_ix a1))))) (1 : Int32)) 38 (y_ix (A 65 (y_ix (A 81 (y_ix a1))))) (A 0 0)) 77 (y_ix (A 81 (y_ix a1))) (0 : Int32)) 39 (y_ix (A 65 (y_ix (A 81 (y_ix a1))))) ((A 39 (y_ix (A 65 (y_ix (A 81 (y_ix a1)))))) - (1 : Int32))) 75 (y_ix (A 81 (y_ix a1))) (0 : Int32))) (xm_u2 (xm_u2 (xm_u2 (xm_u2 (xm_u2 A 36 (y_ix (A 65 (y_ix (A 81 (y_ix a1))))) (1 : Int32)) 38 (y_ix (A 65 (y_ix (A 81 (y_ix a1))))) (A 0 0)) 77 (y_ix (A 81 (y_ix a1))) (0 : Int32)) 39 (y_ix (A 65 (y_ix (A 81 (y_ix a1))))) ((A 39 (y_ix (A 65 (y_ix (A 81 (y_ix a1)))))) - (1 : Int32))) 75 (y_ix (A 81 (y_ix a1))) (0 : Int32))).2 78 (y_ix (A 81 (y_ix a1)))) = (0 : Int32)) (cd := .eq) (x := ((rf_takenBack_131 20000 a1 a2 (A 81 (y_ix a1)) (A 65 (y_ix (A 81 (y_ix a1)))) (rf_takenBack_104 20000 a1 a2 (A 81 (y_ix a1)) (A 65 (y_ix (A 81 (y_ix a1)))) (0 : Int32) (xm_u2 (xm_u2 (xm_u2 (xm_u2 (xm_u2 A 36 (y_ix (A 65 (y_ix (A 81 (y_ix a1))))) (1 : Int32)) 38 (y_ix (A 65 (y_ix (A 81 (y_ix a1))))) (A 0 0)) 77 (y_ix (A 81 (y_ix a1))) (0 : Int32)) 39 (y_ix (A 65 (y_ix (A 81 (y_ix a1))))) ((A 39 (y_ix (A 65 (y_ix (A 81 (y_ix a1)))))) - (1 : Int32))) 75 (y_ix (A 81 (y_ix a1))) (0 : Int32))) (rf_takenBack_104 20000 a1 a2 (A 81 (y_ix a1)) (A 65 (y_ix (A 81 (y_ix a1)))) (0 : Int32) (xm_u2 (xm_u2 (xm_u2 (xm_u2 (xm_u2 A 36 (y_ix (A 65 (y_ix (A 81 (y_ix a1))))) (1 : Int32)) 38 (y_ix (A 65 (y_ix (A 81 (y_ix a1))))) (A 0 0)) 77 (y_ix (A 81 (y_ix a1))) (0 : Int32)) 39 (y_ix (A 65 (y_ix (A 81 (y_ix a1))))) ((A 39 (y_ix (A 65 (y_ix (A 81 (y_ix a1)))))) - (1 : Int32))) 75 (y_ix (A 81 (y_ix a1))) (0 : Int32))) (xm_u2 (xm_u2 (xm_u2 (xm_u2 (xm_u2 A 36 (y_ix (A 65 (y_ix (A 81 (y_ix a1))))) (1 : Int32)) 38 (y_ix (A 65 (y_ix (A 81 (y_ix a1))))) (A 0 0)) 77 (y_ix (A 81 (y_ix a1))) (0 : Int32)) 39 (y_ix (A 65 (y_ix (A 81 (y_ix a1))))) ((A 39 (y_ix (A 65 (y_ix (A 81 (y_ix a1)))))) - (1 : Int32))) 75 (y_ix (A 81 (y_ix a1))) (0 : Int32))).2 78 (y_ix (A 81 (y_ix a1))))) (y := (0 : Int32)) 208 199 (st' := []) (fun _ => rfl) (y_ceq _ _) hk hg (fun h39 hg hk => ?_) (fun h39 hg hk => ?_)
            · skip
              subst hk
              exact ra.ret (r := none) (fun _ => rfl) ⟨rfl, rfl, rfl⟩
            · skip
              refine ra.s (pc' := 200) (st' := [.inr (some (11, 0))]) (fun _ => rfl) ?_
              refine ra.s (pc' := 201) (st' := [.inl (5 : Int32), .inr (some (11, 0))]) (fun _ => rfl) ?_
              refine ra.s (pc' := 202) (st' := [.inl (A 81 (y_ix a1)), .inl (5 : Int32), .inr (some (11, 0))]) (fun _ => rfl) ?_
              refine ra.s (pc' := 203) (st' := [.inl (-1 : Int32), .inl (A 81 (y_ix a1)), .inl (5 : Int32), .inr (some (11, 0))]) (fun _ => rfl) ?_
              refine ra.s (pc' := 204) (st' := [.inl (0 : Int32), .inl (-1 : Int32), .inl (A 81 (y_ix a1)), .inl (5 : Int32), .inr (some (11, 0))]) (fun _ => rfl) ?_
              refine ra.s (pc' := 205) (st' := [.inl (0 : Int32), .inl (0 : Int32), .inl (-1 : Int32), .inl (A 81 (y_ix a1)), .inl (5 : Int32), .inr (some (11, 0))]) (fun _ => rfl) ?_
              obtain ⟨h40, hg⟩ := hg
              refine ra.cV (m := 131) (as := [.inr (some (11, 0)), .inl (5 : Int32), .inl (A 81 (y_ix a1)), .inl (-1 : Int32), .inl (0 : Int32), .inl (0 : Int32)]) (nx := 208) (L' := [some (.inr (some (11, 0))), some (.inl a1), some (.inl a2), some (.inl (A 81 (y_ix a1))), some (.inl (A 65 (y_ix (A 81 (y_ix a1))))), some (.inl (rf_takenBack_104 20000 a1 a2 (A 81 (y_ix a1)) (A 65 (y_ix (A 81 (y_ix a1)))) (0 : Int32) (xm_u2 (xm_u2 (xm_u2 (xm_u2 (xm_u2 A 36 (y_ix (A 65 (y_ix (A 81 (y_ix a1))))) (1 : Int32)) 38 (y_ix (A 65 (y_ix (A 81 (y_ix a1))))) (A 0 0)) 77 (y_ix (A 81 (y_ix a1))) (0 : Int32)) 39 (y_ix (A 65 (y_ix (A 81 (y_ix a1))))) ((A 39 (y_ix (A 65 (y_ix (A 81 (y_ix a1)))))) - (1 : Int32))) 75 (y_ix (A 81 (y_ix a1))) (0 : Int32)))), some (.inl (rf_takenBack_131 20000 a1 a2 (A 81 (y_ix a1)) (A 65 (y_ix (A 81 (y_ix a1)))) (rf_takenBack_104 20000 a1 a2 (A 81 (y_ix a1)) (A 65 (y_ix (A 81 (y_ix a1)))) (0 : Int32) (xm_u2 (xm_u2 (xm_u2 (xm_u2 (xm_u2 A 36 (y_ix (A 65 (y_ix (A 81 (y_ix a1))))) (1 : Int32)) 38 (y_ix (A 65 (y_ix (A 81 (y_ix a1))))) (A 0 0)) 77 (y_ix (A 81 (y_ix a1))) (0 : Int32)) 39 (y_ix (A 65 (y_ix (A 81 (y_ix a1))))) ((A 39 (y_ix (A 65 (y_ix (A 81 (y_ix a1)))))) - (1 : Int32))) 75 (y_ix (A 81 (y_ix a1))) (0 : Int32))) (rf_takenBack_104 20000 a1 a2 (A 81 (y_ix a1)) (A 65 (y_ix (A 81 (y_ix a1)))) (0 : Int32) (xm_u2 (xm_u2 (xm_u2 (xm_u2 (xm_u2 A 36 (y_ix (A 65 (y_ix (A 81 (y_ix a1))))) (1 : Int32)) 38 (y_ix (A 65 (y_ix (A 81 (y_ix a1))))) (A 0 0)) 77 (y_ix (A 81 (y_ix a1))) (0 : Int32)) 39 (y_ix (A 65 (y_ix (A 81 (y_ix a1))))) ((A 39 (y_ix (A 65 (y_ix (A 81 (y_ix a1)))))) - (1 : Int32))) 75 (y_ix (A 81 (y_ix a1))) (0 : Int32))) (xm_u2 (xm_u2 (xm_u2 (xm_u2 (xm_u2 A 36 (y_ix (A 65 (y_ix (A 81 (y_ix a1))))) (1 : Int32)) 38 (y_ix (A 65 (y_ix (A 81 (y_ix a1))))) (A 0 0)) 77 (y_ix (A 81 (y_ix a1))) (0 : Int32)) 39 (y_ix (A 65 (y_ix (A 81 (y_ix a1))))) ((A 39 (y_ix (A 65 (y_ix (A 81 (y_ix a1)))))) - (1 : Int32))) 75 (y_ix (A 81 (y_ix a1))) (0 : Int32))).1)]) (st' := []) (fun _ => rfl) (rh_add h40) ?_
              show ra _ _ _ _ _ (xm_u2 (rf_takenBack_131 20000 a1 a2 (A 81 (y_ix a1)) (A 65 (y_ix (A 81 (y_ix a1)))) (rf_takenBack_104 20000 a1 a2 (A 81 (y_ix a1)) (A 65 (y_ix (A 81 (y_ix a1)))) (0 : Int32) (xm_u2 (xm_u2 (xm_u2 (xm_u2 (xm_u2 A 36 (y_ix (A 65 (y_ix (A 81 (y_ix a1))))) (1 : Int32)) 38 (y_ix (A 65 (y_ix (A 81 (y_ix a1))))) (A 0 0)) 77 (y_ix (A 81 (y_ix a1))) (0 : Int32)) 39 (y_ix (A 65 (y_ix (A 81 (y_ix a1))))) ((A 39 (y_ix (A 65 (y_ix (A 81 (y_ix a1)))))) - (1 : Int32))) 75 (y_ix (A 81 (y_ix a1))) (0 : Int32))) (rf_takenBack_104 20000 a1 a2 (A 81 (y_ix a1)) (A 65 (y_ix (A 81 (y_ix a1)))) (0 : Int32) (xm_u2 (xm_u2 (xm_u2 (xm_u2 (xm_u2 A 36 (y_ix (A 65 (y_ix (A 81 (y_ix a1))))) (1 : Int32)) 38 (y_ix (A 65 (y_ix (A 81 (y_ix a1))))) (A 0 0)) 77 (y_ix (A 81 (y_ix a1))) (0 : Int32)) 39 (y_ix (A 65 (y_ix (A 81 (y_ix a1))))) ((A 39 (y_ix (A 65 (y_ix (A 81 (y_ix a1)))))) - (1 : Int32))) 75 (y_ix (A 81 (y_ix a1))) (0 : Int32))) (xm_u2 (xm_u2 (xm_u2 (xm_u2 (xm_u2 A 36 (y_ix (A 65 (y_ix (A 81 (y_ix a1))))) (1 : Int32)) 38 (y_ix (A 65 (y_ix (A 81 (y_ix a1))))) (A 0 0)) 77 (y_ix (A 81 (y_ix a1))) (0 : Int32)) 39 (y_ix (A 65 (y_ix (A 81 (y_ix a1))))) ((A 39 (y_ix (A 65 (y_ix (A 81 (y_ix a1)))))) - (1 : Int32))) 75 (y_ix (A 81 (y_ix a1))) (0 : Int32))).2 40 (y_ix (A 65 (y_ix (A 81 (y_ix a1))))) (((rf_takenBack_131 20000 a1 a2 (A 81 (y_ix a1)) (A 65 (y_ix (A 81 (y_ix a1)))) (rf_takenBack_104 20000 a1 a2 (A 81 (y_ix a1)) (A 65 (y_ix (A 81 (y_ix a1)))) (0 : Int32) (xm_u2 (xm_u2 (xm_u2 (xm_u2 (xm_u2 A 36 (y_ix (A 65 (y_ix (A 81 (y_ix a1))))) (1 : Int32)) 38 (y_ix (A 65 (y_ix (A 81 (y_ix a1))))) (A 0 0)) 77 (y_ix (A 81 (y_ix a1))) (0 : Int32)) 39 (y_ix (A 65 (y_ix (A 81 (y_ix a1))))) ((A 39 (y_ix (A 65 (y_ix (A 81 (y_ix a1)))))) - (1 : Int32))) 75 (y_ix (A 81 (y_ix a1))) (0 : Int32))) (rf_takenBack_104 20000 a1 a2 (A 81 (y_ix a1)) (A 65 (y_ix (A 81 (y_ix a1)))) (0 : Int32) (xm_u2 (xm_u2 (xm_u2 (xm_u2 (xm_u2 A 36 (y_ix (A 65 (y_ix (A 81 (y_ix a1))))) (1 : Int32)) 38 (y_ix (A 65 (y_ix (A 81 (y_ix a1))))) (A 0 0)) 77 (y_ix (A 81 (y_ix a1))) (0 : Int32)) 39 (y_ix (A 65 (y_ix (A 81 (y_ix a1))))) ((A 39 (y_ix (A 65 (y_ix (A 81 (y_ix a1)))))) - (1 : Int32))) 75 (y_ix (A 81 (y_ix a1))) (0 : Int32))) (xm_u2 (xm_u2 (xm_u2 (xm_u2 (xm_u2 A 36 (y_ix (A 65 (y_ix (A 81 (y_ix a1))))) (1 : Int32)) 38 (y_ix (A 65 (y_ix (A 81 (y_ix a1))))) (A 0 0)) 77 (y_ix (A 81 (y_ix a1))) (0 : Int32)) 39 (y_ix (A 65 (y_ix (A 81 (y_ix a1))))) ((A 39 (y_ix (A 65 (y_ix (A 81 (y_ix a1)))))) - (1 : Int32))) 75 (y_ix (A 81 (y_ix a1))) (0 : Int32))).2 40 (y_ix (A 65 (y_ix (A 81 (y_ix a1)))))) - (1 : Int32))) (((5 : Int32), (A 81 (y_ix a1)), (-1 : Int32), (0 : Int32), (0 : Int32)) :: js) _
              subst hk
              exact ra.ret (r := none) (fun _ => rfl) ⟨rfl, rfl, rfl⟩
    · skip
      subst hk
      exact ra.ret (r := none) (fun _ => rfl) ⟨rfl, rfl, rfl⟩
  · skip
    refine ra.s (pc' := 8) (st' := [.inr (some (11, 0))]) (fun _ => rfl) ?_
    refine ra.s (pc' := 9) (st' := [.inl (4 : Int32), .inr (some (11, 0))]) (fun _ => rfl) ?_
    refine ra.s (pc' := 10) (st' := [.inl a1, .inl (4 : Int32), .inr (some (11, 0))]) (fun _ => rfl) ?_
    refine ra.s (pc' := 11) (st' := [.inl (1 : Int32), .inl a1, .inl (4 : Int32), .inr (some (11, 0))]) (fun _ => rfl) ?_
    refine ra.s (pc' := 12) (st' := [.inl (a1 + (1 : Int32)), .inl (4 : Int32), .inr (some (11, 0))]) (fun _ => rfl) ?_
    refine ra.s (pc' := 13) (st' := [.inl a2, .inl (a1 + (1 : Int32)), .inl (4 : Int32), .inr (some (11, 0))]) (fun _ => rfl) ?_
    refine ra.s (pc' := 14) (st' := [.inl (0 : Int32), .inl a2, .inl (a1 + (1 : Int32)), .inl (4 : Int32), .inr (some (11, 0))]) (fun _ => rfl) ?_
    refine ra.s (pc' := 15) (st' := [.inl (0 : Int32), .inl (0 : Int32), .inl a2, .inl (a1 + (1 : Int32)), .inl (4 : Int32), .inr (some (11, 0))]) (fun _ => rfl) ?_
    obtain ⟨h41, hg⟩ := hg
    refine ra.cV (m := 131) (as := [.inr (some (11, 0)), .inl (4 : Int32), .inl (a1 + (1 : Int32)), .inl a2, .inl (0 : Int32), .inl (0 : Int32)]) (nx := 18) (L' := [some (.inr (some (11, 0))), some (.inl a1), some (.inl a2), none, none, none, none]) (st' := []) (fun _ => rfl) (rh_add h41) ?_
    show ra _ _ _ _ _ A (((4 : Int32), (a1 + (1 : Int32)), a2, (0 : Int32), (0 : Int32)) :: js) _
    refine ra.s (pc' := 19) (st' := [.inr (some (11, 0))]) (fun _ => rfl) ?_
    refine ra.ga (x := 81) (nx := 22) (c := 13) (i := 62) rfl rfl ?_
    refine ra.s (pc' := 23) (st' := [.inl a1, .inr (some (13, 62))]) (fun _ => rfl) ?_
    obtain ⟨h42, hg⟩ := hg
    refine ra.ld (nx := 24) (v := (A 81 (y_ix a1))) 81 4400 rfl rfl h42 rfl ?_
    refine ra.s (pc' := 25) (L' := [some (.inr (some (11, 0))), some (.inl a1), some (.inl a2), some (.inl (A 81 (y_ix a1))), none, none, none]) (st' := []) (fun _ => rfl) ?_
    refine ra.s (pc' := 26) (st' := [.inr (some (11, 0))]) (fun _ => rfl) ?_
    refine ra.ga (x := 65) (nx := 29) (c := 13) (i := 53) rfl rfl ?_
    refine ra.s (pc' := 30) (st' := [.inl (A 81 (y_ix a1)), .inr (some (13, 53))]) (fun _ => rfl) ?_
    obtain ⟨h43, hg⟩ := hg
    refine ra.ld (nx := 31) (v := (A 65 (y_ix (A 81 (y_ix a1))))) 65 4400 rfl rfl h43 rfl ?_
    refine ra.s (pc' := 33) (L' := [some (.inr (some (11, 0))), some (.inl a1), some (.inl a2), some (.inl (A 81 (y_ix a1))), some (.inl (A 65 (y_ix (A 81 (y_ix a1))))), none, none]) (st' := []) (fun _ => rfl) ?_
    refine ra.s (pc' := 35) (st' := [.inl (A 65 (y_ix (A 81 (y_ix a1))))]) (fun _ => rfl) ?_
    refine ra.b (c := (0 : Int32) ≤ (A 65 (y_ix (A 81 (y_ix a1))))) (cd := .ge) (x := (A 65 (y_ix (A 81 (y_ix a1))))) (y := (0 : Int32)) 39 38 (st' := []) (fun _ => rfl) (y_cge _ _) hk hg (fun h44 hg hk => ?_) (fun h44 hg hk => ?_)
    · skip
      refine ra.s (pc' := 40) (st' := [.inr (some (11, 0))]) (fun _ => rfl) ?_
      refine ra.ga (x := 79) (nx := 43) (c := 14) (i := 6) rfl rfl ?_
      refine ra.s (pc' := 44) (st' := [.inl (A 81 (y_ix a1)), .inr (some (14, 6))]) (fun _ => rfl) ?_
      refine ra.lz (nx := 45) (v := (A 79 (y_ix (A 81 (y_ix a1))))) 79 4400 rfl rfl h43 rfl ?_
      refine ra.b (c := (A 79 (y_ix (A 81 (y_ix a1)))) = (0 : Int32)) (cd := .eq) (x := (A 79 (y_ix (A 81 (y_ix a1))))) (y := (0 : Int32)) 58 48 (st' := []) (fun _ => rfl) (y_ceq _ _) hk hg (fun h45 hg hk => ?_) (fun h45 hg hk => ?_)
      · skip
        refine ra.s (pc' := 59) (st' := [.inr (some (11, 0))]) (fun _ => rfl) ?_
        refine ra.ga (x := 77) (nx := 62) (c := 14) (i := 4) rfl rfl ?_
        refine ra.s (pc' := 63) (st' := [.inl (A 81 (y_ix a1)), .inr (some (14, 4))]) (fun _ => rfl) ?_
        refine ra.lz (nx := 64) (v := (A 77 (y_ix (A 81 (y_ix a1))))) 77 4400 rfl rfl h43 rfl ?_
        refine ra.b (c := (A 77 (y_ix (A 81 (y_ix a1)))) = (0 : Int32)) (cd := .eq) (x := (A 77 (y_ix (A 81 (y_ix a1))))) (y := (0 : Int32)) 85 67 (st' := []) (fun _ => rfl) (y_ceq _ _) hk hg (fun h46 hg hk => ?_) (fun h46 hg hk => ?_)
        · skip
          refine ra.s (pc' := 86) (st' := [.inr (some (11, 0))]) (fun _ => rfl) ?_
          refine ra.ga (x := 75) (nx := 89) (c := 14) (i := 2) rfl rfl ?_
          refine ra.s (pc' := 90) (st' := [.inl (A 81 (y_ix a1)), .inr (some (14, 2))]) (fun _ => rfl) ?_
          refine ra.lz (nx := 91) (v := (A 75 (y_ix (A 81 (y_ix a1))))) 75 4400 rfl rfl h43 rfl ?_
          refine ra.b (c := (A 75 (y_ix (A 81 (y_ix a1)))) = (0 : Int32)) (cd := .eq) (x := (A 75 (y_ix (A 81 (y_ix a1))))) (y := (0 : Int32)) 190 94 (st' := []) (fun _ => rfl) (y_ceq _ _) hk hg (fun h47 hg hk => ?_) (fun h47 hg hk => ?_)
          · skip
            refine ra.s (pc' := 191) (st' := [.inr (some (11, 0))]) (fun _ => rfl) ?_
            refine ra.ga (x := 78) (nx := 194) (c := 14) (i := 5) rfl rfl ?_
            refine ra.s (pc' := 195) (st' := [.inl (A 81 (y_ix a1)), .inr (some (14, 5))]) (fun _ => rfl) ?_
            refine ra.lz (nx := 196) (v := (A 78 (y_ix (A 81 (y_ix a1))))) 78 4400 rfl rfl h43 rfl ?_
            refine ra.b (c := (A 78 (y_ix (A 81 (y_ix a1)))) = (0 : Int32)) (cd := .eq) (x := (A 78 (y_ix (A 81 (y_ix a1))))) (y := (0 : Int32)) 208 199 (st' := []) (fun _ => rfl) (y_ceq _ _) hk hg (fun h48 hg hk => ?_) (fun h48 hg hk => ?_)
            · skip
              subst hk
              exact ra.ret (r := none) (fun _ => rfl) ⟨rfl, rfl, rfl⟩
            · skip
              refine ra.s (pc' := 200) (st' := [.inr (some (11, 0))]) (fun _ => rfl) ?_
              refine ra.s (pc' := 201) (st' := [.inl (5 : Int32), .inr (some (11, 0))]) (fun _ => rfl) ?_
              refine ra.s (pc' := 202) (st' := [.inl (A 81 (y_ix a1)), .inl (5 : Int32), .inr (some (11, 0))]) (fun _ => rfl) ?_
              refine ra.s (pc' := 203) (st' := [.inl (-1 : Int32), .inl (A 81 (y_ix a1)), .inl (5 : Int32), .inr (some (11, 0))]) (fun _ => rfl) ?_
              refine ra.s (pc' := 204) (st' := [.inl (0 : Int32), .inl (-1 : Int32), .inl (A 81 (y_ix a1)), .inl (5 : Int32), .inr (some (11, 0))]) (fun _ => rfl) ?_
              refine ra.s (pc' := 205) (st' := [.inl (0 : Int32), .inl (0 : Int32), .inl (-1 : Int32), .inl (A 81 (y_ix a1)), .inl (5 : Int32), .inr (some (11, 0))]) (fun _ => rfl) ?_
              obtain ⟨h49, hg⟩ := hg
              refine ra.cV (m := 131) (as := [.inr (some (11, 0)), .inl (5 : Int32), .inl (A 81 (y_ix a1)), .inl (-1 : Int32), .inl (0 : Int32), .inl (0 : Int32)]) (nx := 208) (L' := [some (.inr (some (11, 0))), some (.inl a1), some (.inl a2), some (.inl (A 81 (y_ix a1))), some (.inl (A 65 (y_ix (A 81 (y_ix a1))))), none, none]) (st' := []) (fun _ => rfl) (rh_add h49) ?_
              show ra _ _ _ _ _ A (((5 : Int32), (A 81 (y_ix a1)), (-1 : Int32), (0 : Int32), (0 : Int32)) :: (((4 : Int32), (a1 + (1 : Int32)), a2, (0 : Int32), (0 : Int32)) :: js)) _
              subst hk
              exact ra.ret (r := none) (fun _ => rfl) ⟨rfl, rfl, rfl⟩
          · skip
            refine ra.s (pc' := 95) (st' := [.inr (some (11, 0))]) (fun _ => rfl) ?_
            refine ra.ga (x := 75) (nx := 98) (c := 14) (i := 2) rfl rfl ?_
            refine ra.s (pc' := 99) (st' := [.inl (A 81 (y_ix a1)), .inr (some (14, 2))]) (fun _ => rfl) ?_
            refine ra.s (pc' := 100) (st' := [.inl (0 : Int32), .inl (A 81 (y_ix a1)), .inr (some (14, 2))]) (fun _ => rfl) ?_
            refine ra.sz (nx := 101) 75 4400 rfl rfl h43 (Or.inl rfl) ?_
            refine ra.s (pc' := 102) (st' := [.inl (0 : Int32)]) (fun _ => rfl) ?_
            refine ra.s (pc' := 104) (L' := [some (.inr (some (11, 0))), some (.inl a1), some (.inl a2), some (.inl (A 81 (y_ix a1))), some (.inl (A 65 (y_ix (A 81 (y_ix a1))))), some (.inl (0 : Int32)), none]) (st' := []) (fun _ => rfl) ?_
            obtain ⟨h50, hg⟩ := hg
            refine rh_takenBack_104 (by omega) 20000 a1 a2 (A 81 (y_ix a1)) (A 65 (y_ix (A 81 (y_ix a1)))) (0 : Int32) none (xm_u2 A 75 (y_ix (A 81 (y_ix a1))) (0 : Int32)) (((4 : Int32), (a1 + (1 : Int32)), a2, (0 : Int32), (0 : Int32)) :: js) h50 rfl ?_
            intro e5x
            refine ra.s (pc' := 129) (st' := [.inl (rf_takenBack_104 20000 a1 a2 (A 81 (y_ix a1)) (A 65 (y_ix (A 81 (y_ix a1)))) (0 : Int32) (xm_u2 A 75 (y_ix (A 81 (y_ix a1))) (0 : Int32)))]) (fun _ => rfl) ?_
            refine ra.s (pc' := 131) (L' := [some (.inr (some (11, 0))), some (.inl a1), some (.inl a2), some (.inl (A 81 (y_ix a1))), some (.inl (A 65 (y_ix (A 81 (y_ix a1))))), some (.inl (rf_takenBack_104 20000 a1 a2 (A 81 (y_ix a1)) (A 65 (y_ix (A 81 (y_ix a1)))) (0 : Int32) (xm_u2 A 75 (y_ix (A 81 (y_ix a1))) (0 : Int32)))), some (.inl (rf_takenBack_104 20000 a1 a2 (A 81 (y_ix a1)) (A 65 (y_ix (A 81 (y_ix a1)))) (0 : Int32) (xm_u2 A 75 (y_ix (A 81 (y_ix a1))) (0 : Int32))))]) (st' := []) (fun _ => rfl) ?_
            obtain ⟨h51, hg⟩ := hg
            refine rh_takenBack_131 (by omega) 20000 a1 a2 (A 81 (y_ix a1)) (A 65 (y_ix (A 81 (y_ix a1)))) (rf_takenBack_104 20000 a1 a2 (A 81 (y_ix a1)) (A 65 (y_ix (A 81 (y_ix a1)))) (0 : Int32) (xm_u2 A 75 (y_ix (A 81 (y_ix a1))) (0 : Int32))) (rf_takenBack_104 20000 a1 a2 (A 81 (y_ix a1)) (A 65 (y_ix (A 81 (y_ix a1)))) (0 : Int32) (xm_u2 A 75 (y_ix (A 81 (y_ix a1))) (0 : Int32))) (xm_u2 A 75 (y_ix (A 81 (y_ix a1))) (0 : Int32)) (((4 : Int32), (a1 + (1 : Int32)), a2, (0 : Int32), (0 : Int32)) :: js) h51 rfl ?_
            refine ra.s (pc' := 180) (st' := [.inr (some (11, 0))]) (fun _ => rfl) ?_
            refine ra.ga (x := 40) (nx := 183) (c := 13) (i := 33) rfl rfl ?_
            refine ra.s (pc' := 185) (st' := [.inl (A 65 (y_ix (A 81 (y_ix a1)))), .inr (some (13, 33))]) (fun _ => rfl) ?_
            refine ra.s (pc' := 186) (st' := [.inl (A 65 (y_ix (A 81 (y_ix a1)))), .inr (some (13, 33)), .inl (A 65 (y_ix (A 81 (y_ix a1)))), .inr (some (13, 33))]) (fun _ => rfl) ?_
            obtain ⟨h52, hg⟩ := hg
            refine ra.ld (nx := 187) (v := ((rf_takenBack_131 20000 a1 a2 (A 81 (y_ix a1)) (A 65 (y_ix (A 81 (y_ix a1)))) (rf_takenBack_104 20000 a1 a2 (A 81 (y_ix a1)) (A 65 (y_ix (A 81 (y_ix a1)))) (0 : Int32) (xm_u2 A 75 (y_ix (A 81 (y_ix a1))) (0 : Int32))) (rf_takenBack_104 20000 a1 a2 (A 81 (y_ix a1)) (A 65 (y_ix (A 81 (y_ix a1)))) (0 : Int32) (xm_u2 A 75 (y_ix (A 81 (y_ix a1))) (0 : Int32))) (xm_u2 A 75 (y_ix (A 81 (y_ix a1))) (0 : Int32))).2 40 (y_ix (A 65 (y_ix (A 81 (y_ix a1))))))) 40 24 rfl rfl h52 rfl ?_
            refine ra.s (pc' := 188) (st' := [.inl (1 : Int32), .inl ((rf_takenBack_131 20000 a1 a2 (A 81 (y_ix a1)) (A 65 (y_ix (A 81 (y_ix a1)))) (rf_takenBack_104 20000 a1 a2 (A 81 (y_ix a1)) (A 65 (y_ix (A 81 (y_ix a1)))) (0 : Int32) (xm_u2 A 75 (y_ix (A 81 (y_ix a1))) (0 : Int32))) (rf_takenBack_104 20000 a1 a2 (A 81 (y_ix a1)) (A 65 (y_ix (A 81 (y_ix a1)))) (0 : Int32) (xm_u2 A 75 (y_ix (A 81 (y_ix a1))) (0 : Int32))) (xm_u2 A 75 (y_ix (A 81 (y_ix a1))) (0 : Int32))).2 40 (y_ix (A 65 (y_ix (A 81 (y_ix a1)))))), .inl (A 65 (y_ix (A 81 (y_ix a1)))), .inr (some (13, 33))]) (fun _ => rfl) ?_
            refine ra.s (pc' := 189) (st' := [.inl (((rf_takenBack_131 20000 a1 a2 (A 81 (y_ix a1)) (A 65 (y_ix (A 81 (y_ix a1)))) (rf_takenBack_104 20000 a1 a2 (A 81 (y_ix a1)) (A 65 (y_ix (A 81 (y_ix a1)))) (0 : Int32) (xm_u2 A 75 (y_ix (A 81 (y_ix a1))) (0 : Int32))) (rf_takenBack_104 20000 a1 a2 (A 81 (y_ix a1)) (A 65 (y_ix (A 81 (y_ix a1)))) (0 : Int32) (xm_u2 A 75 (y_ix (A 81 (y_ix a1))) (0 : Int32))) (xm_u2 A 75 (y_ix (A 81 (y_ix a1))) (0 : Int32))).2 40 (y_ix (A 65 (y_ix (A 81 (y_ix a1)))))) - (1 : Int32)), .inl (A 65 (y_ix (A 81 (y_ix a1)))), .inr (some (13, 33))]) (fun _ => rfl) ?_
            refine ra.si (nx := 190) 40 24 rfl rfl h52 ?_
            refine ra.s (pc' := 191) (st' := [.inr (some (11, 0))]) (fun _ => rfl) ?_
            refine ra.ga (x := 78) (nx := 194) (c := 14) (i := 5) rfl rfl ?_
            refine ra.s (pc' := 195) (st' := [.inl (A 81 (y_ix a1)), .inr (some (14, 5))]) (fun _ => rfl) ?_
            refine ra.lz (nx := 196) (v := ((rf_takenBack_131 20000 a1 a2 (A 81 (y_ix a1)) (A 65 (y_ix (A 81 (y_ix a1)))) (rf_takenBack_104 20000 a1 a2 (A 81 (y_ix a1)) (A 65 (y_ix (A 81 (y_ix a1)))) (0 : Int32) (xm_u2 A 75 (y_ix (A 81 (y_ix a1))) (0 : Int32))) (rf_takenBack_104 20000 a1 a2 (A 81 (y_ix a1)) (A 65 (y_ix (A 81 (y_ix a1)))) (0 : Int32) (xm_u2 A 75 (y_ix (A 81 (y_ix a1))) (0 : Int32))) (xm_u2 A 75 (y_ix (A 81 (y_ix a1))) (0 : Int32))).2 78 (y_ix (A 81 (y_ix a1))))) 78 4400 rfl rfl h43 rfl ?_
            refine ra.b (c := ((rf_takenBack_131 20000 a1 a2 (A 81 (y_ix a1)) (A 65 (y_ix (A 81 (y_ix a1)))) (rf_takenBack_104 20000 a1 a2 (A 81 (y_ix a1)) (A 65 (y_ix (A 81 (y_ix a1)))) (0 : Int32) (xm_u2 A 75 (y_ix (A 81 (y_ix a1))) (0 : Int32))) (rf_takenBack_104 20000 a1 a2 (A 81 (y_ix a1)) (A 65 (y_ix (A 81 (y_ix a1)))) (0 : Int32) (xm_u2 A 75 (y_ix (A 81 (y_ix a1))) (0 : Int32))) (xm_u2 A 75 (y_ix (A 81 (y_ix a1))) (0 : Int32))).2 78 (y_ix (A 81 (y_ix a1)))) = (0 : Int32)) (cd := .eq) (x := ((rf_takenBack_131 20000 a1 a2 (A 81 (y_ix a1)) (A 65 (y_ix (A 81 (y_ix a1)))) (rf_takenBack_104 20000 a1 a2 (A 81 (y_ix a1)) (A 65 (y_ix (A 81 (y_ix a1)))) (0 : Int32) (xm_u2 A 75 (y_ix (A 81 (y_ix a1))) (0 : Int32))) (rf_takenBack_104 20000 a1 a2 (A 81 (y_ix a1)) (A 65 (y_ix (A 81 (y_ix a1)))) (0 : Int32) (xm_u2 A 75 (y_ix (A 81 (y_ix a1))) (0 : Int32))) (xm_u2 A 75 (y_ix (A 81 (y_ix a1))) (0 : Int32))).2 78 (y_ix (A 81 (y_ix a1))))) (y := (0 : Int32)) 208 199 (st' := []) (fun _ => rfl) (y_ceq _ _) hk hg (fun h53 hg hk => ?_) (fun h53 hg hk => ?_)
            · skip
              subst hk
              exact ra.ret (r := none) (fun _ => rfl) ⟨rfl, rfl, rfl⟩
            · skip
              refine ra.s (pc' := 200) (st' := [.inr (some (11, 0))]) (fun _ => rfl) ?_
              refine ra.s (pc' := 201) (st' := [.inl (5 : Int32), .inr (some (11, 0))]) (fun _ => rfl) ?_
              refine ra.s (pc' := 202) (st' := [.inl (A 81 (y_ix a1)), .inl (5 : Int32), .inr (some (11, 0))]) (fun _ => rfl) ?_
              refine ra.s (pc' := 203) (st' := [.inl (-1 : Int32), .inl (A 81 (y_ix a1)), .inl (5 : Int32), .inr (some (11, 0))]) (fun _ => rfl) ?_
              refine ra.s (pc' := 204) (st' := [.inl (0 : Int32), .inl (-1 : Int32), .inl (A 81 (y_ix a1)), .inl (5 : Int32), .inr (some (11, 0))]) (fun _ => rfl) ?_
              refine ra.s (pc' := 205) (st' := [.inl (0 : Int32), .inl (0 : Int32), .inl (-1 : Int32), .inl (A 81 (y_ix a1)), .inl (5 : Int32), .inr (some (11, 0))]) (fun _ => rfl) ?_
              obtain ⟨h54, hg⟩ := hg
              refine ra.cV (m := 131) (as := [.inr (some (11, 0)), .inl (5 : Int32), .inl (A 81 (y_ix a1)), .inl (-1 : Int32), .inl (0 : Int32), .inl (0 : Int32)]) (nx := 208) (L' := [some (.inr (some (11, 0))), some (.inl a1), some (.inl a2), some (.inl (A 81 (y_ix a1))), some (.inl (A 65 (y_ix (A 81 (y_ix a1))))), some (.inl (rf_takenBack_104 20000 a1 a2 (A 81 (y_ix a1)) (A 65 (y_ix (A 81 (y_ix a1)))) (0 : Int32) (xm_u2 A 75 (y_ix (A 81 (y_ix a1))) (0 : Int32)))), some (.inl (rf_takenBack_131 20000 a1 a2 (A 81 (y_ix a1)) (A 65 (y_ix (A 81 (y_ix a1)))) (rf_takenBack_104 20000 a1 a2 (A 81 (y_ix a1)) (A 65 (y_ix (A 81 (y_ix a1)))) (0 : Int32) (xm_u2 A 75 (y_ix (A 81 (y_ix a1))) (0 : Int32))) (rf_takenBack_104 20000 a1 a2 (A 81 (y_ix a1)) (A 65 (y_ix (A 81 (y_ix a1)))) (0 : Int32) (xm_u2 A 75 (y_ix (A 81 (y_ix a1))) (0 : Int32))) (xm_u2 A 75 (y_ix (A 81 (y_ix a1))) (0 : Int32))).1)]) (st' := []) (fun _ => rfl) (rh_add h54) ?_
              show ra _ _ _ _ _ (xm_u2 (rf_takenBack_131 20000 a1 a2 (A 81 (y_ix a1)) (A 65 (y_ix (A 81 (y_ix a1)))) (rf_takenBack_104 20000 a1 a2 (A 81 (y_ix a1)) (A 65 (y_ix (A 81 (y_ix a1)))) (0 : Int32) (xm_u2 A 75 (y_ix (A 81 (y_ix a1))) (0 : Int32))) (rf_takenBack_104 20000 a1 a2 (A 81 (y_ix a1)) (A 65 (y_ix (A 81 (y_ix a1)))) (0 : Int32) (xm_u2 A 75 (y_ix (A 81 (y_ix a1))) (0 : Int32))) (xm_u2 A 75 (y_ix (A 81 (y_ix a1))) (0 : Int32))).2 40 (y_ix (A 65 (y_ix (A 81 (y_ix a1))))) (((rf_takenBack_131 20000 a1 a2 (A 81 (y_ix a1)) (A 65 (y_ix (A 81 (y_ix a1)))) (rf_takenBack_104 20000 a1 a2 (A 81 (y_ix a1)) (A 65 (y_ix (A 81 (y_ix a1)))) (0 : Int32) (xm_u2 A 75 (y_ix (A 81 (y_ix a1))) (0 : Int32))) (rf_takenBack_104 20000 a1 a2 (A 81 (y_ix a1)) (A 65 (y_ix (A 81 (y_ix a1)))) (0 : Int32) (xm_u2 A 75 (y_ix (A 81 (y_ix a1))) (0 : Int32))) (xm_u2 A 75 (y_ix (A 81 (y_ix a1))) (0 : Int32))).2 40 (y_ix (A 65 (y_ix (A 81 (y_ix a1)))))) - (1 : Int32))) (((5 : Int32), (A 81 (y_ix a1)), (-1 : Int32), (0 : Int32), (0 : Int32)) :: (((4 : Int32), (a1 + (1 : Int32)), a2, (0 : Int32), (0 : Int32)) :: js)) _
              subst hk
              exact ra.ret (r := none) (fun _ => rfl) ⟨rfl, rfl, rfl⟩
        · skip
          refine ra.s (pc' := 68) (st' := [.inr (some (11, 0))]) (fun _ => rfl) ?_
          refine ra.ga (x := 77) (nx := 71) (c := 14) (i := 4) rfl rfl ?_
          refine ra.s (pc' := 72) (st' := [.inl (A 81 (y_ix a1)), .inr (some (14, 4))]) (fun _ => rfl) ?_
          refine ra.s (pc' := 73) (st' := [.inl (0 : Int32), .inl (A 81 (y_ix a1)), .inr (some (14, 4))]) (fun _ => rfl) ?_
          refine ra.sz (nx := 74) 77 4400 rfl rfl h43 (Or.inl rfl) ?_
          refine ra.s (pc' := 75) (st' := [.inr (some (11, 0))]) (fun _ => rfl) ?_
          refine ra.ga (x := 39) (nx := 78) (c := 13) (i := 32) rfl rfl ?_
          refine ra.s (pc' := 80) (st' := [.inl (A 65 (y_ix (A 81 (y_ix a1)))), .inr (some (13, 32))]) (fun _ => rfl) ?_
          refine ra.s (pc' := 81) (st' := [.inl (A 65 (y_ix (A 81 (y_ix a1)))), .inr (some (13, 32)), .inl (A 65 (y_ix (A 81 (y_ix a1)))), .inr (some (13, 32))]) (fun _ => rfl) ?_
          obtain ⟨h55, hg⟩ := hg
          refine ra.ld (nx := 82) (v := (A 39 (y_ix (A 65 (y_ix (A 81 (y_ix a1))))))) 39 24 rfl rfl h55 rfl ?_
          refine ra.s (pc' := 83) (st' := [.inl (1 : Int32), .inl (A 39 (y_ix (A 65 (y_ix (A 81 (y_ix a1)))))), .inl (A 65 (y_ix (A 81 (y_ix a1)))), .inr (some (13, 32))]) (fun _ => rfl) ?_
          refine ra.s (pc' := 84) (st' := [.inl ((A 39 (y_ix (A 65 (y_ix (A 81 (y_ix a1)))))) - (1 : Int32)), .inl (A 65 (y_ix (A 81 (y_ix a1)))), .inr (some (13, 32))]) (fun _ => rfl) ?_
          refine ra.si (nx := 85) 39 24 rfl rfl h55 ?_
          refine ra.s (pc' := 86) (st' := [.inr (some (11, 0))]) (fun _ => rfl) ?_
          refine ra.ga (x := 75) (nx := 89) (c := 14) (i := 2) rfl rfl ?_
          refine ra.s (pc' := 90) (st' := [.inl (A 81 (y_ix a1)), .inr (some (14, 2))]) (fun _ => rfl) ?_
          refine ra.lz (nx := 91) (v := (A 75 (y_ix (A 81 (y_ix a1))))) 75 4400 rfl rfl h43 rfl ?_
          refine ra.b (c := (A 75 (y_ix (A 81 (y_ix a1)))) = (0 : Int32)) (cd := .eq) (x := (A 75 (y_ix (A 81 (y_ix a1))))) (y := (0 : Int32)) 190 94 (st' := []) (fun _ => rfl) (y_ceq _ _) hk hg (fun h56 hg hk => ?_) (fun h56 hg hk => ?_)
          · skip
            refine ra.s (pc' := 191) (st' := [.inr (some (11, 0))]) (fun _ => rfl) ?_
            refine ra.ga (x := 78) (nx := 194) (c := 14) (i := 5) rfl rfl ?_
            refine ra.s (pc' := 195) (st' := [.inl (A 81 (y_ix a1)), .inr (some (14, 5))]) (fun _ => rfl) ?_
            refine ra.lz (nx := 196) (v := (A 78 (y_ix (A 81 (y_ix a1))))) 78 4400 rfl rfl h43 rfl ?_
            refine ra.b (c := (A 78 (y_ix (A 81 (y_ix a1)))) = (0 : Int32)) (cd := .eq) (x := (A 78 (y_ix (A 81 (y_ix a1))))) (y := (0 : Int32)) 208 199 (st' := []) (fun _ => rfl) (y_ceq _ _) hk hg (fun h57 hg hk => ?_) (fun h57 hg hk => ?_)
            · skip
              subst hk
              exact ra.ret (r := none) (fun _ => rfl) ⟨rfl, rfl, rfl⟩
            · skip
              refine ra.s (pc' := 200) (st' := [.inr (some (11, 0))]) (fun _ => rfl) ?_
              refine ra.s (pc' := 201) (st' := [.inl (5 : Int32), .inr (some (11, 0))]) (fun _ => rfl) ?_
              refine ra.s (pc' := 202) (st' := [.inl (A 81 (y_ix a1)), .inl (5 : Int32), .inr (some (11, 0))]) (fun _ => rfl) ?_
              refine ra.s (pc' := 203) (st' := [.inl (-1 : Int32), .inl (A 81 (y_ix a1)), .inl (5 : Int32), .inr (some (11, 0))]) (fun _ => rfl) ?_
              refine ra.s (pc' := 204) (st' := [.inl (0 : Int32), .inl (-1 : Int32), .inl (A 81 (y_ix a1)), .inl (5 : Int32), .inr (some (11, 0))]) (fun _ => rfl) ?_
              refine ra.s (pc' := 205) (st' := [.inl (0 : Int32), .inl (0 : Int32), .inl (-1 : Int32), .inl (A 81 (y_ix a1)), .inl (5 : Int32), .inr (some (11, 0))]) (fun _ => rfl) ?_
              obtain ⟨h58, hg⟩ := hg
              refine ra.cV (m := 131) (as := [.inr (some (11, 0)), .inl (5 : Int32), .inl (A 81 (y_ix a1)), .inl (-1 : Int32), .inl (0 : Int32), .inl (0 : Int32)]) (nx := 208) (L' := [some (.inr (some (11, 0))), some (.inl a1), some (.inl a2), some (.inl (A 81 (y_ix a1))), some (.inl (A 65 (y_ix (A 81 (y_ix a1))))), none, none]) (st' := []) (fun _ => rfl) (rh_add h58) ?_
              show ra _ _ _ _ _ (xm_u2 (xm_u2 A 77 (y_ix (A 81 (y_ix a1))) (0 : Int32)) 39 (y_ix (A 65 (y_ix (A 81 (y_ix a1))))) ((A 39 (y_ix (A 65 (y_ix (A 81 (y_ix a1)))))) - (1 : Int32))) (((5 : Int32), (A 81 (y_ix a1)), (-1 : Int32), (0 : Int32), (0 : Int32)) :: (((4 : Int32), (a1 + (1 : Int32)), a2, (0 : Int32), (0 : Int32)) :: js)) _
              subst hk
              exact ra.ret (r := none) (fun _ => rfl) ⟨rfl, rfl, rfl⟩
          · skip
            refine ra.s (pc' := 95) (st' := [.inr (some (11, 0))]) (fun _ => rfl) ?_
            refine ra.ga (x := 75) (nx := 98) (c := 14) (i := 2) rfl rfl ?_
            refine ra.s (pc' := 99) (st' := [.inl (A 81 (y_ix a1)), .inr (some (14, 2))]) (fun _ => rfl) ?_
            refine ra.s (pc' := 100) (st' := [.inl (0 : Int32), .inl (A 81 (y_ix a1)), .inr (some (14, 2))]) (fun _ => rfl) ?_
            refine ra.sz (nx := 101) 75 4400 rfl rfl h43 (Or.inl rfl) ?_
            refine ra.s (pc' := 102) (st' := [.inl (0 : Int32)]) (fun _ => rfl) ?_
            refine ra.s (pc' := 104) (L' := [some (.inr (some (11, 0))), some (.inl a1), some (.inl a2), some (.inl (A 81 (y_ix a1))), some (.inl (A 65 (y_ix (A 81 (y_ix a1))))), some (.inl (0 : Int32)), none]) (st' := []) (fun _ => rfl) ?_
            obtain ⟨h59, hg⟩ := hg
            refine rh_takenBack_104 (by omega) 20000 a1 a2 (A 81 (y_ix a1)) (A 65 (y_ix (A 81 (y_ix a1)))) (0 : Int32) none (xm_u2 (xm_u2 (xm_u2 A 77 (y_ix (A 81 (y_ix a1))) (0 : Int32)) 39 (y_ix (A 65 (y_ix (A 81 (y_ix a1))))) ((A 39 (y_ix (A 65 (y_ix (A 81 (y_ix a1)))))) - (1 : Int32))) 75 (y_ix (A 81 (y_ix a1))) (0 : Int32)) (((4 : Int32), (a1 + (1 : Int32)), a2, (0 : Int32), (0 : Int32)) :: js) h59 rfl ?_
            intro e6x
            refine ra.s (pc' := 129) (st' := [.inl (rf_takenBack_104 20000 a1 a2 (A 81 (y_ix a1)) (A 65 (y_ix (A 81 (y_ix a1)))) (0 : Int32) (xm_u2 (xm_u2 (xm_u2 A 77 (y_ix (A 81 (y_ix a1))) (0 : Int32)) 39 (y_ix (A 65 (y_ix (A 81 (y_ix a1))))) ((A 39 (y_ix (A 65 (y_ix (A 81 (y_ix a1)))))) - (1 : Int32))) 75 (y_ix (A 81 (y_ix a1))) (0 : Int32)))]) (fun _ => rfl) ?_
            refine ra.s (pc' := 131) (L' := [some (.inr (some (11, 0))), some (.inl a1), some (.inl a2), some (.inl (A 81 (y_ix a1))), some (.inl (A 65 (y_ix (A 81 (y_ix a1))))), some (.inl (rf_takenBack_104 20000 a1 a2 (A 81 (y_ix a1)) (A 65 (y_ix (A 81 (y_ix a1)))) (0 : Int32) (xm_u2 (xm_u2 (xm_u2 A 77 (y_ix (A 81 (y_ix a1))) (0 : Int32)) 39 (y_ix (A 65 (y_ix (A 81 (y_ix a1))))) ((A 39 (y_ix (A 65 (y_ix (A 81 (y_ix a1)))))) - (1 : Int32))) 75 (y_ix (A 81 (y_ix a1))) (0 : Int32)))), some (.inl (rf_takenBack_104 20000 a1 a2 (A 81 (y_ix a1)) (A 65 (y_ix (A 81 (y_ix a1)))) (0 : Int32) (xm_u2 (xm_u2 (xm_u2 A 77 (y_ix (A 81 (y_ix a1))) (0 : Int32)) 39 (y_ix (A 65 (y_ix (A 81 (y_ix a1))))) ((A 39 (y_ix (A 65 (y_ix (A 81 (y_ix a1)))))) - (1 : Int32))) 75 (y_ix (A 81 (y_ix a1))) (0 : Int32))))]) (st' := []) (fun _ => rfl) ?_
            obtain ⟨h60, hg⟩ := hg
            refine rh_takenBack_131 (by omega) 20000 a1 a2 (A 81 (y_ix a1)) (A 65 (y_ix (A 81 (y_ix a1)))) (rf_takenBack_104 20000 a1 a2 (A 81 (y_ix a1)) (A 65 (y_ix (A 81 (y_ix a1)))) (0 : Int32) (xm_u2 (xm_u2 (xm_u2 A 77 (y_ix (A 81 (y_ix a1))) (0 : Int32)) 39 (y_ix (A 65 (y_ix (A 81 (y_ix a1))))) ((A 39 (y_ix (A 65 (y_ix (A 81 (y_ix a1)))))) - (1 : Int32))) 75 (y_ix (A 81 (y_ix a1))) (0 : Int32))) (rf_takenBack_104 20000 a1 a2 (A 81 (y_ix a1)) (A 65 (y_ix (A 81 (y_ix a1)))) (0 : Int32) (xm_u2 (xm_u2 (xm_u2 A 77 (y_ix (A 81 (y_ix a1))) (0 : Int32)) 39 (y_ix (A 65 (y_ix (A 81 (y_ix a1))))) ((A 39 (y_ix (A 65 (y_ix (A 81 (y_ix a1)))))) - (1 : Int32))) 75 (y_ix (A 81 (y_ix a1))) (0 : Int32))) (xm_u2 (xm_u2 (xm_u2 A 77 (y_ix (A 81 (y_ix a1))) (0 : Int32)) 39 (y_ix (A 65 (y_ix (A 81 (y_ix a1))))) ((A 39 (y_ix (A 65 (y_ix (A 81 (y_ix a1)))))) - (1 : Int32))) 75 (y_ix (A 81 (y_ix a1))) (0 : Int32)) (((4 : Int32), (a1 + (1 : Int32)), a2, (0 : Int32), (0 : Int32)) :: js) h60 rfl ?_
            refine ra.s (pc' := 180) (st' := [.inr (some (11, 0))]) (fun _ => rfl) ?_
            refine ra.ga (x := 40) (nx := 183) (c := 13) (i := 33) rfl rfl ?_
            refine ra.s (pc' := 185) (st' := [.inl (A 65 (y_ix (A 81 (y_ix a1)))), .inr (some (13, 33))]) (fun _ => rfl) ?_
            refine ra.s (pc' := 186) (st' := [.inl (A 65 (y_ix (A 81 (y_ix a1)))), .inr (some (13, 33)), .inl (A 65 (y_ix (A 81 (y_ix a1)))), .inr (some (13, 33))]) (fun _ => rfl) ?_
            refine ra.ld (nx := 187) (v := ((rf_takenBack_131 20000 a1 a2 (A 81 (y_ix a1)) (A 65 (y_ix (A 81 (y_ix a1)))) (rf_takenBack_104 20000 a1 a2 (A 81 (y_ix a1)) (A 65 (y_ix (A 81 (y_ix a1)))) (0 : Int32) (xm_u2 (xm_u2 (xm_u2 A 77 (y_ix (A 81 (y_ix a1))) (0 : Int32)) 39 (y_ix (A 65 (y_ix (A 81 (y_ix a1))))) ((A 39 (y_ix (A 65 (y_ix (A 81 (y_ix a1)))))) - (1 : Int32))) 75 (y_ix (A 81 (y_ix a1))) (0 : Int32))) (rf_takenBack_104 20000 a1 a2 (A 81 (y_ix a1)) (A 65 (y_ix (A 81 (y_ix a1)))) (0 : Int32) (xm_u2 (xm_u2 (xm_u2 A 77 (y_ix (A 81 (y_ix a1))) (0 : Int32)) 39 (y_ix (A 65 (y_ix (A 81 (y_ix a1))))) ((A 39 (y_ix (A 65 (y_ix (A 81 (y_ix a1)))))) - (1 : Int32))) 75 (y_ix (A 81 (y_ix a1))) (0 : Int32))) (xm_u2 (xm_u2 (xm_u2 A 77 (y_ix (A 81 (y_ix a1))) (0 : Int32)) 39 (y_ix (A 65 (y_ix (A 81 (y_ix a1))))) ((A 39 (y_ix (A 65 (y_ix (A 81 (y_ix a1)))))) - (1 : Int32))) 75 (y_ix (A 81 (y_ix a1))) (0 : Int32))).2 40 (y_ix (A 65 (y_ix (A 81 (y_ix a1))))))) 40 24 rfl rfl h55 rfl ?_
            refine ra.s (pc' := 188) (st' := [.inl (1 : Int32), .inl ((rf_takenBack_131 20000 a1 a2 (A 81 (y_ix a1)) (A 65 (y_ix (A 81 (y_ix a1)))) (rf_takenBack_104 20000 a1 a2 (A 81 (y_ix a1)) (A 65 (y_ix (A 81 (y_ix a1)))) (0 : Int32) (xm_u2 (xm_u2 (xm_u2 A 77 (y_ix (A 81 (y_ix a1))) (0 : Int32)) 39 (y_ix (A 65 (y_ix (A 81 (y_ix a1))))) ((A 39 (y_ix (A 65 (y_ix (A 81 (y_ix a1)))))) - (1 : Int32))) 75 (y_ix (A 81 (y_ix a1))) (0 : Int32))) (rf_takenBack_104 20000 a1 a2 (A 81 (y_ix a1)) (A 65 (y_ix (A 81 (y_ix a1)))) (0 : Int32) (xm_u2 (xm_u2 (xm_u2 A 77 (y_ix (A 81 (y_ix a1))) (0 : Int32)) 39 (y_ix (A 65 (y_ix (A 81 (y_ix a1))))) ((A 39 (y_ix (A 65 (y_ix (A 81 (y_ix a1)))))) - (1 : Int32))) 75 (y_ix (A 81 (y_ix a1))) (0 : Int32))) (xm_u2 (xm_u2 (xm_u2 A 77 (y_ix (A 81 (y_ix a1))) (0 : Int32)) 39 (y_ix (A 65 (y_ix (A 81 (y_ix a1))))) ((A 39 (y_ix (A 65 (y_ix (A 81 (y_ix a1)))))) - (1 : Int32))) 75 (y_ix (A 81 (y_ix a1))) (0 : Int32))).2 40 (y_ix (A 65 (y_ix (A 81 (y_ix a1)))))), .inl (A 65 (y_ix (A 81 (y_ix a1)))), .inr (some (13, 33))]) (fun _ => rfl) ?_
            refine ra.s (pc' := 189) (st' := [.inl (((rf_takenBack_131 20000 a1 a2 (A 81 (y_ix a1)) (A 65 (y_ix (A 81 (y_ix a1)))) (rf_takenBack_104 20000 a1 a2 (A 81 (y_ix a1)) (A 65 (y_ix (A 81 (y_ix a1)))) (0 : Int32) (xm_u2 (xm_u2 (xm_u2 A 77 (y_ix (A 81 (y_ix a1))) (0 : Int32)) 39 (y_ix (A 65 (y_ix (A 81 (y_ix a1))))) ((A 39 (y_ix (A 65 (y_ix (A 81 (y_ix a1)))))) - (1 : Int32))) 75 (y_ix (A 81 (y_ix a1))) (0 : Int32))) (rf_takenBack_104 20000 a1 a2 (A 81 (y_ix a1)) (A 65 (y_ix (A 81 (y_ix a1)))) (0 : Int32) (xm_u2 (xm_u2 (xm_u2 A 77 (y_ix (A 81 (y_ix a1))) (0 : Int32)) 39 (y_ix (A 65 (y_ix (A 81 (y_ix a1))))) ((A 39 (y_ix (A 65 (y_ix (A 81 (y_ix a1)))))) - (1 : Int32))) 75 (y_ix (A 81 (y_ix a1))) (0 : Int32))) (xm_u2 (xm_u2 (xm_u2 A 77 (y_ix (A 81 (y_ix a1))) (0 : Int32)) 39 (y_ix (A 65 (y_ix (A 81 (y_ix a1))))) ((A 39 (y_ix (A 65 (y_ix (A 81 (y_ix a1)))))) - (1 : Int32))) 75 (y_ix (A 81 (y_ix a1))) (0 : Int32))).2 40 (y_ix (A 65 (y_ix (A 81 (y_ix a1)))))) - (1 : Int32)), .inl (A 65 (y_ix (A 81 (y_ix a1)))), .inr (some (13, 33))]) (fun _ => rfl) ?_
            refine ra.si (nx := 190) 40 24 rfl rfl h55 ?_
            refine ra.s (pc' := 191) (st' := [.inr (some (11, 0))]) (fun _ => rfl) ?_
            refine ra.ga (x := 78) (nx := 194) (c := 14) (i := 5) rfl rfl ?_
            refine ra.s (pc' := 195) (st' := [.inl (A 81 (y_ix a1)), .inr (some (14, 5))]) (fun _ => rfl) ?_
            refine ra.lz (nx := 196) (v := ((rf_takenBack_131 20000 a1 a2 (A 81 (y_ix a1)) (A 65 (y_ix (A 81 (y_ix a1)))) (rf_takenBack_104 20000 a1 a2 (A 81 (y_ix a1)) (A 65 (y_ix (A 81 (y_ix a1)))) (0 : Int32) (xm_u2 (xm_u2 (xm_u2 A 77 (y_ix (A 81 (y_ix a1))) (0 : Int32)) 39 (y_ix (A 65 (y_ix (A 81 (y_ix a1))))) ((A 39 (y_ix (A 65 (y_ix (A 81 (y_ix a1)))))) - (1 : Int32))) 75 (y_ix (A 81 (y_ix a1))) (0 : Int32))) (rf_takenBack_104 20000 a1 a2 (A 81 (y_ix a1)) (A 65 (y_ix (A 81 (y_ix a1)))) (0 : Int32) (xm_u2 (xm_u2 (xm_u2 A 77 (y_ix (A 81 (y_ix a1))) (0 : Int32)) 39 (y_ix (A 65 (y_ix (A 81 (y_ix a1))))) ((A 39 (y_ix (A 65 (y_ix (A 81 (y_ix a1)))))) - (1 : Int32))) 75 (y_ix (A 81 (y_ix a1))) (0 : Int32))) (xm_u2 (xm_u2 (xm_u2 A 77 (y_ix (A 81 (y_ix a1))) (0 : Int32)) 39 (y_ix (A 65 (y_ix (A 81 (y_ix a1))))) ((A 39 (y_ix (A 65 (y_ix (A 81 (y_ix a1)))))) - (1 : Int32))) 75 (y_ix (A 81 (y_ix a1))) (0 : Int32))).2 78 (y_ix (A 81 (y_ix a1))))) 78 4400 rfl rfl h43 rfl ?_
            refine ra.b (c := ((rf_takenBack_131 20000 a1 a2 (A 81 (y_ix a1)) (A 65 (y_ix (A 81 (y_ix a1)))) (rf_takenBack_104 20000 a1 a2 (A 81 (y_ix a1)) (A 65 (y_ix (A 81 (y_ix a1)))) (0 : Int32) (xm_u2 (xm_u2 (xm_u2 A 77 (y_ix (A 81 (y_ix a1))) (0 : Int32)) 39 (y_ix (A 65 (y_ix (A 81 (y_ix a1))))) ((A 39 (y_ix (A 65 (y_ix (A 81 (y_ix a1)))))) - (1 : Int32))) 75 (y_ix (A 81 (y_ix a1))) (0 : Int32))) (rf_takenBack_104 20000 a1 a2 (A 81 (y_ix a1)) (A 65 (y_ix (A 81 (y_ix a1)))) (0 : Int32) (xm_u2 (xm_u2 (xm_u2 A 77 (y_ix (A 81 (y_ix a1))) (0 : Int32)) 39 (y_ix (A 65 (y_ix (A 81 (y_ix a1))))) ((A 39 (y_ix (A 65 (y_ix (A 81 (y_ix a1)))))) - (1 : Int32))) 75 (y_ix (A 81 (y_ix a1))) (0 : Int32))) (xm_u2 (xm_u2 (xm_u2 A 77 (y_ix (A 81 (y_ix a1))) (0 : Int32)) 39 (y_ix (A 65 (y_ix (A 81 (y_ix a1))))) ((A 39 (y_ix (A 65 (y_ix (A 81 (y_ix a1)))))) - (1 : Int32))) 75 (y_ix (A 81 (y_ix a1))) (0 : Int32))).2 78 (y_ix (A 81 (y_ix a1)))) = (0 : Int32)) (cd := .eq) (x := ((rf_takenBack_131 20000 a1 a2 (A 81 (y_ix a1)) (A 65 (y_ix (A 81 (y_ix a1)))) (rf_takenBack_104 20000 a1 a2 (A 81 (y_ix a1)) (A 65 (y_ix (A 81 (y_ix a1)))) (0 : Int32) (xm_u2 (xm_u2 (xm_u2 A 77 (y_ix (A 81 (y_ix a1))) (0 : Int32)) 39 (y_ix (A 65 (y_ix (A 81 (y_ix a1))))) ((A 39 (y_ix (A 65 (y_ix (A 81 (y_ix a1)))))) - (1 : Int32))) 75 (y_ix (A 81 (y_ix a1))) (0 : Int32))) (rf_takenBack_104 20000 a1 a2 (A 81 (y_ix a1)) (A 65 (y_ix (A 81 (y_ix a1)))) (0 : Int32) (xm_u2 (xm_u2 (xm_u2 A 77 (y_ix (A 81 (y_ix a1))) (0 : Int32)) 39 (y_ix (A 65 (y_ix (A 81 (y_ix a1))))) ((A 39 (y_ix (A 65 (y_ix (A 81 (y_ix a1)))))) - (1 : Int32))) 75 (y_ix (A 81 (y_ix a1))) (0 : Int32))) (xm_u2 (xm_u2 (xm_u2 A 77 (y_ix (A 81 (y_ix a1))) (0 : Int32)) 39 (y_ix (A 65 (y_ix (A 81 (y_ix a1))))) ((A 39 (y_ix (A 65 (y_ix (A 81 (y_ix a1)))))) - (1 : Int32))) 75 (y_ix (A 81 (y_ix a1))) (0 : Int32))).2 78 (y_ix (A 81 (y_ix a1))))) (y := (0 : Int32)) 208 199 (st' := []) (fun _ => rfl) (y_ceq _ _) hk hg (fun h61 hg hk => ?_) (fun h61 hg hk => ?_)
            · skip
              subst hk
              exact ra.ret (r := none) (fun _ => rfl) ⟨rfl, rfl, rfl⟩
            · skip
              refine ra.s (pc' := 200) (st' := [.inr (some (11, 0))]) (fun _ => rfl) ?_
              refine ra.s (pc' := 201) (st' := [.inl (5 : Int32), .inr (some (11, 0))]) (fun _ => rfl) ?_
              refine ra.s (pc' := 202) (st' := [.inl (A 81 (y_ix a1)), .inl (5 : Int32), .inr (some (11, 0))]) (fun _ => rfl) ?_
              refine ra.s (pc' := 203) (st' := [.inl (-1 : Int32), .inl (A 81 (y_ix a1)), .inl (5 : Int32), .inr (some (11, 0))]) (fun _ => rfl) ?_
              refine ra.s (pc' := 204) (st' := [.inl (0 : Int32), .inl (-1 : Int32), .inl (A 81 (y_ix a1)), .inl (5 : Int32), .inr (some (11, 0))]) (fun _ => rfl) ?_
              refine ra.s (pc' := 205) (st' := [.inl (0 : Int32), .inl (0 : Int32), .inl (-1 : Int32), .inl (A 81 (y_ix a1)), .inl (5 : Int32), .inr (some (11, 0))]) (fun _ => rfl) ?_
              obtain ⟨h62, hg⟩ := hg
              refine ra.cV (m := 131) (as := [.inr (some (11, 0)), .inl (5 : Int32), .inl (A 81 (y_ix a1)), .inl (-1 : Int32), .inl (0 : Int32), .inl (0 : Int32)]) (nx := 208) (L' := [some (.inr (some (11, 0))), some (.inl a1), some (.inl a2), some (.inl (A 81 (y_ix a1))), some (.inl (A 65 (y_ix (A 81 (y_ix a1))))), some (.inl (rf_takenBack_104 20000 a1 a2 (A 81 (y_ix a1)) (A 65 (y_ix (A 81 (y_ix a1)))) (0 : Int32) (xm_u2 (xm_u2 (xm_u2 A 77 (y_ix (A 81 (y_ix a1))) (0 : Int32)) 39 (y_ix (A 65 (y_ix (A 81 (y_ix a1))))) ((A 39 (y_ix (A 65 (y_ix (A 81 (y_ix a1)))))) - (1 : Int32))) 75 (y_ix (A 81 (y_ix a1))) (0 : Int32)))), some (.inl (rf_takenBack_131 20000 a1 a2 (A 81 (y_ix a1)) (A 65 (y_ix (A 81 (y_ix a1)))) (rf_takenBack_104 20000 a1 a2 (A 81 (y_ix a1)) (A 65 (y_ix (A 81 (y_ix a1)))) (0 : Int32) (xm_u2 (xm_u2 (xm_u2 A 77 (y_ix (A 81 (y_ix a1))) (0 : Int32)) 39 (y_ix (A 65 (y_ix (A 81 (y_ix a1))))) ((A 39 (y_ix (A 65 (y_ix (A 81 (y_ix a1)))))) - (1 : Int32))) 75 (y_ix (A 81 (y_ix a1))) (0 : Int32))) (rf_takenBack_104 20000 a1 a2 (A 81 (y_ix a1)) (A 65 (y_ix (A 81 (y_ix a1)))) (0 : Int32) (xm_u2 (xm_u2 (xm_u2 A 77 (y_ix (A 81 (y_ix a1))) (0 : Int32)) 39 (y_ix (A 65 (y_ix (A 81 (y_ix a1))))) ((A 39 (y_ix (A 65 (y_ix (A 81 (y_ix a1)))))) - (1 : Int32))) 75 (y_ix (A 81 (y_ix a1))) (0 : Int32))) (xm_u2 (xm_u2 (xm_u2 A 77 (y_ix (A 81 (y_ix a1))) (0 : Int32)) 39 (y_ix (A 65 (y_ix (A 81 (y_ix a1))))) ((A 39 (y_ix (A 65 (y_ix (A 81 (y_ix a1)))))) - (1 : Int32))) 75 (y_ix (A 81 (y_ix a1))) (0 : Int32))).1)]) (st' := []) (fun _ => rfl) (rh_add h62) ?_
              show ra _ _ _ _ _ (xm_u2 (rf_takenBack_131 20000 a1 a2 (A 81 (y_ix a1)) (A 65 (y_ix (A 81 (y_ix a1)))) (rf_takenBack_104 20000 a1 a2 (A 81 (y_ix a1)) (A 65 (y_ix (A 81 (y_ix a1)))) (0 : Int32) (xm_u2 (xm_u2 (xm_u2 A 77 (y_ix (A 81 (y_ix a1))) (0 : Int32)) 39 (y_ix (A 65 (y_ix (A 81 (y_ix a1))))) ((A 39 (y_ix (A 65 (y_ix (A 81 (y_ix a1)))))) - (1 : Int32))) 75 (y_ix (A 81 (y_ix a1))) (0 : Int32))) (rf_takenBack_104 20000 a1 a2 (A 81 (y_ix a1)) (A 65 (y_ix (A 81 (y_ix a1)))) (0 : Int32) (xm_u2 (xm_u2 (xm_u2 A 77 (y_ix (A 81 (y_ix a1))) (0 : Int32)) 39 (y_ix (A 65 (y_ix (A 81 (y_ix a1))))) ((A 39 (y_ix (A 65 (y_ix (A 81 (y_ix a1)))))) - (1 : Int32))) 75 (y_ix (A 81 (y_ix a1))) (0 : Int32))) (xm_u2 (xm_u2 (xm_u2 A 77 (y_ix (A 81 (y_ix a1))) (0 : Int32)) 39 (y_ix (A 65 (y_ix (A 81 (y_ix a1))))) ((A 39 (y_ix (A 65 (y_ix (A 81 (y_ix a1)))))) - (1 : Int32))) 75 (y_ix (A 81 (y_ix a1))) (0 : Int32))).2 40 (y_ix (A 65 (y_ix (A 81 (y_ix a1))))) (((rf_takenBack_131 20000 a1 a2 (A 81 (y_ix a1)) (A 65 (y_ix (A 81 (y_ix a1)))) (rf_takenBack_104 20000 a1 a2 (A 81 (y_ix a1)) (A 65 (y_ix (A 81 (y_ix a1)))) (0 : Int32) (xm_u2 (xm_u2 (xm_u2 A 77 (y_ix (A 81 (y_ix a1))) (0 : Int32)) 39 (y_ix (A 65 (y_ix (A 81 (y_ix a1))))) ((A 39 (y_ix (A 65 (y_ix (A 81 (y_ix a1)))))) - (1 : Int32))) 75 (y_ix (A 81 (y_ix a1))) (0 : Int32))) (rf_takenBack_104 20000 a1 a2 (A 81 (y_ix a1)) (A 65 (y_ix (A 81 (y_ix a1)))) (0 : Int32) (xm_u2 (xm_u2 (xm_u2 A 77 (y_ix (A 81 (y_ix a1))) (0 : Int32)) 39 (y_ix (A 65 (y_ix (A 81 (y_ix a1))))) ((A 39 (y_ix (A 65 (y_ix (A 81 (y_ix a1)))))) - (1 : Int32))) 75 (y_ix (A 81 (y_ix a1))) (0 : Int32))) (xm_u2 (xm_u2 (xm_u2 A 77 (y_ix (A 81 (y_ix a1))) (0 : Int32)) 39 (y_ix (A 65 (y_ix (A 81 (y_ix a1))))) ((A 39 (y_ix (A 65 (y_ix (A 81 (y_ix a1)))))) - (1 : Int32))) 75 (y_ix (A 81 (y_ix a1))) (0 : Int32))).2 40 (y_ix (A 65 (y_ix (A 81 (y_ix a1)))))) - (1 : Int32))) (((5 : Int32), (A 81 (y_ix a1)), (-1 : Int32), (0 : Int32), (0 : Int32)) :: (((4 : Int32), (a1 + (1 : Int32)), a2, (0 : Int32), (0 : Int32)) :: js)) _
              subst hk
              exact ra.ret (r := none) (fun _ => rfl) ⟨rfl, rfl, rfl⟩
      · skip
        refine ra.s (pc' := 49) (st' := [.inr (some (11, 0))]) (fun _ => rfl) ?_
        refine ra.s (pc' := 51) (st' := [.inl (A 65 (y_ix (A 81 (y_ix a1)))), .inr (some (11, 0))]) (fun _ => rfl) ?_
        refine ra.s (pc' := 52) (st' := [.inr (some (11, 0)), .inl (A 65 (y_ix (A 81 (y_ix a1)))), .inr (some (11, 0))]) (fun _ => rfl) ?_
        refine ra.gi (x := 0) (nx := 55) (v := (A 0 0)) rfl rfl rfl ?_
        obtain ⟨h63, hg⟩ := hg
        refine ra.cV (F := ((rf_opens (A 65 (y_ix (A 81 (y_ix a1)))) (A 0 0) A), (((4 : Int32), (a1 + (1 : Int32)), a2, (0 : Int32), (0 : Int32)) :: js))) (m := 144) (as := [.inr (some (11, 0)), .inl (A 65 (y_ix (A 81 (y_ix a1)))), .inl (A 0 0)]) (nx := 58) (L' := [some (.inr (some (11, 0))), some (.inl a1), some (.inl a2), some (.inl (A 81 (y_ix a1))), some (.inl (A 65 (y_ix (A 81 (y_ix a1))))), none, none]) (st' := []) (fun _ => rfl) (rh_opens (by omega) h63) ?_
        show ra _ _ _ _ [] (xm_u2 (xm_u2 A 36 (y_ix (A 65 (y_ix (A 81 (y_ix a1))))) (1 : Int32)) 38 (y_ix (A 65 (y_ix (A 81 (y_ix a1))))) (A 0 0)) (((4 : Int32), (a1 + (1 : Int32)), a2, (0 : Int32), (0 : Int32)) :: js) _
        refine ra.s (pc' := 59) (st' := [.inr (some (11, 0))]) (fun _ => rfl) ?_
        refine ra.ga (x := 77) (nx := 62) (c := 14) (i := 4) rfl rfl ?_
        refine ra.s (pc' := 63) (st' := [.inl (A 81 (y_ix a1)), .inr (some (14, 4))]) (fun _ => rfl) ?_
        refine ra.lz (nx := 64) (v := (A 77 (y_ix (A 81 (y_ix a1))))) 77 4400 rfl rfl h43 rfl ?_
        refine ra.b (c := (A 77 (y_ix (A 81 (y_ix a1)))) = (0 : Int32)) (cd := .eq) (x := (A 77 (y_ix (A 81 (y_ix a1))))) (y := (0 : Int32)) 85 67 (st' := []) (fun _ => rfl) (y_ceq _ _) hk hg (fun h64 hg hk => ?_) (fun h64 hg hk => ?_)
        · skip
          refine ra.s (pc' := 86) (st' := [.inr (some (11, 0))]) (fun _ => rfl) ?_
          refine ra.ga (x := 75) (nx := 89) (c := 14) (i := 2) rfl rfl ?_
          refine ra.s (pc' := 90) (st' := [.inl (A 81 (y_ix a1)), .inr (some (14, 2))]) (fun _ => rfl) ?_
          refine ra.lz (nx := 91) (v := (A 75 (y_ix (A 81 (y_ix a1))))) 75 4400 rfl rfl h43 rfl ?_
          refine ra.b (c := (A 75 (y_ix (A 81 (y_ix a1)))) = (0 : Int32)) (cd := .eq) (x := (A 75 (y_ix (A 81 (y_ix a1))))) (y := (0 : Int32)) 190 94 (st' := []) (fun _ => rfl) (y_ceq _ _) hk hg (fun h65 hg hk => ?_) (fun h65 hg hk => ?_)
          · skip
            refine ra.s (pc' := 191) (st' := [.inr (some (11, 0))]) (fun _ => rfl) ?_
            refine ra.ga (x := 78) (nx := 194) (c := 14) (i := 5) rfl rfl ?_
            refine ra.s (pc' := 195) (st' := [.inl (A 81 (y_ix a1)), .inr (some (14, 5))]) (fun _ => rfl) ?_
            refine ra.lz (nx := 196) (v := (A 78 (y_ix (A 81 (y_ix a1))))) 78 4400 rfl rfl h43 rfl ?_
            refine ra.b (c := (A 78 (y_ix (A 81 (y_ix a1)))) = (0 : Int32)) (cd := .eq) (x := (A 78 (y_ix (A 81 (y_ix a1))))) (y := (0 : Int32)) 208 199 (st' := []) (fun _ => rfl) (y_ceq _ _) hk hg (fun h66 hg hk => ?_) (fun h66 hg hk => ?_)
            · skip
              subst hk
              exact ra.ret (r := none) (fun _ => rfl) ⟨rfl, rfl, rfl⟩
            · skip
              refine ra.s (pc' := 200) (st' := [.inr (some (11, 0))]) (fun _ => rfl) ?_
              refine ra.s (pc' := 201) (st' := [.inl (5 : Int32), .inr (some (11, 0))]) (fun _ => rfl) ?_
              refine ra.s (pc' := 202) (st' := [.inl (A 81 (y_ix a1)), .inl (5 : Int32), .inr (some (11, 0))]) (fun _ => rfl) ?_
              refine ra.s (pc' := 203) (st' := [.inl (-1 : Int32), .inl (A 81 (y_ix a1)), .inl (5 : Int32), .inr (some (11, 0))]) (fun _ => rfl) ?_
              refine ra.s (pc' := 204) (st' := [.inl (0 : Int32), .inl (-1 : Int32), .inl (A 81 (y_ix a1)), .inl (5 : Int32), .inr (some (11, 0))]) (fun _ => rfl) ?_
              refine ra.s (pc' := 205) (st' := [.inl (0 : Int32), .inl (0 : Int32), .inl (-1 : Int32), .inl (A 81 (y_ix a1)), .inl (5 : Int32), .inr (some (11, 0))]) (fun _ => rfl) ?_
              obtain ⟨h67, hg⟩ := hg
              refine ra.cV (m := 131) (as := [.inr (some (11, 0)), .inl (5 : Int32), .inl (A 81 (y_ix a1)), .inl (-1 : Int32), .inl (0 : Int32), .inl (0 : Int32)]) (nx := 208) (L' := [some (.inr (some (11, 0))), some (.inl a1), some (.inl a2), some (.inl (A 81 (y_ix a1))), some (.inl (A 65 (y_ix (A 81 (y_ix a1))))), none, none]) (st' := []) (fun _ => rfl) (rh_add h67) ?_
              show ra _ _ _ _ _ (xm_u2 (xm_u2 A 36 (y_ix (A 65 (y_ix (A 81 (y_ix a1))))) (1 : Int32)) 38 (y_ix (A 65 (y_ix (A 81 (y_ix a1))))) (A 0 0)) (((5 : Int32), (A 81 (y_ix a1)), (-1 : Int32), (0 : Int32), (0 : Int32)) :: (((4 : Int32), (a1 + (1 : Int32)), a2, (0 : Int32), (0 : Int32)) :: js)) _
              subst hk
              exact ra.ret (r := none) (fun _ => rfl) ⟨rfl, rfl, rfl⟩
          · skip
            refine ra.s (pc' := 95) (st' := [.inr (some (11, 0))]) (fun _ => rfl) ?_
            refine ra.ga (x := 75) (nx := 98) (c := 14) (i := 2) rfl rfl ?_
            refine ra.s (pc' := 99) (st' := [.inl (A 81 (y_ix a1)), .inr (some (14, 2))]) (fun _ => rfl) ?_
            refine ra.s (pc' := 100) (st' := [.inl (0 : Int32), .inl (A 81 (y_ix a1)), .inr (some (14, 2))]) (fun _ => rfl) ?_
            refine ra.sz (nx := 101) 75 4400 rfl rfl h43 (Or.inl rfl) ?_
            refine ra.s (pc' := 102) (st' := [.inl (0 : Int32)]) (fun _ => rfl) ?_
            refine ra.s (pc' := 104) (L' := [some (.inr (some (11, 0))), some (.inl a1), some (.inl a2), some (.inl (A 81 (y_ix a1))), some (.inl (A 65 (y_ix (A 81 (y_ix a1))))), some (.inl (0 : Int32)), none]) (st' := []) (fun _ => rfl) ?_
            obtain ⟨h68, hg⟩ := hg
            refine rh_takenBack_104 (by omega) 20000 a1 a2 (A 81 (y_ix a1)) (A 65 (y_ix (A 81 (y_ix a1)))) (0 : Int32) none (xm_u2 (xm_u2 (xm_u2 A 36 (y_ix (A 65 (y_ix (A 81 (y_ix a1))))) (1 : Int32)) 38 (y_ix (A 65 (y_ix (A 81 (y_ix a1))))) (A 0 0)) 75 (y_ix (A 81 (y_ix a1))) (0 : Int32)) (((4 : Int32), (a1 + (1 : Int32)), a2, (0 : Int32), (0 : Int32)) :: js) h68 rfl ?_
            intro e7x
            refine ra.s (pc' := 129) (st' := [.inl (rf_takenBack_104 20000 a1 a2 (A 81 (y_ix a1)) (A 65 (y_ix (A 81 (y_ix a1)))) (0 : Int32) (xm_u2 (xm_u2 (xm_u2 A 36 (y_ix (A 65 (y_ix (A 81 (y_ix a1))))) (1 : Int32)) 38 (y_ix (A 65 (y_ix (A 81 (y_ix a1))))) (A 0 0)) 75 (y_ix (A 81 (y_ix a1))) (0 : Int32)))]) (fun _ => rfl) ?_
            refine ra.s (pc' := 131) (L' := [some (.inr (some (11, 0))), some (.inl a1), some (.inl a2), some (.inl (A 81 (y_ix a1))), some (.inl (A 65 (y_ix (A 81 (y_ix a1))))), some (.inl (rf_takenBack_104 20000 a1 a2 (A 81 (y_ix a1)) (A 65 (y_ix (A 81 (y_ix a1)))) (0 : Int32) (xm_u2 (xm_u2 (xm_u2 A 36 (y_ix (A 65 (y_ix (A 81 (y_ix a1))))) (1 : Int32)) 38 (y_ix (A 65 (y_ix (A 81 (y_ix a1))))) (A 0 0)) 75 (y_ix (A 81 (y_ix a1))) (0 : Int32)))), some (.inl (rf_takenBack_104 20000 a1 a2 (A 81 (y_ix a1)) (A 65 (y_ix (A 81 (y_ix a1)))) (0 : Int32) (xm_u2 (xm_u2 (xm_u2 A 36 (y_ix (A 65 (y_ix (A 81 (y_ix a1))))) (1 : Int32)) 38 (y_ix (A 65 (y_ix (A 81 (y_ix a1))))) (A 0 0)) 75 (y_ix (A 81 (y_ix a1))) (0 : Int32))))]) (st' := []) (fun _ => rfl) ?_
            obtain ⟨h69, hg⟩ := hg
            refine rh_takenBack_131 (by omega) 20000 a1 a2 (A 81 (y_ix a1)) (A 65 (y_ix (A 81 (y_ix a1)))) (rf_takenBack_104 20000 a1 a2 (A 81 (y_ix a1)) (A 65 (y_ix (A 81 (y_ix a1)))) (0 : Int32) (xm_u2 (xm_u2 (xm_u2 A 36 (y_ix (A 65 (y_ix (A 81 (y_ix a1))))) (1 : Int32)) 38 (y_ix (A 65 (y_ix (A 81 (y_ix a1))))) (A 0 0)) 75 (y_ix (A 81 (y_ix a1))) (0 : Int32))) (rf_takenBack_104 20000 a1 a2 (A 81 (y_ix a1)) (A 65 (y_ix (A 81 (y_ix a1)))) (0 : Int32) (xm_u2 (xm_u2 (xm_u2 A 36 (y_ix (A 65 (y_ix (A 81 (y_ix a1))))) (1 : Int32)) 38 (y_ix (A 65 (y_ix (A 81 (y_ix a1))))) (A 0 0)) 75 (y_ix (A 81 (y_ix a1))) (0 : Int32))) (xm_u2 (xm_u2 (xm_u2 A 36 (y_ix (A 65 (y_ix (A 81 (y_ix a1))))) (1 : Int32)) 38 (y_ix (A 65 (y_ix (A 81 (y_ix a1))))) (A 0 0)) 75 (y_ix (A 81 (y_ix a1))) (0 : Int32)) (((4 : Int32), (a1 + (1 : Int32)), a2, (0 : Int32), (0 : Int32)) :: js) h69 rfl ?_
            refine ra.s (pc' := 180) (st' := [.inr (some (11, 0))]) (fun _ => rfl) ?_
            refine ra.ga (x := 40) (nx := 183) (c := 13) (i := 33) rfl rfl ?_
            refine ra.s (pc' := 185) (st' := [.inl (A 65 (y_ix (A 81 (y_ix a1)))), .inr (some (13, 33))]) (fun _ => rfl) ?_
            refine ra.s (pc' := 186) (st' := [.inl (A 65 (y_ix (A 81 (y_ix a1)))), .inr (some (13, 33)), .inl (A 65 (y_ix (A 81 (y_ix a1)))), .inr (some (13, 33))]) (fun _ => rfl) ?_
            obtain ⟨h70, hg⟩ := hg
            refine ra.ld (nx := 187) (v := ((rf_takenBack_131 20000 a1 a2 (A 81 (y_ix a1)) (A 65 (y_ix (A 81 (y_ix a1)))) (rf_takenBack_104 20000 a1 a2 (A 81 (y_ix a1)) (A 65 (y_ix (A 81 (y_ix a1)))) (0 : Int32) (xm_u2 (xm_u2 (xm_u2 A 36 (y_ix (A 65 (y_ix (A 81 (y_ix a1))))) (1 : Int32)) 38 (y_ix (A 65 (y_ix (A 81 (y_ix a1))))) (A 0 0)) 75 (y_ix (A 81 (y_ix a1))) (0 : Int32))) (rf_takenBack_104 20000 a1 a2 (A 81 (y_ix a1)) (A 65 (y_ix (A 81 (y_ix a1)))) (0 : Int32) (xm_u2 (xm_u2 (xm_u2 A 36 (y_ix (A 65 (y_ix (A 81 (y_ix a1))))) (1 : Int32)) 38 (y_ix (A 65 (y_ix (A 81 (y_ix a1))))) (A 0 0)) 75 (y_ix (A 81 (y_ix a1))) (0 : Int32))) (xm_u2 (xm_u2 (xm_u2 A 36 (y_ix (A 65 (y_ix (A 81 (y_ix a1))))) (1 : Int32)) 38 (y_ix (A 65 (y_ix (A 81 (y_ix a1))))) (A 0 0)) 75 (y_ix (A 81 (y_ix a1))) (0 : Int32))).2 40 (y_ix (A 65 (y_ix (A 81 (y_ix a1))))))) 40 24 rfl rfl h70 rfl ?_
            refine ra.s (pc' := 188) (st' := [.inl (1 : Int32), .inl ((rf_takenBack_131 20000 a1 a2 (A 81 (y_ix a1)) (A 65 (y_ix (A 81 (y_ix a1)))) (rf_takenBack_104 20000 a1 a2 (A 81 (y_ix a1)) (A 65 (y_ix (A 81 (y_ix a1)))) (0 : Int32) (xm_u2 (xm_u2 (xm_u2 A 36 (y_ix (A 65 (y_ix (A 81 (y_ix a1))))) (1 : Int32)) 38 (y_ix (A 65 (y_ix (A 81 (y_ix a1))))) (A 0 0)) 75 (y_ix (A 81 (y_ix a1))) (0 : Int32))) (rf_takenBack_104 20000 a1 a2 (A 81 (y_ix a1)) (A 65 (y_ix (A 81 (y_ix a1)))) (0 : Int32) (xm_u2 (xm_u2 (xm_u2 A 36 (y_ix (A 65 (y_ix (A 81 (y_ix a1))))) (1 : Int32)) 38 (y_ix (A 65 (y_ix (A 81 (y_ix a1))))) (A 0 0)) 75 (y_ix (A 81 (y_ix a1))) (0 : Int32))) (xm_u2 (xm_u2 (xm_u2 A 36 (y_ix (A 65 (y_ix (A 81 (y_ix a1))))) (1 : Int32)) 38 (y_ix (A 65 (y_ix (A 81 (y_ix a1))))) (A 0 0)) 75 (y_ix (A 81 (y_ix a1))) (0 : Int32))).2 40 (y_ix (A 65 (y_ix (A 81 (y_ix a1)))))), .inl (A 65 (y_ix (A 81 (y_ix a1)))), .inr (some (13, 33))]) (fun _ => rfl) ?_
            refine ra.s (pc' := 189) (st' := [.inl (((rf_takenBack_131 20000 a1 a2 (A 81 (y_ix a1)) (A 65 (y_ix (A 81 (y_ix a1)))) (rf_takenBack_104 20000 a1 a2 (A 81 (y_ix a1)) (A 65 (y_ix (A 81 (y_ix a1)))) (0 : Int32) (xm_u2 (xm_u2 (xm_u2 A 36 (y_ix (A 65 (y_ix (A 81 (y_ix a1))))) (1 : Int32)) 38 (y_ix (A 65 (y_ix (A 81 (y_ix a1))))) (A 0 0)) 75 (y_ix (A 81 (y_ix a1))) (0 : Int32))) (rf_takenBack_104 20000 a1 a2 (A 81 (y_ix a1)) (A 65 (y_ix (A 81 (y_ix a1)))) (0 : Int32) (xm_u2 (xm_u2 (xm_u2 A 36 (y_ix (A 65 (y_ix (A 81 (y_ix a1))))) (1 : Int32)) 38 (y_ix (A 65 (y_ix (A 81 (y_ix a1))))) (A 0 0)) 75 (y_ix (A 81 (y_ix a1))) (0 : Int32))) (xm_u2 (xm_u2 (xm_u2 A 36 (y_ix (A 65 (y_ix (A 81 (y_ix a1))))) (1 : Int32)) 38 (y_ix (A 65 (y_ix (A 81 (y_ix a1))))) (A 0 0)) 75 (y_ix (A 81 (y_ix a1))) (0 : Int32))).2 40 (y_ix (A 65 (y_ix (A 81 (y_ix a1)))))) - (1 : Int32)), .inl (A 65 (y_ix (A 81 (y_ix a1)))), .inr (some (13, 33))]) (fun _ => rfl) ?_
            refine ra.si (nx := 190) 40 24 rfl rfl h70 ?_
            refine ra.s (pc' := 191) (st' := [.inr (some (11, 0))]) (fun _ => rfl) ?_
            refine ra.ga (x := 78) (nx := 194) (c := 14) (i := 5) rfl rfl ?_
            refine ra.s (pc' := 195) (st' := [.inl (A 81 (y_ix a1)), .inr (some (14, 5))]) (fun _ => rfl) ?_
            refine ra.lz (nx := 196) (v := ((rf_takenBack_131 20000 a1 a2 (A 81 (y_ix a1)) (A 65 (y_ix (A 81 (y_ix a1)))) (rf_takenBack_104 20000 a1 a2 (A 81 (y_ix a1)) (A 65 (y_ix (A 81 (y_ix a1)))) (0 : Int32) (xm_u2 (xm_u2 (xm_u2 A 36 (y_ix (A 65 (y_ix (A 81 (y_ix a1))))) (1 : Int32)) 38 (y_ix (A 65 (y_ix (A 81 (y_ix a1))))) (A 0 0)) 75 (y_ix (A 81 (y_ix a1))) (0 : Int32))) (rf_takenBack_104 20000 a1 a2 (A 81 (y_ix a1)) (A 65 (y_ix (A 81 (y_ix a1)))) (0 : Int32) (xm_u2 (xm_u2 (xm_u2 A 36 (y_ix (A 65 (y_ix (A 81 (y_ix a1))))) (1 : Int32)) 38 (y_ix (A 65 (y_ix (A 81 (y_ix a1))))) (A 0 0)) 75 (y_ix (A 81 (y_ix a1))) (0 : Int32))) (xm_u2 (xm_u2 (xm_u2 A 36 (y_ix (A 65 (y_ix (A 81 (y_ix a1))))) (1 : Int32)) 38 (y_ix (A 65 (y_ix (A 81 (y_ix a1))))) (A 0 0)) 75 (y_ix (A 81 (y_ix a1))) (0 : Int32))).2 78 (y_ix (A 81 (y_ix a1))))) 78 4400 rfl rfl h43 rfl ?_
            refine ra.b (c := ((rf_takenBack_131 20000 a1 a2 (A 81 (y_ix a1)) (A 65 (y_ix (A 81 (y_ix a1)))) (rf_takenBack_104 20000 a1 a2 (A 81 (y_ix a1)) (A 65 (y_ix (A 81 (y_ix a1)))) (0 : Int32) (xm_u2 (xm_u2 (xm_u2 A 36 (y_ix (A 65 (y_ix (A 81 (y_ix a1))))) (1 : Int32)) 38 (y_ix (A 65 (y_ix (A 81 (y_ix a1))))) (A 0 0)) 75 (y_ix (A 81 (y_ix a1))) (0 : Int32))) (rf_takenBack_104 20000 a1 a2 (A 81 (y_ix a1)) (A 65 (y_ix (A 81 (y_ix a1)))) (0 : Int32) (xm_u2 (xm_u2 (xm_u2 A 36 (y_ix (A 65 (y_ix (A 81 (y_ix a1))))) (1 : Int32)) 38 (y_ix (A 65 (y_ix (A 81 (y_ix a1))))) (A 0 0)) 75 (y_ix (A 81 (y_ix a1))) (0 : Int32))) (xm_u2 (xm_u2 (xm_u2 A 36 (y_ix (A 65 (y_ix (A 81 (y_ix a1))))) (1 : Int32)) 38 (y_ix (A 65 (y_ix (A 81 (y_ix a1))))) (A 0 0)) 75 (y_ix (A 81 (y_ix a1))) (0 : Int32))).2 78 (y_ix (A 81 (y_ix a1)))) = (0 : Int32)) (cd := .eq) (x := ((rf_takenBack_131 20000 a1 a2 (A 81 (y_ix a1)) (A 65 (y_ix (A 81 (y_ix a1)))) (rf_takenBack_104 20000 a1 a2 (A 81 (y_ix a1)) (A 65 (y_ix (A 81 (y_ix a1)))) (0 : Int32) (xm_u2 (xm_u2 (xm_u2 A 36 (y_ix (A 65 (y_ix (A 81 (y_ix a1))))) (1 : Int32)) 38 (y_ix (A 65 (y_ix (A 81 (y_ix a1))))) (A 0 0)) 75 (y_ix (A 81 (y_ix a1))) (0 : Int32))) (rf_takenBack_104 20000 a1 a2 (A 81 (y_ix a1)) (A 65 (y_ix (A 81 (y_ix a1)))) (0 : Int32) (xm_u2 (xm_u2 (xm_u2 A 36 (y_ix (A 65 (y_ix (A 81 (y_ix a1))))) (1 : Int32)) 38 (y_ix (A 65 (y_ix (A 81 (y_ix a1))))) (A 0 0)) 75 (y_ix (A 81 (y_ix a1))) (0 : Int32))) (xm_u2 (xm_u2 (xm_u2 A 36 (y_ix (A 65 (y_ix (A 81 (y_ix a1))))) (1 : Int32)) 38 (y_ix (A 65 (y_ix (A 81 (y_ix a1))))) (A 0 0)) 75 (y_ix (A 81 (y_ix a1))) (0 : Int32))).2 78 (y_ix (A 81 (y_ix a1))))) (y := (0 : Int32)) 208 199 (st' := []) (fun _ => rfl) (y_ceq _ _) hk hg (fun h71 hg hk => ?_) (fun h71 hg hk => ?_)
            · skip
              subst hk
              exact ra.ret (r := none) (fun _ => rfl) ⟨rfl, rfl, rfl⟩
            · skip
              refine ra.s (pc' := 200) (st' := [.inr (some (11, 0))]) (fun _ => rfl) ?_
              refine ra.s (pc' := 201) (st' := [.inl (5 : Int32), .inr (some (11, 0))]) (fun _ => rfl) ?_
              refine ra.s (pc' := 202) (st' := [.inl (A 81 (y_ix a1)), .inl (5 : Int32), .inr (some (11, 0))]) (fun _ => rfl) ?_
              refine ra.s (pc' := 203) (st' := [.inl (-1 : Int32), .inl (A 81 (y_ix a1)), .inl (5 : Int32), .inr (some (11, 0))]) (fun _ => rfl) ?_
              refine ra.s (pc' := 204) (st' := [.inl (0 : Int32), .inl (-1 : Int32), .inl (A 81 (y_ix a1)), .inl (5 : Int32), .inr (some (11, 0))]) (fun _ => rfl) ?_
              refine ra.s (pc' := 205) (st' := [.inl (0 : Int32), .inl (0 : Int32), .inl (-1 : Int32), .inl (A 81 (y_ix a1)), .inl (5 : Int32), .inr (some (11, 0))]) (fun _ => rfl) ?_
              obtain ⟨h72, hg⟩ := hg
              refine ra.cV (m := 131) (as := [.inr (some (11, 0)), .inl (5 : Int32), .inl (A 81 (y_ix a1)), .inl (-1 : Int32), .inl (0 : Int32), .inl (0 : Int32)]) (nx := 208) (L' := [some (.inr (some (11, 0))), some (.inl a1), some (.inl a2), some (.inl (A 81 (y_ix a1))), some (.inl (A 65 (y_ix (A 81 (y_ix a1))))), some (.inl (rf_takenBack_104 20000 a1 a2 (A 81 (y_ix a1)) (A 65 (y_ix (A 81 (y_ix a1)))) (0 : Int32) (xm_u2 (xm_u2 (xm_u2 A 36 (y_ix (A 65 (y_ix (A 81 (y_ix a1))))) (1 : Int32)) 38 (y_ix (A 65 (y_ix (A 81 (y_ix a1))))) (A 0 0)) 75 (y_ix (A 81 (y_ix a1))) (0 : Int32)))), some (.inl (rf_takenBack_131 20000 a1 a2 (A 81 (y_ix a1)) (A 65 (y_ix (A 81 (y_ix a1)))) (rf_takenBack_104 20000 a1 a2 (A 81 (y_ix a1)) (A 65 (y_ix (A 81 (y_ix a1)))) (0 : Int32) (xm_u2 (xm_u2 (xm_u2 A 36 (y_ix (A 65 (y_ix (A 81 (y_ix a1))))) (1 : Int32)) 38 (y_ix (A 65 (y_ix (A 81 (y_ix a1))))) (A 0 0)) 75 (y_ix (A 81 (y_ix a1))) (0 : Int32))) (rf_takenBack_104 20000 a1 a2 (A 81 (y_ix a1)) (A 65 (y_ix (A 81 (y_ix a1)))) (0 : Int32) (xm_u2 (xm_u2 (xm_u2 A 36 (y_ix (A 65 (y_ix (A 81 (y_ix a1))))) (1 : Int32)) 38 (y_ix (A 65 (y_ix (A 81 (y_ix a1))))) (A 0 0)) 75 (y_ix (A 81 (y_ix a1))) (0 : Int32))) (xm_u2 (xm_u2 (xm_u2 A 36 (y_ix (A 65 (y_ix (A 81 (y_ix a1))))) (1 : Int32)) 38 (y_ix (A 65 (y_ix (A 81 (y_ix a1))))) (A 0 0)) 75 (y_ix (A 81 (y_ix a1))) (0 : Int32))).1)]) (st' := []) (fun _ => rfl) (rh_add h72) ?_
              show ra _ _ _ _ _ (xm_u2 (rf_takenBack_131 20000 a1 a2 (A 81 (y_ix a1)) (A 65 (y_ix (A 81 (y_ix a1)))) (rf_takenBack_104 20000 a1 a2 (A 81 (y_ix a1)) (A 65 (y_ix (A 81 (y_ix a1)))) (0 : Int32) (xm_u2 (xm_u2 (xm_u2 A 36 (y_ix (A 65 (y_ix (A 81 (y_ix a1))))) (1 : Int32)) 38 (y_ix (A 65 (y_ix (A 81 (y_ix a1))))) (A 0 0)) 75 (y_ix (A 81 (y_ix a1))) (0 : Int32))) (rf_takenBack_104 20000 a1 a2 (A 81 (y_ix a1)) (A 65 (y_ix (A 81 (y_ix a1)))) (0 : Int32) (xm_u2 (xm_u2 (xm_u2 A 36 (y_ix (A 65 (y_ix (A 81 (y_ix a1))))) (1 : Int32)) 38 (y_ix (A 65 (y_ix (A 81 (y_ix a1))))) (A 0 0)) 75 (y_ix (A 81 (y_ix a1))) (0 : Int32))) (xm_u2 (xm_u2 (xm_u2 A 36 (y_ix (A 65 (y_ix (A 81 (y_ix a1))))) (1 : Int32)) 38 (y_ix (A 65 (y_ix (A 81 (y_ix a1))))) (A 0 0)) 75 (y_ix (A 81 (y_ix a1))) (0 : Int32))).2 40 (y_ix (A 65 (y_ix (A 81 (y_ix a1))))) (((rf_takenBack_131 20000 a1 a2 (A 81 (y_ix a1)) (A 65 (y_ix (A 81 (y_ix a1)))) (rf_takenBack_104 20000 a1 a2 (A 81 (y_ix a1)) (A 65 (y_ix (A 81 (y_ix a1)))) (0 : Int32) (xm_u2 (xm_u2 (xm_u2 A 36 (y_ix (A 65 (y_ix (A 81 (y_ix a1))))) (1 : Int32)) 38 (y_ix (A 65 (y_ix (A 81 (y_ix a1))))) (A 0 0)) 75 (y_ix (A 81 (y_ix a1))) (0 : Int32))) (rf_takenBack_104 20000 a1 a2 (A 81 (y_ix a1)) (A 65 (y_ix (A 81 (y_ix a1)))) (0 : Int32) (xm_u2 (xm_u2 (xm_u2 A 36 (y_ix (A 65 (y_ix (A 81 (y_ix a1))))) (1 : Int32)) 38 (y_ix (A 65 (y_ix (A 81 (y_ix a1))))) (A 0 0)) 75 (y_ix (A 81 (y_ix a1))) (0 : Int32))) (xm_u2 (xm_u2 (xm_u2 A 36 (y_ix (A 65 (y_ix (A 81 (y_ix a1))))) (1 : Int32)) 38 (y_ix (A 65 (y_ix (A 81 (y_ix a1))))) (A 0 0)) 75 (y_ix (A 81 (y_ix a1))) (0 : Int32))).2 40 (y_ix (A 65 (y_ix (A 81 (y_ix a1)))))) - (1 : Int32))) (((5 : Int32), (A 81 (y_ix a1)), (-1 : Int32), (0 : Int32), (0 : Int32)) :: (((4 : Int32), (a1 + (1 : Int32)), a2, (0 : Int32), (0 : Int32)) :: js)) _
              subst hk
              exact ra.ret (r := none) (fun _ => rfl) ⟨rfl, rfl, rfl⟩
        · skip
          refine ra.s (pc' := 68) (st' := [.inr (some (11, 0))]) (fun _ => rfl) ?_
          refine ra.ga (x := 77) (nx := 71) (c := 14) (i := 4) rfl rfl ?_
          refine ra.s (pc' := 72) (st' := [.inl (A 81 (y_ix a1)), .inr (some (14, 4))]) (fun _ => rfl) ?_
          refine ra.s (pc' := 73) (st' := [.inl (0 : Int32), .inl (A 81 (y_ix a1)), .inr (some (14, 4))]) (fun _ => rfl) ?_
          refine ra.sz (nx := 74) 77 4400 rfl rfl h43 (Or.inl rfl) ?_
          refine ra.s (pc' := 75) (st' := [.inr (some (11, 0))]) (fun _ => rfl) ?_
          refine ra.ga (x := 39) (nx := 78) (c := 13) (i := 32) rfl rfl ?_
          refine ra.s (pc' := 80) (st' := [.inl (A 65 (y_ix (A 81 (y_ix a1)))), .inr (some (13, 32))]) (fun _ => rfl) ?_
          refine ra.s (pc' := 81) (st' := [.inl (A 65 (y_ix (A 81 (y_ix a1)))), .inr (some (13, 32)), .inl (A 65 (y_ix (A 81 (y_ix a1)))), .inr (some (13, 32))]) (fun _ => rfl) ?_
          obtain ⟨h73, hg⟩ := hg
          refine ra.ld (nx := 82) (v := (A 39 (y_ix (A 65 (y_ix (A 81 (y_ix a1))))))) 39 24 rfl rfl h73 rfl ?_
          refine ra.s (pc' := 83) (st' := [.inl (1 : Int32), .inl (A 39 (y_ix (A 65 (y_ix (A 81 (y_ix a1)))))), .inl (A 65 (y_ix (A 81 (y_ix a1)))), .inr (some (13, 32))]) (fun _ => rfl) ?_
          refine ra.s (pc' := 84) (st' := [.inl ((A 39 (y_ix (A 65 (y_ix (A 81 (y_ix a1)))))) - (1 : Int32)), .inl (A 65 (y_ix (A 81 (y_ix a1)))), .inr (some (13, 32))]) (fun _ => rfl) ?_
          refine ra.si (nx := 85) 39 24 rfl rfl h73 ?_
          refine ra.s (pc' := 86) (st' := [.inr (some (11, 0))]) (fun _ => rfl) ?_
          refine ra.ga (x := 75) (nx := 89) (c := 14) (i := 2) rfl rfl ?_
          refine ra.s (pc' := 90) (st' := [.inl (A 81 (y_ix a1)), .inr (some (14, 2))]) (fun _ => rfl) ?_
          refine ra.lz (nx := 91) (v := (A 75 (y_ix (A 81 (y_ix a1))))) 75 4400 rfl rfl h43 rfl ?_
          refine ra.b (c := (A 75 (y_ix (A 81 (y_ix a1)))) = (0 : Int32)) (cd := .eq) (x := (A 75 (y_ix (A 81 (y_ix a1))))) (y := (0 : Int32)) 190 94 (st' := []) (fun _ => rfl) (y_ceq _ _) hk hg (fun h74 hg hk => ?_) (fun h74 hg hk => ?_)
          · skip
            refine ra.s (pc' := 191) (st' := [.inr (some (11, 0))]) (fun _ => rfl) ?_
            refine ra.ga (x := 78) (nx := 194) (c := 14) (i := 5) rfl rfl ?_
            refine ra.s (pc' := 195) (st' := [.inl (A 81 (y_ix a1)), .inr (some (14, 5))]) (fun _ => rfl) ?_
            refine ra.lz (nx := 196) (v := (A 78 (y_ix (A 81 (y_ix a1))))) 78 4400 rfl rfl h43 rfl ?_
            refine ra.b (c := (A 78 (y_ix (A 81 (y_ix a1)))) = (0 : Int32)) (cd := .eq) (x := (A 78 (y_ix (A 81 (y_ix a1))))) (y := (0 : Int32)) 208 199 (st' := []) (fun _ => rfl) (y_ceq _ _) hk hg (fun h75 hg hk => ?_) (fun h75 hg hk => ?_)
            · skip
              subst hk
              exact ra.ret (r := none) (fun _ => rfl) ⟨rfl, rfl, rfl⟩
            · skip
              refine ra.s (pc' := 200) (st' := [.inr (some (11, 0))]) (fun _ => rfl) ?_
              refine ra.s (pc' := 201) (st' := [.inl (5 : Int32), .inr (some (11, 0))]) (fun _ => rfl) ?_
              refine ra.s (pc' := 202) (st' := [.inl (A 81 (y_ix a1)), .inl (5 : Int32), .inr (some (11, 0))]) (fun _ => rfl) ?_
              refine ra.s (pc' := 203) (st' := [.inl (-1 : Int32), .inl (A 81 (y_ix a1)), .inl (5 : Int32), .inr (some (11, 0))]) (fun _ => rfl) ?_
              refine ra.s (pc' := 204) (st' := [.inl (0 : Int32), .inl (-1 : Int32), .inl (A 81 (y_ix a1)), .inl (5 : Int32), .inr (some (11, 0))]) (fun _ => rfl) ?_
              refine ra.s (pc' := 205) (st' := [.inl (0 : Int32), .inl (0 : Int32), .inl (-1 : Int32), .inl (A 81 (y_ix a1)), .inl (5 : Int32), .inr (some (11, 0))]) (fun _ => rfl) ?_
              obtain ⟨h76, hg⟩ := hg
              refine ra.cV (m := 131) (as := [.inr (some (11, 0)), .inl (5 : Int32), .inl (A 81 (y_ix a1)), .inl (-1 : Int32), .inl (0 : Int32), .inl (0 : Int32)]) (nx := 208) (L' := [some (.inr (some (11, 0))), some (.inl a1), some (.inl a2), some (.inl (A 81 (y_ix a1))), some (.inl (A 65 (y_ix (A 81 (y_ix a1))))), none, none]) (st' := []) (fun _ => rfl) (rh_add h76) ?_
              show ra _ _ _ _ _ (xm_u2 (xm_u2 (xm_u2 (xm_u2 A 36 (y_ix (A 65 (y_ix (A 81 (y_ix a1))))) (1 : Int32)) 38 (y_ix (A 65 (y_ix (A 81 (y_ix a1))))) (A 0 0)) 77 (y_ix (A 81 (y_ix a1))) (0 : Int32)) 39 (y_ix (A 65 (y_ix (A 81 (y_ix a1))))) ((A 39 (y_ix (A 65 (y_ix (A 81 (y_ix a1)))))) - (1 : Int32))) (((5 : Int32), (A 81 (y_ix a1)), (-1 : Int32), (0 : Int32), (0 : Int32)) :: (((4 : Int32), (a1 + (1 : Int32)), a2, (0 : Int32), (0 : Int32)) :: js)) _
              subst hk
              exact ra.ret (r := none) (fun _ => rfl) ⟨rfl, rfl, rfl⟩
          · skip
            refine ra.s (pc' := 95) (st' := [.inr (some (11, 0))]) (fun _ => rfl) ?_
            refine ra.ga (x := 75) (nx := 98) (c := 14) (i := 2) rfl rfl ?_
            refine ra.s (pc' := 99) (st' := [.inl (A 81 (y_ix a1)), .inr (some (14, 2))]) (fun _ => rfl) ?_
            refine ra.s (pc' := 100) (st' := [.inl (0 : Int32), .inl (A 81 (y_ix a1)), .inr (some (14, 2))]) (fun _ => rfl) ?_
            refine ra.sz (nx := 101) 75 4400 rfl rfl h43 (Or.inl rfl) ?_
            refine ra.s (pc' := 102) (st' := [.inl (0 : Int32)]) (fun _ => rfl) ?_
            refine ra.s (pc' := 104) (L' := [some (.inr (some (11, 0))), some (.inl a1), some (.inl a2), some (.inl (A 81 (y_ix a1))), some (.inl (A 65 (y_ix (A 81 (y_ix a1))))), some (.inl (0 : Int32)), none]) (st' := []) (fun _ => rfl) ?_
            obtain ⟨h77, hg⟩ := hg
            refine rh_takenBack_104 (by omega) 20000 a1 a2 (A 81 (y_ix a1)) (A 65 (y_ix (A 81 (y_ix a1)))) (0 : Int32) none (xm_u2 (xm_u2 (xm_u2 (xm_u2 (xm_u2 A 36 (y_ix (A 65 (y_ix (A 81 (y_ix a1))))) (1 : Int32)) 38 (y_ix (A 65 (y_ix (A 81 (y_ix a1))))) (A 0 0)) 77 (y_ix (A 81 (y_ix a1))) (0 : Int32)) 39 (y_ix (A 65 (y_ix (A 81 (y_ix a1))))) ((A 39 (y_ix (A 65 (y_ix (A 81 (y_ix a1)))))) - (1 : Int32))) 75 (y_ix (A 81 (y_ix a1))) (0 : Int32)) (((4 : Int32), (a1 + (1 : Int32)), a2, (0 : Int32), (0 : Int32)) :: js) h77 rfl ?_
            intro e8x
            refine ra.s (pc' := 129) (st' := [.inl (rf_takenBack_104 20000 a1 a2 (A 81 (y_ix a1)) (A 65 (y_ix (A 81 (y_ix a1)))) (0 : Int32) (xm_u2 (xm_u2 (xm_u2 (xm_u2 (xm_u2 A 36 (y_ix (A 65 (y_ix (A 81 (y_ix a1))))) (1 : Int32)) 38 (y_ix (A 65 (y_ix (A 81 (y_ix a1))))) (A 0 0)) 77 (y_ix (A 81 (y_ix a1))) (0 : Int32)) 39 (y_ix (A 65 (y_ix (A 81 (y_ix a1))))) ((A 39 (y_ix (A 65 (y_ix (A 81 (y_ix a1)))))) - (1 : Int32))) 75 (y_ix (A 81 (y_ix a1))) (0 : Int32)))]) (fun _ => rfl) ?_
            refine ra.s (pc' := 131) (L' := [some (.inr (some (11, 0))), some (.inl a1), some (.inl a2), some (.inl (A 81 (y_ix a1))), some (.inl (A 65 (y_ix (A 81 (y_ix a1))))), some (.inl (rf_takenBack_104 20000 a1 a2 (A 81 (y_ix a1)) (A 65 (y_ix (A 81 (y_ix a1)))) (0 : Int32) (xm_u2 (xm_u2 (xm_u2 (xm_u2 (xm_u2 A 36 (y_ix (A 65 (y_ix (A 81 (y_ix a1))))) (1 : Int32)) 38 (y_ix (A 65 (y_ix (A 81 (y_ix a1))))) (A 0 0)) 77 (y_ix (A 81 (y_ix a1))) (0 : Int32)) 39 (y_ix (A 65 (y_ix (A 81 (y_ix a1))))) ((A 39 (y_ix (A 65 (y_ix (A 81 (y_ix a1)))))) - (1 : Int32))) 75 (y_ix (A 81 (y_ix a1))) (0 : Int32)))), some (.inl (rf_takenBack_104 20000 a1 a2 (A 81 (y_ix a1)) (A 65 (y_ix (A 81 (y_ix a1)))) (0 : Int32) (xm_u2 (xm_u2 (xm_u2 (xm_u2 (xm_u2 A 36 (y_ix (A 65 (y_ix (A 81 (y_ix a1))))) (1 : Int32)) 38 (y_ix (A 65 (y_ix (A 81 (y_ix a1))))) (A 0 0)) 77 (y_ix (A 81 (y_ix a1))) (0 : Int32)) 39 (y_ix (A 65 (y_ix (A 81 (y_ix a1))))) ((A 39 (y_ix (A 65 (y_ix (A 81 (y_ix a1)))))) - (1 : Int32))) 75 (y_ix (A 81 (y_ix a1))) (0 : Int32))))]) (st' := []) (fun _ => rfl) ?_
            obtain ⟨h78, hg⟩ := hg
            refine rh_takenBack_131 (by omega) 20000 a1 a2 (A 81 (y_ix a1)) (A 65 (y_ix (A 81 (y_ix a1)))) (rf_takenBack_104 20000 a1 a2 (A 81 (y_ix a1)) (A 65 (y_ix (A 81 (y_ix a1)))) (0 : Int32) (xm_u2 (xm_u2 (xm_u2 (xm_u2 (xm_u2 A 36 (y_ix (A 65 (y_ix (A 81 (y_ix a1))))) (1 : Int32)) 38 (y_ix (A 65 (y_ix (A 81 (y_ix a1))))) (A 0 0)) 77 (y_ix (A 81 (y_ix a1))) (0 : Int32)) 39 (y_ix (A 65 (y_ix (A 81 (y_ix a1))))) ((A 39 (y_ix (A 65 (y_ix (A 81 (y_ix a1)))))) - (1 : Int32))) 75 (y_ix (A 81 (y_ix a1))) (0 : Int32))) (rf_takenBack_104 20000 a1 a2 (A 81 (y_ix a1)) (A 65 (y_ix (A 81 (y_ix a1)))) (0 : Int32) (xm_u2 (xm_u2 (xm_u2 (xm_u2 (xm_u2 A 36 (y_ix (A 65 (y_ix (A 81 (y_ix a1))))) (1 : Int32)) 38 (y_ix (A 65 (y_ix (A 81 (y_ix a1))))) (A 0 0)) 77 (y_ix (A 81 (y_ix a1))) (0 : Int32)) 39 (y_ix (A 65 (y_ix (A 81 (y_ix a1))))) ((A 39 (y_ix (A 65 (y_ix (A 81 (y_ix a1)))))) - (1 : Int32))) 75 (y_ix (A 81 (y_ix a1))) (0 : Int32))) (xm_u2 (xm_u2 (xm_u2 (xm_u2 (xm_u2 A 36 (y_ix (A 65 (y_ix (A 81 (y_ix a1))))) (1 : Int32)) 38 (y_ix (A 65 (y_ix (A 81 (y_ix a1))))) (A 0 0)) 77 (y_ix (A 81 (y_ix a1))) (0 : Int32)) 39 (y_ix (A 65 (y_ix (A 81 (y_ix a1))))) ((A 39 (y_ix (A 65 (y_ix (A 81 (y_ix a1)))))) - (1 : Int32))) 75 (y_ix (A 81 (y_ix a1))) (0 : Int32)) (((4 : Int32), (a1 + (1 : Int32)), a2, (0 : Int32), (0 : Int32)) :: js) h78 rfl ?_
            refine ra.s (pc' := 180) (st' := [.inr (some (11, 0))]) (fun _ => rfl) ?_
            refine ra.ga (x := 40) (nx := 183) (c := 13) (i := 33) rfl rfl ?_
            refine ra.s (pc' := 185) (st' := [.inl (A 65 (y_ix (A 81 (y_ix a1)))), .inr (some (13, 33))]) (fun _ => rfl) ?_
            refine ra.s (pc' := 186) (st' := [.inl (A 65 (y_ix (A 81 (y_ix a1)))), .inr (some (13, 33)), .inl (A 65 (y_ix (A 81 (y_ix a1)))), .inr (some (13, 33))]) (fun _ => rfl) ?_
            refine ra.ld (nx := 187) (v := ((rf_takenBack_131 20000 a1 a2 (A 81 (y_ix a1)) (A 65 (y_ix (A 81 (y_ix a1)))) (rf_takenBack_104 20000 a1 a2 (A 81 (y_ix a1)) (A 65 (y_ix (A 81 (y_ix a1)))) (0 : Int32) (xm_u2 (xm_u2 (xm_u2 (xm_u2 (xm_u2 A 36 (y_ix (A 65 (y_ix (A 81 (y_ix a1))))) (1 : Int32)) 38 (y_ix (A 65 (y_ix (A 81 (y_ix a1))))) (A 0 0)) 77 (y_ix (A 81 (y_ix a1))) (0 : Int32)) 39 (y_ix (A 65 (y_ix (A 81 (y_ix a1))))) ((A 39 (y_ix (A 65 (y_ix (A 81 (y_ix a1)))))) - (1 : Int32))) 75 (y_ix (A 81 (y_ix a1))) (0 : Int32))) (rf_takenBack_104 20000 a1 a2 (A 81 (y_ix a1)) (A 65 (y_ix (A 81 (y_ix a1)))) (0 : Int32) (xm_u2 (xm_u2 (xm_u2 (xm_u2 (xm_u2 A 36 (y_ix (A 65 (y_ix (A 81 (y_ix a1))))) (1 : Int32)) 38 (y_ix (A 65 (y_ix (A 81 (y_ix a1))))) (A 0 0)) 77 (y_ix (A 81 (y_ix a1))) (0 : Int32)) 39 (y_ix (A 65 (y_ix (A 81 (y_ix a1))))) ((A 39 (y_ix (A 65 (y_ix (A 81 (y_ix a1)))))) - (1 : Int32))) 75 (y_ix (A 81 (y_ix a1))) (0 : Int32))) (xm_u2 (xm_u2 (xm_u2 (xm_u2 (xm_u2 A 36 (y_ix (A 65 (y_ix (A 81 (y_ix a1))))) (1 : Int32)) 38 (y_ix (A 65 (y_ix (A 81 (y_ix a1))))) (A 0 0)) 77 (y_ix (A 81 (y_ix a1))) (0 : Int32)) 39 (y_ix (A 65 (y_ix (A 81 (y_ix a1))))) ((A 39 (y_ix (A 65 (y_ix (A 81 (y_ix a1)))))) - (1 : Int32))) 75 (y_ix (A 81 (y_ix a1))) (0 : Int32))).2 40 (y_ix (A 65 (y_ix (A 81 (y_ix a1))))))) 40 24 rfl rfl h73 rfl ?_
            refine ra.s (pc' := 188) (st' := [.inl (1 : Int32), .inl ((rf_takenBack_131 20000 a1 a2 (A 81 (y_ix a1)) (A 65 (y_ix (A 81 (y_ix a1)))) (rf_takenBack_104 20000 a1 a2 (A 81 (y_ix a1)) (A 65 (y_ix (A 81 (y_ix a1)))) (0 : Int32) (xm_u2 (xm_u2 (xm_u2 (xm_u2 (xm_u2 A 36 (y_ix (A 65 (y_ix (A 81 (y_ix a1))))) (1 : Int32)) 38 (y_ix (A 65 (y_ix (A 81 (y_ix a1))))) (A 0 0)) 77 (y_ix (A 81 (y_ix a1))) (0 : Int32)) 39 (y_ix (A 65 (y_ix (A 81 (y_ix a1))))) ((A 39 (y_ix (A 65 (y_ix (A 81 (y_ix a1)))))) - (1 : Int32))) 75 (y_ix (A 81 (y_ix a1))) (0 : Int32))) (rf_takenBack_104 20000 a1 a2 (A 81 (y_ix a1)) (A 65 (y_ix (A 81 (y_ix a1)))) (0 : Int32) (xm_u2 (xm_u2 (xm_u2 (xm_u2 (xm_u2 A 36 (y_ix (A 65 (y_ix (A 81 (y_ix a1))))) (1 : Int32)) 38 (y_ix (A 65 (y_ix (A 81 (y_ix a1))))) (A 0 0)) 77 (y_ix (A 81 (y_ix a1))) (0 : Int32)) 39 (y_ix (A 65 (y_ix (A 81 (y_ix a1))))) ((A 39 (y_ix (A 65 (y_ix (A 81 (y_ix a1)))))) - (1 : Int32))) 75 (y_ix (A 81 (y_ix a1))) (0 : Int32))) (xm_u2 (xm_u2 (xm_u2 (xm_u2 (xm_u2 A 36 (y_ix (A 65 (y_ix (A 81 (y_ix a1))))) (1 : Int32)) 38 (y_ix (A 65 (y_ix (A 81 (y_ix a1))))) (A 0 0)) 77 (y_ix (A 81 (y_ix a1))) (0 : Int32)) 39 (y_ix (A 65 (y_ix (A 81 (y_ix a1))))) ((A 39 (y_ix (A 65 (y_ix (A 81 (y_ix a1)))))) - (1 : Int32))) 75 (y_ix (A 81 (y_ix a1))) (0 : Int32))).2 40 (y_ix (A 65 (y_ix (A 81 (y_ix a1)))))), .inl (A 65 (y_ix (A 81 (y_ix a1)))), .inr (some (13, 33))]) (fun _ => rfl) ?_
            refine ra.s (pc' := 189) (st' := [.inl (((rf_takenBack_131 20000 a1 a2 (A 81 (y_ix a1)) (A 65 (y_ix (A 81 (y_ix a1)))) (rf_takenBack_104 20000 a1 a2 (A 81 (y_ix a1)) (A 65 (y_ix (A 81 (y_ix a1)))) (0 : Int32) (xm_u2 (xm_u2 (xm_u2 (xm_u2 (xm_u2 A 36 (y_ix (A 65 (y_ix (A 81 (y_ix a1))))) (1 : Int32)) 38 (y_ix (A 65 (y_ix (A 81 (y_ix a1))))) (A 0 0)) 77 (y_ix (A 81 (y_ix a1))) (0 : Int32)) 39 (y_ix (A 65 (y_ix (A 81 (y_ix a1))))) ((A 39 (y_ix (A 65 (y_ix (A 81 (y_ix a1)))))) - (1 : Int32))) 75 (y_ix (A 81 (y_ix a1))) (0 : Int32))) (rf_takenBack_104 20000 a1 a2 (A 81 (y_ix a1)) (A 65 (y_ix (A 81 (y_ix a1)))) (0 : Int32) (xm_u2 (xm_u2 (xm_u2 (xm_u2 (xm_u2 A 36 (y_ix (A 65 (y_ix (A 81 (y_ix a1))))) (1 : Int32)) 38 (y_ix (A 65 (y_ix (A 81 (y_ix a1))))) (A 0 0)) 77 (y_ix (A 81 (y_ix a1))) (0 : Int32)) 39 (y_ix (A 65 (y_ix (A 81 (y_ix a1))))) ((A 39 (y_ix (A 65 (y_ix (A 81 (y_ix a1)))))) - (1 : Int32))) 75 (y_ix (A 81 (y_ix a1))) (0 : Int32))) (xm_u2 (xm_u2 (xm_u2 (xm_u2 (xm_u2 A 36 (y_ix (A 65 (y_ix (A 81 (y_ix a1))))) (1 : Int32)) 38 (y_ix (A 65 (y_ix (A 81 (y_ix a1))))) (A 0 0)) 77 (y_ix (A 81 (y_ix a1))) (0 : Int32)) 39 (y_ix (A 65 (y_ix (A 81 (y_ix a1))))) ((A 39 (y_ix (A 65 (y_ix (A 81 (y_ix a1)))))) - (1 : Int32))) 75 (y_ix (A 81 (y_ix a1))) (0 : Int32))).2 40 (y_ix (A 65 (y_ix (A 81 (y_ix a1)))))) - (1 : Int32)), .inl (A 65 (y_ix (A 81 (y_ix a1)))), .inr (some (13, 33))]) (fun _ => rfl) ?_
            refine ra.si (nx := 190) 40 24 rfl rfl h73 ?_
            refine ra.s (pc' := 191) (st' := [.inr (some (11, 0))]) (fun _ => rfl) ?_
            refine ra.ga (x := 78) (nx := 194) (c := 14) (i := 5) rfl rfl ?_
            refine ra.s (pc' := 195) (st' := [.inl (A 81 (y_ix a1)), .inr (some (14, 5))]) (fun _ => rfl) ?_
            refine ra.lz (nx := 196) (v := ((rf_takenBack_131 20000 a1 a2 (A 81 (y_ix a1)) (A 65 (y_ix (A 81 (y_ix a1)))) (rf_takenBack_104 20000 a1 a2 (A 81 (y_ix a1)) (A 65 (y_ix (A 81 (y_ix a1)))) (0 : Int32) (xm_u2 (xm_u2 (xm_u2 (xm_u2 (xm_u2 A 36 (y_ix (A 65 (y_ix (A 81 (y_ix a1))))) (1 : Int32)) 38 (y_ix (A 65 (y_ix (A 81 (y_ix a1))))) (A 0 0)) 77 (y_ix (A 81 (y_ix a1))) (0 : Int32)) 39 (y_ix (A 65 (y_ix (A 81 (y_ix a1))))) ((A 39 (y_ix (A 65 (y_ix (A 81 (y_ix a1)))))) - (1 : Int32))) 75 (y_ix (A 81 (y_ix a1))) (0 : Int32))) (rf_takenBack_104 20000 a1 a2 (A 81 (y_ix a1)) (A 65 (y_ix (A 81 (y_ix a1)))) (0 : Int32) (xm_u2 (xm_u2 (xm_u2 (xm_u2 (xm_u2 A 36 (y_ix (A 65 (y_ix (A 81 (y_ix a1))))) (1 : Int32)) 38 (y_ix (A 65 (y_ix (A 81 (y_ix a1))))) (A 0 0)) 77 (y_ix (A 81 (y_ix a1))) (0 : Int32)) 39 (y_ix (A 65 (y_ix (A 81 (y_ix a1))))) ((A 39 (y_ix (A 65 (y_ix (A 81 (y_ix a1)))))) - (1 : Int32))) 75 (y_ix (A 81 (y_ix a1))) (0 : Int32))) (xm_u2 (xm_u2 (xm_u2 (xm_u2 (xm_u2 A 36 (y_ix (A 65 (y_ix (A 81 (y_ix a1))))) (1 : Int32)) 38 (y_ix (A 65 (y_ix (A 81 (y_ix a1))))) (A 0 0)) 77 (y_ix (A 81 (y_ix a1))) (0 : Int32)) 39 (y_ix (A 65 (y_ix (A 81 (y_ix a1))))) ((A 39 (y_ix (A 65 (y_ix (A 81 (y_ix a1)))))) - (1 : Int32))) 75 (y_ix (A 81 (y_ix a1))) (0 : Int32))).2 78 (y_ix (A 81 (y_ix a1))))) 78 4400 rfl rfl h43 rfl ?_
            refine ra.b (c := ((rf_takenBack_131 20000 a1 a2 (A 81 (y_ix a1)) (A 65 (y_ix (A 81 (y_ix a1)))) (rf_takenBack_104 20000 a1 a2 (A 81 (y_ix a1)) (A 65 (y_ix (A 81 (y_ix a1)))) (0 : Int32) (xm_u2 (xm_u2 (xm_u2 (xm_u2 (xm_u2 A 36 (y_ix (A 65 (y_ix (A 81 (y_ix a1))))) (1 : Int32)) 38 (y_ix (A 65 (y_ix (A 81 (y_ix a1))))) (A 0 0)) 77 (y_ix (A 81 (y_ix a1))) (0 : Int32)) 39 (y_ix (A 65 (y_ix (A 81 (y_ix a1))))) ((A 39 (y_ix (A 65 (y_ix (A 81 (y_ix a1)))))) - (1 : Int32))) 75 (y_ix (A 81 (y_ix a1))) (0 : Int32))) (rf_takenBack_104 20000 a1 a2 (A 81 (y_ix a1)) (A 65 (y_ix (A 81 (y_ix a1)))) (0 : Int32) (xm_u2 (xm_u2 (xm_u2 (xm_u2 (xm_u2 A 36 (y_ix (A 65 (y_ix (A 81 (y_ix a1))))) (1 : Int32)) 38 (y_ix (A 65 (y_ix (A 81 (y_ix a1))))) (A 0 0)) 77 (y_ix (A 81 (y_ix a1))) (0 : Int32)) 39 (y_ix (A 65 (y_ix (A 81 (y_ix a1))))) ((A 39 (y_ix (A 65 (y_ix (A 81 (y_ix a1)))))) - (1 : Int32))) 75 (y_ix (A 81 (y_ix a1))) (0 : Int32))) (xm_u2 (xm_u2 (xm_u2 (xm_u2 (xm_u2 A 36 (y_ix (A 65 (y_ix (A 81 (y_ix a1))))) (1 : Int32)) 38 (y_ix (A 65 (y_ix (A 81 (y_ix a1))))) (A 0 0)) 77 (y_ix (A 81 (y_ix a1))) (0 : Int32)) 39 (y_ix (A 65 (y_ix (A 81 (y_ix a1))))) ((A 39 (y_ix (A 65 (y_ix (A 81 (y_ix a1)))))) - (1 : Int32))) 75 (y_ix (A 81 (y_ix a1))) (0 : Int32))).2 78 (y_ix (A 81 (y_ix a1)))) = (0 : Int32)) (cd := .eq) (x := ((rf_takenBack_131 20000 a1 a2 (A 81 (y_ix a1)) (A 65 (y_ix (A 81 (y_ix a1)))) (rf_takenBack_104 20000 a1 a2 (A 81 (y_ix a1)) (A 65 (y_ix (A 81 (y_ix a1)))) (0 : Int32) (xm_u2 (xm_u2 (xm_u2 (xm_u2 (xm_u2 A 36 (y_ix (A 65 (y_ix (A 81 (y_ix a1))))) (1 : Int32)) 38 (y_ix (A 65 (y_ix (A 81 (y_ix a1))))) (A 0 0)) 77 (y_ix (A 81 (y_ix a1))) (0 : Int32)) 39 (y_ix (A 65 (y_ix (A 81 (y_ix a1))))) ((A 39 (y_ix (A 65 (y_ix (A 81 (y_ix a1)))))) - (1 : Int32))) 75 (y_ix (A 81 (y_ix a1))) (0 : Int32))) (rf_takenBack_104 20000 a1 a2 (A 81 (y_ix a1)) (A 65 (y_ix (A 81 (y_ix a1)))) (0 : Int32) (xm_u2 (xm_u2 (xm_u2 (xm_u2 (xm_u2 A 36 (y_ix (A 65 (y_ix (A 81 (y_ix a1))))) (1 : Int32)) 38 (y_ix (A 65 (y_ix (A 81 (y_ix a1))))) (A 0 0)) 77 (y_ix (A 81 (y_ix a1))) (0 : Int32)) 39 (y_ix (A 65 (y_ix (A 81 (y_ix a1))))) ((A 39 (y_ix (A 65 (y_ix (A 81 (y_ix a1)))))) - (1 : Int32))) 75 (y_ix (A 81 (y_ix a1))) (0 : Int32))) (xm_u2 (xm_u2 (xm_u2 (xm_u2 (xm_u2 A 36 (y_ix (A 65 (y_ix (A 81 (y_ix a1))))) (1 : Int32)) 38 (y_ix (A 65 (y_ix (A 81 (y_ix a1))))) (A 0 0)) 77 (y_ix (A 81 (y_ix a1))) (0 : Int32)) 39 (y_ix (A 65 (y_ix (A 81 (y_ix a1))))) ((A 39 (y_ix (A 65 (y_ix (A 81 (y_ix a1)))))) - (1 : Int32))) 75 (y_ix (A 81 (y_ix a1))) (0 : Int32))).2 78 (y_ix (A 81 (y_ix a1))))) (y := (0 : Int32)) 208 199 (st' := []) (fun _ => rfl) (y_ceq _ _) hk hg (fun h79 hg hk => ?_) (fun h79 hg hk => ?_)
            · skip
              subst hk
              exact ra.ret (r := none) (fun _ => rfl) ⟨rfl, rfl, rfl⟩
            · skip
              refine ra.s (pc' := 200) (st' := [.inr (some (11, 0))]) (fun _ => rfl) ?_
              refine ra.s (pc' := 201) (st' := [.inl (5 : Int32), .inr (some (11, 0))]) (fun _ => rfl) ?_
              refine ra.s (pc' := 202) (st' := [.inl (A 81 (y_ix a1)), .inl (5 : Int32), .inr (some (11, 0))]) (fun _ => rfl) ?_
              refine ra.s (pc' := 203) (st' := [.inl (-1 : Int32), .inl (A 81 (y_ix a1)), .inl (5 : Int32), .inr (some (11, 0))]) (fun _ => rfl) ?_
              refine ra.s (pc' := 204) (st' := [.inl (0 : Int32), .inl (-1 : Int32), .inl (A 81 (y_ix a1)), .inl (5 : Int32), .inr (some (11, 0))]) (fun _ => rfl) ?_
              refine ra.s (pc' := 205) (st' := [.inl (0 : Int32), .inl (0 : Int32), .inl (-1 : Int32), .inl (A 81 (y_ix a1)), .inl (5 : Int32), .inr (some (11, 0))]) (fun _ => rfl) ?_
              obtain ⟨h80, hg⟩ := hg
              refine ra.cV (m := 131) (as := [.inr (some (11, 0)), .inl (5 : Int32), .inl (A 81 (y_ix a1)), .inl (-1 : Int32), .inl (0 : Int32), .inl (0 : Int32)]) (nx := 208) (L' := [some (.inr (some (11, 0))), some (.inl a1), some (.inl a2), some (.inl (A 81 (y_ix a1))), some (.inl (A 65 (y_ix (A 81 (y_ix a1))))), some (.inl (rf_takenBack_104 20000 a1 a2 (A 81 (y_ix a1)) (A 65 (y_ix (A 81 (y_ix a1)))) (0 : Int32) (xm_u2 (xm_u2 (xm_u2 (xm_u2 (xm_u2 A 36 (y_ix (A 65 (y_ix (A 81 (y_ix a1))))) (1 : Int32)) 38 (y_ix (A 65 (y_ix (A 81 (y_ix a1))))) (A 0 0)) 77 (y_ix (A 81 (y_ix a1))) (0 : Int32)) 39 (y_ix (A 65 (y_ix (A 81 (y_ix a1))))) ((A 39 (y_ix (A 65 (y_ix (A 81 (y_ix a1)))))) - (1 : Int32))) 75 (y_ix (A 81 (y_ix a1))) (0 : Int32)))), some (.inl (rf_takenBack_131 20000 a1 a2 (A 81 (y_ix a1)) (A 65 (y_ix (A 81 (y_ix a1)))) (rf_takenBack_104 20000 a1 a2 (A 81 (y_ix a1)) (A 65 (y_ix (A 81 (y_ix a1)))) (0 : Int32) (xm_u2 (xm_u2 (xm_u2 (xm_u2 (xm_u2 A 36 (y_ix (A 65 (y_ix (A 81 (y_ix a1))))) (1 : Int32)) 38 (y_ix (A 65 (y_ix (A 81 (y_ix a1))))) (A 0 0)) 77 (y_ix (A 81 (y_ix a1))) (0 : Int32)) 39 (y_ix (A 65 (y_ix (A 81 (y_ix a1))))) ((A 39 (y_ix (A 65 (y_ix (A 81 (y_ix a1)))))) - (1 : Int32))) 75 (y_ix (A 81 (y_ix a1))) (0 : Int32))) (rf_takenBack_104 20000 a1 a2 (A 81 (y_ix a1)) (A 65 (y_ix (A 81 (y_ix a1)))) (0 : Int32) (xm_u2 (xm_u2 (xm_u2 (xm_u2 (xm_u2 A 36 (y_ix (A 65 (y_ix (A 81 (y_ix a1))))) (1 : Int32)) 38 (y_ix (A 65 (y_ix (A 81 (y_ix a1))))) (A 0 0)) 77 (y_ix (A 81 (y_ix a1))) (0 : Int32)) 39 (y_ix (A 65 (y_ix (A 81 (y_ix a1))))) ((A 39 (y_ix (A 65 (y_ix (A 81 (y_ix a1)))))) - (1 : Int32))) 75 (y_ix (A 81 (y_ix a1))) (0 : Int32))) (xm_u2 (xm_u2 (xm_u2 (xm_u2 (xm_u2 A 36 (y_ix (A 65 (y_ix (A 81 (y_ix a1))))) (1 : Int32)) 38 (y_ix (A 65 (y_ix (A 81 (y_ix a1))))) (A 0 0)) 77 (y_ix (A 81 (y_ix a1))) (0 : Int32)) 39 (y_ix (A 65 (y_ix (A 81 (y_ix a1))))) ((A 39 (y_ix (A 65 (y_ix (A 81 (y_ix a1)))))) - (1 : Int32))) 75 (y_ix (A 81 (y_ix a1))) (0 : Int32))).1)]) (st' := []) (fun _ => rfl) (rh_add h80) ?_
              show ra _ _ _ _ _ (xm_u2 (rf_takenBack_131 20000 a1 a2 (A 81 (y_ix a1)) (A 65 (y_ix (A 81 (y_ix a1)))) (rf_takenBack_104 20000 a1 a2 (A 81 (y_ix a1)) (A 65 (y_ix (A 81 (y_ix a1)))) (0 : Int32) (xm_u2 (xm_u2 (xm_u2 (xm_u2 (xm_u2 A 36 (y_ix (A 65 (y_ix (A 81 (y_ix a1))))) (1 : Int32)) 38 (y_ix (A 65 (y_ix (A 81 (y_ix a1))))) (A 0 0)) 77 (y_ix (A 81 (y_ix a1))) (0 : Int32)) 39 (y_ix (A 65 (y_ix (A 81 (y_ix a1))))) ((A 39 (y_ix (A 65 (y_ix (A 81 (y_ix a1)))))) - (1 : Int32))) 75 (y_ix (A 81 (y_ix a1))) (0 : Int32))) (rf_takenBack_104 20000 a1 a2 (A 81 (y_ix a1)) (A 65 (y_ix (A 81 (y_ix a1)))) (0 : Int32) (xm_u2 (xm_u2 (xm_u2 (xm_u2 (xm_u2 A 36 (y_ix (A 65 (y_ix (A 81 (y_ix a1))))) (1 : Int32)) 38 (y_ix (A 65 (y_ix (A 81 (y_ix a1))))) (A 0 0)) 77 (y_ix (A 81 (y_ix a1))) (0 : Int32)) 39 (y_ix (A 65 (y_ix (A 81 (y_ix a1))))) ((A 39 (y_ix (A 65 (y_ix (A 81 (y_ix a1)))))) - (1 : Int32))) 75 (y_ix (A 81 (y_ix a1))) (0 : Int32))) (xm_u2 (xm_u2 (xm_u2 (xm_u2 (xm_u2 A 36 (y_ix (A 65 (y_ix (A 81 (y_ix a1))))) (1 : Int32)) 38 (y_ix (A 65 (y_ix (A 81 (y_ix a1))))) (A 0 0)) 77 (y_ix (A 81 (y_ix a1))) (0 : Int32)) 39 (y_ix (A 65 (y_ix (A 81 (y_ix a1))))) ((A 39 (y_ix (A 65 (y_ix (A 81 (y_ix a1)))))) - (1 : Int32))) 75 (y_ix (A 81 (y_ix a1))) (0 : Int32))).2 40 (y_ix (A 65 (y_ix (A 81 (y_ix a1))))) (((rf_takenBack_131 20000 a1 a2 (A 81 (y_ix a1)) (A 65 (y_ix (A 81 (y_ix a1)))) (rf_takenBack_104 20000 a1 a2 (A 81 (y_ix a1)) (A 65 (y_ix (A 81 (y_ix a1)))) (0 : Int32) (xm_u2 (xm_u2 (xm_u2 (xm_u2 (xm_u2 A 36 (y_ix (A 65 (y_ix (A 81 (y_ix a1))))) (1 : Int32)) 38 (y_ix (A 65 (y_ix (A 81 (y_ix a1))))) (A 0 0)) 77 (y_ix (A 81 (y_ix a1))) (0 : Int32)) 39 (y_ix (A 65 (y_ix (A 81 (y_ix a1))))) ((A 39 (y_ix (A 65 (y_ix (A 81 (y_ix a1)))))) - (1 : Int32))) 75 (y_ix (A 81 (y_ix a1))) (0 : Int32))) (rf_takenBack_104 20000 a1 a2 (A 81 (y_ix a1)) (A 65 (y_ix (A 81 (y_ix a1)))) (0 : Int32) (xm_u2 (xm_u2 (xm_u2 (xm_u2 (xm_u2 A 36 (y_ix (A 65 (y_ix (A 81 (y_ix a1))))) (1 : Int32)) 38 (y_ix (A 65 (y_ix (A 81 (y_ix a1))))) (A 0 0)) 77 (y_ix (A 81 (y_ix a1))) (0 : Int32)) 39 (y_ix (A 65 (y_ix (A 81 (y_ix a1))))) ((A 39 (y_ix (A 65 (y_ix (A 81 (y_ix a1)))))) - (1 : Int32))) 75 (y_ix (A 81 (y_ix a1))) (0 : Int32))) (xm_u2 (xm_u2 (xm_u2 (xm_u2 (xm_u2 A 36 (y_ix (A 65 (y_ix (A 81 (y_ix a1))))) (1 : Int32)) 38 (y_ix (A 65 (y_ix (A 81 (y_ix a1))))) (A 0 0)) 77 (y_ix (A 81 (y_ix a1))) (0 : Int32)) 39 (y_ix (A 65 (y_ix (A 81 (y_ix a1))))) ((A 39 (y_ix (A 65 (y_ix (A 81 (y_ix a1)))))) - (1 : Int32))) 75 (y_ix (A 81 (y_ix a1))) (0 : Int32))).2 40 (y_ix (A 65 (y_ix (A 81 (y_ix a1)))))) - (1 : Int32))) (((5 : Int32), (A 81 (y_ix a1)), (-1 : Int32), (0 : Int32), (0 : Int32)) :: (((4 : Int32), (a1 + (1 : Int32)), a2, (0 : Int32), (0 : Int32)) :: js)) _
              subst hk
              exact ra.ret (r := none) (fun _ => rfl) ⟨rfl, rfl, rfl⟩
    · skip
      subst hk
      exact ra.ret (r := none) (fun _ => rfl) ⟨rfl, rfl, rfl⟩
def rf_gone_4 : Nat → Int32 → Int32 → Int32 → y_A → List y_J → y_A × List y_J
  | 0, _, _, _, A, js => (A, js)
  | n + 1, l1, l2, l3, A, js => (if (A 61 0) ≤ l3 then (A, js) else (if (A 74 (y_ix l3)) = l1 then (if (A 69 (y_ix l3)) = (0 : Int32) then (A, (((2 : Int32), l3, (13 : Int32), (0 : Int32), (0 : Int32)) :: (((5 : Int32), l1, l3, (0 : Int32), (0 : Int32)) :: js))) else (rf_gone_4 n l1 l2 (l3 + (1 : Int32)) A js)) else (rf_gone_4 n l1 l2 (l3 + (1 : Int32)) A js)))
def rg_gone_4 : Nat → Int32 → Int32 → Int32 → y_A → List y_J → Prop
  | 0, _, _, _, _, _ => False
  | n + 1, l1, l2, l3, A, js => (((A 61 0) ≤ l3 → True) ∧ (¬ (A 61 0) ≤ l3 → (y_in l3 4400) ∧ (((A 74 (y_ix l3)) = l1 → (((A 69 (y_ix l3)) = (0 : Int32) → (js.length < 20000) ∧ ((((5 : Int32), l1, l3, (0 : Int32), (0 : Int32)) :: js).length < 20000) ∧ True) ∧ (¬ (A 69 (y_ix l3)) = (0 : Int32) → (rg_gone_4 n l1 l2 (l3 + (1 : Int32)) A js)))) ∧ (¬ (A 74 (y_ix l3)) = l1 → (rg_gone_4 n l1 l2 (l3 + (1 : Int32)) A js)))))
theorem rh_gone_4 {d : Nat} (hd : 1 ≤ d) {F : y_A × List y_J} (n : Nat) : ∀ (l1 l2 l3 : Int32) (A : y_A) (js : List y_J), rg_gone_4 n l1 l2 l3 A js → rf_gone_4 n l1 l2 l3 A js = F → ra d 155 4 [some (.inr (some (11, 0))), some (.inl l1), some (.inl l2), some (.inl l3)] [] A js (y_V F) := by
  obtain ⟨d, rfl⟩ := Nat.exists_eq_add_of_le' hd
  induction n with
  | zero => intro l1 l2 l3 A js hg; exact hg.elim
  | succ n ih =>
    intro l1 l2 l3 A js hg hk
    unfold rg_gone_4 at hg
    unfold rf_gone_4 at hk
    refine ra.s (pc' := 5) (st' := [.inl l3]) (fun _ => rfl) ?_
    refine ra.s (pc' := 6) (st' := [.inr (some (11, 0)), .inl l3]) (fun _ => rfl) ?_
    refine ra.gi (x := 61) (nx := 9) (v := (A 61 0)) rfl rfl rfl ?_
    refine ra.b (c := (A 61 0) ≤ l3) (cd := .ge) (x := l3) (y := (A 61 0)) 60 12 (st' := []) (fun _ => rfl) (y_cge _ _) hk hg (fun h1 hg hk => ?_) (fun h1 hg hk => ?_)
    · skip
      subst hk
      exact ra.ret (r := none) (fun _ => rfl) ⟨rfl, rfl, rfl⟩
    · skip
      refine ra.s (pc' := 13) (st' := [.inr (some (11, 0))]) (fun _ => rfl) ?_
      refine ra.ga (x := 74) (nx := 16) (c := 13) (i := 61) rfl rfl ?_
      refine ra.s (pc' := 17) (st' := [.inl l3, .inr (some (13, 61))]) (fun _ => rfl) ?_
      obtain ⟨h2, hg⟩ := hg
      refine ra.ld (nx := 18) (v := (A 74 (y_ix l3))) 74 4400 rfl rfl h2 rfl ?_
      refine ra.s (pc' := 19) (st' := [.inl l1, .inl (A 74 (y_ix l3))]) (fun _ => rfl) ?_
      refine ra.bn (c := (A 74 (y_ix l3)) = l1) (cd := .ne) (x := (A 74 (y_ix l3))) (y := l1) 54 22 (st' := []) (fun _ => rfl) (y_cne _ _) hk hg (fun h3 hg hk => ?_) (fun h3 hg hk => ?_)
      · skip
        refine ra.s (pc' := 23) (st' := [.inr (some (11, 0))]) (fun _ => rfl) ?_
        refine ra.ga (x := 69) (nx := 26) (c := 13) (i := 57) rfl rfl ?_
        refine ra.s (pc' := 27) (st' := [.inl l3, .inr (some (13, 57))]) (fun _ => rfl) ?_
        refine ra.ld (nx := 28) (v := (A 69 (y_ix l3))) 69 4400 rfl rfl h2 rfl ?_
        refine ra.b (c := (A 69 (y_ix l3)) = (0 : Int32)) (cd := .eq) (x := (A 69 (y_ix l3))) (y := (0 : Int32)) 34 31 (st' := []) (fun _ => rfl) (y_ceq _ _) hk hg (fun h4 hg hk => ?_) (fun h4 hg hk => ?_)
        · skip
          refine ra.s (pc' := 35) (st' := [.inr (some (11, 0))]) (fun _ => rfl) ?_
          refine ra.s (pc' := 36) (st' := [.inl (5 : Int32), .inr (some (11, 0))]) (fun _ => rfl) ?_
          refine ra.s (pc' := 37) (st' := [.inl l1, .inl (5 : Int32), .inr (some (11, 0))]) (fun _ => rfl) ?_
          refine ra.s (pc' := 38) (st' := [.inl l3, .inl l1, .inl (5 : Int32), .inr (some (11, 0))]) (fun _ => rfl) ?_
          refine ra.s (pc' := 39) (st' := [.inl (0 : Int32), .inl l3, .inl l1, .inl (5 : Int32), .inr (some (11, 0))]) (fun _ => rfl) ?_
          refine ra.s (pc' := 40) (st' := [.inl (0 : Int32), .inl (0 : Int32), .inl l3, .inl l1, .inl (5 : Int32), .inr (some (11, 0))]) (fun _ => rfl) ?_
          obtain ⟨h5, hg⟩ := hg
          refine ra.cV (m := 131) (as := [.inr (some (11, 0)), .inl (5 : Int32), .inl l1, .inl l3, .inl (0 : Int32), .inl (0 : Int32)]) (nx := 43) (L' := [some (.inr (some (11, 0))), some (.inl l1), some (.inl l2), some (.inl l3)]) (st' := []) (fun _ => rfl) (rh_add h5) ?_
          show ra _ _ _ _ _ A (((5 : Int32), l1, l3, (0 : Int32), (0 : Int32)) :: js) _
          refine ra.s (pc' := 44) (st' := [.inr (some (11, 0))]) (fun _ => rfl) ?_
          refine ra.s (pc' := 45) (st' := [.inl (2 : Int32), .inr (some (11, 0))]) (fun _ => rfl) ?_
          refine ra.s (pc' := 46) (st' := [.inl l3, .inl (2 : Int32), .inr (some (11, 0))]) (fun _ => rfl) ?_
          refine ra.s (pc' := 48) (st' := [.inl (13 : Int32), .inl l3, .inl (2 : Int32), .inr (some (11, 0))]) (fun _ => rfl) ?_
          refine ra.s (pc' := 49) (st' := [.inl (0 : Int32), .inl (13 : Int32), .inl l3, .inl (2 : Int32), .inr (some (11, 0))]) (fun _ => rfl) ?_
          refine ra.s (pc' := 50) (st' := [.inl (0 : Int32), .inl (0 : Int32), .inl (13 : Int32), .inl l3, .inl (2 : Int32), .inr (some (11, 0))]) (fun _ => rfl) ?_
          obtain ⟨h6, hg⟩ := hg
          refine ra.cV (m := 131) (as := [.inr (some (11, 0)), .inl (2 : Int32), .inl l3, .inl (13 : Int32), .inl (0 : Int32), .inl (0 : Int32)]) (nx := 53) (L' := [some (.inr (some (11, 0))), some (.inl l1), some (.inl l2), some (.inl l3)]) (st' := []) (fun _ => rfl) (rh_add h6) ?_
          show ra _ _ _ _ _ A (((2 : Int32), l3, (13 : Int32), (0 : Int32), (0 : Int32)) :: (((5 : Int32), l1, l3, (0 : Int32), (0 : Int32)) :: js)) _
          subst hk
          exact ra.ret (r := none) (fun _ => rfl) ⟨rfl, rfl, rfl⟩
        · skip
          refine ra.s (pc' := 54) (st' := []) (fun _ => rfl) ?_
          refine ra.s (pc' := 57) (L' := [some (.inr (some (11, 0))), some (.inl l1), some (.inl l2), some (.inl (l3 + (1 : Int32)))]) (st' := []) (fun _ => rfl) ?_
          refine ra.s (pc' := 4) (st' := []) (fun _ => rfl) ?_
          exact ih l1 l2 (l3 + (1 : Int32)) A js hg hk
      · skip
        refine ra.s (pc' := 57) (L' := [some (.inr (some (11, 0))), some (.inl l1), some (.inl l2), some (.inl (l3 + (1 : Int32)))]) (st' := []) (fun _ => rfl) ?_
        refine ra.s (pc' := 4) (st' := []) (fun _ => rfl) ?_
        exact ih l1 l2 (l3 + (1 : Int32)) A js hg hk
/-- gone -/
def rf_gone (a1 a2 : Int32) (A : y_A) (js : List y_J) : y_A × List y_J := (rf_gone_4 20000 a1 a2 (a2 + (1 : Int32)) A js)
def rg_gone (a1 a2 : Int32) (A : y_A) (js : List y_J) : Prop := (rg_gone_4 20000 a1 a2 (a2 + (1 : Int32)) A js)
theorem rh_gone {d : Nat} (hd : 1 ≤ d) {a1 a2 : Int32} {A : y_A} {js : List y_J} (hg : rg_gone a1 a2 A js) : rc d 155 [.inr (some (11, 0)), .inl a1, .inl a2] A js (y_V (rf_gone a1 a2 A js)) := by
  obtain ⟨d, rfl⟩ := Nat.exists_eq_add_of_le' hd
  obtain ⟨F, hk⟩ : ∃ F, rf_gone a1 a2 A js = F := ⟨_, rfl⟩
  rw [hk]
  show ra _ _ _ [some (.inr (some (11, 0))), some (.inl a1), some (.inl a2), none] _ _ _ _
  unfold rg_gone at hg
  unfold rf_gone at hk
  refine ra.s (pc' := 1) (st' := [.inl a2]) (fun _ => rfl) ?_
  refine ra.s (pc' := 2) (st' := [.inl (1 : Int32), .inl a2]) (fun _ => rfl) ?_
  refine ra.s (pc' := 3) (st' := [.inl (a2 + (1 : Int32))]) (fun _ => rfl) ?_
  refine ra.s (pc' := 4) (L' := [some (.inr (some (11, 0))), some (.inl a1), some (.inl a2), some (.inl (a2 + (1 : Int32)))]) (st' := []) (fun _ => rfl) ?_
  exact rh_gone_4 (by omega) 20000 a1 a2 (a2 + (1 : Int32)) A js hg hk
/-- plan -/
def rf_plan (a1 a2 a3 a4 a5 a6 a7 : Int32) (A : y_A) : Int32 × y_A := (if (rf_isTower a1 A) = (0 : Int32) then ((-1 : Int32), A) else (if (rf_isStation a2 A) = (0 : Int32) then ((-1 : Int32), A) else (if (rf_isAct a3 A) = (0 : Int32) then ((-2 : Int32), A) else (if (rf_isAmount a3 a4 A) = (0 : Int32) then ((-2 : Int32), A) else (if a5 < (1 : Int32) then ((-2 : Int32), A) else (if (1000 : Int32) < a5 then ((-2 : Int32), A) else (if a6 < (0 : Int32) then ((-2 : Int32), A) else (if a6 ≤ a7 then (if (A 89 0) = (12 : Int32) then ((-3 : Int32), A) else ((A 89 0), (xm_u2 (xm_u2 (xm_u2 (xm_u2 (xm_u2 (xm_u2 (xm_u2 (xm_u2 (xm_u2 (xm_u2 (xm_u2 (xm_u2 (xm_u2 (xm_u2 A 90 (y_ix (A 89 0)) a1) 91 (y_ix (A 89 0)) a2) 92 (y_ix (A 89 0)) a3) 93 (y_ix (A 89 0)) a4) 94 (y_ix (A 89 0)) a5) 95 (y_ix (A 89 0)) a6) 96 (y_ix (A 89 0)) a7) 97 (y_ix (A 89 0)) (A 0 0)) 98 (y_ix (A 89 0)) (0 : Int32)) 99 (y_ix (A 89 0)) (-1 : Int32)) 100 (y_ix (A 89 0)) (0 : Int32)) 101 (y_ix (A 89 0)) (0 : Int32)) 102 (y_ix (A 89 0)) (0 : Int32)) 89 0 ((A 89 0) + (1 : Int32))))) else ((-2 : Int32), A)))))))))
def rg_plan (a1 a2 a3 a4 a5 a6 a7 : Int32) (A : y_A) : Prop := (rg_isTower a1 A) ∧ (((rf_isTower a1 A) = (0 : Int32) → True) ∧ (¬ (rf_isTower a1 A) = (0 : Int32) → (rg_isStation a2 A) ∧ (((rf_isStation a2 A) = (0 : Int32) → True) ∧ (¬ (rf_isStation a2 A) = (0 : Int32) → (rg_isAct a3 A) ∧ (((rf_isAct a3 A) = (0 : Int32) → True) ∧ (¬ (rf_isAct a3 A) = (0 : Int32) → (rg_isAmount a3 a4 A) ∧ (((rf_isAmount a3 a4 A) = (0 : Int32) → True) ∧ (¬ (rf_isAmount a3 a4 A) = (0 : Int32) → ((a5 < (1 : Int32) → True) ∧ (¬ a5 < (1 : Int32) → (((1000 : Int32) < a5 → True) ∧ (¬ (1000 : Int32) < a5 → ((a6 < (0 : Int32) → True) ∧ (¬ a6 < (0 : Int32) → ((a6 ≤ a7 → (((A 89 0) = (12 : Int32) → True) ∧ (¬ (A 89 0) = (12 : Int32) → (y_in (A 89 0) 12) ∧ True))) ∧ (¬ a6 ≤ a7 → True))))))))))))))))
theorem rh_plan {d : Nat} (hd : 1 ≤ d) {a1 a2 a3 a4 a5 a6 a7 : Int32} {A : y_A} {js : List y_J} (hg : rg_plan a1 a2 a3 a4 a5 a6 a7 A) : rc d 157 [.inr (some (11, 0)), .inl a1, .inl a2, .inl a3, .inl a4, .inl a5, .inl a6, .inl a7] A js (y_I ((rf_plan a1 a2 a3 a4 a5 a6 a7 A).1, (rf_plan a1 a2 a3 a4 a5 a6 a7 A).2, js)) := by
  obtain ⟨d, rfl⟩ := Nat.exists_eq_add_of_le' hd
  obtain ⟨F, hk⟩ : ∃ F, rf_plan a1 a2 a3 a4 a5 a6 a7 A = F := ⟨_, rfl⟩
  rw [hk]
  show ra _ _ _ [some (.inr (some (11, 0))), some (.inl a1), some (.inl a2), some (.inl a3), some (.inl a4), some (.inl a5), some (.inl a6), some (.inl a7), none] _ _ _ _
  unfold rg_plan at hg
  unfold rf_plan at hk
  refine ra.s (pc' := 1) (st' := [.inr (some (11, 0))]) (fun _ => rfl) ?_
  refine ra.s (pc' := 2) (st' := [.inl a1, .inr (some (11, 0))]) (fun _ => rfl) ?_
  obtain ⟨h1, hg⟩ := hg
  refine ra.cP (f := (rf_isTower a1 A)) (m := 128) (as := [.inr (some (11, 0)), .inl a1]) (nx := 5) (L' := [some (.inr (some (11, 0))), some (.inl a1), some (.inl a2), some (.inl a3), some (.inl a4), some (.inl a5), some (.inl a6), some (.inl a7), none]) (st' := []) (fun _ => rfl) (rh_isTower (by omega) h1) ?_
  refine ra.b (c := (rf_isTower a1 A) = (0 : Int32)) (cd := .eq) (x := (rf_isTower a1 A)) (y := (0 : Int32)) 16 8 (st' := []) (fun _ => rfl) (y_ceq _ _) hk hg (fun h2 hg hk => ?_) (fun h2 hg hk => ?_)
  · skip
    refine ra.s (pc' := 17) (st' := [.inl (-1 : Int32)]) (fun _ => rfl) ?_
    subst hk
    exact ra.ret (r := some (.inl (-1 : Int32))) (fun _ => rfl) ⟨rfl, rfl, rfl⟩
  · skip
    refine ra.s (pc' := 9) (st' := [.inr (some (11, 0))]) (fun _ => rfl) ?_
    refine ra.s (pc' := 10) (st' := [.inl a2, .inr (some (11, 0))]) (fun _ => rfl) ?_
    obtain ⟨h3, hg⟩ := hg
    refine ra.cP (f := (rf_isStation a2 A)) (m := 115) (as := [.inr (some (11, 0)), .inl a2]) (nx := 13) (L' := [some (.inr (some (11, 0))), some (.inl a1), some (.inl a2), some (.inl a3), some (.inl a4), some (.inl a5), some (.inl a6), some (.inl a7), none]) (st' := []) (fun _ => rfl) (rh_isStation (by omega) h3) ?_
    refine ra.bn (c := (rf_isStation a2 A) = (0 : Int32)) (cd := .ne) (x := (rf_isStation a2 A)) (y := (0 : Int32)) 18 16 (st' := []) (fun _ => rfl) (y_cne _ _) hk hg (fun h4 hg hk => ?_) (fun h4 hg hk => ?_)
    · skip
      refine ra.s (pc' := 17) (st' := [.inl (-1 : Int32)]) (fun _ => rfl) ?_
      subst hk
      exact ra.ret (r := some (.inl (-1 : Int32))) (fun _ => rfl) ⟨rfl, rfl, rfl⟩
    · skip
      refine ra.s (pc' := 19) (st' := [.inr (some (11, 0))]) (fun _ => rfl) ?_
      refine ra.s (pc' := 20) (st' := [.inl a3, .inr (some (11, 0))]) (fun _ => rfl) ?_
      obtain ⟨h5, hg⟩ := hg
      refine ra.cP (f := (rf_isAct a3 A)) (m := 116) (as := [.inr (some (11, 0)), .inl a3]) (nx := 23) (L' := [some (.inr (some (11, 0))), some (.inl a1), some (.inl a2), some (.inl a3), some (.inl a4), some (.inl a5), some (.inl a6), some (.inl a7), none]) (st' := []) (fun _ => rfl) (rh_isAct (by omega) h5) ?_
      refine ra.b (c := (rf_isAct a3 A) = (0 : Int32)) (cd := .eq) (x := (rf_isAct a3 A)) (y := (0 : Int32)) 62 26 (st' := []) (fun _ => rfl) (y_ceq _ _) hk hg (fun h6 hg hk => ?_) (fun h6 hg hk => ?_)
      · skip
        refine ra.s (pc' := 64) (st' := [.inl (-2 : Int32)]) (fun _ => rfl) ?_
        subst hk
        exact ra.ret (r := some (.inl (-2 : Int32))) (fun _ => rfl) ⟨rfl, rfl, rfl⟩
      · skip
        refine ra.s (pc' := 27) (st' := [.inr (some (11, 0))]) (fun _ => rfl) ?_
        refine ra.s (pc' := 28) (st' := [.inl a3, .inr (some (11, 0))]) (fun _ => rfl) ?_
        refine ra.s (pc' := 30) (st' := [.inl a4, .inl a3, .inr (some (11, 0))]) (fun _ => rfl) ?_
        obtain ⟨h7, hg⟩ := hg
        refine ra.cP (f := (rf_isAmount a3 a4 A)) (m := 129) (as := [.inr (some (11, 0)), .inl a3, .inl a4]) (nx := 33) (L' := [some (.inr (some (11, 0))), some (.inl a1), some (.inl a2), some (.inl a3), some (.inl a4), some (.inl a5), some (.inl a6), some (.inl a7), none]) (st' := []) (fun _ => rfl) (rh_isAmount (by omega) h7) ?_
        refine ra.b (c := (rf_isAmount a3 a4 A) = (0 : Int32)) (cd := .eq) (x := (rf_isAmount a3 a4 A)) (y := (0 : Int32)) 62 36 (st' := []) (fun _ => rfl) (y_ceq _ _) hk hg (fun h8 hg hk => ?_) (fun h8 hg hk => ?_)
        · skip
          refine ra.s (pc' := 64) (st' := [.inl (-2 : Int32)]) (fun _ => rfl) ?_
          subst hk
          exact ra.ret (r := some (.inl (-2 : Int32))) (fun _ => rfl) ⟨rfl, rfl, rfl⟩
        · skip
          refine ra.s (pc' := 38) (st' := [.inl a5]) (fun _ => rfl) ?_
          refine ra.s (pc' := 39) (st' := [.inl (1 : Int32), .inl a5]) (fun _ => rfl) ?_
          refine ra.b (c := a5 < (1 : Int32)) (cd := .lt) (x := a5) (y := (1 : Int32)) 62 42 (st' := []) (fun _ => rfl) (y_clt _ _) hk hg (fun h9 hg hk => ?_) (fun h9 hg hk => ?_)
          · skip
            refine ra.s (pc' := 64) (st' := [.inl (-2 : Int32)]) (fun _ => rfl) ?_
            subst hk
            exact ra.ret (r := some (.inl (-2 : Int32))) (fun _ => rfl) ⟨rfl, rfl, rfl⟩
          · skip
            refine ra.s (pc' := 44) (st' := [.inl a5]) (fun _ => rfl) ?_
            refine ra.s (pc' := 47) (st' := [.inl (1000 : Int32), .inl a5]) (fun _ => rfl) ?_
            refine ra.b (c := (1000 : Int32) < a5) (cd := .gt) (x := a5) (y := (1000 : Int32)) 62 50 (st' := []) (fun _ => rfl) (y_cgt _ _) hk hg (fun h10 hg hk => ?_) (fun h10 hg hk => ?_)
            · skip
              refine ra.s (pc' := 64) (st' := [.inl (-2 : Int32)]) (fun _ => rfl) ?_
              subst hk
              exact ra.ret (r := some (.inl (-2 : Int32))) (fun _ => rfl) ⟨rfl, rfl, rfl⟩
            · skip
              refine ra.s (pc' := 52) (st' := [.inl a6]) (fun _ => rfl) ?_
              refine ra.b (c := a6 < (0 : Int32)) (cd := .lt) (x := a6) (y := (0 : Int32)) 62 55 (st' := []) (fun _ => rfl) (y_clt _ _) hk hg (fun h11 hg hk => ?_) (fun h11 hg hk => ?_)
              · skip
                refine ra.s (pc' := 64) (st' := [.inl (-2 : Int32)]) (fun _ => rfl) ?_
                subst hk
                exact ra.ret (r := some (.inl (-2 : Int32))) (fun _ => rfl) ⟨rfl, rfl, rfl⟩
              · skip
                refine ra.s (pc' := 57) (st' := [.inl a7]) (fun _ => rfl) ?_
                refine ra.s (pc' := 59) (st' := [.inl a6, .inl a7]) (fun _ => rfl) ?_
                refine ra.b (c := a6 ≤ a7) (cd := .ge) (x := a7) (y := a6) 65 62 (st' := []) (fun _ => rfl) (y_cge _ _) hk hg (fun h12 hg hk => ?_) (fun h12 hg hk => ?_)
                · skip
                  refine ra.s (pc' := 66) (st' := [.inr (some (11, 0))]) (fun _ => rfl) ?_
                  refine ra.gi (x := 89) (nx := 69) (v := (A 89 0)) rfl rfl rfl ?_
                  refine ra.s (pc' := 71) (st' := [.inl (12 : Int32), .inl (A 89 0)]) (fun _ => rfl) ?_
                  refine ra.bn (c := (A 89 0) = (12 : Int32)) (cd := .ne) (x := (A 89 0)) (y := (12 : Int32)) 77 74 (st' := []) (fun _ => rfl) (y_cne _ _) hk hg (fun h13 hg hk => ?_) (fun h13 hg hk => ?_)
                  · skip
                    refine ra.s (pc' := 76) (st' := [.inl (-3 : Int32)]) (fun _ => rfl) ?_
                    subst hk
                    exact ra.ret (r := some (.inl (-3 : Int32))) (fun _ => rfl) ⟨rfl, rfl, rfl⟩
                  · skip
                    refine ra.s (pc' := 78) (st' := [.inr (some (11, 0))]) (fun _ => rfl) ?_
                    refine ra.gi (x := 89) (nx := 81) (v := (A 89 0)) rfl rfl rfl ?_
                    refine ra.s (pc' := 83) (L' := [some (.inr (some (11, 0))), some (.inl a1), some (.inl a2), some (.inl a3), some (.inl a4), some (.inl a5), some (.inl a6), some (.inl a7), some (.inl (A 89 0))]) (st' := []) (fun _ => rfl) ?_
                    refine ra.s (pc' := 84) (st' := [.inr (some (11, 0))]) (fun _ => rfl) ?_
                    refine ra.ga (x := 90) (nx := 87) (c := 13) (i := 68) rfl rfl ?_
                    refine ra.s (pc' := 89) (st' := [.inl (A 89 0), .inr (some (13, 68))]) (fun _ => rfl) ?_
                    refine ra.s (pc' := 90) (st' := [.inl a1, .inl (A 89 0), .inr (some (13, 68))]) (fun _ => rfl) ?_
                    obtain ⟨h14, hg⟩ := hg
                    refine ra.si (nx := 91) 90 12 rfl rfl h14 ?_
                    refine ra.s (pc' := 92) (st' := [.inr (some (11, 0))]) (fun _ => rfl) ?_
                    refine ra.ga (x := 91) (nx := 95) (c := 13) (i := 69) rfl rfl ?_
                    refine ra.s (pc' := 97) (st' := [.inl (A 89 0), .inr (some (13, 69))]) (fun _ => rfl) ?_
                    refine ra.s (pc' := 98) (st' := [.inl a2, .inl (A 89 0), .inr (some (13, 69))]) (fun _ => rfl) ?_
                    refine ra.si (nx := 99) 91 12 rfl rfl h14 ?_
                    refine ra.s (pc' := 100) (st' := [.inr (some (11, 0))]) (fun _ => rfl) ?_
                    refine ra.ga (x := 92) (nx := 103) (c := 13) (i := 70) rfl rfl ?_
                    refine ra.s (pc' := 105) (st' := [.inl (A 89 0), .inr (some (13, 70))]) (fun _ => rfl) ?_
                    refine ra.s (pc' := 106) (st' := [.inl a3, .inl (A 89 0), .inr (some (13, 70))]) (fun _ => rfl) ?_
                    refine ra.si (nx := 107) 92 12 rfl rfl h14 ?_
                    refine ra.s (pc' := 108) (st' := [.inr (some (11, 0))]) (fun _ => rfl) ?_
                    refine ra.ga (x := 93) (nx := 111) (c := 13) (i := 71) rfl rfl ?_
                    refine ra.s (pc' := 113) (st' := [.inl (A 89 0), .inr (some (13, 71))]) (fun _ => rfl) ?_
                    refine ra.s (pc' := 115) (st' := [.inl a4, .inl (A 89 0), .inr (some (13, 71))]) (fun _ => rfl) ?_
                    refine ra.si (nx := 116) 93 12 rfl rfl h14 ?_
                    refine ra.s (pc' := 117) (st' := [.inr (some (11, 0))]) (fun _ => rfl) ?_
                    refine ra.ga (x := 94) (nx := 120) (c := 13) (i := 72) rfl rfl ?_
                    refine ra.s (pc' := 122) (st' := [.inl (A 89 0), .inr (some (13, 72))]) (fun _ => rfl) ?_
                    refine ra.s (pc' := 124) (st' := [.inl a5, .inl (A 89 0), .inr (some (13, 72))]) (fun _ => rfl) ?_
                    refine ra.si (nx := 125) 94 12 rfl rfl h14 ?_
                    refine ra.s (pc' := 126) (st' := [.inr (some (11, 0))]) (fun _ => rfl) ?_
                    refine ra.ga (x := 95) (nx := 129) (c := 13) (i := 73) rfl rfl ?_
                    refine ra.s (pc' := 131) (st' := [.inl (A 89 0), .inr (some (13, 73))]) (fun _ => rfl) ?_
                    refine ra.s (pc' := 133) (st' := [.inl a6, .inl (A 89 0), .inr (some (13, 73))]) (fun _ => rfl) ?_
                    refine ra.si (nx := 134) 95 12 rfl rfl h14 ?_
                    refine ra.s (pc' := 135) (st' := [.inr (some (11, 0))]) (fun _ => rfl) ?_
                    refine ra.ga (x := 96) (nx := 138) (c := 13) (i := 74) rfl rfl ?_
                    refine ra.s (pc' := 140) (st' := [.inl (A 89 0), .inr (some (13, 74))]) (fun _ => rfl) ?_
                    refine ra.s (pc' := 142) (st' := [.inl a7, .inl (A 89 0), .inr (some (13, 74))]) (fun _ => rfl) ?_
                    refine ra.si (nx := 143) 96 12 rfl rfl h14 ?_
                    refine ra.s (pc' := 144) (st' := [.inr (some (11, 0))]) (fun _ => rfl) ?_
                    refine ra.ga (x := 97) (nx := 147) (c := 13) (i := 75) rfl rfl ?_
                    refine ra.s (pc' := 149) (st' := [.inl (A 89 0), .inr (some (13, 75))]) (fun _ => rfl) ?_
                    refine ra.s (pc' := 150) (st' := [.inr (some (11, 0)), .inl (A 89 0), .inr (some (13, 75))]) (fun _ => rfl) ?_
                    refine ra.gi (x := 0) (nx := 153) (v := (A 0 0)) rfl rfl rfl ?_
                    refine ra.si (nx := 154) 97 12 rfl rfl h14 ?_
                    refine ra.s (pc' := 155) (st' := [.inr (some (11, 0))]) (fun _ => rfl) ?_
                    refine ra.ga (x := 98) (nx := 158) (c := 13) (i := 76) rfl rfl ?_
                    refine ra.s (pc' := 160) (st' := [.inl (A 89 0), .inr (some (13, 76))]) (fun _ => rfl) ?_
                    refine ra.s (pc' := 161) (st' := [.inl (0 : Int32), .inl (A 89 0), .inr (some (13, 76))]) (fun _ => rfl) ?_
                    refine ra.si (nx := 162) 98 12 rfl rfl h14 ?_
                    refine ra.s (pc' := 163) (st' := [.inr (some (11, 0))]) (fun _ => rfl) ?_
                    refine ra.ga (x := 99) (nx := 166) (c := 13) (i := 77) rfl rfl ?_
                    refine ra.s (pc' := 168) (st' := [.inl (A 89 0), .inr (some (13, 77))]) (fun _ => rfl) ?_
                    refine ra.s (pc' := 169) (st' := [.inl (-1 : Int32), .inl (A 89 0), .inr (some (13, 77))]) (fun _ => rfl) ?_
                    refine ra.si (nx := 170) 99 12 rfl rfl h14 ?_
                    refine ra.s (pc' := 171) (st' := [.inr (some (11, 0))]) (fun _ => rfl) ?_
                    refine ra.ga (x := 100) (nx := 174) (c := 13) (i := 78) rfl rfl ?_
                    refine ra.s (pc' := 176) (st' := [.inl (A 89 0), .inr (some (13, 78))]) (fun _ => rfl) ?_
                    refine ra.s (pc' := 177) (st' := [.inl (0 : Int32), .inl (A 89 0), .inr (some (13, 78))]) (fun _ => rfl) ?_
                    refine ra.si (nx := 178) 100 12 rfl rfl h14 ?_
                    refine ra.s (pc' := 179) (st' := [.inr (some (11, 0))]) (fun _ => rfl) ?_
                    refine ra.ga (x := 101) (nx := 182) (c := 13) (i := 79) rfl rfl ?_
                    refine ra.s (pc' := 184) (st' := [.inl (A 89 0), .inr (some (13, 79))]) (fun _ => rfl) ?_
                    refine ra.s (pc' := 185) (st' := [.inl (0 : Int32), .inl (A 89 0), .inr (some (13, 79))]) (fun _ => rfl) ?_
                    refine ra.si (nx := 186) 101 12 rfl rfl h14 ?_
                    refine ra.s (pc' := 187) (st' := [.inr (some (11, 0))]) (fun _ => rfl) ?_
                    refine ra.ga (x := 102) (nx := 190) (c := 14) (i := 8) rfl rfl ?_
                    refine ra.s (pc' := 192) (st' := [.inl (A 89 0), .inr (some (14, 8))]) (fun _ => rfl) ?_
                    refine ra.s (pc' := 193) (st' := [.inl (0 : Int32), .inl (A 89 0), .inr (some (14, 8))]) (fun _ => rfl) ?_
                    refine ra.sz (nx := 194) 102 12 rfl rfl h14 (Or.inl rfl) ?_
                    refine ra.s (pc' := 195) (st' := [.inr (some (11, 0))]) (fun _ => rfl) ?_
                    refine ra.s (pc' := 196) (st' := [.inr (some (11, 0)), .inr (some (11, 0))]) (fun _ => rfl) ?_
                    refine ra.gi (x := 89) (nx := 199) (v := (A 89 0)) rfl rfl rfl ?_
                    refine ra.s (pc' := 200) (st' := [.inl (1 : Int32), .inl (A 89 0), .inr (some (11, 0))]) (fun _ => rfl) ?_
                    refine ra.s (pc' := 201) (st' := [.inl ((A 89 0) + (1 : Int32)), .inr (some (11, 0))]) (fun _ => rfl) ?_
                    refine ra.pi (x := 89) (nx := 204) rfl rfl ?_
                    refine ra.s (pc' := 206) (st' := [.inl (A 89 0)]) (fun _ => rfl) ?_
                    subst hk
                    exact ra.ret (r := some (.inl (A 89 0))) (fun _ => rfl) ⟨rfl, rfl, rfl⟩
                · skip
                  refine ra.s (pc' := 64) (st' := [.inl (-2 : Int32)]) (fun _ => rfl) ?_
                  subst hk
                  exact ra.ret (r := some (.inl (-2 : Int32))) (fun _ => rfl) ⟨rfl, rfl, rfl⟩
/-- stop -/
def rf_stop (a1 : Int32) (A : y_A) : Int32 × y_A := (if a1 < (0 : Int32) then ((-1 : Int32), A) else (if a1 < (A 89 0) then (if (A 102 (y_ix a1)) = (0 : Int32) then ((A 98 (y_ix a1)), (xm_u2 A 102 (y_ix a1) (1 : Int32))) else ((-4 : Int32), A)) else ((-1 : Int32), A)))
def rg_stop (a1 : Int32) (A : y_A) : Prop := ((a1 < (0 : Int32) → True) ∧ (¬ a1 < (0 : Int32) → ((a1 < (A 89 0) → (y_in a1 12) ∧ (((A 102 (y_ix a1)) = (0 : Int32) → True) ∧ (¬ (A 102 (y_ix a1)) = (0 : Int32) → True))) ∧ (¬ a1 < (A 89 0) → True))))
theorem rh_stop {d : Nat} (hd : 0 ≤ d) {a1 : Int32} {A : y_A} {js : List y_J} (hg : rg_stop a1 A) : rc d 158 [.inr (some (11, 0)), .inl a1] A js (y_I ((rf_stop a1 A).1, (rf_stop a1 A).2, js)) := by
  obtain ⟨F, hk⟩ : ∃ F, rf_stop a1 A = F := ⟨_, rfl⟩
  rw [hk]
  show ra _ _ _ [some (.inr (some (11, 0))), some (.inl a1)] _ _ _ _
  unfold rg_stop at hg
  unfold rf_stop at hk
  refine ra.s (pc' := 1) (st' := [.inl a1]) (fun _ => rfl) ?_
  refine ra.b (c := a1 < (0 : Int32)) (cd := .lt) (x := a1) (y := (0 : Int32)) 12 4 (st' := []) (fun _ => rfl) (y_clt _ _) hk hg (fun h1 hg hk => ?_) (fun h1 hg hk => ?_)
  · skip
    refine ra.s (pc' := 13) (st' := [.inl (-1 : Int32)]) (fun _ => rfl) ?_
    subst hk
    exact ra.ret (r := some (.inl (-1 : Int32))) (fun _ => rfl) ⟨rfl, rfl, rfl⟩
  · skip
    refine ra.s (pc' := 5) (st' := [.inl a1]) (fun _ => rfl) ?_
    refine ra.s (pc' := 6) (st' := [.inr (some (11, 0)), .inl a1]) (fun _ => rfl) ?_
    refine ra.gi (x := 89) (nx := 9) (v := (A 89 0)) rfl rfl rfl ?_
    refine ra.b (c := a1 < (A 89 0)) (cd := .lt) (x := a1) (y := (A 89 0)) 14 12 (st' := []) (fun _ => rfl) (y_clt _ _) hk hg (fun h2 hg hk => ?_) (fun h2 hg hk => ?_)
    · skip
      refine ra.s (pc' := 15) (st' := [.inr (some (11, 0))]) (fun _ => rfl) ?_
      refine ra.ga (x := 102) (nx := 18) (c := 14) (i := 8) rfl rfl ?_
      refine ra.s (pc' := 19) (st' := [.inl a1, .inr (some (14, 8))]) (fun _ => rfl) ?_
      obtain ⟨h3, hg⟩ := hg
      refine ra.lz (nx := 20) (v := (A 102 (y_ix a1))) 102 12 rfl rfl h3 rfl ?_
      refine ra.b (c := (A 102 (y_ix a1)) = (0 : Int32)) (cd := .eq) (x := (A 102 (y_ix a1))) (y := (0 : Int32)) 26 23 (st' := []) (fun _ => rfl) (y_ceq _ _) hk hg (fun h4 hg hk => ?_) (fun h4 hg hk => ?_)
      · skip
        refine ra.s (pc' := 27) (st' := [.inr (some (11, 0))]) (fun _ => rfl) ?_
        refine ra.ga (x := 102) (nx := 30) (c := 14) (i := 8) rfl rfl ?_
        refine ra.s (pc' := 31) (st' := [.inl a1, .inr (some (14, 8))]) (fun _ => rfl) ?_
        refine ra.s (pc' := 32) (st' := [.inl (1 : Int32), .inl a1, .inr (some (14, 8))]) (fun _ => rfl) ?_
        refine ra.sz (nx := 33) 102 12 rfl rfl h3 (Or.inr rfl) ?_
        refine ra.s (pc' := 34) (st' := [.inr (some (11, 0))]) (fun _ => rfl) ?_
        refine ra.ga (x := 98) (nx := 37) (c := 13) (i := 76) rfl rfl ?_
        refine ra.s (pc' := 38) (st' := [.inl a1, .inr (some (13, 76))]) (fun _ => rfl) ?_
        refine ra.ld (nx := 39) (v := (A 98 (y_ix a1))) 98 12 rfl rfl h3 rfl ?_
        subst hk
        exact ra.ret (r := some (.inl (A 98 (y_ix a1)))) (fun _ => rfl) ⟨rfl, rfl, rfl⟩
      · skip
        refine ra.s (pc' := 25) (st' := [.inl (-4 : Int32)]) (fun _ => rfl) ?_
        subst hk
        exact ra.ret (r := some (.inl (-4 : Int32))) (fun _ => rfl) ⟨rfl, rfl, rfl⟩
    · skip
      refine ra.s (pc' := 13) (st' := [.inl (-1 : Int32)]) (fun _ => rfl) ?_
      subst hk
      exact ra.ret (r := some (.inl (-1 : Int32))) (fun _ => rfl) ⟨rfl, rfl, rfl⟩
/-- alarm -/
def rf_alarm (a1 a2 a3 : Int32) (A : y_A) : Int32 × y_A := (if a1 = (0 : Int32) then (if (rf_isGuard a2 (0 : Int32) A) = (0 : Int32) then ((-1 : Int32), A) else (if a3 = (0 : Int32) then (if (A 103 0) = (10 : Int32) then ((-3 : Int32), A) else ((((A 103 0) + (1 : Int32)) - (1 : Int32)), (xm_u2 (xm_u2 (xm_u2 (xm_u2 (xm_u2 (xm_u2 (xm_u2 A 104 (y_ix (A 103 0)) a1) 105 (y_ix (A 103 0)) a2) 106 (y_ix (A 103 0)) a3) 107 (y_ix (A 103 0)) (0 : Int32)) 108 (y_ix (A 103 0)) (-1 : Int32)) 109 (y_ix (A 103 0)) (0 : Int32)) 103 0 ((A 103 0) + (1 : Int32))))) else ((-2 : Int32), A))) else (if a1 = (1 : Int32) then (if (rf_isStation a2 A) = (0 : Int32) then ((-1 : Int32), A) else (if (rf_in a3 (0 : Int32) (1000000 : Int32) A) = (0 : Int32) then ((-2 : Int32), A) else (if (A 103 0) = (10 : Int32) then ((-3 : Int32), A) else ((((A 103 0) + (1 : Int32)) - (1 : Int32)), (xm_u2 (xm_u2 (xm_u2 (xm_u2 (xm_u2 (xm_u2 (xm_u2 A 104 (y_ix (A 103 0)) a1) 105 (y_ix (A 103 0)) a2) 106 (y_ix (A 103 0)) a3) 107 (y_ix (A 103 0)) (0 : Int32)) 108 (y_ix (A 103 0)) (-1 : Int32)) 109 (y_ix (A 103 0)) (0 : Int32)) 103 0 ((A 103 0) + (1 : Int32))))))) else (if a1 = (2 : Int32) then (if (rf_isGuard a2 (1 : Int32) A) = (0 : Int32) then ((-1 : Int32), A) else (if (rf_in a3 (1 : Int32) (10 : Int32) A) = (0 : Int32) then ((-2 : Int32), A) else (if (A 103 0) = (10 : Int32) then ((-3 : Int32), A) else ((((A 103 0) + (1 : Int32)) - (1 : Int32)), (xm_u2 (xm_u2 (xm_u2 (xm_u2 (xm_u2 (xm_u2 (xm_u2 A 104 (y_ix (A 103 0)) a1) 105 (y_ix (A 103 0)) a2) 106 (y_ix (A 103 0)) a3) 107 (y_ix (A 103 0)) (0 : Int32)) 108 (y_ix (A 103 0)) (-1 : Int32)) 109 (y_ix (A 103 0)) (0 : Int32)) 103 0 ((A 103 0) + (1 : Int32))))))) else (if a1 = (3 : Int32) then (if a2 = (0 : Int32) then (if (rf_in a3 (0 : Int32) (1000000 : Int32) A) = (0 : Int32) then ((-2 : Int32), A) else (if (A 103 0) = (10 : Int32) then ((-3 : Int32), A) else ((((A 103 0) + (1 : Int32)) - (1 : Int32)), (xm_u2 (xm_u2 (xm_u2 (xm_u2 (xm_u2 (xm_u2 (xm_u2 A 104 (y_ix (A 103 0)) a1) 105 (y_ix (A 103 0)) a2) 106 (y_ix (A 103 0)) a3) 107 (y_ix (A 103 0)) (0 : Int32)) 108 (y_ix (A 103 0)) (-1 : Int32)) 109 (y_ix (A 103 0)) (0 : Int32)) 103 0 ((A 103 0) + (1 : Int32)))))) else ((-2 : Int32), A)) else ((-2 : Int32), A)))))
def rg_alarm (a1 a2 a3 : Int32) (A : y_A) : Prop := ((a1 = (0 : Int32) → (rg_isGuard a2 (0 : Int32) A) ∧ (((rf_isGuard a2 (0 : Int32) A) = (0 : Int32) → True) ∧ (¬ (rf_isGuard a2 (0 : Int32) A) = (0 : Int32) → ((a3 = (0 : Int32) → (((A 103 0) = (10 : Int32) → True) ∧ (¬ (A 103 0) = (10 : Int32) → (y_in (A 103 0) 10) ∧ True))) ∧ (¬ a3 = (0 : Int32) → True))))) ∧ (¬ a1 = (0 : Int32) → ((a1 = (1 : Int32) → (rg_isStation a2 A) ∧ (((rf_isStation a2 A) = (0 : Int32) → True) ∧ (¬ (rf_isStation a2 A) = (0 : Int32) → (rg_in a3 (0 : Int32) (1000000 : Int32) A) ∧ (((rf_in a3 (0 : Int32) (1000000 : Int32) A) = (0 : Int32) → True) ∧ (¬ (rf_in a3 (0 : Int32) (1000000 : Int32) A) = (0 : Int32) → (((A 103 0) = (10 : Int32) → True) ∧ (¬ (A 103 0) = (10 : Int32) → (y_in (A 103 0) 10) ∧ True))))))) ∧ (¬ a1 = (1 : Int32) → ((a1 = (2 : Int32) → (rg_isGuard a2 (1 : Int32) A) ∧ (((rf_isGuard a2 (1 : Int32) A) = (0 : Int32) → True) ∧ (¬ (rf_isGuard a2 (1 : Int32) A) = (0 : Int32) → (rg_in a3 (1 : Int32) (10 : Int32) A) ∧ (((rf_in a3 (1 : Int32) (10 : Int32) A) = (0 : Int32) → True) ∧ (¬ (rf_in a3 (1 : Int32) (10 : Int32) A) = (0 : Int32) → (((A 103 0) = (10 : Int32) → True) ∧ (¬ (A 103 0) = (10 : Int32) → (y_in (A 103 0) 10) ∧ True))))))) ∧ (¬ a1 = (2 : Int32) → ((a1 = (3 : Int32) → ((a2 = (0 : Int32) → (rg_in a3 (0 : Int32) (1000000 : Int32) A) ∧ (((rf_in a3 (0 : Int32) (1000000 : Int32) A) = (0 : Int32) → True) ∧ (¬ (rf_in a3 (0 : Int32) (1000000 : Int32) A) = (0 : Int32) → (((A 103 0) = (10 : Int32) → True) ∧ (¬ (A 103 0) = (10 : Int32) → (y_in (A 103 0) 10) ∧ True))))) ∧ (¬ a2 = (0 : Int32) → True))) ∧ (¬ a1 = (3 : Int32) → True))))))))
theorem rh_alarm {d : Nat} (hd : 1 ≤ d) {a1 a2 a3 : Int32} {A : y_A} {js : List y_J} (hg : rg_alarm a1 a2 a3 A) : rc d 160 [.inr (some (11, 0)), .inl a1, .inl a2, .inl a3] A js (y_I ((rf_alarm a1 a2 a3 A).1, (rf_alarm a1 a2 a3 A).2, js)) := by
  obtain ⟨d, rfl⟩ := Nat.exists_eq_add_of_le' hd
  obtain ⟨F, hk⟩ : ∃ F, rf_alarm a1 a2 a3 A = F := ⟨_, rfl⟩
  rw [hk]
  show ra _ _ _ [some (.inr (some (11, 0))), some (.inl a1), some (.inl a2), some (.inl a3), none] _ _ _ _
  unfold rg_alarm at hg
  unfold rf_alarm at hk
  refine ra.s (pc' := 1) (st' := [.inl a1]) (fun _ => rfl) ?_
  refine ra.bn (c := a1 = (0 : Int32)) (cd := .ne) (x := a1) (y := (0 : Int32)) 13 4 (st' := []) (fun _ => rfl) (y_cne _ _) hk hg (fun h1 hg hk => ?_) (fun h1 hg hk => ?_)
  · skip
    refine ra.s (pc' := 5) (st' := [.inr (some (11, 0))]) (fun _ => rfl) ?_
    refine ra.s (pc' := 6) (st' := [.inl a2, .inr (some (11, 0))]) (fun _ => rfl) ?_
    refine ra.s (pc' := 7) (st' := [.inl (0 : Int32), .inl a2, .inr (some (11, 0))]) (fun _ => rfl) ?_
    obtain ⟨h2, hg⟩ := hg
    refine ra.cP (f := (rf_isGuard a2 (0 : Int32) A)) (m := 161) (as := [.inr (some (11, 0)), .inl a2, .inl (0 : Int32)]) (nx := 10) (L' := [some (.inr (some (11, 0))), some (.inl a1), some (.inl a2), some (.inl a3), none]) (st' := []) (fun _ => rfl) (rh_isGuard (by omega) h2) ?_
    refine ra.b (c := (rf_isGuard a2 (0 : Int32) A) = (0 : Int32)) (cd := .eq) (x := (rf_isGuard a2 (0 : Int32) A)) (y := (0 : Int32)) 40 13 (st' := []) (fun _ => rfl) (y_ceq _ _) hk hg (fun h3 hg hk => ?_) (fun h3 hg hk => ?_)
    · skip
      refine ra.s (pc' := 41) (st' := [.inl (-1 : Int32)]) (fun _ => rfl) ?_
      subst hk
      exact ra.ret (r := some (.inl (-1 : Int32))) (fun _ => rfl) ⟨rfl, rfl, rfl⟩
    · skip
      refine ra.s (pc' := 14) (st' := [.inl a1]) (fun _ => rfl) ?_
      refine ra.s (pc' := 15) (st' := [.inl (1 : Int32), .inl a1]) (fun _ => rfl) ?_
      refine ra.bt (cd := .ne) (x := a1) (y := (1 : Int32)) 26 18 (st' := []) (fun _ => rfl) (y_cne _ _) (fun z => absurd (h1.symm.trans z) (by decide)) ?_
      refine ra.s (pc' := 27) (st' := [.inl a1]) (fun _ => rfl) ?_
      refine ra.s (pc' := 28) (st' := [.inl (2 : Int32), .inl a1]) (fun _ => rfl) ?_
      refine ra.bt (cd := .ne) (x := a1) (y := (2 : Int32)) 42 31 (st' := []) (fun _ => rfl) (y_cne _ _) (fun z => absurd (h1.symm.trans z) (by decide)) ?_
      refine ra.s (pc' := 43) (st' := [.inl a1]) (fun _ => rfl) ?_
      refine ra.bf (cd := .ne) (x := a1) (y := (0 : Int32)) 58 46 (st' := []) (fun _ => rfl) (y_cne _ _) (fun z => z h1) ?_
      refine ra.s (pc' := 47) (st' := [.inl a3]) (fun _ => rfl) ?_
      refine ra.bn (c := a3 = (0 : Int32)) (cd := .ne) (x := a3) (y := (0 : Int32)) 54 50 (st' := []) (fun _ => rfl) (y_cne _ _) hk hg (fun h4 hg hk => ?_) (fun h4 hg hk => ?_)
      · skip
        refine ra.s (pc' := 51) (st' := [.inl (1 : Int32)]) (fun _ => rfl) ?_
        refine ra.s (pc' := 117) (st' := [.inl (1 : Int32)]) (fun _ => rfl) ?_
        refine ra.s (pc' := 119) (L' := [some (.inr (some (11, 0))), some (.inl a1), some (.inl a2), some (.inl a3), some (.inl (1 : Int32))]) (st' := []) (fun _ => rfl) ?_
        refine ra.s (pc' := 121) (st' := [.inl (1 : Int32)]) (fun _ => rfl) ?_
        refine ra.bt (cd := .ne) (x := (1 : Int32)) (y := (0 : Int32)) 127 124 (st' := []) (fun _ => rfl) (y_cne _ _) (by decide) ?_
        refine ra.s (pc' := 128) (st' := [.inr (some (11, 0))]) (fun _ => rfl) ?_
        refine ra.gi (x := 103) (nx := 131) (v := (A 103 0)) rfl rfl rfl ?_
        refine ra.s (pc' := 133) (st' := [.inl (10 : Int32), .inl (A 103 0)]) (fun _ => rfl) ?_
        refine ra.bn (c := (A 103 0) = (10 : Int32)) (cd := .ne) (x := (A 103 0)) (y := (10 : Int32)) 139 136 (st' := []) (fun _ => rfl) (y_cne _ _) hk hg (fun h5 hg hk => ?_) (fun h5 hg hk => ?_)
        · skip
          refine ra.s (pc' := 138) (st' := [.inl (-3 : Int32)]) (fun _ => rfl) ?_
          subst hk
          exact ra.ret (r := some (.inl (-3 : Int32))) (fun _ => rfl) ⟨rfl, rfl, rfl⟩
        · skip
          refine ra.s (pc' := 140) (st' := [.inr (some (11, 0))]) (fun _ => rfl) ?_
          refine ra.ga (x := 104) (nx := 143) (c := 13) (i := 80) rfl rfl ?_
          refine ra.s (pc' := 144) (st' := [.inr (some (11, 0)), .inr (some (13, 80))]) (fun _ => rfl) ?_
          refine ra.gi (x := 103) (nx := 147) (v := (A 103 0)) rfl rfl rfl ?_
          refine ra.s (pc' := 148) (st' := [.inl a1, .inl (A 103 0), .inr (some (13, 80))]) (fun _ => rfl) ?_
          obtain ⟨h6, hg⟩ := hg
          refine ra.si (nx := 149) 104 10 rfl rfl h6 ?_
          refine ra.s (pc' := 150) (st' := [.inr (some (11, 0))]) (fun _ => rfl) ?_
          refine ra.ga (x := 105) (nx := 153) (c := 13) (i := 81) rfl rfl ?_
          refine ra.s (pc' := 154) (st' := [.inr (some (11, 0)), .inr (some (13, 81))]) (fun _ => rfl) ?_
          refine ra.gi (x := 103) (nx := 157) (v := (A 103 0)) rfl rfl rfl ?_
          refine ra.s (pc' := 158) (st' := [.inl a2, .inl (A 103 0), .inr (some (13, 81))]) (fun _ => rfl) ?_
          refine ra.si (nx := 159) 105 10 rfl rfl h6 ?_
          refine ra.s (pc' := 160) (st' := [.inr (some (11, 0))]) (fun _ => rfl) ?_
          refine ra.ga (x := 106) (nx := 163) (c := 13) (i := 82) rfl rfl ?_
          refine ra.s (pc' := 164) (st' := [.inr (some (11, 0)), .inr (some (13, 82))]) (fun _ => rfl) ?_
          refine ra.gi (x := 103) (nx := 167) (v := (A 103 0)) rfl rfl rfl ?_
          refine ra.s (pc' := 168) (st' := [.inl a3, .inl (A 103 0), .inr (some (13, 82))]) (fun _ => rfl) ?_
          refine ra.si (nx := 169) 106 10 rfl rfl h6 ?_
          refine ra.s (pc' := 170) (st' := [.inr (some (11, 0))]) (fun _ => rfl) ?_
          refine ra.ga (x := 107) (nx := 173) (c := 13) (i := 83) rfl rfl ?_
          refine ra.s (pc' := 174) (st' := [.inr (some (11, 0)), .inr (some (13, 83))]) (fun _ => rfl) ?_
          refine ra.gi (x := 103) (nx := 177) (v := (A 103 0)) rfl rfl rfl ?_
          refine ra.s (pc' := 178) (st' := [.inl (0 : Int32), .inl (A 103 0), .inr (some (13, 83))]) (fun _ => rfl) ?_
          refine ra.si (nx := 179) 107 10 rfl rfl h6 ?_
          refine ra.s (pc' := 180) (st' := [.inr (some (11, 0))]) (fun _ => rfl) ?_
          refine ra.ga (x := 108) (nx := 183) (c := 13) (i := 84) rfl rfl ?_
          refine ra.s (pc' := 184) (st' := [.inr (some (11, 0)), .inr (some (13, 84))]) (fun _ => rfl) ?_
          refine ra.gi (x := 103) (nx := 187) (v := (A 103 0)) rfl rfl rfl ?_
          refine ra.s (pc' := 188) (st' := [.inl (-1 : Int32), .inl (A 103 0), .inr (some (13, 84))]) (fun _ => rfl) ?_
          refine ra.si (nx := 189) 108 10 rfl rfl h6 ?_
          refine ra.s (pc' := 190) (st' := [.inr (some (11, 0))]) (fun _ => rfl) ?_
          refine ra.ga (x := 109) (nx := 193) (c := 14) (i := 9) rfl rfl ?_
          refine ra.s (pc' := 194) (st' := [.inr (some (11, 0)), .inr (some (14, 9))]) (fun _ => rfl) ?_
          refine ra.gi (x := 103) (nx := 197) (v := (A 103 0)) rfl rfl rfl ?_
          refine ra.s (pc' := 198) (st' := [.inl (0 : Int32), .inl (A 103 0), .inr (some (14, 9))]) (fun _ => rfl) ?_
          refine ra.sz (nx := 199) 109 10 rfl rfl h6 (Or.inl rfl) ?_
          refine ra.s (pc' := 200) (st' := [.inr (some (11, 0))]) (fun _ => rfl) ?_
          refine ra.s (pc' := 201) (st' := [.inr (some (11, 0)), .inr (some (11, 0))]) (fun _ => rfl) ?_
          refine ra.gi (x := 103) (nx := 204) (v := (A 103 0)) rfl rfl rfl ?_
          refine ra.s (pc' := 205) (st' := [.inl (1 : Int32), .inl (A 103 0), .inr (some (11, 0))]) (fun _ => rfl) ?_
          refine ra.s (pc' := 206) (st' := [.inl ((A 103 0) + (1 : Int32)), .inr (some (11, 0))]) (fun _ => rfl) ?_
          refine ra.pi (x := 103) (nx := 209) rfl rfl ?_
          refine ra.s (pc' := 210) (st' := [.inr (some (11, 0))]) (fun _ => rfl) ?_
          refine ra.gi (x := 103) (nx := 213) (v := ((A 103 0) + (1 : Int32))) rfl rfl rfl ?_
          refine ra.s (pc' := 214) (st' := [.inl (1 : Int32), .inl ((A 103 0) + (1 : Int32))]) (fun _ => rfl) ?_
          refine ra.s (pc' := 215) (st' := [.inl (((A 103 0) + (1 : Int32)) - (1 : Int32))]) (fun _ => rfl) ?_
          subst hk
          exact ra.ret (r := some (.inl (((A 103 0) + (1 : Int32)) - (1 : Int32)))) (fun _ => rfl) ⟨rfl, rfl, rfl⟩
      · skip
        refine ra.s (pc' := 55) (st' := [.inl (0 : Int32)]) (fun _ => rfl) ?_
        refine ra.s (pc' := 117) (st' := [.inl (0 : Int32)]) (fun _ => rfl) ?_
        refine ra.s (pc' := 119) (L' := [some (.inr (some (11, 0))), some (.inl a1), some (.inl a2), some (.inl a3), some (.inl (0 : Int32))]) (st' := []) (fun _ => rfl) ?_
        refine ra.s (pc' := 121) (st' := [.inl (0 : Int32)]) (fun _ => rfl) ?_
        refine ra.bf (cd := .ne) (x := (0 : Int32)) (y := (0 : Int32)) 127 124 (st' := []) (fun _ => rfl) (y_cne _ _) (by decide) ?_
        refine ra.s (pc' := 126) (st' := [.inl (-2 : Int32)]) (fun _ => rfl) ?_
        subst hk
        exact ra.ret (r := some (.inl (-2 : Int32))) (fun _ => rfl) ⟨rfl, rfl, rfl⟩
  · skip
    refine ra.s (pc' := 14) (st' := [.inl a1]) (fun _ => rfl) ?_
    refine ra.s (pc' := 15) (st' := [.inl (1 : Int32), .inl a1]) (fun _ => rfl) ?_
    refine ra.bn (c := a1 = (1 : Int32)) (cd := .ne) (x := a1) (y := (1 : Int32)) 26 18 (st' := []) (fun _ => rfl) (y_cne _ _) hk hg (fun h7 hg hk => ?_) (fun h7 hg hk => ?_)
    · skip
      refine ra.s (pc' := 19) (st' := [.inr (some (11, 0))]) (fun _ => rfl) ?_
      refine ra.s (pc' := 20) (st' := [.inl a2, .inr (some (11, 0))]) (fun _ => rfl) ?_
      obtain ⟨h8, hg⟩ := hg
      refine ra.cP (f := (rf_isStation a2 A)) (m := 115) (as := [.inr (some (11, 0)), .inl a2]) (nx := 23) (L' := [some (.inr (some (11, 0))), some (.inl a1), some (.inl a2), some (.inl a3), none]) (st' := []) (fun _ => rfl) (rh_isStation (by omega) h8) ?_
      refine ra.b (c := (rf_isStation a2 A) = (0 : Int32)) (cd := .eq) (x := (rf_isStation a2 A)) (y := (0 : Int32)) 40 26 (st' := []) (fun _ => rfl) (y_ceq _ _) hk hg (fun h9 hg hk => ?_) (fun h9 hg hk => ?_)
      · skip
        refine ra.s (pc' := 41) (st' := [.inl (-1 : Int32)]) (fun _ => rfl) ?_
        subst hk
        exact ra.ret (r := some (.inl (-1 : Int32))) (fun _ => rfl) ⟨rfl, rfl, rfl⟩
      · skip
        refine ra.s (pc' := 27) (st' := [.inl a1]) (fun _ => rfl) ?_
        refine ra.s (pc' := 28) (st' := [.inl (2 : Int32), .inl a1]) (fun _ => rfl) ?_
        refine ra.bt (cd := .ne) (x := a1) (y := (2 : Int32)) 42 31 (st' := []) (fun _ => rfl) (y_cne _ _) (fun z => absurd (h7.symm.trans z) (by decide)) ?_
        refine ra.s (pc' := 43) (st' := [.inl a1]) (fun _ => rfl) ?_
        refine ra.bt (cd := .ne) (x := a1) (y := (0 : Int32)) 58 46 (st' := []) (fun _ => rfl) (y_cne _ _) h1 ?_
        refine ra.s (pc' := 59) (st' := [.inl a1]) (fun _ => rfl) ?_
        refine ra.s (pc' := 60) (st' := [.inl (1 : Int32), .inl a1]) (fun _ => rfl) ?_
        refine ra.bf (cd := .ne) (x := a1) (y := (1 : Int32)) 75 63 (st' := []) (fun _ => rfl) (y_cne _ _) (fun z => z h7) ?_
        refine ra.s (pc' := 64) (st' := [.inr (some (11, 0))]) (fun _ => rfl) ?_
        refine ra.s (pc' := 65) (st' := [.inl a3, .inr (some (11, 0))]) (fun _ => rfl) ?_
        refine ra.s (pc' := 66) (st' := [.inl (0 : Int32), .inl a3, .inr (some (11, 0))]) (fun _ => rfl) ?_
        refine ra.s (pc' := 69) (st' := [.inl (1000000 : Int32), .inl (0 : Int32), .inl a3, .inr (some (11, 0))]) (fun _ => rfl) ?_
        obtain ⟨h10, hg⟩ := hg
        refine ra.cP (f := (rf_in a3 (0 : Int32) (1000000 : Int32) A)) (m := 124) (as := [.inr (some (11, 0)), .inl a3, .inl (0 : Int32), .inl (1000000 : Int32)]) (nx := 72) (L' := [some (.inr (some (11, 0))), some (.inl a1), some (.inl a2), some (.inl a3), none]) (st' := []) (fun _ => rfl) (rh_in (by omega) h10) ?_
        refine ra.s (pc' := 117) (st' := [.inl (rf_in a3 (0 : Int32) (1000000 : Int32) A)]) (fun _ => rfl) ?_
        refine ra.s (pc' := 119) (L' := [some (.inr (some (11, 0))), some (.inl a1), some (.inl a2), some (.inl a3), some (.inl (rf_in a3 (0 : Int32) (1000000 : Int32) A))]) (st' := []) (fun _ => rfl) ?_
        refine ra.s (pc' := 121) (st' := [.inl (rf_in a3 (0 : Int32) (1000000 : Int32) A)]) (fun _ => rfl) ?_
        refine ra.bn (c := (rf_in a3 (0 : Int32) (1000000 : Int32) A) = (0 : Int32)) (cd := .ne) (x := (rf_in a3 (0 : Int32) (1000000 : Int32) A)) (y := (0 : Int32)) 127 124 (st' := []) (fun _ => rfl) (y_cne _ _) hk hg (fun h11 hg hk => ?_) (fun h11 hg hk => ?_)
        · skip
          refine ra.s (pc' := 126) (st' := [.inl (-2 : Int32)]) (fun _ => rfl) ?_
          subst hk
          exact ra.ret (r := some (.inl (-2 : Int32))) (fun _ => rfl) ⟨rfl, rfl, rfl⟩
        · skip
          refine ra.s (pc' := 128) (st' := [.inr (some (11, 0))]) (fun _ => rfl) ?_
          refine ra.gi (x := 103) (nx := 131) (v := (A 103 0)) rfl rfl rfl ?_
          refine ra.s (pc' := 133) (st' := [.inl (10 : Int32), .inl (A 103 0)]) (fun _ => rfl) ?_
          refine ra.bn (c := (A 103 0) = (10 : Int32)) (cd := .ne) (x := (A 103 0)) (y := (10 : Int32)) 139 136 (st' := []) (fun _ => rfl) (y_cne _ _) hk hg (fun h12 hg hk => ?_) (fun h12 hg hk => ?_)
          · skip
            refine ra.s (pc' := 138) (st' := [.inl (-3 : Int32)]) (fun _ => rfl) ?_
            subst hk
            exact ra.ret (r := some (.inl (-3 : Int32))) (fun _ => rfl) ⟨rfl, rfl, rfl⟩
          · skip
            refine ra.s (pc' := 140) (st' := [.inr (some (11, 0))]) (fun _ => rfl) ?_
            refine ra.ga (x := 104) (nx := 143) (c := 13) (i := 80) rfl rfl ?_
            refine ra.s (pc' := 144) (st' := [.inr (some (11, 0)), .inr (some (13, 80))]) (fun _ => rfl) ?_
            refine ra.gi (x := 103) (nx := 147) (v := (A 103 0)) rfl rfl rfl ?_
            refine ra.s (pc' := 148) (st' := [.inl a1, .inl (A 103 0), .inr (some (13, 80))]) (fun _ => rfl) ?_
            obtain ⟨h13, hg⟩ := hg
            refine ra.si (nx := 149) 104 10 rfl rfl h13 ?_
            refine ra.s (pc' := 150) (st' := [.inr (some (11, 0))]) (fun _ => rfl) ?_
            refine ra.ga (x := 105) (nx := 153) (c := 13) (i := 81) rfl rfl ?_
            refine ra.s (pc' := 154) (st' := [.inr (some (11, 0)), .inr (some (13, 81))]) (fun _ => rfl) ?_
            refine ra.gi (x := 103) (nx := 157) (v := (A 103 0)) rfl rfl rfl ?_
            refine ra.s (pc' := 158) (st' := [.inl a2, .inl (A 103 0), .inr (some (13, 81))]) (fun _ => rfl) ?_
            refine ra.si (nx := 159) 105 10 rfl rfl h13 ?_
            refine ra.s (pc' := 160) (st' := [.inr (some (11, 0))]) (fun _ => rfl) ?_
            refine ra.ga (x := 106) (nx := 163) (c := 13) (i := 82) rfl rfl ?_
            refine ra.s (pc' := 164) (st' := [.inr (some (11, 0)), .inr (some (13, 82))]) (fun _ => rfl) ?_
            refine ra.gi (x := 103) (nx := 167) (v := (A 103 0)) rfl rfl rfl ?_
            refine ra.s (pc' := 168) (st' := [.inl a3, .inl (A 103 0), .inr (some (13, 82))]) (fun _ => rfl) ?_
            refine ra.si (nx := 169) 106 10 rfl rfl h13 ?_
            refine ra.s (pc' := 170) (st' := [.inr (some (11, 0))]) (fun _ => rfl) ?_
            refine ra.ga (x := 107) (nx := 173) (c := 13) (i := 83) rfl rfl ?_
            refine ra.s (pc' := 174) (st' := [.inr (some (11, 0)), .inr (some (13, 83))]) (fun _ => rfl) ?_
            refine ra.gi (x := 103) (nx := 177) (v := (A 103 0)) rfl rfl rfl ?_
            refine ra.s (pc' := 178) (st' := [.inl (0 : Int32), .inl (A 103 0), .inr (some (13, 83))]) (fun _ => rfl) ?_
            refine ra.si (nx := 179) 107 10 rfl rfl h13 ?_
            refine ra.s (pc' := 180) (st' := [.inr (some (11, 0))]) (fun _ => rfl) ?_
            refine ra.ga (x := 108) (nx := 183) (c := 13) (i := 84) rfl rfl ?_
            refine ra.s (pc' := 184) (st' := [.inr (some (11, 0)), .inr (some (13, 84))]) (fun _ => rfl) ?_
            refine ra.gi (x := 103) (nx := 187) (v := (A 103 0)) rfl rfl rfl ?_
            refine ra.s (pc' := 188) (st' := [.inl (-1 : Int32), .inl (A 103 0), .inr (some (13, 84))]) (fun _ => rfl) ?_
            refine ra.si (nx := 189) 108 10 rfl rfl h13 ?_
            refine ra.s (pc' := 190) (st' := [.inr (some (11, 0))]) (fun _ => rfl) ?_
            refine ra.ga (x := 109) (nx := 193) (c := 14) (i := 9) rfl rfl ?_
            refine ra.s (pc' := 194) (st' := [.inr (some (11, 0)), .inr (some (14, 9))]) (fun _ => rfl) ?_
            refine ra.gi (x := 103) (nx := 197) (v := (A 103 0)) rfl rfl rfl ?_
            refine ra.s (pc' := 198) (st' := [.inl (0 : Int32), .inl (A 103 0), .inr (some (14, 9))]) (fun _ => rfl) ?_
            refine ra.sz (nx := 199) 109 10 rfl rfl h13 (Or.inl rfl) ?_
            refine ra.s (pc' := 200) (st' := [.inr (some (11, 0))]) (fun _ => rfl) ?_
            refine ra.s (pc' := 201) (st' := [.inr (some (11, 0)), .inr (some (11, 0))]) (fun _ => rfl) ?_
            refine ra.gi (x := 103) (nx := 204) (v := (A 103 0)) rfl rfl rfl ?_
            refine ra.s (pc' := 205) (st' := [.inl (1 : Int32), .inl (A 103 0), .inr (some (11, 0))]) (fun _ => rfl) ?_
            refine ra.s (pc' := 206) (st' := [.inl ((A 103 0) + (1 : Int32)), .inr (some (11, 0))]) (fun _ => rfl) ?_
            refine ra.pi (x := 103) (nx := 209) rfl rfl ?_
            refine ra.s (pc' := 210) (st' := [.inr (some (11, 0))]) (fun _ => rfl) ?_
            refine ra.gi (x := 103) (nx := 213) (v := ((A 103 0) + (1 : Int32))) rfl rfl rfl ?_
            refine ra.s (pc' := 214) (st' := [.inl (1 : Int32), .inl ((A 103 0) + (1 : Int32))]) (fun _ => rfl) ?_
            refine ra.s (pc' := 215) (st' := [.inl (((A 103 0) + (1 : Int32)) - (1 : Int32))]) (fun _ => rfl) ?_
            subst hk
            exact ra.ret (r := some (.inl (((A 103 0) + (1 : Int32)) - (1 : Int32)))) (fun _ => rfl) ⟨rfl, rfl, rfl⟩
    · skip
      refine ra.s (pc' := 27) (st' := [.inl a1]) (fun _ => rfl) ?_
      refine ra.s (pc' := 28) (st' := [.inl (2 : Int32), .inl a1]) (fun _ => rfl) ?_
      refine ra.bn (c := a1 = (2 : Int32)) (cd := .ne) (x := a1) (y := (2 : Int32)) 42 31 (st' := []) (fun _ => rfl) (y_cne _ _) hk hg (fun h14 hg hk => ?_) (fun h14 hg hk => ?_)
      · skip
        refine ra.s (pc' := 32) (st' := [.inr (some (11, 0))]) (fun _ => rfl) ?_
        refine ra.s (pc' := 33) (st' := [.inl a2, .inr (some (11, 0))]) (fun _ => rfl) ?_
        refine ra.s (pc' := 34) (st' := [.inl (1 : Int32), .inl a2, .inr (some (11, 0))]) (fun _ => rfl) ?_
        obtain ⟨h15, hg⟩ := hg
        refine ra.cP (f := (rf_isGuard a2 (1 : Int32) A)) (m := 161) (as := [.inr (some (11, 0)), .inl a2, .inl (1 : Int32)]) (nx := 37) (L' := [some (.inr (some (11, 0))), some (.inl a1), some (.inl a2), some (.inl a3), none]) (st' := []) (fun _ => rfl) (rh_isGuard (by omega) h15) ?_
        refine ra.bn (c := (rf_isGuard a2 (1 : Int32) A) = (0 : Int32)) (cd := .ne) (x := (rf_isGuard a2 (1 : Int32) A)) (y := (0 : Int32)) 42 40 (st' := []) (fun _ => rfl) (y_cne _ _) hk hg (fun h16 hg hk => ?_) (fun h16 hg hk => ?_)
        · skip
          refine ra.s (pc' := 41) (st' := [.inl (-1 : Int32)]) (fun _ => rfl) ?_
          subst hk
          exact ra.ret (r := some (.inl (-1 : Int32))) (fun _ => rfl) ⟨rfl, rfl, rfl⟩
        · skip
          refine ra.s (pc' := 43) (st' := [.inl a1]) (fun _ => rfl) ?_
          refine ra.bt (cd := .ne) (x := a1) (y := (0 : Int32)) 58 46 (st' := []) (fun _ => rfl) (y_cne _ _) h1 ?_
          refine ra.s (pc' := 59) (st' := [.inl a1]) (fun _ => rfl) ?_
          refine ra.s (pc' := 60) (st' := [.inl (1 : Int32), .inl a1]) (fun _ => rfl) ?_
          refine ra.bt (cd := .ne) (x := a1) (y := (1 : Int32)) 75 63 (st' := []) (fun _ => rfl) (y_cne _ _) h7 ?_
          refine ra.s (pc' := 76) (st' := [.inl a1]) (fun _ => rfl) ?_
          refine ra.s (pc' := 77) (st' := [.inl (2 : Int32), .inl a1]) (fun _ => rfl) ?_
          refine ra.bf (cd := .ne) (x := a1) (y := (2 : Int32)) 91 80 (st' := []) (fun _ => rfl) (y_cne _ _) (fun z => z h14) ?_
          refine ra.s (pc' := 81) (st' := [.inr (some (11, 0))]) (fun _ => rfl) ?_
          refine ra.s (pc' := 82) (st' := [.inl a3, .inr (some (11, 0))]) (fun _ => rfl) ?_
          refine ra.s (pc' := 83) (st' := [.inl (1 : Int32), .inl a3, .inr (some (11, 0))]) (fun _ => rfl) ?_
          refine ra.s (pc' := 85) (st' := [.inl (10 : Int32), .inl (1 : Int32), .inl a3, .inr (some (11, 0))]) (fun _ => rfl) ?_
          obtain ⟨h17, hg⟩ := hg
          refine ra.cP (f := (rf_in a3 (1 : Int32) (10 : Int32) A)) (m := 124) (as := [.inr (some (11, 0)), .inl a3, .inl (1 : Int32), .inl (10 : Int32)]) (nx := 88) (L' := [some (.inr (some (11, 0))), some (.inl a1), some (.inl a2), some (.inl a3), none]) (st' := []) (fun _ => rfl) (rh_in (by omega) h17) ?_
          refine ra.s (pc' := 117) (st' := [.inl (rf_in a3 (1 : Int32) (10 : Int32) A)]) (fun _ => rfl) ?_
          refine ra.s (pc' := 119) (L' := [some (.inr (some (11, 0))), some (.inl a1), some (.inl a2), some (.inl a3), some (.inl (rf_in a3 (1 : Int32) (10 : Int32) A))]) (st' := []) (fun _ => rfl) ?_
          refine ra.s (pc' := 121) (st' := [.inl (rf_in a3 (1 : Int32) (10 : Int32) A)]) (fun _ => rfl) ?_
          refine ra.bn (c := (rf_in a3 (1 : Int32) (10 : Int32) A) = (0 : Int32)) (cd := .ne) (x := (rf_in a3 (1 : Int32) (10 : Int32) A)) (y := (0 : Int32)) 127 124 (st' := []) (fun _ => rfl) (y_cne _ _) hk hg (fun h18 hg hk => ?_) (fun h18 hg hk => ?_)
          · skip
            refine ra.s (pc' := 126) (st' := [.inl (-2 : Int32)]) (fun _ => rfl) ?_
            subst hk
            exact ra.ret (r := some (.inl (-2 : Int32))) (fun _ => rfl) ⟨rfl, rfl, rfl⟩
          · skip
            refine ra.s (pc' := 128) (st' := [.inr (some (11, 0))]) (fun _ => rfl) ?_
            refine ra.gi (x := 103) (nx := 131) (v := (A 103 0)) rfl rfl rfl ?_
            refine ra.s (pc' := 133) (st' := [.inl (10 : Int32), .inl (A 103 0)]) (fun _ => rfl) ?_
            refine ra.bn (c := (A 103 0) = (10 : Int32)) (cd := .ne) (x := (A 103 0)) (y := (10 : Int32)) 139 136 (st' := []) (fun _ => rfl) (y_cne _ _) hk hg (fun h19 hg hk => ?_) (fun h19 hg hk => ?_)
            · skip
              refine ra.s (pc' := 138) (st' := [.inl (-3 : Int32)]) (fun _ => rfl) ?_
              subst hk
              exact ra.ret (r := some (.inl (-3 : Int32))) (fun _ => rfl) ⟨rfl, rfl, rfl⟩
            · skip
              refine ra.s (pc' := 140) (st' := [.inr (some (11, 0))]) (fun _ => rfl) ?_
              refine ra.ga (x := 104) (nx := 143) (c := 13) (i := 80) rfl rfl ?_
              refine ra.s (pc' := 144) (st' := [.inr (some (11, 0)), .inr (some (13, 80))]) (fun _ => rfl) ?_
              refine ra.gi (x := 103) (nx := 147) (v := (A 103 0)) rfl rfl rfl ?_
              refine ra.s (pc' := 148) (st' := [.inl a1, .inl (A 103 0), .inr (some (13, 80))]) (fun _ => rfl) ?_
              obtain ⟨h20, hg⟩ := hg
              refine ra.si (nx := 149) 104 10 rfl rfl h20 ?_
              refine ra.s (pc' := 150) (st' := [.inr (some (11, 0))]) (fun _ => rfl) ?_
              refine ra.ga (x := 105) (nx := 153) (c := 13) (i := 81) rfl rfl ?_
              refine ra.s (pc' := 154) (st' := [.inr (some (11, 0)), .inr (some (13, 81))]) (fun _ => rfl) ?_
              refine ra.gi (x := 103) (nx := 157) (v := (A 103 0)) rfl rfl rfl ?_
              refine ra.s (pc' := 158) (st' := [.inl a2, .inl (A 103 0), .inr (some (13, 81))]) (fun _ => rfl) ?_
              refine ra.si (nx := 159) 105 10 rfl rfl h20 ?_
              refine ra.s (pc' := 160) (st' := [.inr (some (11, 0))]) (fun _ => rfl) ?_
              refine ra.ga (x := 106) (nx := 163) (c := 13) (i := 82) rfl rfl ?_
              refine ra.s (pc' := 164) (st' := [.inr (some (11, 0)), .inr (some (13, 82))]) (fun _ => rfl) ?_
              refine ra.gi (x := 103) (nx := 167) (v := (A 103 0)) rfl rfl rfl ?_
              refine ra.s (pc' := 168) (st' := [.inl a3, .inl (A 103 0), .inr (some (13, 82))]) (fun _ => rfl) ?_
              refine ra.si (nx := 169) 106 10 rfl rfl h20 ?_
              refine ra.s (pc' := 170) (st' := [.inr (some (11, 0))]) (fun _ => rfl) ?_
              refine ra.ga (x := 107) (nx := 173) (c := 13) (i := 83) rfl rfl ?_
              refine ra.s (pc' := 174) (st' := [.inr (some (11, 0)), .inr (some (13, 83))]) (fun _ => rfl) ?_
              refine ra.gi (x := 103) (nx := 177) (v := (A 103 0)) rfl rfl rfl ?_
              refine ra.s (pc' := 178) (st' := [.inl (0 : Int32), .inl (A 103 0), .inr (some (13, 83))]) (fun _ => rfl) ?_
              refine ra.si (nx := 179) 107 10 rfl rfl h20 ?_
              refine ra.s (pc' := 180) (st' := [.inr (some (11, 0))]) (fun _ => rfl) ?_
              refine ra.ga (x := 108) (nx := 183) (c := 13) (i := 84) rfl rfl ?_
              refine ra.s (pc' := 184) (st' := [.inr (some (11, 0)), .inr (some (13, 84))]) (fun _ => rfl) ?_
              refine ra.gi (x := 103) (nx := 187) (v := (A 103 0)) rfl rfl rfl ?_
              refine ra.s (pc' := 188) (st' := [.inl (-1 : Int32), .inl (A 103 0), .inr (some (13, 84))]) (fun _ => rfl) ?_
              refine ra.si (nx := 189) 108 10 rfl rfl h20 ?_
              refine ra.s (pc' := 190) (st' := [.inr (some (11, 0))]) (fun _ => rfl) ?_
              refine ra.ga (x := 109) (nx := 193) (c := 14) (i := 9) rfl rfl ?_
              refine ra.s (pc' := 194) (st' := [.inr (some (11, 0)), .inr (some (14, 9))]) (fun _ => rfl) ?_
              refine ra.gi (x := 103) (nx := 197) (v := (A 103 0)) rfl rfl rfl ?_
              refine ra.s (pc' := 198) (st' := [.inl (0 : Int32), .inl (A 103 0), .inr (some (14, 9))]) (fun _ => rfl) ?_
              refine ra.sz (nx := 199) 109 10 rfl rfl h20 (Or.inl rfl) ?_
              refine ra.s (pc' := 200) (st' := [.inr (some (11, 0))]) (fun _ => rfl) ?_
              refine ra.s (pc' := 201) (st' := [.inr (some (11, 0)), .inr (some (11, 0))]) (fun _ => rfl) ?_
              refine ra.gi (x := 103) (nx := 204) (v := (A 103 0)) rfl rfl rfl ?_
              refine ra.s (pc' := 205) (st' := [.inl (1 : Int32), .inl (A 103 0), .inr (some (11, 0))]) (fun _ => rfl) ?_
              refine ra.s (pc' := 206) (st' := [.inl ((A 103 0) + (1 : Int32)), .inr (some (11, 0))]) (fun _ => rfl) ?_
              refine ra.pi (x := 103) (nx := 209) rfl rfl ?_
              refine ra.s (pc' := 210) (st' := [.inr (some (11, 0))]) (fun _ => rfl) ?_
              refine ra.gi (x := 103) (nx := 213) (v := ((A 103 0) + (1 : Int32))) rfl rfl rfl ?_
              refine ra.s (pc' := 214) (st' := [.inl (1 : Int32), .inl ((A 103 0) + (1 : Int32))]) (fun _ => rfl) ?_
              refine ra.s (pc' := 215) (st' := [.inl (((A 103 0) + (1 : Int32)) - (1 : Int32))]) (fun _ => rfl) ?_
              subst hk
              exact ra.ret (r := some (.inl (((A 103 0) + (1 : Int32)) - (1 : Int32)))) (fun _ => rfl) ⟨rfl, rfl, rfl⟩
      · skip
        refine ra.s (pc' := 43) (st' := [.inl a1]) (fun _ => rfl) ?_
        refine ra.bt (cd := .ne) (x := a1) (y := (0 : Int32)) 58 46 (st' := []) (fun _ => rfl) (y_cne _ _) h1 ?_
        refine ra.s (pc' := 59) (st' := [.inl a1]) (fun _ => rfl) ?_
        refine ra.s (pc' := 60) (st' := [.inl (1 : Int32), .inl a1]) (fun _ => rfl) ?_
        refine ra.bt (cd := .ne) (x := a1) (y := (1 : Int32)) 75 63 (st' := []) (fun _ => rfl) (y_cne _ _) h7 ?_
        refine ra.s (pc' := 76) (st' := [.inl a1]) (fun _ => rfl) ?_
        refine ra.s (pc' := 77) (st' := [.inl (2 : Int32), .inl a1]) (fun _ => rfl) ?_
        refine ra.bt (cd := .ne) (x := a1) (y := (2 : Int32)) 91 80 (st' := []) (fun _ => rfl) (y_cne _ _) h14 ?_
        refine ra.s (pc' := 92) (st' := [.inl a1]) (fun _ => rfl) ?_
        refine ra.s (pc' := 93) (st' := [.inl (3 : Int32), .inl a1]) (fun _ => rfl) ?_
        refine ra.bn (c := a1 = (3 : Int32)) (cd := .ne) (x := a1) (y := (3 : Int32)) 116 96 (st' := []) (fun _ => rfl) (y_cne _ _) hk hg (fun h21 hg hk => ?_) (fun h21 hg hk => ?_)
        · skip
          refine ra.s (pc' := 97) (st' := [.inl a2]) (fun _ => rfl) ?_
          refine ra.bn (c := a2 = (0 : Int32)) (cd := .ne) (x := a2) (y := (0 : Int32)) 116 100 (st' := []) (fun _ => rfl) (y_cne _ _) hk hg (fun h22 hg hk => ?_) (fun h22 hg hk => ?_)
          · skip
            refine ra.s (pc' := 101) (st' := [.inr (some (11, 0))]) (fun _ => rfl) ?_
            refine ra.s (pc' := 102) (st' := [.inl a3, .inr (some (11, 0))]) (fun _ => rfl) ?_
            refine ra.s (pc' := 103) (st' := [.inl (0 : Int32), .inl a3, .inr (some (11, 0))]) (fun _ => rfl) ?_
            refine ra.s (pc' := 106) (st' := [.inl (1000000 : Int32), .inl (0 : Int32), .inl a3, .inr (some (11, 0))]) (fun _ => rfl) ?_
            obtain ⟨h23, hg⟩ := hg
            refine ra.cP (f := (rf_in a3 (0 : Int32) (1000000 : Int32) A)) (m := 124) (as := [.inr (some (11, 0)), .inl a3, .inl (0 : Int32), .inl (1000000 : Int32)]) (nx := 109) (L' := [some (.inr (some (11, 0))), some (.inl a1), some (.inl a2), some (.inl a3), none]) (st' := []) (fun _ => rfl) (rh_in (by omega) h23) ?_
            refine ra.b (c := (rf_in a3 (0 : Int32) (1000000 : Int32) A) = (0 : Int32)) (cd := .eq) (x := (rf_in a3 (0 : Int32) (1000000 : Int32) A)) (y := (0 : Int32)) 116 112 (st' := []) (fun _ => rfl) (y_ceq _ _) hk hg (fun h24 hg hk => ?_) (fun h24 hg hk => ?_)
            · skip
              refine ra.s (pc' := 117) (st' := [.inl (0 : Int32)]) (fun _ => rfl) ?_
              refine ra.s (pc' := 119) (L' := [some (.inr (some (11, 0))), some (.inl a1), some (.inl a2), some (.inl a3), some (.inl (0 : Int32))]) (st' := []) (fun _ => rfl) ?_
              refine ra.s (pc' := 121) (st' := [.inl (0 : Int32)]) (fun _ => rfl) ?_
              refine ra.bf (cd := .ne) (x := (0 : Int32)) (y := (0 : Int32)) 127 124 (st' := []) (fun _ => rfl) (y_cne _ _) (by decide) ?_
              refine ra.s (pc' := 126) (st' := [.inl (-2 : Int32)]) (fun _ => rfl) ?_
              subst hk
              exact ra.ret (r := some (.inl (-2 : Int32))) (fun _ => rfl) ⟨rfl, rfl, rfl⟩
            · skip
              refine ra.s (pc' := 113) (st' := [.inl (1 : Int32)]) (fun _ => rfl) ?_
              refine ra.s (pc' := 117) (st' := [.inl (1 : Int32)]) (fun _ => rfl) ?_
              refine ra.s (pc' := 119) (L' := [some (.inr (some (11, 0))), some (.inl a1), some (.inl a2), some (.inl a3), some (.inl (1 : Int32))]) (st' := []) (fun _ => rfl) ?_
              refine ra.s (pc' := 121) (st' := [.inl (1 : Int32)]) (fun _ => rfl) ?_
              refine ra.bt (cd := .ne) (x := (1 : Int32)) (y := (0 : Int32)) 127 124 (st' := []) (fun _ => rfl) (y_cne _ _) (by decide) ?_
              refine ra.s (pc' := 128) (st' := [.inr (some (11, 0))]) (fun _ => rfl) ?_
              refine ra.gi (x := 103) (nx := 131) (v := (A 103 0)) rfl rfl rfl ?_
              refine ra.s (pc' := 133) (st' := [.inl (10 : Int32), .inl (A 103 0)]) (fun _ => rfl) ?_
              refine ra.bn (c := (A 103 0) = (10 : Int32)) (cd := .ne) (x := (A 103 0)) (y := (10 : Int32)) 139 136 (st' := []) (fun _ => rfl) (y_cne _ _) hk hg (fun h25 hg hk => ?_) (fun h25 hg hk => ?_)
              · skip
                refine ra.s (pc' := 138) (st' := [.inl (-3 : Int32)]) (fun _ => rfl) ?_
                subst hk
                exact ra.ret (r := some (.inl (-3 : Int32))) (fun _ => rfl) ⟨rfl, rfl, rfl⟩
              · skip
                refine ra.s (pc' := 140) (st' := [.inr (some (11, 0))]) (fun _ => rfl) ?_
                refine ra.ga (x := 104) (nx := 143) (c := 13) (i := 80) rfl rfl ?_
                refine ra.s (pc' := 144) (st' := [.inr (some (11, 0)), .inr (some (13, 80))]) (fun _ => rfl) ?_
                refine ra.gi (x := 103) (nx := 147) (v := (A 103 0)) rfl rfl rfl ?_
                refine ra.s (pc' := 148) (st' := [.inl a1, .inl (A 103 0), .inr (some (13, 80))]) (fun _ => rfl) ?_
                obtain ⟨h26, hg⟩ := hg
                refine ra.si (nx := 149) 104 10 rfl rfl h26 ?_
                refine ra.s (pc' := 150) (st' := [.inr (some (11, 0))]) (fun _ => rfl) ?_
                refine ra.ga (x := 105) (nx := 153) (c := 13) (i := 81) rfl rfl ?_
                refine ra.s (pc' := 154) (st' := [.inr (some (11, 0)), .inr (some (13, 81))]) (fun _ => rfl) ?_
                refine ra.gi (x := 103) (nx := 157) (v := (A 103 0)) rfl rfl rfl ?_
                refine ra.s (pc' := 158) (st' := [.inl a2, .inl (A 103 0), .inr (some (13, 81))]) (fun _ => rfl) ?_
                refine ra.si (nx := 159) 105 10 rfl rfl h26 ?_
                refine ra.s (pc' := 160) (st' := [.inr (some (11, 0))]) (fun _ => rfl) ?_
                refine ra.ga (x := 106) (nx := 163) (c := 13) (i := 82) rfl rfl ?_
                refine ra.s (pc' := 164) (st' := [.inr (some (11, 0)), .inr (some (13, 82))]) (fun _ => rfl) ?_
                refine ra.gi (x := 103) (nx := 167) (v := (A 103 0)) rfl rfl rfl ?_
                refine ra.s (pc' := 168) (st' := [.inl a3, .inl (A 103 0), .inr (some (13, 82))]) (fun _ => rfl) ?_
                refine ra.si (nx := 169) 106 10 rfl rfl h26 ?_
                refine ra.s (pc' := 170) (st' := [.inr (some (11, 0))]) (fun _ => rfl) ?_
                refine ra.ga (x := 107) (nx := 173) (c := 13) (i := 83) rfl rfl ?_
                refine ra.s (pc' := 174) (st' := [.inr (some (11, 0)), .inr (some (13, 83))]) (fun _ => rfl) ?_
                refine ra.gi (x := 103) (nx := 177) (v := (A 103 0)) rfl rfl rfl ?_
                refine ra.s (pc' := 178) (st' := [.inl (0 : Int32), .inl (A 103 0), .inr (some (13, 83))]) (fun _ => rfl) ?_
                refine ra.si (nx := 179) 107 10 rfl rfl h26 ?_
                refine ra.s (pc' := 180) (st' := [.inr (some (11, 0))]) (fun _ => rfl) ?_
                refine ra.ga (x := 108) (nx := 183) (c := 13) (i := 84) rfl rfl ?_
                refine ra.s (pc' := 184) (st' := [.inr (some (11, 0)), .inr (some (13, 84))]) (fun _ => rfl) ?_
                refine ra.gi (x := 103) (nx := 187) (v := (A 103 0)) rfl rfl rfl ?_
                refine ra.s (pc' := 188) (st' := [.inl (-1 : Int32), .inl (A 103 0), .inr (some (13, 84))]) (fun _ => rfl) ?_
                refine ra.si (nx := 189) 108 10 rfl rfl h26 ?_
                refine ra.s (pc' := 190) (st' := [.inr (some (11, 0))]) (fun _ => rfl) ?_
                refine ra.ga (x := 109) (nx := 193) (c := 14) (i := 9) rfl rfl ?_
                refine ra.s (pc' := 194) (st' := [.inr (some (11, 0)), .inr (some (14, 9))]) (fun _ => rfl) ?_
                refine ra.gi (x := 103) (nx := 197) (v := (A 103 0)) rfl rfl rfl ?_
                refine ra.s (pc' := 198) (st' := [.inl (0 : Int32), .inl (A 103 0), .inr (some (14, 9))]) (fun _ => rfl) ?_
                refine ra.sz (nx := 199) 109 10 rfl rfl h26 (Or.inl rfl) ?_
                refine ra.s (pc' := 200) (st' := [.inr (some (11, 0))]) (fun _ => rfl) ?_
                refine ra.s (pc' := 201) (st' := [.inr (some (11, 0)), .inr (some (11, 0))]) (fun _ => rfl) ?_
                refine ra.gi (x := 103) (nx := 204) (v := (A 103 0)) rfl rfl rfl ?_
                refine ra.s (pc' := 205) (st' := [.inl (1 : Int32), .inl (A 103 0), .inr (some (11, 0))]) (fun _ => rfl) ?_
                refine ra.s (pc' := 206) (st' := [.inl ((A 103 0) + (1 : Int32)), .inr (some (11, 0))]) (fun _ => rfl) ?_
                refine ra.pi (x := 103) (nx := 209) rfl rfl ?_
                refine ra.s (pc' := 210) (st' := [.inr (some (11, 0))]) (fun _ => rfl) ?_
                refine ra.gi (x := 103) (nx := 213) (v := ((A 103 0) + (1 : Int32))) rfl rfl rfl ?_
                refine ra.s (pc' := 214) (st' := [.inl (1 : Int32), .inl ((A 103 0) + (1 : Int32))]) (fun _ => rfl) ?_
                refine ra.s (pc' := 215) (st' := [.inl (((A 103 0) + (1 : Int32)) - (1 : Int32))]) (fun _ => rfl) ?_
                subst hk
                exact ra.ret (r := some (.inl (((A 103 0) + (1 : Int32)) - (1 : Int32)))) (fun _ => rfl) ⟨rfl, rfl, rfl⟩
          · skip
            refine ra.s (pc' := 117) (st' := [.inl (0 : Int32)]) (fun _ => rfl) ?_
            refine ra.s (pc' := 119) (L' := [some (.inr (some (11, 0))), some (.inl a1), some (.inl a2), some (.inl a3), some (.inl (0 : Int32))]) (st' := []) (fun _ => rfl) ?_
            refine ra.s (pc' := 121) (st' := [.inl (0 : Int32)]) (fun _ => rfl) ?_
            refine ra.bf (cd := .ne) (x := (0 : Int32)) (y := (0 : Int32)) 127 124 (st' := []) (fun _ => rfl) (y_cne _ _) (by decide) ?_
            refine ra.s (pc' := 126) (st' := [.inl (-2 : Int32)]) (fun _ => rfl) ?_
            subst hk
            exact ra.ret (r := some (.inl (-2 : Int32))) (fun _ => rfl) ⟨rfl, rfl, rfl⟩
        · skip
          refine ra.s (pc' := 117) (st' := [.inl (0 : Int32)]) (fun _ => rfl) ?_
          refine ra.s (pc' := 119) (L' := [some (.inr (some (11, 0))), some (.inl a1), some (.inl a2), some (.inl a3), some (.inl (0 : Int32))]) (st' := []) (fun _ => rfl) ?_
          refine ra.s (pc' := 121) (st' := [.inl (0 : Int32)]) (fun _ => rfl) ?_
          refine ra.bf (cd := .ne) (x := (0 : Int32)) (y := (0 : Int32)) 127 124 (st' := []) (fun _ => rfl) (y_cne _ _) (by decide) ?_
          refine ra.s (pc' := 126) (st' := [.inl (-2 : Int32)]) (fun _ => rfl) ?_
          subst hk
          exact ra.ret (r := some (.inl (-2 : Int32))) (fun _ => rfl) ⟨rfl, rfl, rfl⟩
def rf_tryEnds_147 : Nat → Int32 → Int32 → Int32 → Int32 → Int32 → Int32 → y_A → List y_J → y_A × List y_J
  | 0, _, _, _, _, _, _, A, js => (A, js)
  | n + 1, l1, l2, l3, l4, l5, l6, A, js => (if (A 17 0) ≤ l6 then (if l4 = (1 : Int32) then (if (A 54 (y_ix l3)) ≤ (A 2 (y_ix l2)) then ((xm_u2 (xm_u2 (xm_u2 (xm_u2 (xm_u2 (xm_u2 (xm_u2 A 2 (y_ix l2) ((A 2 (y_ix l2)) + (-(A 54 (y_ix l3))))) 18 (y_ix (A 17 0)) l2) 19 (y_ix (A 17 0)) l3) 20 (y_ix (A 17 0)) l5) 21 (y_ix (A 17 0)) (-(A 54 (y_ix l3)))) 22 (y_ix (A 17 0)) (A 0 0)) 17 0 ((A 17 0) + (1 : Int32))), (((1 : Int32), l1, (1 : Int32), (A 54 (y_ix l3)), (0 : Int32)) :: js)) else ((xm_u2 (xm_u2 (xm_u2 (xm_u2 (xm_u2 (xm_u2 (xm_u2 A 24 (y_ix (A 23 0)) (5 : Int32)) 25 (y_ix (A 23 0)) (A 0 0)) 26 (y_ix (A 23 0)) (-1 : Int32)) 27 (y_ix (A 23 0)) l2) 28 (y_ix (A 23 0)) (-1 : Int32)) 29 (y_ix (A 23 0)) (-1 : Int32)) 23 0 ((A 23 0) + (1 : Int32))), (((1 : Int32), l1, (2 : Int32), (((A 23 0) + (1 : Int32)) - (1 : Int32)), (0 : Int32)) :: js))) else (if ((A 2 (y_ix l2)) + (A 54 (y_ix l3))) ≤ (A 3 (y_ix l2)) then ((xm_u2 (xm_u2 (xm_u2 (xm_u2 (xm_u2 (xm_u2 (xm_u2 A 2 (y_ix l2) ((A 2 (y_ix l2)) + (A 54 (y_ix l3)))) 18 (y_ix (A 17 0)) l2) 19 (y_ix (A 17 0)) l3) 20 (y_ix (A 17 0)) l5) 21 (y_ix (A 17 0)) (A 54 (y_ix l3))) 22 (y_ix (A 17 0)) (A 0 0)) 17 0 ((A 17 0) + (1 : Int32))), (((1 : Int32), l1, (1 : Int32), (A 54 (y_ix l3)), (0 : Int32)) :: js)) else ((xm_u2 (xm_u2 (xm_u2 (xm_u2 (xm_u2 (xm_u2 (xm_u2 A 24 (y_ix (A 23 0)) (6 : Int32)) 25 (y_ix (A 23 0)) (A 0 0)) 26 (y_ix (A 23 0)) (-1 : Int32)) 27 (y_ix (A 23 0)) l2) 28 (y_ix (A 23 0)) (-1 : Int32)) 29 (y_ix (A 23 0)) (-1 : Int32)) 23 0 ((A 23 0) + (1 : Int32))), (((1 : Int32), l1, (2 : Int32), (((A 23 0) + (1 : Int32)) - (1 : Int32)), (0 : Int32)) :: js)))) else (if l5 = (0 : Int32) then (rf_tryEnds_147 n l1 l2 l3 l4 l5 (l6 + (1 : Int32)) A js) else (if (A 20 (y_ix l6)) = l5 then (if (A 18 (y_ix l6)) = l2 then (if (0 : Int32) ≤ (A 21 (y_ix l6)) then (A, (((1 : Int32), l1, (1 : Int32), (A 21 (y_ix l6)), (0 : Int32)) :: js)) else (A, (((1 : Int32), l1, (1 : Int32), (-(A 21 (y_ix l6))), (0 : Int32)) :: js))) else (rf_tryEnds_147 n l1 l2 l3 l4 l5 (l6 + (1 : Int32)) A js)) else (rf_tryEnds_147 n l1 l2 l3 l4 l5 (l6 + (1 : Int32)) A js))))
def rg_tryEnds_147 : Nat → Int32 → Int32 → Int32 → Int32 → Int32 → Int32 → y_A → List y_J → Prop
  | 0, _, _, _, _, _, _, _, _ => False
  | n + 1, l1, l2, l3, l4, l5, l6, A, js => (((A 17 0) ≤ l6 → (y_in l3 60) ∧ ((l4 = (1 : Int32) → (y_in l2 8) ∧ (((A 54 (y_ix l3)) ≤ (A 2 (y_ix l2)) → (y_in (A 17 0) 4400) ∧ (js.length < 20000) ∧ True) ∧ (¬ (A 54 (y_ix l3)) ≤ (A 2 (y_ix l2)) → (rg_fails (5 : Int32) (-1 : Int32) l2 A) ∧ (js.length < 20000) ∧ True))) ∧ (¬ l4 = (1 : Int32) → (y_in l2 8) ∧ ((((A 2 (y_ix l2)) + (A 54 (y_ix l3))) ≤ (A 3 (y_ix l2)) → (y_in (A 17 0) 4400) ∧ (js.length < 20000) ∧ True) ∧ (¬ ((A 2 (y_ix l2)) + (A 54 (y_ix l3))) ≤ (A 3 (y_ix l2)) → (rg_fails (6 : Int32) (-1 : Int32) l2 A) ∧ (js.length < 20000) ∧ True))))) ∧ (¬ (A 17 0) ≤ l6 → ((l5 = (0 : Int32) → (rg_tryEnds_147 n l1 l2 l3 l4 l5 (l6 + (1 : Int32)) A js)) ∧ (¬ l5 = (0 : Int32) → (y_in l6 4400) ∧ (((A 20 (y_ix l6)) = l5 → (((A 18 (y_ix l6)) = l2 → (((0 : Int32) ≤ (A 21 (y_ix l6)) → (js.length < 20000) ∧ True) ∧ (¬ (0 : Int32) ≤ (A 21 (y_ix l6)) → (js.length < 20000) ∧ True))) ∧ (¬ (A 18 (y_ix l6)) = l2 → (rg_tryEnds_147 n l1 l2 l3 l4 l5 (l6 + (1 : Int32)) A js)))) ∧ (¬ (A 20 (y_ix l6)) = l5 → (rg_tryEnds_147 n l1 l2 l3 l4 l5 (l6 + (1 : Int32)) A js)))))))
theorem rh_tryEnds_147 {d : Nat} (hd : 1 ≤ d) {F : y_A × List y_J} (n : Nat) : ∀ (l1 l2 l3 l4 l5 l6 : Int32) (e7 : Option xm_V) (A : y_A) (js : List y_J), rg_tryEnds_147 n l1 l2 l3 l4 l5 l6 A js → rf_tryEnds_147 n l1 l2 l3 l4 l5 l6 A js = F → ra d 165 147 [some (.inr (some (11, 0))), some (.inl l1), some (.inl l2), some (.inl l3), some (.inl l4), some (.inl l5), some (.inl l6), e7] [] A js (y_V F) := by
  obtain ⟨d, rfl⟩ := Nat.exists_eq_add_of_le' hd
  induction n with
  | zero => intro l1 l2 l3 l4 l5 l6 e7 A js hg; exact hg.elim
  | succ n ih =>
    intro l1 l2 l3 l4 l5 l6 e7 A js hg hk
    unfold rg_tryEnds_147 at hg
    unfold rf_tryEnds_147 at hk
    refine ra.s (pc' := 149) (st' := [.inl l6]) (fun _ => rfl) ?_
    refine ra.s (pc' := 150) (st' := [.inr (some (11, 0)), .inl l6]) (fun _ => rfl) ?_
    refine ra.gi (x := 17) (nx := 153) (v := (A 17 0)) rfl rfl rfl ?_
    refine ra.b (c := (A 17 0) ≤ l6) (cd := .ge) (x := l6) (y := (A 17 0)) 230 156 (st' := []) (fun _ => rfl) (y_cge _ _) hk hg (fun h1 hg hk => ?_) (fun h1 hg hk => ?_)
    · skip
      refine ra.s (pc' := 231) (st' := [.inr (some (11, 0))]) (fun _ => rfl) ?_
      refine ra.ga (x := 54) (nx := 234) (c := 13) (i := 44) rfl rfl ?_
      refine ra.s (pc' := 235) (st' := [.inl l3, .inr (some (13, 44))]) (fun _ => rfl) ?_
      obtain ⟨h2, hg⟩ := hg
      refine ra.ld (nx := 236) (v := (A 54 (y_ix l3))) 54 60 rfl rfl h2 rfl ?_
      refine ra.s (pc' := 238) (L' := [some (.inr (some (11, 0))), some (.inl l1), some (.inl l2), some (.inl l3), some (.inl l4), some (.inl l5), some (.inl (A 54 (y_ix l3))), e7]) (st' := []) (fun _ => rfl) ?_
      refine ra.s (pc' := 240) (st' := [.inl l4]) (fun _ => rfl) ?_
      refine ra.s (pc' := 241) (st' := [.inl (1 : Int32), .inl l4]) (fun _ => rfl) ?_
      refine ra.bn (c := l4 = (1 : Int32)) (cd := .ne) (x := l4) (y := (1 : Int32)) 258 244 (st' := []) (fun _ => rfl) (y_cne _ _) hk hg (fun h3 hg hk => ?_) (fun h3 hg hk => ?_)
      · skip
        refine ra.s (pc' := 245) (st' := [.inr (some (11, 0))]) (fun _ => rfl) ?_
        refine ra.ga (x := 2) (nx := 248) (c := 13) (i := 0) rfl rfl ?_
        refine ra.s (pc' := 249) (st' := [.inl l2, .inr (some (13, 0))]) (fun _ => rfl) ?_
        obtain ⟨h4, hg⟩ := hg
        refine ra.ld (nx := 250) (v := (A 2 (y_ix l2))) 2 8 rfl rfl h4 rfl ?_
        refine ra.s (pc' := 252) (st' := [.inl (A 54 (y_ix l3)), .inl (A 2 (y_ix l2))]) (fun _ => rfl) ?_
        refine ra.b (c := (A 54 (y_ix l3)) ≤ (A 2 (y_ix l2))) (cd := .ge) (x := (A 2 (y_ix l2))) (y := (A 54 (y_ix l3))) 303 255 (st' := []) (fun _ => rfl) (y_cge _ _) hk hg (fun h5 hg hk => ?_) (fun h5 hg hk => ?_)
        · skip
          refine ra.s (pc' := 305) (st' := [.inl l4]) (fun _ => rfl) ?_
          refine ra.s (pc' := 306) (st' := [.inl (1 : Int32), .inl l4]) (fun _ => rfl) ?_
          refine ra.bf (cd := .ne) (x := l4) (y := (1 : Int32)) 315 309 (st' := []) (fun _ => rfl) (y_cne _ _) (fun z => z h3) ?_
          refine ra.s (pc' := 311) (st' := [.inl (A 54 (y_ix l3))]) (fun _ => rfl) ?_
          refine ra.s (pc' := 312) (st' := [.inl (-(A 54 (y_ix l3)))]) (fun _ => rfl) ?_
          refine ra.s (pc' := 317) (st' := [.inl (-(A 54 (y_ix l3)))]) (fun _ => rfl) ?_
          refine ra.s (pc' := 319) (L' := [some (.inr (some (11, 0))), some (.inl l1), some (.inl l2), some (.inl l3), some (.inl l4), some (.inl l5), some (.inl (A 54 (y_ix l3))), some (.inl (-(A 54 (y_ix l3))))]) (st' := []) (fun _ => rfl) ?_
          refine ra.s (pc' := 320) (st' := [.inr (some (11, 0))]) (fun _ => rfl) ?_
          refine ra.ga (x := 2) (nx := 323) (c := 13) (i := 0) rfl rfl ?_
          refine ra.s (pc' := 324) (st' := [.inl l2, .inr (some (13, 0))]) (fun _ => rfl) ?_
          refine ra.s (pc' := 325) (st' := [.inl l2, .inr (some (13, 0)), .inl l2, .inr (some (13, 0))]) (fun _ => rfl) ?_
          refine ra.ld (nx := 326) (v := (A 2 (y_ix l2))) 2 8 rfl rfl h4 rfl ?_
          refine ra.s (pc' := 328) (st' := [.inl (-(A 54 (y_ix l3))), .inl (A 2 (y_ix l2)), .inl l2, .inr (some (13, 0))]) (fun _ => rfl) ?_
          refine ra.s (pc' := 329) (st' := [.inl ((A 2 (y_ix l2)) + (-(A 54 (y_ix l3)))), .inl l2, .inr (some (13, 0))]) (fun _ => rfl) ?_
          refine ra.si (nx := 330) 2 8 rfl rfl h4 ?_
          refine ra.s (pc' := 331) (st' := [.inr (some (11, 0))]) (fun _ => rfl) ?_
          refine ra.ga (x := 18) (nx := 334) (c := 13) (i := 13) rfl rfl ?_
          refine ra.s (pc' := 335) (st' := [.inr (some (11, 0)), .inr (some (13, 13))]) (fun _ => rfl) ?_
          refine ra.gi (x := 17) (nx := 338) (v := (A 17 0)) rfl rfl rfl ?_
          refine ra.s (pc' := 339) (st' := [.inl l2, .inl (A 17 0), .inr (some (13, 13))]) (fun _ => rfl) ?_
          obtain ⟨h6, hg⟩ := hg
          refine ra.si (nx := 340) 18 4400 rfl rfl h6 ?_
          refine ra.s (pc' := 341) (st' := [.inr (some (11, 0))]) (fun _ => rfl) ?_
          refine ra.ga (x := 19) (nx := 344) (c := 13) (i := 14) rfl rfl ?_
          refine ra.s (pc' := 345) (st' := [.inr (some (11, 0)), .inr (some (13, 14))]) (fun _ => rfl) ?_
          refine ra.gi (x := 17) (nx := 348) (v := (A 17 0)) rfl rfl rfl ?_
          refine ra.s (pc' := 349) (st' := [.inl l3, .inl (A 17 0), .inr (some (13, 14))]) (fun _ => rfl) ?_
          refine ra.si (nx := 350) 19 4400 rfl rfl h6 ?_
          refine ra.s (pc' := 351) (st' := [.inr (some (11, 0))]) (fun _ => rfl) ?_
          refine ra.ga (x := 20) (nx := 354) (c := 13) (i := 15) rfl rfl ?_
          refine ra.s (pc' := 355) (st' := [.inr (some (11, 0)), .inr (some (13, 15))]) (fun _ => rfl) ?_
          refine ra.gi (x := 17) (nx := 358) (v := (A 17 0)) rfl rfl rfl ?_
          refine ra.s (pc' := 360) (st' := [.inl l5, .inl (A 17 0), .inr (some (13, 15))]) (fun _ => rfl) ?_
          refine ra.si (nx := 361) 20 4400 rfl rfl h6 ?_
          refine ra.s (pc' := 362) (st' := [.inr (some (11, 0))]) (fun _ => rfl) ?_
          refine ra.ga (x := 21) (nx := 365) (c := 13) (i := 16) rfl rfl ?_
          refine ra.s (pc' := 366) (st' := [.inr (some (11, 0)), .inr (some (13, 16))]) (fun _ => rfl) ?_
          refine ra.gi (x := 17) (nx := 369) (v := (A 17 0)) rfl rfl rfl ?_
          refine ra.s (pc' := 371) (st' := [.inl (-(A 54 (y_ix l3))), .inl (A 17 0), .inr (some (13, 16))]) (fun _ => rfl) ?_
          refine ra.si (nx := 372) 21 4400 rfl rfl h6 ?_
          refine ra.s (pc' := 373) (st' := [.inr (some (11, 0))]) (fun _ => rfl) ?_
          refine ra.ga (x := 22) (nx := 376) (c := 13) (i := 17) rfl rfl ?_
          refine ra.s (pc' := 377) (st' := [.inr (some (11, 0)), .inr (some (13, 17))]) (fun _ => rfl) ?_
          refine ra.gi (x := 17) (nx := 380) (v := (A 17 0)) rfl rfl rfl ?_
          refine ra.s (pc' := 381) (st' := [.inr (some (11, 0)), .inl (A 17 0), .inr (some (13, 17))]) (fun _ => rfl) ?_
          refine ra.gi (x := 0) (nx := 384) (v := (A 0 0)) rfl rfl rfl ?_
          refine ra.si (nx := 385) 22 4400 rfl rfl h6 ?_
          refine ra.s (pc' := 386) (st' := [.inr (some (11, 0))]) (fun _ => rfl) ?_
          refine ra.s (pc' := 387) (st' := [.inr (some (11, 0)), .inr (some (11, 0))]) (fun _ => rfl) ?_
          refine ra.gi (x := 17) (nx := 390) (v := (A 17 0)) rfl rfl rfl ?_
          refine ra.s (pc' := 391) (st' := [.inl (1 : Int32), .inl (A 17 0), .inr (some (11, 0))]) (fun _ => rfl) ?_
          refine ra.s (pc' := 392) (st' := [.inl ((A 17 0) + (1 : Int32)), .inr (some (11, 0))]) (fun _ => rfl) ?_
          refine ra.pi (x := 17) (nx := 395) rfl rfl ?_
          refine ra.s (pc' := 396) (st' := [.inr (some (11, 0))]) (fun _ => rfl) ?_
          refine ra.s (pc' := 397) (st' := [.inl (1 : Int32), .inr (some (11, 0))]) (fun _ => rfl) ?_
          refine ra.s (pc' := 398) (st' := [.inl l1, .inl (1 : Int32), .inr (some (11, 0))]) (fun _ => rfl) ?_
          refine ra.s (pc' := 399) (st' := [.inl (1 : Int32), .inl l1, .inl (1 : Int32), .inr (some (11, 0))]) (fun _ => rfl) ?_
          refine ra.s (pc' := 401) (st' := [.inl (A 54 (y_ix l3)), .inl (1 : Int32), .inl l1, .inl (1 : Int32), .inr (some (11, 0))]) (fun _ => rfl) ?_
          refine ra.s (pc' := 402) (st' := [.inl (0 : Int32), .inl (A 54 (y_ix l3)), .inl (1 : Int32), .inl l1, .inl (1 : Int32), .inr (some (11, 0))]) (fun _ => rfl) ?_
          obtain ⟨h7, hg⟩ := hg
          refine ra.cV (m := 131) (as := [.inr (some (11, 0)), .inl (1 : Int32), .inl l1, .inl (1 : Int32), .inl (A 54 (y_ix l3)), .inl (0 : Int32)]) (nx := 405) (L' := [some (.inr (some (11, 0))), some (.inl l1), some (.inl l2), some (.inl l3), some (.inl l4), some (.inl l5), some (.inl (A 54 (y_ix l3))), some (.inl (-(A 54 (y_ix l3))))]) (st' := []) (fun _ => rfl) (rh_add h7) ?_
          show ra _ _ _ _ _ (xm_u2 (xm_u2 (xm_u2 (xm_u2 (xm_u2 (xm_u2 (xm_u2 A 2 (y_ix l2) ((A 2 (y_ix l2)) + (-(A 54 (y_ix l3))))) 18 (y_ix (A 17 0)) l2) 19 (y_ix (A 17 0)) l3) 20 (y_ix (A 17 0)) l5) 21 (y_ix (A 17 0)) (-(A 54 (y_ix l3)))) 22 (y_ix (A 17 0)) (A 0 0)) 17 0 ((A 17 0) + (1 : Int32))) (((1 : Int32), l1, (1 : Int32), (A 54 (y_ix l3)), (0 : Int32)) :: js) _
          subst hk
          exact ra.ret (r := none) (fun _ => rfl) ⟨rfl, rfl, rfl⟩
        · skip
          refine ra.s (pc' := 276) (st' := []) (fun _ => rfl) ?_
          refine ra.s (pc' := 277) (st' := [.inr (some (11, 0))]) (fun _ => rfl) ?_
          refine ra.s (pc' := 278) (st' := [.inl (1 : Int32), .inr (some (11, 0))]) (fun _ => rfl) ?_
          refine ra.s (pc' := 279) (st' := [.inl l1, .inl (1 : Int32), .inr (some (11, 0))]) (fun _ => rfl) ?_
          refine ra.s (pc' := 280) (st' := [.inl (2 : Int32), .inl l1, .inl (1 : Int32), .inr (some (11, 0))]) (fun _ => rfl) ?_
          refine ra.s (pc' := 281) (st' := [.inr (some (11, 0)), .inl (2 : Int32), .inl l1, .inl (1 : Int32), .inr (some (11, 0))]) (fun _ => rfl) ?_
          refine ra.s (pc' := 283) (st' := [.inl l4, .inr (some (11, 0)), .inl (2 : Int32), .inl l1, .inl (1 : Int32), .inr (some (11, 0))]) (fun _ => rfl) ?_
          refine ra.s (pc' := 284) (st' := [.inl (1 : Int32), .inl l4, .inr (some (11, 0)), .inl (2 : Int32), .inl l1, .inl (1 : Int32), .inr (some (11, 0))]) (fun _ => rfl) ?_
          refine ra.bf (cd := .ne) (x := l4) (y := (1 : Int32)) 291 287 (st' := [.inr (some (11, 0)), .inl (2 : Int32), .inl l1, .inl (1 : Int32), .inr (some (11, 0))]) (fun _ => rfl) (y_cne _ _) (fun z => z h3) ?_
          refine ra.s (pc' := 288) (st' := [.inl (5 : Int32), .inr (some (11, 0)), .inl (2 : Int32), .inl l1, .inl (1 : Int32), .inr (some (11, 0))]) (fun _ => rfl) ?_
          refine ra.s (pc' := 293) (st' := [.inl (5 : Int32), .inr (some (11, 0)), .inl (2 : Int32), .inl l1, .inl (1 : Int32), .inr (some (11, 0))]) (fun _ => rfl) ?_
          refine ra.s (pc' := 294) (st' := [.inl (-1 : Int32), .inl (5 : Int32), .inr (some (11, 0)), .inl (2 : Int32), .inl l1, .inl (1 : Int32), .inr (some (11, 0))]) (fun _ => rfl) ?_
          refine ra.s (pc' := 295) (st' := [.inl l2, .inl (-1 : Int32), .inl (5 : Int32), .inr (some (11, 0)), .inl (2 : Int32), .inl l1, .inl (1 : Int32), .inr (some (11, 0))]) (fun _ => rfl) ?_
          obtain ⟨h8, hg⟩ := hg
          refine ra.cI (F := ((rf_fails (5 : Int32) (-1 : Int32) l2 A).1, (rf_fails (5 : Int32) (-1 : Int32) l2 A).2, js)) (m := 151) (as := [.inr (some (11, 0)), .inl (5 : Int32), .inl (-1 : Int32), .inl l2]) (nx := 298) (L' := [some (.inr (some (11, 0))), some (.inl l1), some (.inl l2), some (.inl l3), some (.inl l4), some (.inl l5), some (.inl (A 54 (y_ix l3))), e7]) (st' := [.inl (2 : Int32), .inl l1, .inl (1 : Int32), .inr (some (11, 0))]) (fun _ => rfl) (rh_fails (by omega) h8) ?_
          show ra _ _ _ _ [.inl (((A 23 0) + (1 : Int32)) - (1 : Int32)), .inl (2 : Int32), .inl l1, .inl (1 : Int32), .inr (some (11, 0))] (xm_u2 (xm_u2 (xm_u2 (xm_u2 (xm_u2 (xm_u2 (xm_u2 A 24 (y_ix (A 23 0)) (5 : Int32)) 25 (y_ix (A 23 0)) (A 0 0)) 26 (y_ix (A 23 0)) (-1 : Int32)) 27 (y_ix (A 23 0)) l2) 28 (y_ix (A 23 0)) (-1 : Int32)) 29 (y_ix (A 23 0)) (-1 : Int32)) 23 0 ((A 23 0) + (1 : Int32))) js _
          refine ra.s (pc' := 299) (st' := [.inl (0 : Int32), .inl (((A 23 0) + (1 : Int32)) - (1 : Int32)), .inl (2 : Int32), .inl l1, .inl (1 : Int32), .inr (some (11, 0))]) (fun _ => rfl) ?_
          obtain ⟨h9, hg⟩ := hg
          refine ra.cV (m := 131) (as := [.inr (some (11, 0)), .inl (1 : Int32), .inl l1, .inl (2 : Int32), .inl (((A 23 0) + (1 : Int32)) - (1 : Int32)), .inl (0 : Int32)]) (nx := 302) (L' := [some (.inr (some (11, 0))), some (.inl l1), some (.inl l2), some (.inl l3), some (.inl l4), some (.inl l5), some (.inl (A 54 (y_ix l3))), e7]) (st' := []) (fun _ => rfl) (rh_add h9) ?_
          show ra _ _ _ _ _ (xm_u2 (xm_u2 (xm_u2 (xm_u2 (xm_u2 (xm_u2 (xm_u2 A 24 (y_ix (A 23 0)) (5 : Int32)) 25 (y_ix (A 23 0)) (A 0 0)) 26 (y_ix (A 23 0)) (-1 : Int32)) 27 (y_ix (A 23 0)) l2) 28 (y_ix (A 23 0)) (-1 : Int32)) 29 (y_ix (A 23 0)) (-1 : Int32)) 23 0 ((A 23 0) + (1 : Int32))) (((1 : Int32), l1, (2 : Int32), (((A 23 0) + (1 : Int32)) - (1 : Int32)), (0 : Int32)) :: js) _
          subst hk
          exact ra.ret (r := none) (fun _ => rfl) ⟨rfl, rfl, rfl⟩
      · skip
        refine ra.s (pc' := 259) (st' := [.inr (some (11, 0))]) (fun _ => rfl) ?_
        refine ra.ga (x := 2) (nx := 262) (c := 13) (i := 0) rfl rfl ?_
        refine ra.s (pc' := 263) (st' := [.inl l2, .inr (some (13, 0))]) (fun _ => rfl) ?_
        obtain ⟨h10, hg⟩ := hg
        refine ra.ld (nx := 264) (v := (A 2 (y_ix l2))) 2 8 rfl rfl h10 rfl ?_
        refine ra.s (pc' := 266) (st' := [.inl (A 54 (y_ix l3)), .inl (A 2 (y_ix l2))]) (fun _ => rfl) ?_
        refine ra.s (pc' := 267) (st' := [.inl ((A 2 (y_ix l2)) + (A 54 (y_ix l3)))]) (fun _ => rfl) ?_
        refine ra.s (pc' := 268) (st' := [.inr (some (11, 0)), .inl ((A 2 (y_ix l2)) + (A 54 (y_ix l3)))]) (fun _ => rfl) ?_
        refine ra.ga (x := 3) (nx := 271) (c := 13) (i := 1) rfl rfl ?_
        refine ra.s (pc' := 272) (st' := [.inl l2, .inr (some (13, 1)), .inl ((A 2 (y_ix l2)) + (A 54 (y_ix l3)))]) (fun _ => rfl) ?_
        refine ra.ld (nx := 273) (v := (A 3 (y_ix l2))) 3 8 rfl rfl h10 rfl ?_
        refine ra.b (c := ((A 2 (y_ix l2)) + (A 54 (y_ix l3))) ≤ (A 3 (y_ix l2))) (cd := .le) (x := ((A 2 (y_ix l2)) + (A 54 (y_ix l3)))) (y := (A 3 (y_ix l2))) 303 276 (st' := []) (fun _ => rfl) (y_cle _ _) hk hg (fun h11 hg hk => ?_) (fun h11 hg hk => ?_)
        · skip
          refine ra.s (pc' := 305) (st' := [.inl l4]) (fun _ => rfl) ?_
          refine ra.s (pc' := 306) (st' := [.inl (1 : Int32), .inl l4]) (fun _ => rfl) ?_
          refine ra.bt (cd := .ne) (x := l4) (y := (1 : Int32)) 315 309 (st' := []) (fun _ => rfl) (y_cne _ _) h3 ?_
          refine ra.s (pc' := 317) (st' := [.inl (A 54 (y_ix l3))]) (fun _ => rfl) ?_
          refine ra.s (pc' := 319) (L' := [some (.inr (some (11, 0))), some (.inl l1), some (.inl l2), some (.inl l3), some (.inl l4), some (.inl l5), some (.inl (A 54 (y_ix l3))), some (.inl (A 54 (y_ix l3)))]) (st' := []) (fun _ => rfl) ?_
          refine ra.s (pc' := 320) (st' := [.inr (some (11, 0))]) (fun _ => rfl) ?_
          refine ra.ga (x := 2) (nx := 323) (c := 13) (i := 0) rfl rfl ?_
          refine ra.s (pc' := 324) (st' := [.inl l2, .inr (some (13, 0))]) (fun _ => rfl) ?_
          refine ra.s (pc' := 325) (st' := [.inl l2, .inr (some (13, 0)), .inl l2, .inr (some (13, 0))]) (fun _ => rfl) ?_
          refine ra.ld (nx := 326) (v := (A 2 (y_ix l2))) 2 8 rfl rfl h10 rfl ?_
          refine ra.s (pc' := 328) (st' := [.inl (A 54 (y_ix l3)), .inl (A 2 (y_ix l2)), .inl l2, .inr (some (13, 0))]) (fun _ => rfl) ?_
          refine ra.s (pc' := 329) (st' := [.inl ((A 2 (y_ix l2)) + (A 54 (y_ix l3))), .inl l2, .inr (some (13, 0))]) (fun _ => rfl) ?_
          refine ra.si (nx := 330) 2 8 rfl rfl h10 ?_
          refine ra.s (pc' := 331) (st' := [.inr (some (11, 0))]) (fun _ => rfl) ?_
          refine ra.ga (x := 18) (nx := 334) (c := 13) (i := 13) rfl rfl ?_
          refine ra.s (pc' := 335) (st' := [.inr (some (11, 0)), .inr (some (13, 13))]) (fun _ => rfl) ?_
          refine ra.gi (x := 17) (nx := 338) (v := (A 17 0)) rfl rfl rfl ?_
          refine ra.s (pc' := 339) (st' := [.inl l2, .inl (A 17 0), .inr (some (13, 13))]) (fun _ => rfl) ?_
          obtain ⟨h12, hg⟩ := hg
          refine ra.si (nx := 340) 18 4400 rfl rfl h12 ?_
          refine ra.s (pc' := 341) (st' := [.inr (some (11, 0))]) (fun _ => rfl) ?_
          refine ra.ga (x := 19) (nx := 344) (c := 13) (i := 14) rfl rfl ?_
          refine ra.s (pc' := 345) (st' := [.inr (some (11, 0)), .inr (some (13, 14))]) (fun _ => rfl) ?_
          refine ra.gi (x := 17) (nx := 348) (v := (A 17 0)) rfl rfl rfl ?_
          refine ra.s (pc' := 349) (st' := [.inl l3, .inl (A 17 0), .inr (some (13, 14))]) (fun _ => rfl) ?_
          refine ra.si (nx := 350) 19 4400 rfl rfl h12 ?_
          refine ra.s (pc' := 351) (st' := [.inr (some (11, 0))]) (fun _ => rfl) ?_
          refine ra.ga (x := 20) (nx := 354) (c := 13) (i := 15) rfl rfl ?_
          refine ra.s (pc' := 355) (st' := [.inr (some (11, 0)), .inr (some (13, 15))]) (fun _ => rfl) ?_
          refine ra.gi (x := 17) (nx := 358) (v := (A 17 0)) rfl rfl rfl ?_
          refine ra.s (pc' := 360) (st' := [.inl l5, .inl (A 17 0), .inr (some (13, 15))]) (fun _ => rfl) ?_
          refine ra.si (nx := 361) 20 4400 rfl rfl h12 ?_
          refine ra.s (pc' := 362) (st' := [.inr (some (11, 0))]) (fun _ => rfl) ?_
          refine ra.ga (x := 21) (nx := 365) (c := 13) (i := 16) rfl rfl ?_
          refine ra.s (pc' := 366) (st' := [.inr (some (11, 0)), .inr (some (13, 16))]) (fun _ => rfl) ?_
          refine ra.gi (x := 17) (nx := 369) (v := (A 17 0)) rfl rfl rfl ?_
          refine ra.s (pc' := 371) (st' := [.inl (A 54 (y_ix l3)), .inl (A 17 0), .inr (some (13, 16))]) (fun _ => rfl) ?_
          refine ra.si (nx := 372) 21 4400 rfl rfl h12 ?_
          refine ra.s (pc' := 373) (st' := [.inr (some (11, 0))]) (fun _ => rfl) ?_
          refine ra.ga (x := 22) (nx := 376) (c := 13) (i := 17) rfl rfl ?_
          refine ra.s (pc' := 377) (st' := [.inr (some (11, 0)), .inr (some (13, 17))]) (fun _ => rfl) ?_
          refine ra.gi (x := 17) (nx := 380) (v := (A 17 0)) rfl rfl rfl ?_
          refine ra.s (pc' := 381) (st' := [.inr (some (11, 0)), .inl (A 17 0), .inr (some (13, 17))]) (fun _ => rfl) ?_
          refine ra.gi (x := 0) (nx := 384) (v := (A 0 0)) rfl rfl rfl ?_
          refine ra.si (nx := 385) 22 4400 rfl rfl h12 ?_
          refine ra.s (pc' := 386) (st' := [.inr (some (11, 0))]) (fun _ => rfl) ?_
          refine ra.s (pc' := 387) (st' := [.inr (some (11, 0)), .inr (some (11, 0))]) (fun _ => rfl) ?_
          refine ra.gi (x := 17) (nx := 390) (v := (A 17 0)) rfl rfl rfl ?_
          refine ra.s (pc' := 391) (st' := [.inl (1 : Int32), .inl (A 17 0), .inr (some (11, 0))]) (fun _ => rfl) ?_
          refine ra.s (pc' := 392) (st' := [.inl ((A 17 0) + (1 : Int32)), .inr (some (11, 0))]) (fun _ => rfl) ?_
          refine ra.pi (x := 17) (nx := 395) rfl rfl ?_
          refine ra.s (pc' := 396) (st' := [.inr (some (11, 0))]) (fun _ => rfl) ?_
          refine ra.s (pc' := 397) (st' := [.inl (1 : Int32), .inr (some (11, 0))]) (fun _ => rfl) ?_
          refine ra.s (pc' := 398) (st' := [.inl l1, .inl (1 : Int32), .inr (some (11, 0))]) (fun _ => rfl) ?_
          refine ra.s (pc' := 399) (st' := [.inl (1 : Int32), .inl l1, .inl (1 : Int32), .inr (some (11, 0))]) (fun _ => rfl) ?_
          refine ra.s (pc' := 401) (st' := [.inl (A 54 (y_ix l3)), .inl (1 : Int32), .inl l1, .inl (1 : Int32), .inr (some (11, 0))]) (fun _ => rfl) ?_
          refine ra.s (pc' := 402) (st' := [.inl (0 : Int32), .inl (A 54 (y_ix l3)), .inl (1 : Int32), .inl l1, .inl (1 : Int32), .inr (some (11, 0))]) (fun _ => rfl) ?_
          obtain ⟨h13, hg⟩ := hg
          refine ra.cV (m := 131) (as := [.inr (some (11, 0)), .inl (1 : Int32), .inl l1, .inl (1 : Int32), .inl (A 54 (y_ix l3)), .inl (0 : Int32)]) (nx := 405) (L' := [some (.inr (some (11, 0))), some (.inl l1), some (.inl l2), some (.inl l3), some (.inl l4), some (.inl l5), some (.inl (A 54 (y_ix l3))), some (.inl (A 54 (y_ix l3)))]) (st' := []) (fun _ => rfl) (rh_add h13) ?_
          show ra _ _ _ _ _ (xm_u2 (xm_u2 (xm_u2 (xm_u2 (xm_u2 (xm_u2 (xm_u2 A 2 (y_ix l2) ((A 2 (y_ix l2)) + (A 54 (y_ix l3)))) 18 (y_ix (A 17 0)) l2) 19 (y_ix (A 17 0)) l3) 20 (y_ix (A 17 0)) l5) 21 (y_ix (A 17 0)) (A 54 (y_ix l3))) 22 (y_ix (A 17 0)) (A 0 0)) 17 0 ((A 17 0) + (1 : Int32))) (((1 : Int32), l1, (1 : Int32), (A 54 (y_ix l3)), (0 : Int32)) :: js) _
          subst hk
          exact ra.ret (r := none) (fun _ => rfl) ⟨rfl, rfl, rfl⟩
        · skip
          refine ra.s (pc' := 277) (st' := [.inr (some (11, 0))]) (fun _ => rfl) ?_
          refine ra.s (pc' := 278) (st' := [.inl (1 : Int32), .inr (some (11, 0))]) (fun _ => rfl) ?_
          refine ra.s (pc' := 279) (st' := [.inl l1, .inl (1 : Int32), .inr (some (11, 0))]) (fun _ => rfl) ?_
          refine ra.s (pc' := 280) (st' := [.inl (2 : Int32), .inl l1, .inl (1 : Int32), .inr (some (11, 0))]) (fun _ => rfl) ?_
          refine ra.s (pc' := 281) (st' := [.inr (some (11, 0)), .inl (2 : Int32), .inl l1, .inl (1 : Int32), .inr (some (11, 0))]) (fun _ => rfl) ?_
          refine ra.s (pc' := 283) (st' := [.inl l4, .inr (some (11, 0)), .inl (2 : Int32), .inl l1, .inl (1 : Int32), .inr (some (11, 0))]) (fun _ => rfl) ?_
          refine ra.s (pc' := 284) (st' := [.inl (1 : Int32), .inl l4, .inr (some (11, 0)), .inl (2 : Int32), .inl l1, .inl (1 : Int32), .inr (some (11, 0))]) (fun _ => rfl) ?_
          refine ra.bt (cd := .ne) (x := l4) (y := (1 : Int32)) 291 287 (st' := [.inr (some (11, 0)), .inl (2 : Int32), .inl l1, .inl (1 : Int32), .inr (some (11, 0))]) (fun _ => rfl) (y_cne _ _) h3 ?_
          refine ra.s (pc' := 293) (st' := [.inl (6 : Int32), .inr (some (11, 0)), .inl (2 : Int32), .inl l1, .inl (1 : Int32), .inr (some (11, 0))]) (fun _ => rfl) ?_
          refine ra.s (pc' := 294) (st' := [.inl (-1 : Int32), .inl (6 : Int32), .inr (some (11, 0)), .inl (2 : Int32), .inl l1, .inl (1 : Int32), .inr (some (11, 0))]) (fun _ => rfl) ?_
          refine ra.s (pc' := 295) (st' := [.inl l2, .inl (-1 : Int32), .inl (6 : Int32), .inr (some (11, 0)), .inl (2 : Int32), .inl l1, .inl (1 : Int32), .inr (some (11, 0))]) (fun _ => rfl) ?_
          obtain ⟨h14, hg⟩ := hg
          refine ra.cI (F := ((rf_fails (6 : Int32) (-1 : Int32) l2 A).1, (rf_fails (6 : Int32) (-1 : Int32) l2 A).2, js)) (m := 151) (as := [.inr (some (11, 0)), .inl (6 : Int32), .inl (-1 : Int32), .inl l2]) (nx := 298) (L' := [some (.inr (some (11, 0))), some (.inl l1), some (.inl l2), some (.inl l3), some (.inl l4), some (.inl l5), some (.inl (A 54 (y_ix l3))), e7]) (st' := [.inl (2 : Int32), .inl l1, .inl (1 : Int32), .inr (some (11, 0))]) (fun _ => rfl) (rh_fails (by omega) h14) ?_
          show ra _ _ _ _ [.inl (((A 23 0) + (1 : Int32)) - (1 : Int32)), .inl (2 : Int32), .inl l1, .inl (1 : Int32), .inr (some (11, 0))] (xm_u2 (xm_u2 (xm_u2 (xm_u2 (xm_u2 (xm_u2 (xm_u2 A 24 (y_ix (A 23 0)) (6 : Int32)) 25 (y_ix (A 23 0)) (A 0 0)) 26 (y_ix (A 23 0)) (-1 : Int32)) 27 (y_ix (A 23 0)) l2) 28 (y_ix (A 23 0)) (-1 : Int32)) 29 (y_ix (A 23 0)) (-1 : Int32)) 23 0 ((A 23 0) + (1 : Int32))) js _
          refine ra.s (pc' := 299) (st' := [.inl (0 : Int32), .inl (((A 23 0) + (1 : Int32)) - (1 : Int32)), .inl (2 : Int32), .inl l1, .inl (1 : Int32), .inr (some (11, 0))]) (fun _ => rfl) ?_
          obtain ⟨h15, hg⟩ := hg
          refine ra.cV (m := 131) (as := [.inr (some (11, 0)), .inl (1 : Int32), .inl l1, .inl (2 : Int32), .inl (((A 23 0) + (1 : Int32)) - (1 : Int32)), .inl (0 : Int32)]) (nx := 302) (L' := [some (.inr (some (11, 0))), some (.inl l1), some (.inl l2), some (.inl l3), some (.inl l4), some (.inl l5), some (.inl (A 54 (y_ix l3))), e7]) (st' := []) (fun _ => rfl) (rh_add h15) ?_
          show ra _ _ _ _ _ (xm_u2 (xm_u2 (xm_u2 (xm_u2 (xm_u2 (xm_u2 (xm_u2 A 24 (y_ix (A 23 0)) (6 : Int32)) 25 (y_ix (A 23 0)) (A 0 0)) 26 (y_ix (A 23 0)) (-1 : Int32)) 27 (y_ix (A 23 0)) l2) 28 (y_ix (A 23 0)) (-1 : Int32)) 29 (y_ix (A 23 0)) (-1 : Int32)) 23 0 ((A 23 0) + (1 : Int32))) (((1 : Int32), l1, (2 : Int32), (((A 23 0) + (1 : Int32)) - (1 : Int32)), (0 : Int32)) :: js) _
          subst hk
          exact ra.ret (r := none) (fun _ => rfl) ⟨rfl, rfl, rfl⟩
    · skip
      refine ra.s (pc' := 158) (st' := [.inl l5]) (fun _ => rfl) ?_
      refine ra.b (c := l5 = (0 : Int32)) (cd := .eq) (x := l5) (y := (0 : Int32)) 224 161 (st' := []) (fun _ => rfl) (y_ceq _ _) hk hg (fun h16 hg hk => ?_) (fun h16 hg hk => ?_)
      · skip
        refine ra.s (pc' := 227) (L' := [some (.inr (some (11, 0))), some (.inl l1), some (.inl l2), some (.inl l3), some (.inl l4), some (.inl l5), some (.inl (l6 + (1 : Int32))), e7]) (st' := []) (fun _ => rfl) ?_
        refine ra.s (pc' := 147) (st' := []) (fun _ => rfl) ?_
        exact ih l1 l2 l3 l4 l5 (l6 + (1 : Int32)) e7 A js hg hk
      · skip
        refine ra.s (pc' := 162) (st' := [.inr (some (11, 0))]) (fun _ => rfl) ?_
        refine ra.ga (x := 20) (nx := 165) (c := 13) (i := 15) rfl rfl ?_
        refine ra.s (pc' := 167) (st' := [.inl l6, .inr (some (13, 15))]) (fun _ => rfl) ?_
        obtain ⟨h17, hg⟩ := hg
        refine ra.ld (nx := 168) (v := (A 20 (y_ix l6))) 20 4400 rfl rfl h17 rfl ?_
        refine ra.s (pc' := 170) (st' := [.inl l5, .inl (A 20 (y_ix l6))]) (fun _ => rfl) ?_
        refine ra.bn (c := (A 20 (y_ix l6)) = l5) (cd := .ne) (x := (A 20 (y_ix l6))) (y := l5) 224 173 (st' := []) (fun _ => rfl) (y_cne _ _) hk hg (fun h18 hg hk => ?_) (fun h18 hg hk => ?_)
        · skip
          refine ra.s (pc' := 174) (st' := [.inr (some (11, 0))]) (fun _ => rfl) ?_
          refine ra.ga (x := 18) (nx := 177) (c := 13) (i := 13) rfl rfl ?_
          refine ra.s (pc' := 179) (st' := [.inl l6, .inr (some (13, 13))]) (fun _ => rfl) ?_
          refine ra.ld (nx := 180) (v := (A 18 (y_ix l6))) 18 4400 rfl rfl h17 rfl ?_
          refine ra.s (pc' := 181) (st' := [.inl l2, .inl (A 18 (y_ix l6))]) (fun _ => rfl) ?_
          refine ra.b (c := (A 18 (y_ix l6)) = l2) (cd := .eq) (x := (A 18 (y_ix l6))) (y := l2) 187 184 (st' := []) (fun _ => rfl) (y_ceq _ _) hk hg (fun h19 hg hk => ?_) (fun h19 hg hk => ?_)
          · skip
            refine ra.s (pc' := 188) (st' := [.inr (some (11, 0))]) (fun _ => rfl) ?_
            refine ra.s (pc' := 189) (st' := [.inl (1 : Int32), .inr (some (11, 0))]) (fun _ => rfl) ?_
            refine ra.s (pc' := 190) (st' := [.inl l1, .inl (1 : Int32), .inr (some (11, 0))]) (fun _ => rfl) ?_
            refine ra.s (pc' := 191) (st' := [.inl (1 : Int32), .inl l1, .inl (1 : Int32), .inr (some (11, 0))]) (fun _ => rfl) ?_
            refine ra.s (pc' := 192) (st' := [.inr (some (11, 0)), .inl (1 : Int32), .inl l1, .inl (1 : Int32), .inr (some (11, 0))]) (fun _ => rfl) ?_
            refine ra.ga (x := 21) (nx := 195) (c := 13) (i := 16) rfl rfl ?_
            refine ra.s (pc' := 197) (st' := [.inl l6, .inr (some (13, 16)), .inl (1 : Int32), .inl l1, .inl (1 : Int32), .inr (some (11, 0))]) (fun _ => rfl) ?_
            refine ra.ld (nx := 198) (v := (A 21 (y_ix l6))) 21 4400 rfl rfl h17 rfl ?_
            refine ra.b (c := (0 : Int32) ≤ (A 21 (y_ix l6))) (cd := .ge) (x := (A 21 (y_ix l6))) (y := (0 : Int32)) 212 201 (st' := [.inl (1 : Int32), .inl l1, .inl (1 : Int32), .inr (some (11, 0))]) (fun _ => rfl) (y_cge _ _) hk hg (fun h20 hg hk => ?_) (fun h20 hg hk => ?_)
            · skip
              refine ra.s (pc' := 213) (st' := [.inr (some (11, 0)), .inl (1 : Int32), .inl l1, .inl (1 : Int32), .inr (some (11, 0))]) (fun _ => rfl) ?_
              refine ra.ga (x := 21) (nx := 216) (c := 13) (i := 16) rfl rfl ?_
              refine ra.s (pc' := 218) (st' := [.inl l6, .inr (some (13, 16)), .inl (1 : Int32), .inl l1, .inl (1 : Int32), .inr (some (11, 0))]) (fun _ => rfl) ?_
              refine ra.ld (nx := 219) (v := (A 21 (y_ix l6))) 21 4400 rfl rfl h17 rfl ?_
              refine ra.s (pc' := 220) (st' := [.inl (0 : Int32), .inl (A 21 (y_ix l6)), .inl (1 : Int32), .inl l1, .inl (1 : Int32), .inr (some (11, 0))]) (fun _ => rfl) ?_
              obtain ⟨h21, hg⟩ := hg
              refine ra.cV (m := 131) (as := [.inr (some (11, 0)), .inl (1 : Int32), .inl l1, .inl (1 : Int32), .inl (A 21 (y_ix l6)), .inl (0 : Int32)]) (nx := 223) (L' := [some (.inr (some (11, 0))), some (.inl l1), some (.inl l2), some (.inl l3), some (.inl l4), some (.inl l5), some (.inl l6), e7]) (st' := []) (fun _ => rfl) (rh_add h21) ?_
              show ra _ _ _ _ _ A (((1 : Int32), l1, (1 : Int32), (A 21 (y_ix l6)), (0 : Int32)) :: js) _
              subst hk
              exact ra.ret (r := none) (fun _ => rfl) ⟨rfl, rfl, rfl⟩
            · skip
              refine ra.s (pc' := 202) (st' := [.inr (some (11, 0)), .inl (1 : Int32), .inl l1, .inl (1 : Int32), .inr (some (11, 0))]) (fun _ => rfl) ?_
              refine ra.ga (x := 21) (nx := 205) (c := 13) (i := 16) rfl rfl ?_
              refine ra.s (pc' := 207) (st' := [.inl l6, .inr (some (13, 16)), .inl (1 : Int32), .inl l1, .inl (1 : Int32), .inr (some (11, 0))]) (fun _ => rfl) ?_
              refine ra.ld (nx := 208) (v := (A 21 (y_ix l6))) 21 4400 rfl rfl h17 rfl ?_
              refine ra.s (pc' := 209) (st' := [.inl (-(A 21 (y_ix l6))), .inl (1 : Int32), .inl l1, .inl (1 : Int32), .inr (some (11, 0))]) (fun _ => rfl) ?_
              refine ra.s (pc' := 219) (st' := [.inl (-(A 21 (y_ix l6))), .inl (1 : Int32), .inl l1, .inl (1 : Int32), .inr (some (11, 0))]) (fun _ => rfl) ?_
              refine ra.s (pc' := 220) (st' := [.inl (0 : Int32), .inl (-(A 21 (y_ix l6))), .inl (1 : Int32), .inl l1, .inl (1 : Int32), .inr (some (11, 0))]) (fun _ => rfl) ?_
              obtain ⟨h22, hg⟩ := hg
              refine ra.cV (m := 131) (as := [.inr (some (11, 0)), .inl (1 : Int32), .inl l1, .inl (1 : Int32), .inl (-(A 21 (y_ix l6))), .inl (0 : Int32)]) (nx := 223) (L' := [some (.inr (some (11, 0))), some (.inl l1), some (.inl l2), some (.inl l3), some (.inl l4), some (.inl l5), some (.inl l6), e7]) (st' := []) (fun _ => rfl) (rh_add h22) ?_
              show ra _ _ _ _ _ A (((1 : Int32), l1, (1 : Int32), (-(A 21 (y_ix l6))), (0 : Int32)) :: js) _
              subst hk
              exact ra.ret (r := none) (fun _ => rfl) ⟨rfl, rfl, rfl⟩
          · skip
            refine ra.s (pc' := 224) (st' := []) (fun _ => rfl) ?_
            refine ra.s (pc' := 227) (L' := [some (.inr (some (11, 0))), some (.inl l1), some (.inl l2), some (.inl l3), some (.inl l4), some (.inl l5), some (.inl (l6 + (1 : Int32))), e7]) (st' := []) (fun _ => rfl) ?_
            refine ra.s (pc' := 147) (st' := []) (fun _ => rfl) ?_
            exact ih l1 l2 l3 l4 l5 (l6 + (1 : Int32)) e7 A js hg hk
        · skip
          refine ra.s (pc' := 227) (L' := [some (.inr (some (11, 0))), some (.inl l1), some (.inl l2), some (.inl l3), some (.inl l4), some (.inl l5), some (.inl (l6 + (1 : Int32))), e7]) (st' := []) (fun _ => rfl) ?_
          refine ra.s (pc' := 147) (st' := []) (fun _ => rfl) ?_
          exact ih l1 l2 l3 l4 l5 (l6 + (1 : Int32)) e7 A js hg hk
def rf_tryEnds_25 : Nat → Int32 → Int32 → Int32 → Int32 → Int32 → y_A → List y_J → y_A × List y_J
  | 0, _, _, _, _, _, A, js => (A, js)
  | n + 1, l1, l2, l3, l4, l5, A, js => (if (A 5 0) ≤ l5 then (if l4 = (0 : Int32) then (A, (((1 : Int32), l1, (1 : Int32), (A 2 (y_ix l2)), (0 : Int32)) :: js)) else (rf_tryEnds_147 20000 l1 l2 l3 l4 (A 55 (y_ix l3)) (0 : Int32) A js)) else (if (A 6 (y_ix l5)) = l2 then (if (A 7 (y_ix l5)) = l4 then (if (A 0 0) < (A 8 (y_ix l5)) then (rf_tryEnds_25 n l1 l2 l3 l4 (l5 + (1 : Int32)) A js) else (if (A 0 0) ≤ (A 9 (y_ix l5)) then ((xm_u2 (xm_u2 (xm_u2 (xm_u2 (xm_u2 (xm_u2 (xm_u2 A 24 (y_ix (A 23 0)) (A 10 (y_ix l5))) 25 (y_ix (A 23 0)) (A 0 0)) 26 (y_ix (A 23 0)) (-1 : Int32)) 27 (y_ix (A 23 0)) l2) 28 (y_ix (A 23 0)) (-1 : Int32)) 29 (y_ix (A 23 0)) (-1 : Int32)) 23 0 ((A 23 0) + (1 : Int32))), (((1 : Int32), l1, (2 : Int32), (((A 23 0) + (1 : Int32)) - (1 : Int32)), (0 : Int32)) :: js)) else (rf_tryEnds_25 n l1 l2 l3 l4 (l5 + (1 : Int32)) A js))) else (rf_tryEnds_25 n l1 l2 l3 l4 (l5 + (1 : Int32)) A js)) else (rf_tryEnds_25 n l1 l2 l3 l4 (l5 + (1 : Int32)) A js)))
def rg_tryEnds_25 : Nat → Int32 → Int32 → Int32 → Int32 → Int32 → y_A → List y_J → Prop
  | 0, _, _, _, _, _, _, _ => False
  | n + 1, l1, l2, l3, l4, l5, A, js => (((A 5 0) ≤ l5 → ((l4 = (0 : Int32) → (y_in l2 8) ∧ (js.length < 20000) ∧ True) ∧ (¬ l4 = (0 : Int32) → (y_in l3 60) ∧ (rg_tryEnds_147 20000 l1 l2 l3 l4 (A 55 (y_ix l3)) (0 : Int32) A js)))) ∧ (¬ (A 5 0) ≤ l5 → (y_in l5 30) ∧ (((A 6 (y_ix l5)) = l2 → (((A 7 (y_ix l5)) = l4 → (((A 0 0) < (A 8 (y_ix l5)) → (rg_tryEnds_25 n l1 l2 l3 l4 (l5 + (1 : Int32)) A js)) ∧ (¬ (A 0 0) < (A 8 (y_ix l5)) → (((A 0 0) ≤ (A 9 (y_ix l5)) → (rg_fails (A 10 (y_ix l5)) (-1 : Int32) l2 A) ∧ (js.length < 20000) ∧ True) ∧ (¬ (A 0 0) ≤ (A 9 (y_ix l5)) → (rg_tryEnds_25 n l1 l2 l3 l4 (l5 + (1 : Int32)) A js)))))) ∧ (¬ (A 7 (y_ix l5)) = l4 → (rg_tryEnds_25 n l1 l2 l3 l4 (l5 + (1 : Int32)) A js)))) ∧ (¬ (A 6 (y_ix l5)) = l2 → (rg_tryEnds_25 n l1 l2 l3 l4 (l5 + (1 : Int32)) A js)))))
theorem rh_tryEnds_25 {d : Nat} (hd : 1 ≤ d) {F : y_A × List y_J} (n : Nat) : ∀ (l1 l2 l3 l4 l5 : Int32) (e6 e7 : Option xm_V) (A : y_A) (js : List y_J), rg_tryEnds_25 n l1 l2 l3 l4 l5 A js → rf_tryEnds_25 n l1 l2 l3 l4 l5 A js = F → ra d 165 25 [some (.inr (some (11, 0))), some (.inl l1), some (.inl l2), some (.inl l3), some (.inl l4), some (.inl l5), e6, e7] [] A js (y_V F) := by
  obtain ⟨d, rfl⟩ := Nat.exists_eq_add_of_le' hd
  induction n with
  | zero => intro l1 l2 l3 l4 l5 e6 e7 A js hg; exact hg.elim
  | succ n ih =>
    intro l1 l2 l3 l4 l5 e6 e7 A js hg hk
    unfold rg_tryEnds_25 at hg
    unfold rf_tryEnds_25 at hk
    refine ra.s (pc' := 27) (st' := [.inl l5]) (fun _ => rfl) ?_
    refine ra.s (pc' := 28) (st' := [.inr (some (11, 0)), .inl l5]) (fun _ => rfl) ?_
    refine ra.gi (x := 5) (nx := 31) (v := (A 5 0)) rfl rfl rfl ?_
    refine ra.b (c := (A 5 0) ≤ l5) (cd := .ge) (x := l5) (y := (A 5 0)) 116 34 (st' := []) (fun _ => rfl) (y_cge _ _) hk hg (fun h1 hg hk => ?_) (fun h1 hg hk => ?_)
    · skip
      refine ra.s (pc' := 118) (st' := [.inl l4]) (fun _ => rfl) ?_
      refine ra.bn (c := l4 = (0 : Int32)) (cd := .ne) (x := l4) (y := (0 : Int32)) 136 121 (st' := []) (fun _ => rfl) (y_cne _ _) hk hg (fun h2 hg hk => ?_) (fun h2 hg hk => ?_)
      · skip
        refine ra.s (pc' := 122) (st' := [.inr (some (11, 0))]) (fun _ => rfl) ?_
        refine ra.s (pc' := 123) (st' := [.inl (1 : Int32), .inr (some (11, 0))]) (fun _ => rfl) ?_
        refine ra.s (pc' := 124) (st' := [.inl l1, .inl (1 : Int32), .inr (some (11, 0))]) (fun _ => rfl) ?_
        refine ra.s (pc' := 125) (st' := [.inl (1 : Int32), .inl l1, .inl (1 : Int32), .inr (some (11, 0))]) (fun _ => rfl) ?_
        refine ra.s (pc' := 126) (st' := [.inr (some (11, 0)), .inl (1 : Int32), .inl l1, .inl (1 : Int32), .inr (some (11, 0))]) (fun _ => rfl) ?_
        refine ra.ga (x := 2) (nx := 129) (c := 13) (i := 0) rfl rfl ?_
        refine ra.s (pc' := 130) (st' := [.inl l2, .inr (some (13, 0)), .inl (1 : Int32), .inl l1, .inl (1 : Int32), .inr (some (11, 0))]) (fun _ => rfl) ?_
        obtain ⟨h3, hg⟩ := hg
        refine ra.ld (nx := 131) (v := (A 2 (y_ix l2))) 2 8 rfl rfl h3 rfl ?_
        refine ra.s (pc' := 132) (st' := [.inl (0 : Int32), .inl (A 2 (y_ix l2)), .inl (1 : Int32), .inl l1, .inl (1 : Int32), .inr (some (11, 0))]) (fun _ => rfl) ?_
        obtain ⟨h4, hg⟩ := hg
        refine ra.cV (m := 131) (as := [.inr (some (11, 0)), .inl (1 : Int32), .inl l1, .inl (1 : Int32), .inl (A 2 (y_ix l2)), .inl (0 : Int32)]) (nx := 135) (L' := [some (.inr (some (11, 0))), some (.inl l1), some (.inl l2), some (.inl l3), some (.inl l4), some (.inl l5), e6, e7]) (st' := []) (fun _ => rfl) (rh_add h4) ?_
        show ra _ _ _ _ _ A (((1 : Int32), l1, (1 : Int32), (A 2 (y_ix l2)), (0 : Int32)) :: js) _
        subst hk
        exact ra.ret (r := none) (fun _ => rfl) ⟨rfl, rfl, rfl⟩
      · skip
        refine ra.s (pc' := 137) (st' := [.inr (some (11, 0))]) (fun _ => rfl) ?_
        refine ra.ga (x := 55) (nx := 140) (c := 13) (i := 45) rfl rfl ?_
        refine ra.s (pc' := 141) (st' := [.inl l3, .inr (some (13, 45))]) (fun _ => rfl) ?_
        obtain ⟨h5, hg⟩ := hg
        refine ra.ld (nx := 142) (v := (A 55 (y_ix l3))) 55 60 rfl rfl h5 rfl ?_
        refine ra.s (pc' := 144) (L' := [some (.inr (some (11, 0))), some (.inl l1), some (.inl l2), some (.inl l3), some (.inl l4), some (.inl (A 55 (y_ix l3))), e6, e7]) (st' := []) (fun _ => rfl) ?_
        refine ra.s (pc' := 145) (st' := [.inl (0 : Int32)]) (fun _ => rfl) ?_
        refine ra.s (pc' := 147) (L' := [some (.inr (some (11, 0))), some (.inl l1), some (.inl l2), some (.inl l3), some (.inl l4), some (.inl (A 55 (y_ix l3))), some (.inl (0 : Int32)), e7]) (st' := []) (fun _ => rfl) ?_
        exact rh_tryEnds_147 (by omega) 20000 l1 l2 l3 l4 (A 55 (y_ix l3)) (0 : Int32) e7 A js hg hk
    · skip
      refine ra.s (pc' := 35) (st' := [.inr (some (11, 0))]) (fun _ => rfl) ?_
      refine ra.ga (x := 6) (nx := 38) (c := 13) (i := 3) rfl rfl ?_
      refine ra.s (pc' := 40) (st' := [.inl l5, .inr (some (13, 3))]) (fun _ => rfl) ?_
      obtain ⟨h6, hg⟩ := hg
      refine ra.ld (nx := 41) (v := (A 6 (y_ix l5))) 6 30 rfl rfl h6 rfl ?_
      refine ra.s (pc' := 42) (st' := [.inl l2, .inl (A 6 (y_ix l5))]) (fun _ => rfl) ?_
      refine ra.bn (c := (A 6 (y_ix l5)) = l2) (cd := .ne) (x := (A 6 (y_ix l5))) (y := l2) 110 45 (st' := []) (fun _ => rfl) (y_cne _ _) hk hg (fun h7 hg hk => ?_) (fun h7 hg hk => ?_)
      · skip
        refine ra.s (pc' := 46) (st' := [.inr (some (11, 0))]) (fun _ => rfl) ?_
        refine ra.ga (x := 7) (nx := 49) (c := 13) (i := 4) rfl rfl ?_
        refine ra.s (pc' := 51) (st' := [.inl l5, .inr (some (13, 4))]) (fun _ => rfl) ?_
        refine ra.ld (nx := 52) (v := (A 7 (y_ix l5))) 7 30 rfl rfl h6 rfl ?_
        refine ra.s (pc' := 54) (st' := [.inl l4, .inl (A 7 (y_ix l5))]) (fun _ => rfl) ?_
        refine ra.bn (c := (A 7 (y_ix l5)) = l4) (cd := .ne) (x := (A 7 (y_ix l5))) (y := l4) 110 57 (st' := []) (fun _ => rfl) (y_cne _ _) hk hg (fun h8 hg hk => ?_) (fun h8 hg hk => ?_)
        · skip
          refine ra.s (pc' := 58) (st' := [.inr (some (11, 0))]) (fun _ => rfl) ?_
          refine ra.gi (x := 0) (nx := 61) (v := (A 0 0)) rfl rfl rfl ?_
          refine ra.s (pc' := 62) (st' := [.inr (some (11, 0)), .inl (A 0 0)]) (fun _ => rfl) ?_
          refine ra.ga (x := 8) (nx := 65) (c := 13) (i := 5) rfl rfl ?_
          refine ra.s (pc' := 67) (st' := [.inl l5, .inr (some (13, 5)), .inl (A 0 0)]) (fun _ => rfl) ?_
          refine ra.ld (nx := 68) (v := (A 8 (y_ix l5))) 8 30 rfl rfl h6 rfl ?_
          refine ra.b (c := (A 0 0) < (A 8 (y_ix l5))) (cd := .lt) (x := (A 0 0)) (y := (A 8 (y_ix l5))) 110 71 (st' := []) (fun _ => rfl) (y_clt _ _) hk hg (fun h9 hg hk => ?_) (fun h9 hg hk => ?_)
          · skip
            refine ra.s (pc' := 113) (L' := [some (.inr (some (11, 0))), some (.inl l1), some (.inl l2), some (.inl l3), some (.inl l4), some (.inl (l5 + (1 : Int32))), e6, e7]) (st' := []) (fun _ => rfl) ?_
            refine ra.s (pc' := 25) (st' := []) (fun _ => rfl) ?_
            exact ih l1 l2 l3 l4 (l5 + (1 : Int32)) e6 e7 A js hg hk
          · skip
            refine ra.s (pc' := 72) (st' := [.inr (some (11, 0))]) (fun _ => rfl) ?_
            refine ra.gi (x := 0) (nx := 75) (v := (A 0 0)) rfl rfl rfl ?_
            refine ra.s (pc' := 76) (st' := [.inr (some (11, 0)), .inl (A 0 0)]) (fun _ => rfl) ?_
            refine ra.ga (x := 9) (nx := 79) (c := 13) (i := 6) rfl rfl ?_
            refine ra.s (pc' := 81) (st' := [.inl l5, .inr (some (13, 6)), .inl (A 0 0)]) (fun _ => rfl) ?_
            refine ra.ld (nx := 82) (v := (A 9 (y_ix l5))) 9 30 rfl rfl h6 rfl ?_
            refine ra.b (c := (A 0 0) ≤ (A 9 (y_ix l5))) (cd := .le) (x := (A 0 0)) (y := (A 9 (y_ix l5))) 88 85 (st' := []) (fun _ => rfl) (y_cle _ _) hk hg (fun h10 hg hk => ?_) (fun h10 hg hk => ?_)
            · skip
              refine ra.s (pc' := 89) (st' := [.inr (some (11, 0))]) (fun _ => rfl) ?_
              refine ra.s (pc' := 90) (st' := [.inl (1 : Int32), .inr (some (11, 0))]) (fun _ => rfl) ?_
              refine ra.s (pc' := 91) (st' := [.inl l1, .inl (1 : Int32), .inr (some (11, 0))]) (fun _ => rfl) ?_
              refine ra.s (pc' := 92) (st' := [.inl (2 : Int32), .inl l1, .inl (1 : Int32), .inr (some (11, 0))]) (fun _ => rfl) ?_
              refine ra.s (pc' := 93) (st' := [.inr (some (11, 0)), .inl (2 : Int32), .inl l1, .inl (1 : Int32), .inr (some (11, 0))]) (fun _ => rfl) ?_
              refine ra.s (pc' := 94) (st' := [.inr (some (11, 0)), .inr (some (11, 0)), .inl (2 : Int32), .inl l1, .inl (1 : Int32), .inr (some (11, 0))]) (fun _ => rfl) ?_
              refine ra.ga (x := 10) (nx := 97) (c := 13) (i := 7) rfl rfl ?_
              refine ra.s (pc' := 99) (st' := [.inl l5, .inr (some (13, 7)), .inr (some (11, 0)), .inl (2 : Int32), .inl l1, .inl (1 : Int32), .inr (some (11, 0))]) (fun _ => rfl) ?_
              refine ra.ld (nx := 100) (v := (A 10 (y_ix l5))) 10 30 rfl rfl h6 rfl ?_
              refine ra.s (pc' := 101) (st' := [.inl (-1 : Int32), .inl (A 10 (y_ix l5)), .inr (some (11, 0)), .inl (2 : Int32), .inl l1, .inl (1 : Int32), .inr (some (11, 0))]) (fun _ => rfl) ?_
              refine ra.s (pc' := 102) (st' := [.inl l2, .inl (-1 : Int32), .inl (A 10 (y_ix l5)), .inr (some (11, 0)), .inl (2 : Int32), .inl l1, .inl (1 : Int32), .inr (some (11, 0))]) (fun _ => rfl) ?_
              obtain ⟨h11, hg⟩ := hg
              refine ra.cI (F := ((rf_fails (A 10 (y_ix l5)) (-1 : Int32) l2 A).1, (rf_fails (A 10 (y_ix l5)) (-1 : Int32) l2 A).2, js)) (m := 151) (as := [.inr (some (11, 0)), .inl (A 10 (y_ix l5)), .inl (-1 : Int32), .inl l2]) (nx := 105) (L' := [some (.inr (some (11, 0))), some (.inl l1), some (.inl l2), some (.inl l3), some (.inl l4), some (.inl l5), e6, e7]) (st' := [.inl (2 : Int32), .inl l1, .inl (1 : Int32), .inr (some (11, 0))]) (fun _ => rfl) (rh_fails (by omega) h11) ?_
              show ra _ _ _ _ [.inl (((A 23 0) + (1 : Int32)) - (1 : Int32)), .inl (2 : Int32), .inl l1, .inl (1 : Int32), .inr (some (11, 0))] (xm_u2 (xm_u2 (xm_u2 (xm_u2 (xm_u2 (xm_u2 (xm_u2 A 24 (y_ix (A 23 0)) (A 10 (y_ix l5))) 25 (y_ix (A 23 0)) (A 0 0)) 26 (y_ix (A 23 0)) (-1 : Int32)) 27 (y_ix (A 23 0)) l2) 28 (y_ix (A 23 0)) (-1 : Int32)) 29 (y_ix (A 23 0)) (-1 : Int32)) 23 0 ((A 23 0) + (1 : Int32))) js _
              refine ra.s (pc' := 106) (st' := [.inl (0 : Int32), .inl (((A 23 0) + (1 : Int32)) - (1 : Int32)), .inl (2 : Int32), .inl l1, .inl (1 : Int32), .inr (some (11, 0))]) (fun _ => rfl) ?_
              obtain ⟨h12, hg⟩ := hg
              refine ra.cV (m := 131) (as := [.inr (some (11, 0)), .inl (1 : Int32), .inl l1, .inl (2 : Int32), .inl (((A 23 0) + (1 : Int32)) - (1 : Int32)), .inl (0 : Int32)]) (nx := 109) (L' := [some (.inr (some (11, 0))), some (.inl l1), some (.inl l2), some (.inl l3), some (.inl l4), some (.inl l5), e6, e7]) (st' := []) (fun _ => rfl) (rh_add h12) ?_
              show ra _ _ _ _ _ (xm_u2 (xm_u2 (xm_u2 (xm_u2 (xm_u2 (xm_u2 (xm_u2 A 24 (y_ix (A 23 0)) (A 10 (y_ix l5))) 25 (y_ix (A 23 0)) (A 0 0)) 26 (y_ix (A 23 0)) (-1 : Int32)) 27 (y_ix (A 23 0)) l2) 28 (y_ix (A 23 0)) (-1 : Int32)) 29 (y_ix (A 23 0)) (-1 : Int32)) 23 0 ((A 23 0) + (1 : Int32))) (((1 : Int32), l1, (2 : Int32), (((A 23 0) + (1 : Int32)) - (1 : Int32)), (0 : Int32)) :: js) _
              subst hk
              exact ra.ret (r := none) (fun _ => rfl) ⟨rfl, rfl, rfl⟩
            · skip
              refine ra.s (pc' := 110) (st' := []) (fun _ => rfl) ?_
              refine ra.s (pc' := 113) (L' := [some (.inr (some (11, 0))), some (.inl l1), some (.inl l2), some (.inl l3), some (.inl l4), some (.inl (l5 + (1 : Int32))), e6, e7]) (st' := []) (fun _ => rfl) ?_
              refine ra.s (pc' := 25) (st' := []) (fun _ => rfl) ?_
              exact ih l1 l2 l3 l4 (l5 + (1 : Int32)) e6 e7 A js hg hk
        · skip
          refine ra.s (pc' := 113) (L' := [some (.inr (some (11, 0))), some (.inl l1), some (.inl l2), some (.inl l3), some (.inl l4), some (.inl (l5 + (1 : Int32))), e6, e7]) (st' := []) (fun _ => rfl) ?_
          refine ra.s (pc' := 25) (st' := []) (fun _ => rfl) ?_
          exact ih l1 l2 l3 l4 (l5 + (1 : Int32)) e6 e7 A js hg hk
      · skip
        refine ra.s (pc' := 113) (L' := [some (.inr (some (11, 0))), some (.inl l1), some (.inl l2), some (.inl l3), some (.inl l4), some (.inl (l5 + (1 : Int32))), e6, e7]) (st' := []) (fun _ => rfl) ?_
        refine ra.s (pc' := 25) (st' := []) (fun _ => rfl) ?_
        exact ih l1 l2 l3 l4 (l5 + (1 : Int32)) e6 e7 A js hg hk
/-- tryEnds -/
def rf_tryEnds (a1 : Int32) (A : y_A) (js : List y_J) : y_A × List y_J := (rf_tryEnds_25 20000 a1 (A 66 (y_ix a1)) (A 62 (y_ix a1)) (A 53 (y_ix (A 62 (y_ix a1)))) (0 : Int32) A js)
def rg_tryEnds (a1 : Int32) (A : y_A) (js : List y_J) : Prop := (y_in a1 4400) ∧ (y_in (A 62 (y_ix a1)) 60) ∧ (rg_tryEnds_25 20000 a1 (A 66 (y_ix a1)) (A 62 (y_ix a1)) (A 53 (y_ix (A 62 (y_ix a1)))) (0 : Int32) A js)
theorem rh_tryEnds {d : Nat} (hd : 1 ≤ d) {a1 : Int32} {A : y_A} {js : List y_J} (hg : rg_tryEnds a1 A js) : rc d 165 [.inr (some (11, 0)), .inl a1] A js (y_V (rf_tryEnds a1 A js)) := by
  obtain ⟨d, rfl⟩ := Nat.exists_eq_add_of_le' hd
  obtain ⟨F, hk⟩ : ∃ F, rf_tryEnds a1 A js = F := ⟨_, rfl⟩
  rw [hk]
  show ra _ _ _ [some (.inr (some (11, 0))), some (.inl a1), none, none, none, none, none, none] _ _ _ _
  unfold rg_tryEnds at hg
  unfold rf_tryEnds at hk
  refine ra.s (pc' := 1) (st' := [.inr (some (11, 0))]) (fun _ => rfl) ?_
  refine ra.ga (x := 66) (nx := 4) (c := 13) (i := 54) rfl rfl ?_
  refine ra.s (pc' := 5) (st' := [.inl a1, .inr (some (13, 54))]) (fun _ => rfl) ?_
  obtain ⟨h1, hg⟩ := hg
  refine ra.ld (nx := 6) (v := (A 66 (y_ix a1))) 66 4400 rfl rfl h1 rfl ?_
  refine ra.s (pc' := 7) (L' := [some (.inr (some (11, 0))), some (.inl a1), some (.inl (A 66 (y_ix a1))), none, none, none, none, none]) (st' := []) (fun _ => rfl) ?_
  refine ra.s (pc' := 8) (st' := [.inr (some (11, 0))]) (fun _ => rfl) ?_
  refine ra.ga (x := 62) (nx := 11) (c := 13) (i := 50) rfl rfl ?_
  refine ra.s (pc' := 12) (st' := [.inl a1, .inr (some (13, 50))]) (fun _ => rfl) ?_
  refine ra.ld (nx := 13) (v := (A 62 (y_ix a1))) 62 4400 rfl rfl h1 rfl ?_
  refine ra.s (pc' := 14) (L' := [some (.inr (some (11, 0))), some (.inl a1), some (.inl (A 66 (y_ix a1))), some (.inl (A 62 (y_ix a1))), none, none, none, none]) (st' := []) (fun _ => rfl) ?_
  refine ra.s (pc' := 15) (st' := [.inr (some (11, 0))]) (fun _ => rfl) ?_
  refine ra.ga (x := 53) (nx := 18) (c := 13) (i := 43) rfl rfl ?_
  refine ra.s (pc' := 19) (st' := [.inl (A 62 (y_ix a1)), .inr (some (13, 43))]) (fun _ => rfl) ?_
  obtain ⟨h2, hg⟩ := hg
  refine ra.ld (nx := 20) (v := (A 53 (y_ix (A 62 (y_ix a1))))) 53 60 rfl rfl h2 rfl ?_
  refine ra.s (pc' := 22) (L' := [some (.inr (some (11, 0))), some (.inl a1), some (.inl (A 66 (y_ix a1))), some (.inl (A 62 (y_ix a1))), some (.inl (A 53 (y_ix (A 62 (y_ix a1))))), none, none, none]) (st' := []) (fun _ => rfl) ?_
  refine ra.s (pc' := 23) (st' := [.inl (0 : Int32)]) (fun _ => rfl) ?_
  refine ra.s (pc' := 25) (L' := [some (.inr (some (11, 0))), some (.inl a1), some (.inl (A 66 (y_ix a1))), some (.inl (A 62 (y_ix a1))), some (.inl (A 53 (y_ix (A 62 (y_ix a1))))), some (.inl (0 : Int32)), none, none]) (st' := []) (fun _ => rfl) ?_
  exact rh_tryEnds_25 (by omega) 20000 a1 (A 66 (y_ix a1)) (A 62 (y_ix a1)) (A 53 (y_ix (A 62 (y_ix a1)))) (0 : Int32) none none A js hg hk
def rf_late_12 : Nat → Int32 → Int32 → y_A → List y_J → y_A × List y_J
  | 0, _, _, A, js => (A, js)
  | n + 1, l1, l2, A, js => (if (A 61 0) ≤ l2 then (A, js) else (if (A 64 (y_ix l2)) = l1 then (if (A 69 (y_ix l2)) = (0 : Int32) then ((rf_takeBack l2 (-1 : Int32) A js).2.1, (rf_takeBack l2 (-1 : Int32) A js).2.2) else (rf_late_12 n l1 (l2 + (1 : Int32)) A js)) else (rf_late_12 n l1 (l2 + (1 : Int32)) A js)))
def rg_late_12 : Nat → Int32 → Int32 → y_A → List y_J → Prop
  | 0, _, _, _, _ => False
  | n + 1, l1, l2, A, js => (((A 61 0) ≤ l2 → True) ∧ (¬ (A 61 0) ≤ l2 → (y_in l2 4400) ∧ (((A 64 (y_ix l2)) = l1 → (((A 69 (y_ix l2)) = (0 : Int32) → (rg_takeBack l2 (-1 : Int32) A js) ∧ True) ∧ (¬ (A 69 (y_ix l2)) = (0 : Int32) → (rg_late_12 n l1 (l2 + (1 : Int32)) A js)))) ∧ (¬ (A 64 (y_ix l2)) = l1 → (rg_late_12 n l1 (l2 + (1 : Int32)) A js)))))
theorem rh_late_12 {d : Nat} (hd : 2 ≤ d) {F : y_A × List y_J} (n : Nat) : ∀ (l1 l2 : Int32) (e3 : Option xm_V) (A : y_A) (js : List y_J), rg_late_12 n l1 l2 A js → rf_late_12 n l1 l2 A js = F → ra d 166 12 [some (.inr (some (11, 0))), some (.inl l1), some (.inl l2), e3] [] A js (y_V F) := by
  obtain ⟨d, rfl⟩ := Nat.exists_eq_add_of_le' hd
  induction n with
  | zero => intro l1 l2 e3 A js hg; exact hg.elim
  | succ n ih =>
    intro l1 l2 e3 A js hg hk
    unfold rg_late_12 at hg
    unfold rf_late_12 at hk
    refine ra.s (pc' := 13) (st' := [.inl l2]) (fun _ => rfl) ?_
    refine ra.s (pc' := 14) (st' := [.inr (some (11, 0)), .inl l2]) (fun _ => rfl) ?_
    refine ra.gi (x := 61) (nx := 17) (v := (A 61 0)) rfl rfl rfl ?_
    refine ra.b (c := (A 61 0) ≤ l2) (cd := .ge) (x := l2) (y := (A 61 0)) 56 20 (st' := []) (fun _ => rfl) (y_cge _ _) hk hg (fun h1 hg hk => ?_) (fun h1 hg hk => ?_)
    · skip
      subst hk
      exact ra.ret (r := none) (fun _ => rfl) ⟨rfl, rfl, rfl⟩
    · skip
      refine ra.s (pc' := 21) (st' := [.inr (some (11, 0))]) (fun _ => rfl) ?_
      refine ra.ga (x := 64) (nx := 24) (c := 13) (i := 52) rfl rfl ?_
      refine ra.s (pc' := 25) (st' := [.inl l2, .inr (some (13, 52))]) (fun _ => rfl) ?_
      obtain ⟨h2, hg⟩ := hg
      refine ra.ld (nx := 26) (v := (A 64 (y_ix l2))) 64 4400 rfl rfl h2 rfl ?_
      refine ra.s (pc' := 27) (st' := [.inl l1, .inl (A 64 (y_ix l2))]) (fun _ => rfl) ?_
      refine ra.bn (c := (A 64 (y_ix l2)) = l1) (cd := .ne) (x := (A 64 (y_ix l2))) (y := l1) 50 30 (st' := []) (fun _ => rfl) (y_cne _ _) hk hg (fun h3 hg hk => ?_) (fun h3 hg hk => ?_)
      · skip
        refine ra.s (pc' := 31) (st' := [.inr (some (11, 0))]) (fun _ => rfl) ?_
        refine ra.ga (x := 69) (nx := 34) (c := 13) (i := 57) rfl rfl ?_
        refine ra.s (pc' := 35) (st' := [.inl l2, .inr (some (13, 57))]) (fun _ => rfl) ?_
        refine ra.ld (nx := 36) (v := (A 69 (y_ix l2))) 69 4400 rfl rfl h2 rfl ?_
        refine ra.b (c := (A 69 (y_ix l2)) = (0 : Int32)) (cd := .eq) (x := (A 69 (y_ix l2))) (y := (0 : Int32)) 42 39 (st' := []) (fun _ => rfl) (y_ceq _ _) hk hg (fun h4 hg hk => ?_) (fun h4 hg hk => ?_)
        · skip
          refine ra.s (pc' := 43) (st' := [.inr (some (11, 0))]) (fun _ => rfl) ?_
          refine ra.s (pc' := 44) (st' := [.inl l2, .inr (some (11, 0))]) (fun _ => rfl) ?_
          refine ra.s (pc' := 45) (st' := [.inl (-1 : Int32), .inl l2, .inr (some (11, 0))]) (fun _ => rfl) ?_
          obtain ⟨h5, hg⟩ := hg
          refine ra.cI (F := (rf_takeBack l2 (-1 : Int32) A js)) (m := 149) (as := [.inr (some (11, 0)), .inl l2, .inl (-1 : Int32)]) (nx := 48) (L' := [some (.inr (some (11, 0))), some (.inl l1), some (.inl l2), e3]) (st' := []) (fun _ => rfl) (rh_takeBack (by omega) h5) ?_
          show ra _ _ _ _ [.inl (rf_takeBack l2 (-1 : Int32) A js).1] (rf_takeBack l2 (-1 : Int32) A js).2.1 (rf_takeBack l2 (-1 : Int32) A js).2.2 _
          refine ra.s (pc' := 49) (L' := [some (.inr (some (11, 0))), some (.inl l1), some (.inl l2), some (.inl (rf_takeBack l2 (-1 : Int32) A js).1)]) (st' := []) (fun _ => rfl) ?_
          subst hk
          exact ra.ret (r := none) (fun _ => rfl) ⟨rfl, rfl, rfl⟩
        · skip
          refine ra.s (pc' := 50) (st' := []) (fun _ => rfl) ?_
          refine ra.s (pc' := 53) (L' := [some (.inr (some (11, 0))), some (.inl l1), some (.inl (l2 + (1 : Int32))), e3]) (st' := []) (fun _ => rfl) ?_
          refine ra.s (pc' := 12) (st' := []) (fun _ => rfl) ?_
          exact ih l1 (l2 + (1 : Int32)) e3 A js hg hk
      · skip
        refine ra.s (pc' := 53) (L' := [some (.inr (some (11, 0))), some (.inl l1), some (.inl (l2 + (1 : Int32))), e3]) (st' := []) (fun _ => rfl) ?_
        refine ra.s (pc' := 12) (st' := []) (fun _ => rfl) ?_
        exact ih l1 (l2 + (1 : Int32)) e3 A js hg hk
/-- late -/
def rf_late (a1 : Int32) (A : y_A) (js : List y_J) : y_A × List y_J := (rf_late_12 20000 a1 (0 : Int32) A (((2 : Int32), a1, (12 : Int32), (0 : Int32), (0 : Int32)) :: js))
def rg_late (a1 : Int32) (A : y_A) (js : List y_J) : Prop := (js.length < 20000) ∧ (rg_late_12 20000 a1 (0 : Int32) A (((2 : Int32), a1, (12 : Int32), (0 : Int32), (0 : Int32)) :: js))
theorem rh_late {d : Nat} (hd : 2 ≤ d) {a1 : Int32} {A : y_A} {js : List y_J} (hg : rg_late a1 A js) : rc d 166 [.inr (some (11, 0)), .inl a1] A js (y_V (rf_late a1 A js)) := by
  obtain ⟨d, rfl⟩ := Nat.exists_eq_add_of_le' hd
  obtain ⟨F, hk⟩ : ∃ F, rf_late a1 A js = F := ⟨_, rfl⟩
  rw [hk]
  show ra _ _ _ [some (.inr (some (11, 0))), some (.inl a1), none, none] _ _ _ _
  unfold rg_late at hg
  unfold rf_late at hk
  refine ra.s (pc' := 1) (st' := [.inr (some (11, 0))]) (fun _ => rfl) ?_
  refine ra.s (pc' := 2) (st' := [.inl (2 : Int32), .inr (some (11, 0))]) (fun _ => rfl) ?_
  refine ra.s (pc' := 3) (st' := [.inl a1, .inl (2 : Int32), .inr (some (11, 0))]) (fun _ => rfl) ?_
  refine ra.s (pc' := 5) (st' := [.inl (12 : Int32), .inl a1, .inl (2 : Int32), .inr (some (11, 0))]) (fun _ => rfl) ?_
  refine ra.s (pc' := 6) (st' := [.inl (0 : Int32), .inl (12 : Int32), .inl a1, .inl (2 : Int32), .inr (some (11, 0))]) (fun _ => rfl) ?_
  refine ra.s (pc' := 7) (st' := [.inl (0 : Int32), .inl (0 : Int32), .inl (12 : Int32), .inl a1, .inl (2 : Int32), .inr (some (11, 0))]) (fun _ => rfl) ?_
  obtain ⟨h1, hg⟩ := hg
  refine ra.cV (m := 131) (as := [.inr (some (11, 0)), .inl (2 : Int32), .inl a1, .inl (12 : Int32), .inl (0 : Int32), .inl (0 : Int32)]) (nx := 10) (L' := [some (.inr (some (11, 0))), some (.inl a1), none, none]) (st' := []) (fun _ => rfl) (rh_add h1) ?_
  show ra _ _ _ _ _ A (((2 : Int32), a1, (12 : Int32), (0 : Int32), (0 : Int32)) :: js) _
  refine ra.s (pc' := 11) (st' := [.inl (0 : Int32)]) (fun _ => rfl) ?_
  refine ra.s (pc' := 12) (L' := [some (.inr (some (11, 0))), some (.inl a1), some (.inl (0 : Int32)), none]) (st' := []) (fun _ => rfl) ?_
  exact rh_late_12 (by omega) 20000 a1 (0 : Int32) none A (((2 : Int32), a1, (12 : Int32), (0 : Int32), (0 : Int32)) :: js) hg hk
end
