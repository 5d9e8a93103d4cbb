/-! ===== THE REFERENCE: members that change nothing (printed by wip/whole/gen42.py out of the bytecode) ===== -/
section
/-- isStation -/
def rf_isStation (a1 : Int32) (A : y_A) : Int32 := (if a1 < (0 : Int32) then (0 : Int32) else (if (A 1 0) ≤ a1 then (0 : Int32) else (1 : Int32)))
def rg_isStation (a1 : Int32) (A : y_A) : Prop := ((a1 < (0 : Int32) → True) ∧ (¬ a1 < (0 : Int32) → (((A 1 0) ≤ a1 → True) ∧ (¬ (A 1 0) ≤ a1 → True))))
theorem rh_isStation {d : Nat} (hd : 0 ≤ d) {a1 : Int32} {A : y_A} {js : List y_J} (hg : rg_isStation a1 A) : rc d 115 [.inr (some (11, 0)), .inl a1] A js (y_P (rf_isStation a1 A) A js) := by
  obtain ⟨F, hk⟩ : ∃ F, rf_isStation a1 A = F := ⟨_, rfl⟩
  rw [hk]
  show ra _ _ _ [some (.inr (some (11, 0))), some (.inl a1)] _ _ _ _
  unfold rg_isStation at hg
  unfold rf_isStation at hk
  refine ra.s (pc' := 1) (st' := [.inl a1]) (fun _ => rfl) ?_
  refine ra.b (c := a1 < (0 : Int32)) (cd := .lt) (x := a1) (y := (0 : Int32)) 16 4 (st' := []) (fun _ => rfl) (y_clt _ _) hk hg (fun h1 hg hk => ?_) (fun h1 hg hk => ?_)
  · skip
    refine ra.s (pc' := 17) (st' := [.inl (0 : Int32)]) (fun _ => rfl) ?_
    subst hk
    exact ra.retz (nx := 18) rfl (Or.inl rfl) ⟨rfl, rfl, rfl⟩
  · skip
    refine ra.s (pc' := 5) (st' := [.inl a1]) (fun _ => rfl) ?_
    refine ra.s (pc' := 6) (st' := [.inr (some (11, 0)), .inl a1]) (fun _ => rfl) ?_
    refine ra.gi (x := 1) (nx := 9) (v := (A 1 0)) rfl rfl rfl ?_
    refine ra.b (c := (A 1 0) ≤ a1) (cd := .ge) (x := a1) (y := (A 1 0)) 16 12 (st' := []) (fun _ => rfl) (y_cge _ _) hk hg (fun h2 hg hk => ?_) (fun h2 hg hk => ?_)
    · skip
      refine ra.s (pc' := 17) (st' := [.inl (0 : Int32)]) (fun _ => rfl) ?_
      subst hk
      exact ra.retz (nx := 18) rfl (Or.inl rfl) ⟨rfl, rfl, rfl⟩
    · skip
      refine ra.s (pc' := 13) (st' := [.inl (1 : Int32)]) (fun _ => rfl) ?_
      refine ra.s (pc' := 17) (st' := [.inl (1 : Int32)]) (fun _ => rfl) ?_
      subst hk
      exact ra.retz (nx := 18) rfl (Or.inr rfl) ⟨rfl, rfl, rfl⟩
/-- isAct -/
def rf_isAct (a1 : Int32) (A : y_A) : Int32 := (if a1 < (0 : Int32) then (0 : Int32) else (if (2 : Int32) < a1 then (0 : Int32) else (1 : Int32)))
def rg_isAct (a1 : Int32) (A : y_A) : Prop := ((a1 < (0 : Int32) → True) ∧ (¬ a1 < (0 : Int32) → (((2 : Int32) < a1 → True) ∧ (¬ (2 : Int32) < a1 → True))))
theorem rh_isAct {d : Nat} (hd : 0 ≤ d) {a1 : Int32} {A : y_A} {js : List y_J} (hg : rg_isAct a1 A) : rc d 116 [.inr (some (11, 0)), .inl a1] A js (y_P (rf_isAct a1 A) A js) := by
  obtain ⟨F, hk⟩ : ∃ F, rf_isAct a1 A = F := ⟨_, rfl⟩
  rw [hk]
  show ra _ _ _ [some (.inr (some (11, 0))), some (.inl a1)] _ _ _ _
  unfold rg_isAct at hg
  unfold rf_isAct at hk
  refine ra.s (pc' := 1) (st' := [.inl a1]) (fun _ => rfl) ?_
  refine ra.b (c := a1 < (0 : Int32)) (cd := .lt) (x := a1) (y := (0 : Int32)) 13 4 (st' := []) (fun _ => rfl) (y_clt _ _) hk hg (fun h1 hg hk => ?_) (fun h1 hg hk => ?_)
  · skip
    refine ra.s (pc' := 14) (st' := [.inl (0 : Int32)]) (fun _ => rfl) ?_
    subst hk
    exact ra.retz (nx := 15) rfl (Or.inl rfl) ⟨rfl, rfl, rfl⟩
  · skip
    refine ra.s (pc' := 5) (st' := [.inl a1]) (fun _ => rfl) ?_
    refine ra.s (pc' := 6) (st' := [.inl (2 : Int32), .inl a1]) (fun _ => rfl) ?_
    refine ra.b (c := (2 : Int32) < a1) (cd := .gt) (x := a1) (y := (2 : Int32)) 13 9 (st' := []) (fun _ => rfl) (y_cgt _ _) hk hg (fun h2 hg hk => ?_) (fun h2 hg hk => ?_)
    · skip
      refine ra.s (pc' := 14) (st' := [.inl (0 : Int32)]) (fun _ => rfl) ?_
      subst hk
      exact ra.retz (nx := 15) rfl (Or.inl rfl) ⟨rfl, rfl, rfl⟩
    · skip
      refine ra.s (pc' := 10) (st' := [.inl (1 : Int32)]) (fun _ => rfl) ?_
      refine ra.s (pc' := 14) (st' := [.inl (1 : Int32)]) (fun _ => rfl) ?_
      subst hk
      exact ra.retz (nx := 15) rfl (Or.inr rfl) ⟨rfl, rfl, rfl⟩
/-- over -/
def rf_over (a1 : Int32) (A : y_A) : Int32 := (if a1 = (0 : Int32) then (-1 : Int32) else (if a1 = (1 : Int32) then (0 : Int32) else (if a1 = (4 : Int32) then (0 : Int32) else (if a1 = (8 : Int32) then (0 : Int32) else (if a1 = (14 : Int32) then (0 : Int32) else (if (4 : Int32) ≤ a1 then (if (8 : Int32) ≤ a1 then (if (14 : Int32) ≤ a1 then (14 : Int32) else (8 : Int32)) else (4 : Int32)) else (1 : Int32)))))))
def rg_over (a1 : Int32) (A : y_A) : Prop := ((a1 = (0 : Int32) → True) ∧ (¬ a1 = (0 : Int32) → ((a1 = (1 : Int32) → True) ∧ (¬ a1 = (1 : Int32) → ((a1 = (4 : Int32) → True) ∧ (¬ a1 = (4 : Int32) → ((a1 = (8 : Int32) → True) ∧ (¬ a1 = (8 : Int32) → ((a1 = (14 : Int32) → True) ∧ (¬ a1 = (14 : Int32) → (((4 : Int32) ≤ a1 → (((8 : Int32) ≤ a1 → (((14 : Int32) ≤ a1 → True) ∧ (¬ (14 : Int32) ≤ a1 → True))) ∧ (¬ (8 : Int32) ≤ a1 → True))) ∧ (¬ (4 : Int32) ≤ a1 → True))))))))))))
theorem rh_over {d : Nat} (hd : 0 ≤ d) {a1 : Int32} {A : y_A} {js : List y_J} (hg : rg_over a1 A) : rc d 120 [.inr (some (11, 0)), .inl a1] A js (y_P (rf_over a1 A) A js) := by
  obtain ⟨F, hk⟩ : ∃ F, rf_over a1 A = F := ⟨_, rfl⟩
  rw [hk]
  show ra _ _ _ [some (.inr (some (11, 0))), some (.inl a1)] _ _ _ _
  unfold rg_over at hg
  unfold rf_over at hk
  refine ra.s (pc' := 1) (st' := [.inl a1]) (fun _ => rfl) ?_
  refine ra.bn (c := a1 = (0 : Int32)) (cd := .ne) (x := a1) (y := (0 : Int32)) 6 4 (st' := []) (fun _ => rfl) (y_cne _ _) hk hg (fun h1 hg hk => ?_) (fun h1 hg hk => ?_)
  · skip
    refine ra.s (pc' := 5) (st' := [.inl (-1 : Int32)]) (fun _ => rfl) ?_
    subst hk
    exact ra.ret (r := some (.inl (-1 : Int32))) (fun _ => rfl) ⟨rfl, rfl, rfl⟩
  · skip
    refine ra.s (pc' := 7) (st' := [.inl a1]) (fun _ => rfl) ?_
    refine ra.s (pc' := 8) (st' := [.inl (1 : Int32), .inl a1]) (fun _ => rfl) ?_
    refine ra.b (c := a1 = (1 : Int32)) (cd := .eq) (x := a1) (y := (1 : Int32)) 28 11 (st' := []) (fun _ => rfl) (y_ceq _ _) hk hg (fun h2 hg hk => ?_) (fun h2 hg hk => ?_)
    · skip
      refine ra.s (pc' := 29) (st' := [.inl (0 : Int32)]) (fun _ => rfl) ?_
      subst hk
      exact ra.ret (r := some (.inl (0 : Int32))) (fun _ => rfl) ⟨rfl, rfl, rfl⟩
    · skip
      refine ra.s (pc' := 12) (st' := [.inl a1]) (fun _ => rfl) ?_
      refine ra.s (pc' := 13) (st' := [.inl (4 : Int32), .inl a1]) (fun _ => rfl) ?_
      refine ra.b (c := a1 = (4 : Int32)) (cd := .eq) (x := a1) (y := (4 : Int32)) 28 16 (st' := []) (fun _ => rfl) (y_ceq _ _) hk hg (fun h3 hg hk => ?_) (fun h3 hg hk => ?_)
      · skip
        refine ra.s (pc' := 29) (st' := [.inl (0 : Int32)]) (fun _ => rfl) ?_
        subst hk
        exact ra.ret (r := some (.inl (0 : Int32))) (fun _ => rfl) ⟨rfl, rfl, rfl⟩
      · skip
        refine ra.s (pc' := 17) (st' := [.inl a1]) (fun _ => rfl) ?_
        refine ra.s (pc' := 19) (st' := [.inl (8 : Int32), .inl a1]) (fun _ => rfl) ?_
        refine ra.b (c := a1 = (8 : Int32)) (cd := .eq) (x := a1) (y := (8 : Int32)) 28 22 (st' := []) (fun _ => rfl) (y_ceq _ _) hk hg (fun h4 hg hk => ?_) (fun h4 hg hk => ?_)
        · skip
          refine ra.s (pc' := 29) (st' := [.inl (0 : Int32)]) (fun _ => rfl) ?_
          subst hk
          exact ra.ret (r := some (.inl (0 : Int32))) (fun _ => rfl) ⟨rfl, rfl, rfl⟩
        · skip
          refine ra.s (pc' := 23) (st' := [.inl a1]) (fun _ => rfl) ?_
          refine ra.s (pc' := 25) (st' := [.inl (14 : Int32), .inl a1]) (fun _ => rfl) ?_
          refine ra.bn (c := a1 = (14 : Int32)) (cd := .ne) (x := a1) (y := (14 : Int32)) 30 28 (st' := []) (fun _ => rfl) (y_cne _ _) hk hg (fun h5 hg hk => ?_) (fun h5 hg hk => ?_)
          · skip
            refine ra.s (pc' := 29) (st' := [.inl (0 : Int32)]) (fun _ => rfl) ?_
            subst hk
            exact ra.ret (r := some (.inl (0 : Int32))) (fun _ => rfl) ⟨rfl, rfl, rfl⟩
          · skip
            refine ra.s (pc' := 31) (st' := [.inl a1]) (fun _ => rfl) ?_
            refine ra.s (pc' := 32) (st' := [.inl (4 : Int32), .inl a1]) (fun _ => rfl) ?_
            refine ra.b (c := (4 : Int32) ≤ a1) (cd := .ge) (x := a1) (y := (4 : Int32)) 37 35 (st' := []) (fun _ => rfl) (y_cge _ _) hk hg (fun h6 hg hk => ?_) (fun h6 hg hk => ?_)
            · skip
              refine ra.s (pc' := 38) (st' := [.inl a1]) (fun _ => rfl) ?_
              refine ra.s (pc' := 40) (st' := [.inl (8 : Int32), .inl a1]) (fun _ => rfl) ?_
              refine ra.b (c := (8 : Int32) ≤ a1) (cd := .ge) (x := a1) (y := (8 : Int32)) 45 43 (st' := []) (fun _ => rfl) (y_cge _ _) hk hg (fun h7 hg hk => ?_) (fun h7 hg hk => ?_)
              · skip
                refine ra.s (pc' := 46) (st' := [.inl a1]) (fun _ => rfl) ?_
                refine ra.s (pc' := 48) (st' := [.inl (14 : Int32), .inl a1]) (fun _ => rfl) ?_
                refine ra.b (c := (14 : Int32) ≤ a1) (cd := .ge) (x := a1) (y := (14 : Int32)) 56 51 (st' := []) (fun _ => rfl) (y_cge _ _) hk hg (fun h8 hg hk => ?_) (fun h8 hg hk => ?_)
                · skip
                  refine ra.s (pc' := 58) (st' := [.inl (14 : Int32)]) (fun _ => rfl) ?_
                  subst hk
                  exact ra.ret (r := some (.inl (14 : Int32))) (fun _ => rfl) ⟨rfl, rfl, rfl⟩
                · skip
                  refine ra.s (pc' := 53) (st' := [.inl (8 : Int32)]) (fun _ => rfl) ?_
                  refine ra.s (pc' := 58) (st' := [.inl (8 : Int32)]) (fun _ => rfl) ?_
                  subst hk
                  exact ra.ret (r := some (.inl (8 : Int32))) (fun _ => rfl) ⟨rfl, rfl, rfl⟩
              · skip
                refine ra.s (pc' := 44) (st' := [.inl (4 : Int32)]) (fun _ => rfl) ?_
                subst hk
                exact ra.ret (r := some (.inl (4 : Int32))) (fun _ => rfl) ⟨rfl, rfl, rfl⟩
            · skip
              refine ra.s (pc' := 36) (st' := [.inl (1 : Int32)]) (fun _ => rfl) ?_
              subst hk
              exact ra.ret (r := some (.inl (1 : Int32))) (fun _ => rfl) ⟨rfl, rfl, rfl⟩
def rf_isUnder_2 : Nat → Int32 → Int32 → Int32 → y_A → Int32
  | 0, _, _, _, _ => 0
  | n + 1, l1, l2, l3, A => (if l3 = (-1 : Int32) then l3 else (if l3 = l2 then l3 else (rf_isUnder_2 n l1 l2 (rf_over l3 A) A)))
def rg_isUnder_2 : Nat → Int32 → Int32 → Int32 → y_A → Prop
  | 0, _, _, _, _ => False
  | n + 1, l1, l2, l3, A => ((l3 = (-1 : Int32) → True) ∧ (¬ l3 = (-1 : Int32) → ((l3 = l2 → True) ∧ (¬ l3 = l2 → (rg_over l3 A) ∧ (rg_isUnder_2 n l1 l2 (rf_over l3 A) A)))))
theorem rh_isUnder_2 {d : Nat} (hd : 1 ≤ d) {Q : Option xm_V → y_A → List y_J → Prop} {F : Int32} (n : Nat) : ∀ (l1 l2 l3 : Int32) (A : y_A) (js : List y_J), rg_isUnder_2 n l1 l2 l3 A → rf_isUnder_2 n l1 l2 l3 A = F → (ra d 119 21 [some (.inr (some (11, 0))), some (.inl l1), some (.inl l2), some (.inl F)] [] A js Q) → ra d 119 2 [some (.inr (some (11, 0))), some (.inl l1), some (.inl l2), some (.inl l3)] [] A js Q := by
  obtain ⟨d, rfl⟩ := Nat.exists_eq_add_of_le' hd
  induction n with
  | zero => intro l1 l2 l3 A js hg; exact hg.elim
  | succ n ih =>
    intro l1 l2 l3 A js hg hk hE
    unfold rg_isUnder_2 at hg
    unfold rf_isUnder_2 at hk
    refine ra.s (pc' := 3) (st' := [.inl l3]) (fun _ => rfl) ?_
    refine ra.s (pc' := 4) (st' := [.inl (-1 : Int32), .inl l3]) (fun _ => rfl) ?_
    refine ra.b (c := l3 = (-1 : Int32)) (cd := .eq) (x := l3) (y := (-1 : Int32)) 21 7 (st' := []) (fun _ => rfl) (y_ceq _ _) hk hg (fun h1 hg hk => ?_) (fun h1 hg hk => ?_)
    · skip
      subst hk
      exact hE
    · skip
      refine ra.s (pc' := 8) (st' := [.inl l3]) (fun _ => rfl) ?_
      refine ra.s (pc' := 9) (st' := [.inl l2, .inl l3]) (fun _ => rfl) ?_
      refine ra.b (c := l3 = l2) (cd := .eq) (x := l3) (y := l2) 21 12 (st' := []) (fun _ => rfl) (y_ceq _ _) hk hg (fun h2 hg hk => ?_) (fun h2 hg hk => ?_)
      · skip
        subst hk
        exact hE
      · skip
        refine ra.s (pc' := 13) (st' := [.inr (some (11, 0))]) (fun _ => rfl) ?_
        refine ra.s (pc' := 14) (st' := [.inl l3, .inr (some (11, 0))]) (fun _ => rfl) ?_
        obtain ⟨h3, hg⟩ := hg
        refine ra.cP (f := (rf_over l3 A)) (m := 120) (as := [.inr (some (11, 0)), .inl l3]) (nx := 17) (L' := [some (.inr (some (11, 0))), some (.inl l1), some (.inl l2), some (.inl l3)]) (st' := []) (fun _ => rfl) (rh_over (by omega) h3) ?_
        refine ra.s (pc' := 18) (L' := [some (.inr (some (11, 0))), some (.inl l1), some (.inl l2), some (.inl (rf_over l3 A))]) (st' := []) (fun _ => rfl) ?_
        refine ra.s (pc' := 2) (st' := []) (fun _ => rfl) ?_
        exact ih l1 l2 (rf_over l3 A) A js hg hk hE
/-- isUnder -/
def rf_isUnder (a1 a2 : Int32) (A : y_A) : Int32 := (if (rf_isUnder_2 20000 a1 a2 a1 A) = a2 then (1 : Int32) else (0 : Int32))
def rg_isUnder (a1 a2 : Int32) (A : y_A) : Prop := (rg_isUnder_2 20000 a1 a2 a1 A) ∧ (((rf_isUnder_2 20000 a1 a2 a1 A) = a2 → True) ∧ (¬ (rf_isUnder_2 20000 a1 a2 a1 A) = a2 → True))
theorem rh_isUnder {d : Nat} (hd : 1 ≤ d) {a1 a2 : Int32} {A : y_A} {js : List y_J} (hg : rg_isUnder a1 a2 A) : rc d 119 [.inr (some (11, 0)), .inl a1, .inl a2] A js (y_P (rf_isUnder a1 a2 A) A js) := by
  obtain ⟨d, rfl⟩ := Nat.exists_eq_add_of_le' hd
  obtain ⟨F, hk⟩ : ∃ F, rf_isUnder a1 a2 A = F := ⟨_, rfl⟩
  rw [hk]
  show ra _ _ _ [some (.inr (some (11, 0))), some (.inl a1), some (.inl a2), none] _ _ _ _
  unfold rg_isUnder at hg
  unfold rf_isUnder at hk
  refine ra.s (pc' := 1) (st' := [.inl a1]) (fun _ => rfl) ?_
  refine ra.s (pc' := 2) (L' := [some (.inr (some (11, 0))), some (.inl a1), some (.inl a2), some (.inl a1)]) (st' := []) (fun _ => rfl) ?_
  obtain ⟨h1, hg⟩ := hg
  refine rh_isUnder_2 (by omega) 20000 a1 a2 a1 A js h1 rfl ?_
  refine ra.s (pc' := 22) (st' := [.inl (rf_isUnder_2 20000 a1 a2 a1 A)]) (fun _ => rfl) ?_
  refine ra.s (pc' := 23) (st' := [.inl a2, .inl (rf_isUnder_2 20000 a1 a2 a1 A)]) (fun _ => rfl) ?_
  refine ra.bn (c := (rf_isUnder_2 20000 a1 a2 a1 A) = a2) (cd := .ne) (x := (rf_isUnder_2 20000 a1 a2 a1 A)) (y := a2) 30 26 (st' := []) (fun _ => rfl) (y_cne _ _) hk hg (fun h2 hg hk => ?_) (fun h2 hg hk => ?_)
  · skip
    refine ra.s (pc' := 27) (st' := [.inl (1 : Int32)]) (fun _ => rfl) ?_
    refine ra.s (pc' := 31) (st' := [.inl (1 : Int32)]) (fun _ => rfl) ?_
    subst hk
    exact ra.retz (nx := 32) rfl (Or.inr rfl) ⟨rfl, rfl, rfl⟩
  · skip
    refine ra.s (pc' := 31) (st' := [.inl (0 : Int32)]) (fun _ => rfl) ?_
    subst hk
    exact ra.retz (nx := 32) rfl (Or.inl rfl) ⟨rfl, rfl, rfl⟩
/-- isOf -/
def rf_isOf (a1 a2 : Int32) (A : y_A) : Int32 := (if a1 < (0 : Int32) then (-1 : Int32) else (if (15 : Int32) < a1 then (-1 : Int32) else (if a2 < (0 : Int32) then (-1 : Int32) else (if a2 ≤ (15 : Int32) then (if (rf_isUnder a1 a2 A) = (0 : Int32) then (0 : Int32) else (1 : Int32)) else (-1 : Int32)))))
def rg_isOf (a1 a2 : Int32) (A : y_A) : Prop := ((a1 < (0 : Int32) → True) ∧ (¬ a1 < (0 : Int32) → (((15 : Int32) < a1 → True) ∧ (¬ (15 : Int32) < a1 → ((a2 < (0 : Int32) → True) ∧ (¬ a2 < (0 : Int32) → ((a2 ≤ (15 : Int32) → (rg_isUnder a1 a2 A) ∧ (((rf_isUnder a1 a2 A) = (0 : Int32) → True) ∧ (¬ (rf_isUnder a1 a2 A) = (0 : Int32) → True))) ∧ (¬ a2 ≤ (15 : Int32) → True))))))))
theorem rh_isOf {d : Nat} (hd : 2 ≤ d) {a1 a2 : Int32} {A : y_A} {js : List y_J} (hg : rg_isOf a1 a2 A) : rc d 118 [.inr (some (11, 0)), .inl a1, .inl a2] A js (y_P (rf_isOf a1 a2 A) A js) := by
  obtain ⟨d, rfl⟩ := Nat.exists_eq_add_of_le' hd
  obtain ⟨F, hk⟩ : ∃ F, rf_isOf a1 a2 A = F := ⟨_, rfl⟩
  rw [hk]
  show ra _ _ _ [some (.inr (some (11, 0))), some (.inl a1), some (.inl a2)] _ _ _ _
  unfold rg_isOf at hg
  unfold rf_isOf at hk
  refine ra.s (pc' := 1) (st' := [.inl a1]) (fun _ => rfl) ?_
  refine ra.b (c := a1 < (0 : Int32)) (cd := .lt) (x := a1) (y := (0 : Int32)) 20 4 (st' := []) (fun _ => rfl) (y_clt _ _) hk hg (fun h1 hg hk => ?_) (fun h1 hg hk => ?_)
  · skip
    refine ra.s (pc' := 21) (st' := [.inl (-1 : Int32)]) (fun _ => rfl) ?_
    subst hk
    exact ra.ret (r := some (.inl (-1 : Int32))) (fun _ => rfl) ⟨rfl, rfl, rfl⟩
  · skip
    refine ra.s (pc' := 5) (st' := [.inl a1]) (fun _ => rfl) ?_
    refine ra.s (pc' := 7) (st' := [.inl (15 : Int32), .inl a1]) (fun _ => rfl) ?_
    refine ra.b (c := (15 : Int32) < a1) (cd := .gt) (x := a1) (y := (15 : Int32)) 20 10 (st' := []) (fun _ => rfl) (y_cgt _ _) hk hg (fun h2 hg hk => ?_) (fun h2 hg hk => ?_)
    · skip
      refine ra.s (pc' := 21) (st' := [.inl (-1 : Int32)]) (fun _ => rfl) ?_
      subst hk
      exact ra.ret (r := some (.inl (-1 : Int32))) (fun _ => rfl) ⟨rfl, rfl, rfl⟩
    · skip
      refine ra.s (pc' := 11) (st' := [.inl a2]) (fun _ => rfl) ?_
      refine ra.b (c := a2 < (0 : Int32)) (cd := .lt) (x := a2) (y := (0 : Int32)) 20 14 (st' := []) (fun _ => rfl) (y_clt _ _) hk hg (fun h3 hg hk => ?_) (fun h3 hg hk => ?_)
      · skip
        refine ra.s (pc' := 21) (st' := [.inl (-1 : Int32)]) (fun _ => rfl) ?_
        subst hk
        exact ra.ret (r := some (.inl (-1 : Int32))) (fun _ => rfl) ⟨rfl, rfl, rfl⟩
      · skip
        refine ra.s (pc' := 15) (st' := [.inl a2]) (fun _ => rfl) ?_
        refine ra.s (pc' := 17) (st' := [.inl (15 : Int32), .inl a2]) (fun _ => rfl) ?_
        refine ra.b (c := a2 ≤ (15 : Int32)) (cd := .le) (x := a2) (y := (15 : Int32)) 22 20 (st' := []) (fun _ => rfl) (y_cle _ _) hk hg (fun h4 hg hk => ?_) (fun h4 hg hk => ?_)
        · skip
          refine ra.s (pc' := 23) (st' := [.inr (some (11, 0))]) (fun _ => rfl) ?_
          refine ra.s (pc' := 24) (st' := [.inl a1, .inr (some (11, 0))]) (fun _ => rfl) ?_
          refine ra.s (pc' := 25) (st' := [.inl a2, .inl a1, .inr (some (11, 0))]) (fun _ => rfl) ?_
          obtain ⟨h5, hg⟩ := hg
          refine ra.cP (f := (rf_isUnder a1 a2 A)) (m := 119) (as := [.inr (some (11, 0)), .inl a1, .inl a2]) (nx := 28) (L' := [some (.inr (some (11, 0))), some (.inl a1), some (.inl a2)]) (st' := []) (fun _ => rfl) (rh_isUnder (by omega) h5) ?_
          refine ra.b (c := (rf_isUnder a1 a2 A) = (0 : Int32)) (cd := .eq) (x := (rf_isUnder a1 a2 A)) (y := (0 : Int32)) 35 31 (st' := []) (fun _ => rfl) (y_ceq _ _) hk hg (fun h6 hg hk => ?_) (fun h6 hg hk => ?_)
          · skip
            refine ra.s (pc' := 36) (st' := [.inl (0 : Int32)]) (fun _ => rfl) ?_
            subst hk
            exact ra.ret (r := some (.inl (0 : Int32))) (fun _ => rfl) ⟨rfl, rfl, rfl⟩
          · skip
            refine ra.s (pc' := 32) (st' := [.inl (1 : Int32)]) (fun _ => rfl) ?_
            refine ra.s (pc' := 36) (st' := [.inl (1 : Int32)]) (fun _ => rfl) ?_
            subst hk
            exact ra.ret (r := some (.inl (1 : Int32))) (fun _ => rfl) ⟨rfl, rfl, rfl⟩
        · skip
          refine ra.s (pc' := 21) (st' := [.inl (-1 : Int32)]) (fun _ => rfl) ?_
          subst hk
          exact ra.ret (r := some (.inl (-1 : Int32))) (fun _ => rfl) ⟨rfl, rfl, rfl⟩
/-- failure -/
def rf_failure (a1 a2 : Int32) (A : y_A) : Int32 := (if a1 < (0 : Int32) then (-1 : Int32) else (if a1 < (A 23 0) then (if a2 = (0 : Int32) then (A 24 (y_ix a1)) else (if a2 = (1 : Int32) then (A 25 (y_ix a1)) else (if a2 = (2 : Int32) then (A 26 (y_ix a1)) else (if a2 = (3 : Int32) then (A 27 (y_ix a1)) else (if a2 = (4 : Int32) then (A 28 (y_ix a1)) else (if a2 = (5 : Int32) then (A 29 (y_ix a1)) else (-1 : Int32))))))) else (-1 : Int32)))
def rg_failure (a1 a2 : Int32) (A : y_A) : Prop := ((a1 < (0 : Int32) → True) ∧ (¬ a1 < (0 : Int32) → ((a1 < (A 23 0) → ((a2 = (0 : Int32) → (y_in a1 4400) ∧ True) ∧ (¬ a2 = (0 : Int32) → ((a2 = (1 : Int32) → (y_in a1 4400) ∧ True) ∧ (¬ a2 = (1 : Int32) → ((a2 = (2 : Int32) → (y_in a1 4400) ∧ True) ∧ (¬ a2 = (2 : Int32) → ((a2 = (3 : Int32) → (y_in a1 4400) ∧ True) ∧ (¬ a2 = (3 : Int32) → ((a2 = (4 : Int32) → (y_in a1 4400) ∧ True) ∧ (¬ a2 = (4 : Int32) → ((a2 = (5 : Int32) → (y_in a1 4400) ∧ True) ∧ (¬ a2 = (5 : Int32) → True))))))))))))) ∧ (¬ a1 < (A 23 0) → True))))
theorem rh_failure {d : Nat} (hd : 0 ≤ d) {a1 a2 : Int32} {A : y_A} {js : List y_J} (hg : rg_failure a1 a2 A) : rc d 121 [.inr (some (11, 0)), .inl a1, .inl a2] A js (y_P (rf_failure a1 a2 A) A js) := by
  obtain ⟨F, hk⟩ : ∃ F, rf_failure a1 a2 A = F := ⟨_, rfl⟩
  rw [hk]
  show ra _ _ _ [some (.inr (some (11, 0))), some (.inl a1), some (.inl a2)] _ _ _ _
  unfold rg_failure at hg
  unfold rf_failure at hk
  refine ra.s (pc' := 1) (st' := [.inl a1]) (fun _ => rfl) ?_
  refine ra.b (c := a1 < (0 : Int32)) (cd := .lt) (x := a1) (y := (0 : Int32)) 12 4 (st' := []) (fun _ => rfl) (y_clt _ _) hk hg (fun h1 hg hk => ?_) (fun h1 hg hk => ?_)
  · skip
    refine ra.s (pc' := 13) (st' := [.inl (-1 : Int32)]) (fun _ => rfl) ?_
    subst hk
    exact ra.ret (r := some (.inl (-1 : Int32))) (fun _ => rfl) ⟨rfl, rfl, rfl⟩
  · skip
    refine ra.s (pc' := 5) (st' := [.inl a1]) (fun _ => rfl) ?_
    refine ra.s (pc' := 6) (st' := [.inr (some (11, 0)), .inl a1]) (fun _ => rfl) ?_
    refine ra.gi (x := 23) (nx := 9) (v := (A 23 0)) rfl rfl rfl ?_
    refine ra.b (c := a1 < (A 23 0)) (cd := .lt) (x := a1) (y := (A 23 0)) 14 12 (st' := []) (fun _ => rfl) (y_clt _ _) hk hg (fun h2 hg hk => ?_) (fun h2 hg hk => ?_)
    · skip
      refine ra.s (pc' := 15) (st' := [.inl a2]) (fun _ => rfl) ?_
      refine ra.ts rfl rfl ?_
      refine ra.bw (0 : Int32) rfl hk hg (fun h3 hg hk => ?_) (fun h3 hg hk => ?_)
      · skip
        refine ra.s (pc' := 53) (st' := [.inr (some (11, 0))]) (fun _ => rfl) ?_
        refine ra.ga (x := 24) (nx := 56) (c := 13) (i := 18) rfl rfl ?_
        refine ra.s (pc' := 57) (st' := [.inl a1, .inr (some (13, 18))]) (fun _ => rfl) ?_
        obtain ⟨h4, hg⟩ := hg
        refine ra.ld (nx := 58) (v := (A 24 (y_ix a1))) 24 4400 rfl rfl h4 rfl ?_
        subst hk
        exact ra.ret (r := some (.inl (A 24 (y_ix a1)))) (fun _ => rfl) ⟨rfl, rfl, rfl⟩
      · skip
        refine ra.bw (1 : Int32) rfl hk hg (fun h5 hg hk => ?_) (fun h5 hg hk => ?_)
        · skip
          refine ra.s (pc' := 60) (st' := [.inr (some (11, 0))]) (fun _ => rfl) ?_
          refine ra.ga (x := 25) (nx := 63) (c := 13) (i := 19) rfl rfl ?_
          refine ra.s (pc' := 64) (st' := [.inl a1, .inr (some (13, 19))]) (fun _ => rfl) ?_
          obtain ⟨h6, hg⟩ := hg
          refine ra.ld (nx := 65) (v := (A 25 (y_ix a1))) 25 4400 rfl rfl h6 rfl ?_
          subst hk
          exact ra.ret (r := some (.inl (A 25 (y_ix a1)))) (fun _ => rfl) ⟨rfl, rfl, rfl⟩
        · skip
          refine ra.bw (2 : Int32) rfl hk hg (fun h7 hg hk => ?_) (fun h7 hg hk => ?_)
          · skip
            refine ra.s (pc' := 67) (st' := [.inr (some (11, 0))]) (fun _ => rfl) ?_
            refine ra.ga (x := 26) (nx := 70) (c := 13) (i := 20) rfl rfl ?_
            refine ra.s (pc' := 71) (st' := [.inl a1, .inr (some (13, 20))]) (fun _ => rfl) ?_
            obtain ⟨h8, hg⟩ := hg
            refine ra.ld (nx := 72) (v := (A 26 (y_ix a1))) 26 4400 rfl rfl h8 rfl ?_
            subst hk
            exact ra.ret (r := some (.inl (A 26 (y_ix a1)))) (fun _ => rfl) ⟨rfl, rfl, rfl⟩
          · skip
            refine ra.bw (3 : Int32) rfl hk hg (fun h9 hg hk => ?_) (fun h9 hg hk => ?_)
            · skip
              refine ra.s (pc' := 74) (st' := [.inr (some (11, 0))]) (fun _ => rfl) ?_
              refine ra.ga (x := 27) (nx := 77) (c := 13) (i := 21) rfl rfl ?_
              refine ra.s (pc' := 78) (st' := [.inl a1, .inr (some (13, 21))]) (fun _ => rfl) ?_
              obtain ⟨h10, hg⟩ := hg
              refine ra.ld (nx := 79) (v := (A 27 (y_ix a1))) 27 4400 rfl rfl h10 rfl ?_
              subst hk
              exact ra.ret (r := some (.inl (A 27 (y_ix a1)))) (fun _ => rfl) ⟨rfl, rfl, rfl⟩
            · skip
              refine ra.bw (4 : Int32) rfl hk hg (fun h11 hg hk => ?_) (fun h11 hg hk => ?_)
              · skip
                refine ra.s (pc' := 81) (st' := [.inr (some (11, 0))]) (fun _ => rfl) ?_
                refine ra.ga (x := 28) (nx := 84) (c := 13) (i := 22) rfl rfl ?_
                refine ra.s (pc' := 85) (st' := [.inl a1, .inr (some (13, 22))]) (fun _ => rfl) ?_
                obtain ⟨h12, hg⟩ := hg
                refine ra.ld (nx := 86) (v := (A 28 (y_ix a1))) 28 4400 rfl rfl h12 rfl ?_
                subst hk
                exact ra.ret (r := some (.inl (A 28 (y_ix a1)))) (fun _ => rfl) ⟨rfl, rfl, rfl⟩
              · skip
                refine ra.bw (5 : Int32) rfl hk hg (fun h13 hg hk => ?_) (fun h13 hg hk => ?_)
                · skip
                  refine ra.s (pc' := 88) (st' := [.inr (some (11, 0))]) (fun _ => rfl) ?_
                  refine ra.ga (x := 29) (nx := 91) (c := 13) (i := 23) rfl rfl ?_
                  refine ra.s (pc' := 92) (st' := [.inl a1, .inr (some (13, 23))]) (fun _ => rfl) ?_
                  obtain ⟨h14, hg⟩ := hg
                  refine ra.ld (nx := 93) (v := (A 29 (y_ix a1))) 29 4400 rfl rfl h14 rfl ?_
                  subst hk
                  exact ra.ret (r := some (.inl (A 29 (y_ix a1)))) (fun _ => rfl) ⟨rfl, rfl, rfl⟩
                · skip
                  refine ra.s (pc' := 95) (st' := [.inl (-1 : Int32)]) (fun _ => rfl) ?_
                  subst hk
                  exact ra.ret (r := some (.inl (-1 : Int32))) (fun _ => rfl) ⟨rfl, rfl, rfl⟩
    · skip
      refine ra.s (pc' := 13) (st' := [.inl (-1 : Int32)]) (fun _ => rfl) ?_
      subst hk
      exact ra.ret (r := some (.inl (-1 : Int32))) (fun _ => rfl) ⟨rfl, rfl, rfl⟩
/-- in -/
def rf_in (a1 a2 a3 : Int32) (A : y_A) : Int32 := (if a1 < a2 then (0 : Int32) else (if a3 < a1 then (0 : Int32) else (1 : Int32)))
def rg_in (a1 a2 a3 : Int32) (A : y_A) : Prop := ((a1 < a2 → True) ∧ (¬ a1 < a2 → ((a3 < a1 → True) ∧ (¬ a3 < a1 → True))))
theorem rh_in {d : Nat} (hd : 0 ≤ d) {a1 a2 a3 : Int32} {A : y_A} {js : List y_J} (hg : rg_in a1 a2 a3 A) : rc d 124 [.inr (some (11, 0)), .inl a1, .inl a2, .inl a3] A js (y_P (rf_in a1 a2 a3 A) A js) := by
  obtain ⟨F, hk⟩ : ∃ F, rf_in a1 a2 a3 A = F := ⟨_, rfl⟩
  rw [hk]
  show ra _ _ _ [some (.inr (some (11, 0))), some (.inl a1), some (.inl a2), some (.inl a3)] _ _ _ _
  unfold rg_in at hg
  unfold rf_in at hk
  refine ra.s (pc' := 1) (st' := [.inl a1]) (fun _ => rfl) ?_
  refine ra.s (pc' := 2) (st' := [.inl a2, .inl a1]) (fun _ => rfl) ?_
  refine ra.b (c := a1 < a2) (cd := .lt) (x := a1) (y := a2) 14 5 (st' := []) (fun _ => rfl) (y_clt _ _) hk hg (fun h1 hg hk => ?_) (fun h1 hg hk => ?_)
  · skip
    refine ra.s (pc' := 15) (st' := [.inl (0 : Int32)]) (fun _ => rfl) ?_
    subst hk
    exact ra.retz (nx := 16) rfl (Or.inl rfl) ⟨rfl, rfl, rfl⟩
  · skip
    refine ra.s (pc' := 6) (st' := [.inl a1]) (fun _ => rfl) ?_
    refine ra.s (pc' := 7) (st' := [.inl a3, .inl a1]) (fun _ => rfl) ?_
    refine ra.b (c := a3 < a1) (cd := .gt) (x := a1) (y := a3) 14 10 (st' := []) (fun _ => rfl) (y_cgt _ _) hk hg (fun h2 hg hk => ?_) (fun h2 hg hk => ?_)
    · skip
      refine ra.s (pc' := 15) (st' := [.inl (0 : Int32)]) (fun _ => rfl) ?_
      subst hk
      exact ra.retz (nx := 16) rfl (Or.inl rfl) ⟨rfl, rfl, rfl⟩
    · skip
      refine ra.s (pc' := 11) (st' := [.inl (1 : Int32)]) (fun _ => rfl) ?_
      refine ra.s (pc' := 15) (st' := [.inl (1 : Int32)]) (fun _ => rfl) ?_
      subst hk
      exact ra.retz (nx := 16) rfl (Or.inr rfl) ⟨rfl, rfl, rfl⟩
/-- isGood -/
def rf_isGood (a1 a2 a3 a4 : Int32) (A : y_A) : Int32 := (if a1 = (0 : Int32) then (if (rf_in a2 (1 : Int32) (20 : Int32) A) = (0 : Int32) then (0 : Int32) else (if (rf_in a3 (1 : Int32) (1000 : Int32) A) = (0 : Int32) then (0 : Int32) else (if a4 = (0 : Int32) then (1 : Int32) else (0 : Int32)))) else (if a1 = (1 : Int32) then (if (rf_in a2 (1 : Int32) (10 : Int32) A) = (0 : Int32) then (0 : Int32) else (if (rf_in a3 (0 : Int32) (10 : Int32) A) = (0 : Int32) then (0 : Int32) else (if a4 = (0 : Int32) then (1 : Int32) else (0 : Int32)))) else (if a1 = (2 : Int32) then (if (rf_in a2 (1 : Int32) (100 : Int32) A) = (0 : Int32) then (0 : Int32) else (if (rf_in a3 (1 : Int32) (100 : Int32) A) = (0 : Int32) then (0 : Int32) else (if a4 = (0 : Int32) then (1 : Int32) else (0 : Int32)))) else (if a1 = (3 : Int32) then (if (rf_in a2 (1 : Int32) (1000 : Int32) A) = (0 : Int32) then (0 : Int32) else (if a3 = (0 : Int32) then (if a4 = (0 : Int32) then (1 : Int32) else (0 : Int32)) else (0 : Int32))) else (if a1 = (4 : Int32) then (if (rf_in a2 (2 : Int32) (6 : Int32) A) = (0 : Int32) then (0 : Int32) else (if (rf_in a3 (1 : Int32) (50 : Int32) A) = (0 : Int32) then (0 : Int32) else (if (rf_in a4 (0 : Int32) (1 : Int32) A) = (0 : Int32) then (0 : Int32) else (1 : Int32)))) else (if a1 = (5 : Int32) then (if (rf_in a2 (1 : Int32) (100 : Int32) A) = (0 : Int32) then (0 : Int32) else (if a3 = (0 : Int32) then (if a4 = (0 : Int32) then (1 : Int32) else (0 : Int32)) else (0 : Int32))) else (if a1 = (6 : Int32) then (if a4 = (0 : Int32) then (if a2 = (0 : Int32) then (if (rf_in a3 (0 : Int32) (1000000 : Int32) A) = (0 : Int32) then (0 : Int32) else (1 : Int32)) else (if a2 = (1 : Int32) then (1 : Int32) else (0 : Int32))) else (0 : Int32)) else (if a1 = (7 : Int32) then (if (rf_in a2 (1 : Int32) (1000 : Int32) A) = (0 : Int32) then (0 : Int32) else (if a3 = (0 : Int32) then (if a4 = (0 : Int32) then (1 : Int32) else (0 : Int32)) else (0 : Int32))) else (if a1 = (8 : Int32) then (if a2 = (0 : Int32) then (if a3 = (0 : Int32) then (if a4 = (0 : Int32) then (1 : Int32) else (0 : Int32)) else (0 : Int32)) else (0 : Int32)) else (if a1 = (9 : Int32) then (if a2 = (0 : Int32) then (if (rf_in a3 (0 : Int32) (15 : Int32) A) = (0 : Int32) then (0 : Int32) else (if a4 = (0 : Int32) then (1 : Int32) else (0 : Int32))) else (0 : Int32)) else (0 : Int32)))))))))))
def rg_isGood (a1 a2 a3 a4 : Int32) (A : y_A) : Prop := ((a1 = (0 : Int32) → (rg_in a2 (1 : Int32) (20 : Int32) A) ∧ (((rf_in a2 (1 : Int32) (20 : Int32) A) = (0 : Int32) → True) ∧ (¬ (rf_in a2 (1 : Int32) (20 : Int32) A) = (0 : Int32) → (rg_in a3 (1 : Int32) (1000 : Int32) A) ∧ (((rf_in a3 (1 : Int32) (1000 : Int32) A) = (0 : Int32) → True) ∧ (¬ (rf_in a3 (1 : Int32) (1000 : Int32) A) = (0 : Int32) → ((a4 = (0 : Int32) → True) ∧ (¬ a4 = (0 : Int32) → True))))))) ∧ (¬ a1 = (0 : Int32) → ((a1 = (1 : Int32) → (rg_in a2 (1 : Int32) (10 : Int32) A) ∧ (((rf_in a2 (1 : Int32) (10 : Int32) A) = (0 : Int32) → True) ∧ (¬ (rf_in a2 (1 : Int32) (10 : Int32) A) = (0 : Int32) → (rg_in a3 (0 : Int32) (10 : Int32) A) ∧ (((rf_in a3 (0 : Int32) (10 : Int32) A) = (0 : Int32) → True) ∧ (¬ (rf_in a3 (0 : Int32) (10 : Int32) A) = (0 : Int32) → ((a4 = (0 : Int32) → True) ∧ (¬ a4 = (0 : Int32) → True))))))) ∧ (¬ a1 = (1 : Int32) → ((a1 = (2 : Int32) → (rg_in a2 (1 : Int32) (100 : Int32) A) ∧ (((rf_in a2 (1 : Int32) (100 : Int32) A) = (0 : Int32) → True) ∧ (¬ (rf_in a2 (1 : Int32) (100 : Int32) A) = (0 : Int32) → (rg_in a3 (1 : Int32) (100 : Int32) A) ∧ (((rf_in a3 (1 : Int32) (100 : Int32) A) = (0 : Int32) → True) ∧ (¬ (rf_in a3 (1 : Int32) (100 : Int32) A) = (0 : Int32) → ((a4 = (0 : Int32) → True) ∧ (¬ a4 = (0 : Int32) → True))))))) ∧ (¬ a1 = (2 : Int32) → ((a1 = (3 : Int32) → (rg_in a2 (1 : Int32) (1000 : Int32) A) ∧ (((rf_in a2 (1 : Int32) (1000 : Int32) A) = (0 : Int32) → True) ∧ (¬ (rf_in a2 (1 : Int32) (1000 : Int32) A) = (0 : Int32) → ((a3 = (0 : Int32) → ((a4 = (0 : Int32) → True) ∧ (¬ a4 = (0 : Int32) → True))) ∧ (¬ a3 = (0 : Int32) → True))))) ∧ (¬ a1 = (3 : Int32) → ((a1 = (4 : Int32) → (rg_in a2 (2 : Int32) (6 : Int32) A) ∧ (((rf_in a2 (2 : Int32) (6 : Int32) A) = (0 : Int32) → True) ∧ (¬ (rf_in a2 (2 : Int32) (6 : Int32) A) = (0 : Int32) → (rg_in a3 (1 : Int32) (50 : Int32) A) ∧ (((rf_in a3 (1 : Int32) (50 : Int32) A) = (0 : Int32) → True) ∧ (¬ (rf_in a3 (1 : Int32) (50 : Int32) A) = (0 : Int32) → (rg_in a4 (0 : Int32) (1 : Int32) A) ∧ (((rf_in a4 (0 : Int32) (1 : Int32) A) = (0 : Int32) → True) ∧ (¬ (rf_in a4 (0 : Int32) (1 : Int32) A) = (0 : Int32) → True))))))) ∧ (¬ a1 = (4 : Int32) → ((a1 = (5 : Int32) → (rg_in a2 (1 : Int32) (100 : Int32) A) ∧ (((rf_in a2 (1 : Int32) (100 : Int32) A) = (0 : Int32) → True) ∧ (¬ (rf_in a2 (1 : Int32) (100 : Int32) A) = (0 : Int32) → ((a3 = (0 : Int32) → ((a4 = (0 : Int32) → True) ∧ (¬ a4 = (0 : Int32) → True))) ∧ (¬ a3 = (0 : Int32) → True))))) ∧ (¬ a1 = (5 : Int32) → ((a1 = (6 : Int32) → ((a4 = (0 : Int32) → ((a2 = (0 : Int32) → (rg_in a3 (0 : Int32) (1000000 : Int32) A) ∧ (((rf_in a3 (0 : Int32) (1000000 : Int32) A) = (0 : Int32) → True) ∧ (¬ (rf_in a3 (0 : Int32) (1000000 : Int32) A) = (0 : Int32) → True))) ∧ (¬ a2 = (0 : Int32) → ((a2 = (1 : Int32) → True) ∧ (¬ a2 = (1 : Int32) → True))))) ∧ (¬ a4 = (0 : Int32) → True))) ∧ (¬ a1 = (6 : Int32) → ((a1 = (7 : Int32) → (rg_in a2 (1 : Int32) (1000 : Int32) A) ∧ (((rf_in a2 (1 : Int32) (1000 : Int32) A) = (0 : Int32) → True) ∧ (¬ (rf_in a2 (1 : Int32) (1000 : Int32) A) = (0 : Int32) → ((a3 = (0 : Int32) → ((a4 = (0 : Int32) → True) ∧ (¬ a4 = (0 : Int32) → True))) ∧ (¬ a3 = (0 : Int32) → True))))) ∧ (¬ a1 = (7 : Int32) → ((a1 = (8 : Int32) → ((a2 = (0 : Int32) → ((a3 = (0 : Int32) → ((a4 = (0 : Int32) → True) ∧ (¬ a4 = (0 : Int32) → True))) ∧ (¬ a3 = (0 : Int32) → True))) ∧ (¬ a2 = (0 : Int32) → True))) ∧ (¬ a1 = (8 : Int32) → ((a1 = (9 : Int32) → ((a2 = (0 : Int32) → (rg_in a3 (0 : Int32) (15 : Int32) A) ∧ (((rf_in a3 (0 : Int32) (15 : Int32) A) = (0 : Int32) → True) ∧ (¬ (rf_in a3 (0 : Int32) (15 : Int32) A) = (0 : Int32) → ((a4 = (0 : Int32) → True) ∧ (¬ a4 = (0 : Int32) → True))))) ∧ (¬ a2 = (0 : Int32) → True))) ∧ (¬ a1 = (9 : Int32) → True))))))))))))))))))))
theorem rh_isGood {d : Nat} (hd : 1 ≤ d) {a1 a2 a3 a4 : Int32} {A : y_A} {js : List y_J} (hg : rg_isGood a1 a2 a3 a4 A) : rc d 123 [.inr (some (11, 0)), .inl a1, .inl a2, .inl a3, .inl a4] A js (y_P (rf_isGood a1 a2 a3 a4 A) A js) := by
  obtain ⟨d, rfl⟩ := Nat.exists_eq_add_of_le' hd
  obtain ⟨F, hk⟩ : ∃ F, rf_isGood a1 a2 a3 a4 A = F := ⟨_, rfl⟩
  rw [hk]
  show ra _ _ _ [some (.inr (some (11, 0))), some (.inl a1), some (.inl a2), some (.inl a3), some (.inl a4)] _ _ _ _
  unfold rg_isGood at hg
  unfold rf_isGood at hk
  refine ra.s (pc' := 1) (st' := [.inl a1]) (fun _ => rfl) ?_
  refine ra.ts rfl rfl ?_
  refine ra.bw (0 : Int32) rfl hk hg (fun h1 hg hk => ?_) (fun h1 hg hk => ?_)
  · skip
    refine ra.s (pc' := 57) (st' := [.inr (some (11, 0))]) (fun _ => rfl) ?_
    refine ra.s (pc' := 58) (st' := [.inl a2, .inr (some (11, 0))]) (fun _ => rfl) ?_
    refine ra.s (pc' := 59) (st' := [.inl (1 : Int32), .inl a2, .inr (some (11, 0))]) (fun _ => rfl) ?_
    refine ra.s (pc' := 61) (st' := [.inl (20 : Int32), .inl (1 : Int32), .inl a2, .inr (some (11, 0))]) (fun _ => rfl) ?_
    obtain ⟨h2, hg⟩ := hg
    refine ra.cP (f := (rf_in a2 (1 : Int32) (20 : Int32) A)) (m := 124) (as := [.inr (some (11, 0)), .inl a2, .inl (1 : Int32), .inl (20 : Int32)]) (nx := 64) (L' := [some (.inr (some (11, 0))), some (.inl a1), some (.inl a2), some (.inl a3), some (.inl a4)]) (st' := []) (fun _ => rfl) (rh_in (by omega) h2) ?_
    refine ra.b (c := (rf_in a2 (1 : Int32) (20 : Int32) A) = (0 : Int32)) (cd := .eq) (x := (rf_in a2 (1 : Int32) (20 : Int32) A)) (y := (0 : Int32)) 88 67 (st' := []) (fun _ => rfl) (y_ceq _ _) hk hg (fun h3 hg hk => ?_) (fun h3 hg hk => ?_)
    · skip
      refine ra.s (pc' := 89) (st' := [.inl (0 : Int32)]) (fun _ => rfl) ?_
      subst hk
      exact ra.retz (nx := 90) rfl (Or.inl rfl) ⟨rfl, rfl, rfl⟩
    · skip
      refine ra.s (pc' := 68) (st' := [.inr (some (11, 0))]) (fun _ => rfl) ?_
      refine ra.s (pc' := 69) (st' := [.inl a3, .inr (some (11, 0))]) (fun _ => rfl) ?_
      refine ra.s (pc' := 70) (st' := [.inl (1 : Int32), .inl a3, .inr (some (11, 0))]) (fun _ => rfl) ?_
      refine ra.s (pc' := 73) (st' := [.inl (1000 : Int32), .inl (1 : Int32), .inl a3, .inr (some (11, 0))]) (fun _ => rfl) ?_
      obtain ⟨h4, hg⟩ := hg
      refine ra.cP (f := (rf_in a3 (1 : Int32) (1000 : Int32) A)) (m := 124) (as := [.inr (some (11, 0)), .inl a3, .inl (1 : Int32), .inl (1000 : Int32)]) (nx := 76) (L' := [some (.inr (some (11, 0))), some (.inl a1), some (.inl a2), some (.inl a3), some (.inl a4)]) (st' := []) (fun _ => rfl) (rh_in (by omega) h4) ?_
      refine ra.b (c := (rf_in a3 (1 : Int32) (1000 : Int32) A) = (0 : Int32)) (cd := .eq) (x := (rf_in a3 (1 : Int32) (1000 : Int32) A)) (y := (0 : Int32)) 88 79 (st' := []) (fun _ => rfl) (y_ceq _ _) hk hg (fun h5 hg hk => ?_) (fun h5 hg hk => ?_)
      · skip
        refine ra.s (pc' := 89) (st' := [.inl (0 : Int32)]) (fun _ => rfl) ?_
        subst hk
        exact ra.retz (nx := 90) rfl (Or.inl rfl) ⟨rfl, rfl, rfl⟩
      · skip
        refine ra.s (pc' := 81) (st' := [.inl a4]) (fun _ => rfl) ?_
        refine ra.bn (c := a4 = (0 : Int32)) (cd := .ne) (x := a4) (y := (0 : Int32)) 88 84 (st' := []) (fun _ => rfl) (y_cne _ _) hk hg (fun h6 hg hk => ?_) (fun h6 hg hk => ?_)
        · skip
          refine ra.s (pc' := 85) (st' := [.inl (1 : Int32)]) (fun _ => rfl) ?_
          refine ra.s (pc' := 89) (st' := [.inl (1 : Int32)]) (fun _ => rfl) ?_
          subst hk
          exact ra.retz (nx := 90) rfl (Or.inr rfl) ⟨rfl, rfl, rfl⟩
        · skip
          refine ra.s (pc' := 89) (st' := [.inl (0 : Int32)]) (fun _ => rfl) ?_
          subst hk
          exact ra.retz (nx := 90) rfl (Or.inl rfl) ⟨rfl, rfl, rfl⟩
  · skip
    refine ra.bw (1 : Int32) rfl hk hg (fun h7 hg hk => ?_) (fun h7 hg hk => ?_)
    · skip
      refine ra.s (pc' := 91) (st' := [.inr (some (11, 0))]) (fun _ => rfl) ?_
      refine ra.s (pc' := 92) (st' := [.inl a2, .inr (some (11, 0))]) (fun _ => rfl) ?_
      refine ra.s (pc' := 93) (st' := [.inl (1 : Int32), .inl a2, .inr (some (11, 0))]) (fun _ => rfl) ?_
      refine ra.s (pc' := 95) (st' := [.inl (10 : Int32), .inl (1 : Int32), .inl a2, .inr (some (11, 0))]) (fun _ => rfl) ?_
      obtain ⟨h8, hg⟩ := hg
      refine ra.cP (f := (rf_in a2 (1 : Int32) (10 : Int32) A)) (m := 124) (as := [.inr (some (11, 0)), .inl a2, .inl (1 : Int32), .inl (10 : Int32)]) (nx := 98) (L' := [some (.inr (some (11, 0))), some (.inl a1), some (.inl a2), some (.inl a3), some (.inl a4)]) (st' := []) (fun _ => rfl) (rh_in (by omega) h8) ?_
      refine ra.b (c := (rf_in a2 (1 : Int32) (10 : Int32) A) = (0 : Int32)) (cd := .eq) (x := (rf_in a2 (1 : Int32) (10 : Int32) A)) (y := (0 : Int32)) 121 101 (st' := []) (fun _ => rfl) (y_ceq _ _) hk hg (fun h9 hg hk => ?_) (fun h9 hg hk => ?_)
      · skip
        refine ra.s (pc' := 122) (st' := [.inl (0 : Int32)]) (fun _ => rfl) ?_
        subst hk
        exact ra.retz (nx := 123) rfl (Or.inl rfl) ⟨rfl, rfl, rfl⟩
      · skip
        refine ra.s (pc' := 102) (st' := [.inr (some (11, 0))]) (fun _ => rfl) ?_
        refine ra.s (pc' := 103) (st' := [.inl a3, .inr (some (11, 0))]) (fun _ => rfl) ?_
        refine ra.s (pc' := 104) (st' := [.inl (0 : Int32), .inl a3, .inr (some (11, 0))]) (fun _ => rfl) ?_
        refine ra.s (pc' := 106) (st' := [.inl (10 : Int32), .inl (0 : Int32), .inl a3, .inr (some (11, 0))]) (fun _ => rfl) ?_
        obtain ⟨h10, hg⟩ := hg
        refine ra.cP (f := (rf_in a3 (0 : Int32) (10 : Int32) A)) (m := 124) (as := [.inr (some (11, 0)), .inl a3, .inl (0 : Int32), .inl (10 : Int32)]) (nx := 109) (L' := [some (.inr (some (11, 0))), some (.inl a1), some (.inl a2), some (.inl a3), some (.inl a4)]) (st' := []) (fun _ => rfl) (rh_in (by omega) h10) ?_
        refine ra.b (c := (rf_in a3 (0 : Int32) (10 : Int32) A) = (0 : Int32)) (cd := .eq) (x := (rf_in a3 (0 : Int32) (10 : Int32) A)) (y := (0 : Int32)) 121 112 (st' := []) (fun _ => rfl) (y_ceq _ _) hk hg (fun h11 hg hk => ?_) (fun h11 hg hk => ?_)
        · skip
          refine ra.s (pc' := 122) (st' := [.inl (0 : Int32)]) (fun _ => rfl) ?_
          subst hk
          exact ra.retz (nx := 123) rfl (Or.inl rfl) ⟨rfl, rfl, rfl⟩
        · skip
          refine ra.s (pc' := 114) (st' := [.inl a4]) (fun _ => rfl) ?_
          refine ra.bn (c := a4 = (0 : Int32)) (cd := .ne) (x := a4) (y := (0 : Int32)) 121 117 (st' := []) (fun _ => rfl) (y_cne _ _) hk hg (fun h12 hg hk => ?_) (fun h12 hg hk => ?_)
          · skip
            refine ra.s (pc' := 118) (st' := [.inl (1 : Int32)]) (fun _ => rfl) ?_
            refine ra.s (pc' := 122) (st' := [.inl (1 : Int32)]) (fun _ => rfl) ?_
            subst hk
            exact ra.retz (nx := 123) rfl (Or.inr rfl) ⟨rfl, rfl, rfl⟩
          · skip
            refine ra.s (pc' := 122) (st' := [.inl (0 : Int32)]) (fun _ => rfl) ?_
            subst hk
            exact ra.retz (nx := 123) rfl (Or.inl rfl) ⟨rfl, rfl, rfl⟩
    · skip
      refine ra.bw (2 : Int32) rfl hk hg (fun h13 hg hk => ?_) (fun h13 hg hk => ?_)
      · skip
        refine ra.s (pc' := 124) (st' := [.inr (some (11, 0))]) (fun _ => rfl) ?_
        refine ra.s (pc' := 125) (st' := [.inl a2, .inr (some (11, 0))]) (fun _ => rfl) ?_
        refine ra.s (pc' := 126) (st' := [.inl (1 : Int32), .inl a2, .inr (some (11, 0))]) (fun _ => rfl) ?_
        refine ra.s (pc' := 128) (st' := [.inl (100 : Int32), .inl (1 : Int32), .inl a2, .inr (some (11, 0))]) (fun _ => rfl) ?_
        obtain ⟨h14, hg⟩ := hg
        refine ra.cP (f := (rf_in a2 (1 : Int32) (100 : Int32) A)) (m := 124) (as := [.inr (some (11, 0)), .inl a2, .inl (1 : Int32), .inl (100 : Int32)]) (nx := 131) (L' := [some (.inr (some (11, 0))), some (.inl a1), some (.inl a2), some (.inl a3), some (.inl a4)]) (st' := []) (fun _ => rfl) (rh_in (by omega) h14) ?_
        refine ra.b (c := (rf_in a2 (1 : Int32) (100 : Int32) A) = (0 : Int32)) (cd := .eq) (x := (rf_in a2 (1 : Int32) (100 : Int32) A)) (y := (0 : Int32)) 154 134 (st' := []) (fun _ => rfl) (y_ceq _ _) hk hg (fun h15 hg hk => ?_) (fun h15 hg hk => ?_)
        · skip
          refine ra.s (pc' := 155) (st' := [.inl (0 : Int32)]) (fun _ => rfl) ?_
          subst hk
          exact ra.retz (nx := 156) rfl (Or.inl rfl) ⟨rfl, rfl, rfl⟩
        · skip
          refine ra.s (pc' := 135) (st' := [.inr (some (11, 0))]) (fun _ => rfl) ?_
          refine ra.s (pc' := 136) (st' := [.inl a3, .inr (some (11, 0))]) (fun _ => rfl) ?_
          refine ra.s (pc' := 137) (st' := [.inl (1 : Int32), .inl a3, .inr (some (11, 0))]) (fun _ => rfl) ?_
          refine ra.s (pc' := 139) (st' := [.inl (100 : Int32), .inl (1 : Int32), .inl a3, .inr (some (11, 0))]) (fun _ => rfl) ?_
          obtain ⟨h16, hg⟩ := hg
          refine ra.cP (f := (rf_in a3 (1 : Int32) (100 : Int32) A)) (m := 124) (as := [.inr (some (11, 0)), .inl a3, .inl (1 : Int32), .inl (100 : Int32)]) (nx := 142) (L' := [some (.inr (some (11, 0))), some (.inl a1), some (.inl a2), some (.inl a3), some (.inl a4)]) (st' := []) (fun _ => rfl) (rh_in (by omega) h16) ?_
          refine ra.b (c := (rf_in a3 (1 : Int32) (100 : Int32) A) = (0 : Int32)) (cd := .eq) (x := (rf_in a3 (1 : Int32) (100 : Int32) A)) (y := (0 : Int32)) 154 145 (st' := []) (fun _ => rfl) (y_ceq _ _) hk hg (fun h17 hg hk => ?_) (fun h17 hg hk => ?_)
          · skip
            refine ra.s (pc' := 155) (st' := [.inl (0 : Int32)]) (fun _ => rfl) ?_
            subst hk
            exact ra.retz (nx := 156) rfl (Or.inl rfl) ⟨rfl, rfl, rfl⟩
          · skip
            refine ra.s (pc' := 147) (st' := [.inl a4]) (fun _ => rfl) ?_
            refine ra.bn (c := a4 = (0 : Int32)) (cd := .ne) (x := a4) (y := (0 : Int32)) 154 150 (st' := []) (fun _ => rfl) (y_cne _ _) hk hg (fun h18 hg hk => ?_) (fun h18 hg hk => ?_)
            · skip
              refine ra.s (pc' := 151) (st' := [.inl (1 : Int32)]) (fun _ => rfl) ?_
              refine ra.s (pc' := 155) (st' := [.inl (1 : Int32)]) (fun _ => rfl) ?_
              subst hk
              exact ra.retz (nx := 156) rfl (Or.inr rfl) ⟨rfl, rfl, rfl⟩
            · skip
              refine ra.s (pc' := 155) (st' := [.inl (0 : Int32)]) (fun _ => rfl) ?_
              subst hk
              exact ra.retz (nx := 156) rfl (Or.inl rfl) ⟨rfl, rfl, rfl⟩
      · skip
        refine ra.bw (3 : Int32) rfl hk hg (fun h19 hg hk => ?_) (fun h19 hg hk => ?_)
        · skip
          refine ra.s (pc' := 157) (st' := [.inr (some (11, 0))]) (fun _ => rfl) ?_
          refine ra.s (pc' := 158) (st' := [.inl a2, .inr (some (11, 0))]) (fun _ => rfl) ?_
          refine ra.s (pc' := 159) (st' := [.inl (1 : Int32), .inl a2, .inr (some (11, 0))]) (fun _ => rfl) ?_
          refine ra.s (pc' := 162) (st' := [.inl (1000 : Int32), .inl (1 : Int32), .inl a2, .inr (some (11, 0))]) (fun _ => rfl) ?_
          obtain ⟨h20, hg⟩ := hg
          refine ra.cP (f := (rf_in a2 (1 : Int32) (1000 : Int32) A)) (m := 124) (as := [.inr (some (11, 0)), .inl a2, .inl (1 : Int32), .inl (1000 : Int32)]) (nx := 165) (L' := [some (.inr (some (11, 0))), some (.inl a1), some (.inl a2), some (.inl a3), some (.inl a4)]) (st' := []) (fun _ => rfl) (rh_in (by omega) h20) ?_
          refine ra.b (c := (rf_in a2 (1 : Int32) (1000 : Int32) A) = (0 : Int32)) (cd := .eq) (x := (rf_in a2 (1 : Int32) (1000 : Int32) A)) (y := (0 : Int32)) 181 168 (st' := []) (fun _ => rfl) (y_ceq _ _) hk hg (fun h21 hg hk => ?_) (fun h21 hg hk => ?_)
          · skip
            refine ra.s (pc' := 182) (st' := [.inl (0 : Int32)]) (fun _ => rfl) ?_
            subst hk
            exact ra.retz (nx := 183) rfl (Or.inl rfl) ⟨rfl, rfl, rfl⟩
          · skip
            refine ra.s (pc' := 169) (st' := [.inl a3]) (fun _ => rfl) ?_
            refine ra.bn (c := a3 = (0 : Int32)) (cd := .ne) (x := a3) (y := (0 : Int32)) 181 172 (st' := []) (fun _ => rfl) (y_cne _ _) hk hg (fun h22 hg hk => ?_) (fun h22 hg hk => ?_)
            · skip
              refine ra.s (pc' := 174) (st' := [.inl a4]) (fun _ => rfl) ?_
              refine ra.bn (c := a4 = (0 : Int32)) (cd := .ne) (x := a4) (y := (0 : Int32)) 181 177 (st' := []) (fun _ => rfl) (y_cne _ _) hk hg (fun h23 hg hk => ?_) (fun h23 hg hk => ?_)
              · skip
                refine ra.s (pc' := 178) (st' := [.inl (1 : Int32)]) (fun _ => rfl) ?_
                refine ra.s (pc' := 182) (st' := [.inl (1 : Int32)]) (fun _ => rfl) ?_
                subst hk
                exact ra.retz (nx := 183) rfl (Or.inr rfl) ⟨rfl, rfl, rfl⟩
              · skip
                refine ra.s (pc' := 182) (st' := [.inl (0 : Int32)]) (fun _ => rfl) ?_
                subst hk
                exact ra.retz (nx := 183) rfl (Or.inl rfl) ⟨rfl, rfl, rfl⟩
            · skip
              refine ra.s (pc' := 182) (st' := [.inl (0 : Int32)]) (fun _ => rfl) ?_
              subst hk
              exact ra.retz (nx := 183) rfl (Or.inl rfl) ⟨rfl, rfl, rfl⟩
        · skip
          refine ra.bw (4 : Int32) rfl hk hg (fun h24 hg hk => ?_) (fun h24 hg hk => ?_)
          · skip
            refine ra.s (pc' := 184) (st' := [.inr (some (11, 0))]) (fun _ => rfl) ?_
            refine ra.s (pc' := 185) (st' := [.inl a2, .inr (some (11, 0))]) (fun _ => rfl) ?_
            refine ra.s (pc' := 186) (st' := [.inl (2 : Int32), .inl a2, .inr (some (11, 0))]) (fun _ => rfl) ?_
            refine ra.s (pc' := 188) (st' := [.inl (6 : Int32), .inl (2 : Int32), .inl a2, .inr (some (11, 0))]) (fun _ => rfl) ?_
            obtain ⟨h25, hg⟩ := hg
            refine ra.cP (f := (rf_in a2 (2 : Int32) (6 : Int32) A)) (m := 124) (as := [.inr (some (11, 0)), .inl a2, .inl (2 : Int32), .inl (6 : Int32)]) (nx := 191) (L' := [some (.inr (some (11, 0))), some (.inl a1), some (.inl a2), some (.inl a3), some (.inl a4)]) (st' := []) (fun _ => rfl) (rh_in (by omega) h25) ?_
            refine ra.b (c := (rf_in a2 (2 : Int32) (6 : Int32) A) = (0 : Int32)) (cd := .eq) (x := (rf_in a2 (2 : Int32) (6 : Int32) A)) (y := (0 : Int32)) 220 194 (st' := []) (fun _ => rfl) (y_ceq _ _) hk hg (fun h26 hg hk => ?_) (fun h26 hg hk => ?_)
            · skip
              refine ra.s (pc' := 221) (st' := [.inl (0 : Int32)]) (fun _ => rfl) ?_
              subst hk
              exact ra.retz (nx := 222) rfl (Or.inl rfl) ⟨rfl, rfl, rfl⟩
            · skip
              refine ra.s (pc' := 195) (st' := [.inr (some (11, 0))]) (fun _ => rfl) ?_
              refine ra.s (pc' := 196) (st' := [.inl a3, .inr (some (11, 0))]) (fun _ => rfl) ?_
              refine ra.s (pc' := 197) (st' := [.inl (1 : Int32), .inl a3, .inr (some (11, 0))]) (fun _ => rfl) ?_
              refine ra.s (pc' := 199) (st' := [.inl (50 : Int32), .inl (1 : Int32), .inl a3, .inr (some (11, 0))]) (fun _ => rfl) ?_
              obtain ⟨h27, hg⟩ := hg
              refine ra.cP (f := (rf_in a3 (1 : Int32) (50 : Int32) A)) (m := 124) (as := [.inr (some (11, 0)), .inl a3, .inl (1 : Int32), .inl (50 : Int32)]) (nx := 202) (L' := [some (.inr (some (11, 0))), some (.inl a1), some (.inl a2), some (.inl a3), some (.inl a4)]) (st' := []) (fun _ => rfl) (rh_in (by omega) h27) ?_
              refine ra.b (c := (rf_in a3 (1 : Int32) (50 : Int32) A) = (0 : Int32)) (cd := .eq) (x := (rf_in a3 (1 : Int32) (50 : Int32) A)) (y := (0 : Int32)) 220 205 (st' := []) (fun _ => rfl) (y_ceq _ _) hk hg (fun h28 hg hk => ?_) (fun h28 hg hk => ?_)
              · skip
                refine ra.s (pc' := 221) (st' := [.inl (0 : Int32)]) (fun _ => rfl) ?_
                subst hk
                exact ra.retz (nx := 222) rfl (Or.inl rfl) ⟨rfl, rfl, rfl⟩
              · skip
                refine ra.s (pc' := 206) (st' := [.inr (some (11, 0))]) (fun _ => rfl) ?_
                refine ra.s (pc' := 208) (st' := [.inl a4, .inr (some (11, 0))]) (fun _ => rfl) ?_
                refine ra.s (pc' := 209) (st' := [.inl (0 : Int32), .inl a4, .inr (some (11, 0))]) (fun _ => rfl) ?_
                refine ra.s (pc' := 210) (st' := [.inl (1 : Int32), .inl (0 : Int32), .inl a4, .inr (some (11, 0))]) (fun _ => rfl) ?_
                obtain ⟨h29, hg⟩ := hg
                refine ra.cP (f := (rf_in a4 (0 : Int32) (1 : Int32) A)) (m := 124) (as := [.inr (some (11, 0)), .inl a4, .inl (0 : Int32), .inl (1 : Int32)]) (nx := 213) (L' := [some (.inr (some (11, 0))), some (.inl a1), some (.inl a2), some (.inl a3), some (.inl a4)]) (st' := []) (fun _ => rfl) (rh_in (by omega) h29) ?_
                refine ra.b (c := (rf_in a4 (0 : Int32) (1 : Int32) A) = (0 : Int32)) (cd := .eq) (x := (rf_in a4 (0 : Int32) (1 : Int32) A)) (y := (0 : Int32)) 220 216 (st' := []) (fun _ => rfl) (y_ceq _ _) hk hg (fun h30 hg hk => ?_) (fun h30 hg hk => ?_)
                · skip
                  refine ra.s (pc' := 221) (st' := [.inl (0 : Int32)]) (fun _ => rfl) ?_
                  subst hk
                  exact ra.retz (nx := 222) rfl (Or.inl rfl) ⟨rfl, rfl, rfl⟩
                · skip
                  refine ra.s (pc' := 217) (st' := [.inl (1 : Int32)]) (fun _ => rfl) ?_
                  refine ra.s (pc' := 221) (st' := [.inl (1 : Int32)]) (fun _ => rfl) ?_
                  subst hk
                  exact ra.retz (nx := 222) rfl (Or.inr rfl) ⟨rfl, rfl, rfl⟩
          · skip
            refine ra.bw (5 : Int32) rfl hk hg (fun h31 hg hk => ?_) (fun h31 hg hk => ?_)
            · skip
              refine ra.s (pc' := 223) (st' := [.inr (some (11, 0))]) (fun _ => rfl) ?_
              refine ra.s (pc' := 224) (st' := [.inl a2, .inr (some (11, 0))]) (fun _ => rfl) ?_
              refine ra.s (pc' := 225) (st' := [.inl (1 : Int32), .inl a2, .inr (some (11, 0))]) (fun _ => rfl) ?_
              refine ra.s (pc' := 227) (st' := [.inl (100 : Int32), .inl (1 : Int32), .inl a2, .inr (some (11, 0))]) (fun _ => rfl) ?_
              obtain ⟨h32, hg⟩ := hg
              refine ra.cP (f := (rf_in a2 (1 : Int32) (100 : Int32) A)) (m := 124) (as := [.inr (some (11, 0)), .inl a2, .inl (1 : Int32), .inl (100 : Int32)]) (nx := 230) (L' := [some (.inr (some (11, 0))), some (.inl a1), some (.inl a2), some (.inl a3), some (.inl a4)]) (st' := []) (fun _ => rfl) (rh_in (by omega) h32) ?_
              refine ra.b (c := (rf_in a2 (1 : Int32) (100 : Int32) A) = (0 : Int32)) (cd := .eq) (x := (rf_in a2 (1 : Int32) (100 : Int32) A)) (y := (0 : Int32)) 246 233 (st' := []) (fun _ => rfl) (y_ceq _ _) hk hg (fun h33 hg hk => ?_) (fun h33 hg hk => ?_)
              · skip
                refine ra.s (pc' := 247) (st' := [.inl (0 : Int32)]) (fun _ => rfl) ?_
                subst hk
                exact ra.retz (nx := 248) rfl (Or.inl rfl) ⟨rfl, rfl, rfl⟩
              · skip
                refine ra.s (pc' := 234) (st' := [.inl a3]) (fun _ => rfl) ?_
                refine ra.bn (c := a3 = (0 : Int32)) (cd := .ne) (x := a3) (y := (0 : Int32)) 246 237 (st' := []) (fun _ => rfl) (y_cne _ _) hk hg (fun h34 hg hk => ?_) (fun h34 hg hk => ?_)
                · skip
                  refine ra.s (pc' := 239) (st' := [.inl a4]) (fun _ => rfl) ?_
                  refine ra.bn (c := a4 = (0 : Int32)) (cd := .ne) (x := a4) (y := (0 : Int32)) 246 242 (st' := []) (fun _ => rfl) (y_cne _ _) hk hg (fun h35 hg hk => ?_) (fun h35 hg hk => ?_)
                  · skip
                    refine ra.s (pc' := 243) (st' := [.inl (1 : Int32)]) (fun _ => rfl) ?_
                    refine ra.s (pc' := 247) (st' := [.inl (1 : Int32)]) (fun _ => rfl) ?_
                    subst hk
                    exact ra.retz (nx := 248) rfl (Or.inr rfl) ⟨rfl, rfl, rfl⟩
                  · skip
                    refine ra.s (pc' := 247) (st' := [.inl (0 : Int32)]) (fun _ => rfl) ?_
                    subst hk
                    exact ra.retz (nx := 248) rfl (Or.inl rfl) ⟨rfl, rfl, rfl⟩
                · skip
                  refine ra.s (pc' := 247) (st' := [.inl (0 : Int32)]) (fun _ => rfl) ?_
                  subst hk
                  exact ra.retz (nx := 248) rfl (Or.inl rfl) ⟨rfl, rfl, rfl⟩
            · skip
              refine ra.bw (6 : Int32) rfl hk hg (fun h36 hg hk => ?_) (fun h36 hg hk => ?_)
              · skip
                refine ra.s (pc' := 250) (st' := [.inl a4]) (fun _ => rfl) ?_
                refine ra.bn (c := a4 = (0 : Int32)) (cd := .ne) (x := a4) (y := (0 : Int32)) 278 253 (st' := []) (fun _ => rfl) (y_cne _ _) hk hg (fun h37 hg hk => ?_) (fun h37 hg hk => ?_)
                · skip
                  refine ra.s (pc' := 254) (st' := [.inl a2]) (fun _ => rfl) ?_
                  refine ra.bn (c := a2 = (0 : Int32)) (cd := .ne) (x := a2) (y := (0 : Int32)) 269 257 (st' := []) (fun _ => rfl) (y_cne _ _) hk hg (fun h38 hg hk => ?_) (fun h38 hg hk => ?_)
                  · skip
                    refine ra.s (pc' := 258) (st' := [.inr (some (11, 0))]) (fun _ => rfl) ?_
                    refine ra.s (pc' := 259) (st' := [.inl a3, .inr (some (11, 0))]) (fun _ => rfl) ?_
                    refine ra.s (pc' := 260) (st' := [.inl (0 : Int32), .inl a3, .inr (some (11, 0))]) (fun _ => rfl) ?_
                    refine ra.s (pc' := 263) (st' := [.inl (1000000 : Int32), .inl (0 : Int32), .inl a3, .inr (some (11, 0))]) (fun _ => rfl) ?_
                    obtain ⟨h39, hg⟩ := hg
                    refine ra.cP (f := (rf_in a3 (0 : Int32) (1000000 : Int32) A)) (m := 124) (as := [.inr (some (11, 0)), .inl a3, .inl (0 : Int32), .inl (1000000 : Int32)]) (nx := 266) (L' := [some (.inr (some (11, 0))), some (.inl a1), some (.inl a2), some (.inl a3), some (.inl a4)]) (st' := []) (fun _ => rfl) (rh_in (by omega) h39) ?_
                    refine ra.bn (c := (rf_in a3 (0 : Int32) (1000000 : Int32) A) = (0 : Int32)) (cd := .ne) (x := (rf_in a3 (0 : Int32) (1000000 : Int32) A)) (y := (0 : Int32)) 274 269 (st' := []) (fun _ => rfl) (y_cne _ _) hk hg (fun h40 hg hk => ?_) (fun h40 hg hk => ?_)
                    · skip
                      refine ra.s (pc' := 270) (st' := [.inl a2]) (fun _ => rfl) ?_
                      refine ra.s (pc' := 271) (st' := [.inl (1 : Int32), .inl a2]) (fun _ => rfl) ?_
                      refine ra.bt (cd := .ne) (x := a2) (y := (1 : Int32)) 278 274 (st' := []) (fun _ => rfl) (y_cne _ _) (fun z => absurd (h38.symm.trans z) (by decide)) ?_
                      refine ra.s (pc' := 279) (st' := [.inl (0 : Int32)]) (fun _ => rfl) ?_
                      subst hk
                      exact ra.retz (nx := 280) rfl (Or.inl rfl) ⟨rfl, rfl, rfl⟩
                    · skip
                      refine ra.s (pc' := 275) (st' := [.inl (1 : Int32)]) (fun _ => rfl) ?_
                      refine ra.s (pc' := 279) (st' := [.inl (1 : Int32)]) (fun _ => rfl) ?_
                      subst hk
                      exact ra.retz (nx := 280) rfl (Or.inr rfl) ⟨rfl, rfl, rfl⟩
                  · skip
                    refine ra.s (pc' := 270) (st' := [.inl a2]) (fun _ => rfl) ?_
                    refine ra.s (pc' := 271) (st' := [.inl (1 : Int32), .inl a2]) (fun _ => rfl) ?_
                    refine ra.bn (c := a2 = (1 : Int32)) (cd := .ne) (x := a2) (y := (1 : Int32)) 278 274 (st' := []) (fun _ => rfl) (y_cne _ _) hk hg (fun h41 hg hk => ?_) (fun h41 hg hk => ?_)
                    · skip
                      refine ra.s (pc' := 275) (st' := [.inl (1 : Int32)]) (fun _ => rfl) ?_
                      refine ra.s (pc' := 279) (st' := [.inl (1 : Int32)]) (fun _ => rfl) ?_
                      subst hk
                      exact ra.retz (nx := 280) rfl (Or.inr rfl) ⟨rfl, rfl, rfl⟩
                    · skip
                      refine ra.s (pc' := 279) (st' := [.inl (0 : Int32)]) (fun _ => rfl) ?_
                      subst hk
                      exact ra.retz (nx := 280) rfl (Or.inl rfl) ⟨rfl, rfl, rfl⟩
                · skip
                  refine ra.s (pc' := 279) (st' := [.inl (0 : Int32)]) (fun _ => rfl) ?_
                  subst hk
                  exact ra.retz (nx := 280) rfl (Or.inl rfl) ⟨rfl, rfl, rfl⟩
              · skip
                refine ra.bw (7 : Int32) rfl hk hg (fun h42 hg hk => ?_) (fun h42 hg hk => ?_)
                · skip
                  refine ra.s (pc' := 157) (st' := [.inr (some (11, 0))]) (fun _ => rfl) ?_
                  refine ra.s (pc' := 158) (st' := [.inl a2, .inr (some (11, 0))]) (fun _ => rfl) ?_
                  refine ra.s (pc' := 159) (st' := [.inl (1 : Int32), .inl a2, .inr (some (11, 0))]) (fun _ => rfl) ?_
                  refine ra.s (pc' := 162) (st' := [.inl (1000 : Int32), .inl (1 : Int32), .inl a2, .inr (some (11, 0))]) (fun _ => rfl) ?_
                  obtain ⟨h43, hg⟩ := hg
                  refine ra.cP (f := (rf_in a2 (1 : Int32) (1000 : Int32) A)) (m := 124) (as := [.inr (some (11, 0)), .inl a2, .inl (1 : Int32), .inl (1000 : Int32)]) (nx := 165) (L' := [some (.inr (some (11, 0))), some (.inl a1), some (.inl a2), some (.inl a3), some (.inl a4)]) (st' := []) (fun _ => rfl) (rh_in (by omega) h43) ?_
                  refine ra.b (c := (rf_in a2 (1 : Int32) (1000 : Int32) A) = (0 : Int32)) (cd := .eq) (x := (rf_in a2 (1 : Int32) (1000 : Int32) A)) (y := (0 : Int32)) 181 168 (st' := []) (fun _ => rfl) (y_ceq _ _) hk hg (fun h44 hg hk => ?_) (fun h44 hg hk => ?_)
                  · skip
                    refine ra.s (pc' := 182) (st' := [.inl (0 : Int32)]) (fun _ => rfl) ?_
                    subst hk
                    exact ra.retz (nx := 183) rfl (Or.inl rfl) ⟨rfl, rfl, rfl⟩
                  · skip
                    refine ra.s (pc' := 169) (st' := [.inl a3]) (fun _ => rfl) ?_
                    refine ra.bn (c := a3 = (0 : Int32)) (cd := .ne) (x := a3) (y := (0 : Int32)) 181 172 (st' := []) (fun _ => rfl) (y_cne _ _) hk hg (fun h45 hg hk => ?_) (fun h45 hg hk => ?_)
                    · skip
                      refine ra.s (pc' := 174) (st' := [.inl a4]) (fun _ => rfl) ?_
                      refine ra.bn (c := a4 = (0 : Int32)) (cd := .ne) (x := a4) (y := (0 : Int32)) 181 177 (st' := []) (fun _ => rfl) (y_cne _ _) hk hg (fun h46 hg hk => ?_) (fun h46 hg hk => ?_)
                      · skip
                        refine ra.s (pc' := 178) (st' := [.inl (1 : Int32)]) (fun _ => rfl) ?_
                        refine ra.s (pc' := 182) (st' := [.inl (1 : Int32)]) (fun _ => rfl) ?_
                        subst hk
                        exact ra.retz (nx := 183) rfl (Or.inr rfl) ⟨rfl, rfl, rfl⟩
                      · skip
                        refine ra.s (pc' := 182) (st' := [.inl (0 : Int32)]) (fun _ => rfl) ?_
                        subst hk
                        exact ra.retz (nx := 183) rfl (Or.inl rfl) ⟨rfl, rfl, rfl⟩
                    · skip
                      refine ra.s (pc' := 182) (st' := [.inl (0 : Int32)]) (fun _ => rfl) ?_
                      subst hk
                      exact ra.retz (nx := 183) rfl (Or.inl rfl) ⟨rfl, rfl, rfl⟩
                · skip
                  refine ra.bw (8 : Int32) rfl hk hg (fun h47 hg hk => ?_) (fun h47 hg hk => ?_)
                  · skip
                    refine ra.s (pc' := 281) (st' := [.inl a2]) (fun _ => rfl) ?_
                    refine ra.bn (c := a2 = (0 : Int32)) (cd := .ne) (x := a2) (y := (0 : Int32)) 297 284 (st' := []) (fun _ => rfl) (y_cne _ _) hk hg (fun h48 hg hk => ?_) (fun h48 hg hk => ?_)
                    · skip
                      refine ra.s (pc' := 285) (st' := [.inl a3]) (fun _ => rfl) ?_
                      refine ra.bn (c := a3 = (0 : Int32)) (cd := .ne) (x := a3) (y := (0 : Int32)) 297 288 (st' := []) (fun _ => rfl) (y_cne _ _) hk hg (fun h49 hg hk => ?_) (fun h49 hg hk => ?_)
                      · skip
                        refine ra.s (pc' := 290) (st' := [.inl a4]) (fun _ => rfl) ?_
                        refine ra.bn (c := a4 = (0 : Int32)) (cd := .ne) (x := a4) (y := (0 : Int32)) 297 293 (st' := []) (fun _ => rfl) (y_cne _ _) hk hg (fun h50 hg hk => ?_) (fun h50 hg hk => ?_)
                        · skip
                          refine ra.s (pc' := 294) (st' := [.inl (1 : Int32)]) (fun _ => rfl) ?_
                          refine ra.s (pc' := 298) (st' := [.inl (1 : Int32)]) (fun _ => rfl) ?_
                          subst hk
                          exact ra.retz (nx := 299) rfl (Or.inr rfl) ⟨rfl, rfl, rfl⟩
                        · skip
                          refine ra.s (pc' := 298) (st' := [.inl (0 : Int32)]) (fun _ => rfl) ?_
                          subst hk
                          exact ra.retz (nx := 299) rfl (Or.inl rfl) ⟨rfl, rfl, rfl⟩
                      · skip
                        refine ra.s (pc' := 298) (st' := [.inl (0 : Int32)]) (fun _ => rfl) ?_
                        subst hk
                        exact ra.retz (nx := 299) rfl (Or.inl rfl) ⟨rfl, rfl, rfl⟩
                    · skip
                      refine ra.s (pc' := 298) (st' := [.inl (0 : Int32)]) (fun _ => rfl) ?_
                      subst hk
                      exact ra.retz (nx := 299) rfl (Or.inl rfl) ⟨rfl, rfl, rfl⟩
                  · skip
                    refine ra.bw (9 : Int32) rfl hk hg (fun h51 hg hk => ?_) (fun h51 hg hk => ?_)
                    · skip
                      refine ra.s (pc' := 300) (st' := [.inl a2]) (fun _ => rfl) ?_
                      refine ra.bn (c := a2 = (0 : Int32)) (cd := .ne) (x := a2) (y := (0 : Int32)) 323 303 (st' := []) (fun _ => rfl) (y_cne _ _) hk hg (fun h52 hg hk => ?_) (fun h52 hg hk => ?_)
                      · skip
                        refine ra.s (pc' := 304) (st' := [.inr (some (11, 0))]) (fun _ => rfl) ?_
                        refine ra.s (pc' := 305) (st' := [.inl a3, .inr (some (11, 0))]) (fun _ => rfl) ?_
                        refine ra.s (pc' := 306) (st' := [.inl (0 : Int32), .inl a3, .inr (some (11, 0))]) (fun _ => rfl) ?_
                        refine ra.s (pc' := 308) (st' := [.inl (15 : Int32), .inl (0 : Int32), .inl a3, .inr (some (11, 0))]) (fun _ => rfl) ?_
                        obtain ⟨h53, hg⟩ := hg
                        refine ra.cP (f := (rf_in a3 (0 : Int32) (15 : Int32) A)) (m := 124) (as := [.inr (some (11, 0)), .inl a3, .inl (0 : Int32), .inl (15 : Int32)]) (nx := 311) (L' := [some (.inr (some (11, 0))), some (.inl a1), some (.inl a2), some (.inl a3), some (.inl a4)]) (st' := []) (fun _ => rfl) (rh_in (by omega) h53) ?_
                        refine ra.b (c := (rf_in a3 (0 : Int32) (15 : Int32) A) = (0 : Int32)) (cd := .eq) (x := (rf_in a3 (0 : Int32) (15 : Int32) A)) (y := (0 : Int32)) 323 314 (st' := []) (fun _ => rfl) (y_ceq _ _) hk hg (fun h54 hg hk => ?_) (fun h54 hg hk => ?_)
                        · skip
                          refine ra.s (pc' := 324) (st' := [.inl (0 : Int32)]) (fun _ => rfl) ?_
                          subst hk
                          exact ra.retz (nx := 325) rfl (Or.inl rfl) ⟨rfl, rfl, rfl⟩
                        · skip
                          refine ra.s (pc' := 316) (st' := [.inl a4]) (fun _ => rfl) ?_
                          refine ra.bn (c := a4 = (0 : Int32)) (cd := .ne) (x := a4) (y := (0 : Int32)) 323 319 (st' := []) (fun _ => rfl) (y_cne _ _) hk hg (fun h55 hg hk => ?_) (fun h55 hg hk => ?_)
                          · skip
                            refine ra.s (pc' := 320) (st' := [.inl (1 : Int32)]) (fun _ => rfl) ?_
                            refine ra.s (pc' := 324) (st' := [.inl (1 : Int32)]) (fun _ => rfl) ?_
                            subst hk
                            exact ra.retz (nx := 325) rfl (Or.inr rfl) ⟨rfl, rfl, rfl⟩
                          · skip
                            refine ra.s (pc' := 324) (st' := [.inl (0 : Int32)]) (fun _ => rfl) ?_
                            subst hk
                            exact ra.retz (nx := 325) rfl (Or.inl rfl) ⟨rfl, rfl, rfl⟩
                      · skip
                        refine ra.s (pc' := 324) (st' := [.inl (0 : Int32)]) (fun _ => rfl) ?_
                        subst hk
                        exact ra.retz (nx := 325) rfl (Or.inl rfl) ⟨rfl, rfl, rfl⟩
                    · skip
                      refine ra.s (pc' := 326) (st' := [.inl (0 : Int32)]) (fun _ => rfl) ?_
                      subst hk
                      exact ra.retz (nx := 327) rfl (Or.inl rfl) ⟨rfl, rfl, rfl⟩
/-- isTower -/
def rf_isTower (a1 : Int32) (A : y_A) : Int32 := (if a1 < (0 : Int32) then (0 : Int32) else (if (A 47 0) ≤ a1 then (0 : Int32) else (1 : Int32)))
def rg_isTower (a1 : Int32) (A : y_A) : Prop := ((a1 < (0 : Int32) → True) ∧ (¬ a1 < (0 : Int32) → (((A 47 0) ≤ a1 → True) ∧ (¬ (A 47 0) ≤ a1 → True))))
theorem rh_isTower {d : Nat} (hd : 0 ≤ d) {a1 : Int32} {A : y_A} {js : List y_J} (hg : rg_isTower a1 A) : rc d 128 [.inr (some (11, 0)), .inl a1] A js (y_P (rf_isTower a1 A) A js) := by
  obtain ⟨F, hk⟩ : ∃ F, rf_isTower a1 A = F := ⟨_, rfl⟩
  rw [hk]
  show ra _ _ _ [some (.inr (some (11, 0))), some (.inl a1)] _ _ _ _
  unfold rg_isTower at hg
  unfold rf_isTower at hk
  refine ra.s (pc' := 1) (st' := [.inl a1]) (fun _ => rfl) ?_
  refine ra.b (c := a1 < (0 : Int32)) (cd := .lt) (x := a1) (y := (0 : Int32)) 16 4 (st' := []) (fun _ => rfl) (y_clt _ _) hk hg (fun h1 hg hk => ?_) (fun h1 hg hk => ?_)
  · skip
    refine ra.s (pc' := 17) (st' := [.inl (0 : Int32)]) (fun _ => rfl) ?_
    subst hk
    exact ra.retz (nx := 18) rfl (Or.inl rfl) ⟨rfl, rfl, rfl⟩
  · skip
    refine ra.s (pc' := 5) (st' := [.inl a1]) (fun _ => rfl) ?_
    refine ra.s (pc' := 6) (st' := [.inr (some (11, 0)), .inl a1]) (fun _ => rfl) ?_
    refine ra.gi (x := 47) (nx := 9) (v := (A 47 0)) rfl rfl rfl ?_
    refine ra.b (c := (A 47 0) ≤ a1) (cd := .ge) (x := a1) (y := (A 47 0)) 16 12 (st' := []) (fun _ => rfl) (y_cge _ _) hk hg (fun h2 hg hk => ?_) (fun h2 hg hk => ?_)
    · skip
      refine ra.s (pc' := 17) (st' := [.inl (0 : Int32)]) (fun _ => rfl) ?_
      subst hk
      exact ra.retz (nx := 18) rfl (Or.inl rfl) ⟨rfl, rfl, rfl⟩
    · skip
      refine ra.s (pc' := 13) (st' := [.inl (1 : Int32)]) (fun _ => rfl) ?_
      refine ra.s (pc' := 17) (st' := [.inl (1 : Int32)]) (fun _ => rfl) ?_
      subst hk
      exact ra.retz (nx := 18) rfl (Or.inr rfl) ⟨rfl, rfl, rfl⟩
/-- isAmount -/
def rf_isAmount (a1 a2 : Int32) (A : y_A) : Int32 := (if a2 < (0 : Int32) then (0 : Int32) else (if a1 = (0 : Int32) then (if (0 : Int32) < a2 then (0 : Int32) else (1 : Int32)) else (if (1000000 : Int32) < a2 then (0 : Int32) else (1 : Int32))))
def rg_isAmount (a1 a2 : Int32) (A : y_A) : Prop := ((a2 < (0 : Int32) → True) ∧ (¬ a2 < (0 : Int32) → ((a1 = (0 : Int32) → (((0 : Int32) < a2 → True) ∧ (¬ (0 : Int32) < a2 → True))) ∧ (¬ a1 = (0 : Int32) → (((1000000 : Int32) < a2 → True) ∧ (¬ (1000000 : Int32) < a2 → True))))))
theorem rh_isAmount {d : Nat} (hd : 0 ≤ d) {a1 a2 : Int32} {A : y_A} {js : List y_J} (hg : rg_isAmount a1 a2 A) : rc d 129 [.inr (some (11, 0)), .inl a1, .inl a2] A js (y_P (rf_isAmount a1 a2 A) A js) := by
  obtain ⟨F, hk⟩ : ∃ F, rf_isAmount a1 a2 A = F := ⟨_, rfl⟩
  rw [hk]
  show ra _ _ _ [some (.inr (some (11, 0))), some (.inl a1), some (.inl a2)] _ _ _ _
  unfold rg_isAmount at hg
  unfold rf_isAmount at hk
  refine ra.s (pc' := 1) (st' := [.inl a2]) (fun _ => rfl) ?_
  refine ra.b (c := a2 < (0 : Int32)) (cd := .lt) (x := a2) (y := (0 : Int32)) 23 4 (st' := []) (fun _ => rfl) (y_clt _ _) hk hg (fun h1 hg hk => ?_) (fun h1 hg hk => ?_)
  · skip
    refine ra.s (pc' := 24) (st' := [.inl (0 : Int32)]) (fun _ => rfl) ?_
    subst hk
    exact ra.retz (nx := 25) rfl (Or.inl rfl) ⟨rfl, rfl, rfl⟩
  · skip
    refine ra.s (pc' := 5) (st' := [.inl a2]) (fun _ => rfl) ?_
    refine ra.s (pc' := 6) (st' := [.inl a1, .inl a2]) (fun _ => rfl) ?_
    refine ra.bn (c := a1 = (0 : Int32)) (cd := .ne) (x := a1) (y := (0 : Int32)) 13 9 (st' := [.inl a2]) (fun _ => rfl) (y_cne _ _) hk hg (fun h2 hg hk => ?_) (fun h2 hg hk => ?_)
    · skip
      refine ra.s (pc' := 10) (st' := [.inl (0 : Int32), .inl a2]) (fun _ => rfl) ?_
      refine ra.s (pc' := 16) (st' := [.inl (0 : Int32), .inl a2]) (fun _ => rfl) ?_
      refine ra.b (c := (0 : Int32) < a2) (cd := .gt) (x := a2) (y := (0 : Int32)) 23 19 (st' := []) (fun _ => rfl) (y_cgt _ _) hk hg (fun h3 hg hk => ?_) (fun h3 hg hk => ?_)
      · skip
        refine ra.s (pc' := 24) (st' := [.inl (0 : Int32)]) (fun _ => rfl) ?_
        subst hk
        exact ra.retz (nx := 25) rfl (Or.inl rfl) ⟨rfl, rfl, rfl⟩
      · skip
        refine ra.s (pc' := 20) (st' := [.inl (1 : Int32)]) (fun _ => rfl) ?_
        refine ra.s (pc' := 24) (st' := [.inl (1 : Int32)]) (fun _ => rfl) ?_
        subst hk
        exact ra.retz (nx := 25) rfl (Or.inr rfl) ⟨rfl, rfl, rfl⟩
    · skip
      refine ra.s (pc' := 16) (st' := [.inl (1000000 : Int32), .inl a2]) (fun _ => rfl) ?_
      refine ra.b (c := (1000000 : Int32) < a2) (cd := .gt) (x := a2) (y := (1000000 : Int32)) 23 19 (st' := []) (fun _ => rfl) (y_cgt _ _) hk hg (fun h4 hg hk => ?_) (fun h4 hg hk => ?_)
      · skip
        refine ra.s (pc' := 24) (st' := [.inl (0 : Int32)]) (fun _ => rfl) ?_
        subst hk
        exact ra.retz (nx := 25) rfl (Or.inl rfl) ⟨rfl, rfl, rfl⟩
      · skip
        refine ra.s (pc' := 20) (st' := [.inl (1 : Int32)]) (fun _ => rfl) ?_
        refine ra.s (pc' := 24) (st' := [.inl (1 : Int32)]) (fun _ => rfl) ?_
        subst hk
        exact ra.retz (nx := 25) rfl (Or.inr rfl) ⟨rfl, rfl, rfl⟩
/-- guardAt -/
def rf_guardAt (a1 a2 : Int32) (A : y_A) : Int32 := (if (A 48 (y_ix (A 51 (y_ix a1)))) ≤ a2 then (-1 : Int32) else (A 49 (y_ix (((5 : Int32) * (A 51 (y_ix a1))) + a2))))
def rg_guardAt (a1 a2 : Int32) (A : y_A) : Prop := (y_in a1 60) ∧ (y_in (A 51 (y_ix a1)) 11) ∧ (((A 48 (y_ix (A 51 (y_ix a1)))) ≤ a2 → True) ∧ (¬ (A 48 (y_ix (A 51 (y_ix a1)))) ≤ a2 → (y_in (((5 : Int32) * (A 51 (y_ix a1))) + a2) 55) ∧ True))
theorem rh_guardAt {d : Nat} (hd : 0 ≤ d) {a1 a2 : Int32} {A : y_A} {js : List y_J} (hg : rg_guardAt a1 a2 A) : rc d 134 [.inr (some (11, 0)), .inl a1, .inl a2] A js (y_P (rf_guardAt a1 a2 A) A js) := by
  obtain ⟨F, hk⟩ : ∃ F, rf_guardAt a1 a2 A = F := ⟨_, rfl⟩
  rw [hk]
  show ra _ _ _ [some (.inr (some (11, 0))), some (.inl a1), some (.inl a2)] _ _ _ _
  unfold rg_guardAt at hg
  unfold rf_guardAt at hk
  refine ra.s (pc' := 1) (st' := [.inl a2]) (fun _ => rfl) ?_
  refine ra.s (pc' := 2) (st' := [.inr (some (11, 0)), .inl a2]) (fun _ => rfl) ?_
  refine ra.ga (x := 48) (nx := 5) (c := 13) (i := 39) rfl rfl ?_
  refine ra.s (pc' := 6) (st' := [.inr (some (11, 0)), .inr (some (13, 39)), .inl a2]) (fun _ => rfl) ?_
  refine ra.ga (x := 51) (nx := 9) (c := 13) (i := 41) rfl rfl ?_
  refine ra.s (pc' := 10) (st' := [.inl a1, .inr (some (13, 41)), .inr (some (13, 39)), .inl a2]) (fun _ => rfl) ?_
  obtain ⟨h1, hg⟩ := hg
  refine ra.ld (nx := 11) (v := (A 51 (y_ix a1))) 51 60 rfl rfl h1 rfl ?_
  obtain ⟨h2, hg⟩ := hg
  refine ra.ld (nx := 12) (v := (A 48 (y_ix (A 51 (y_ix a1))))) 48 11 rfl rfl h2 rfl ?_
  refine ra.b (c := (A 48 (y_ix (A 51 (y_ix a1)))) ≤ a2) (cd := .ge) (x := a2) (y := (A 48 (y_ix (A 51 (y_ix a1))))) 33 15 (st' := []) (fun _ => rfl) (y_cge _ _) hk hg (fun h3 hg hk => ?_) (fun h3 hg hk => ?_)
  · skip
    refine ra.s (pc' := 34) (st' := [.inl (-1 : Int32)]) (fun _ => rfl) ?_
    subst hk
    exact ra.ret (r := some (.inl (-1 : Int32))) (fun _ => rfl) ⟨rfl, rfl, rfl⟩
  · skip
    refine ra.s (pc' := 16) (st' := [.inr (some (11, 0))]) (fun _ => rfl) ?_
    refine ra.ga (x := 49) (nx := 19) (c := 13) (i := 40) rfl rfl ?_
    refine ra.s (pc' := 20) (st' := [.inl (5 : Int32), .inr (some (13, 40))]) (fun _ => rfl) ?_
    refine ra.s (pc' := 21) (st' := [.inr (some (11, 0)), .inl (5 : Int32), .inr (some (13, 40))]) (fun _ => rfl) ?_
    refine ra.ga (x := 51) (nx := 24) (c := 13) (i := 41) rfl rfl ?_
    refine ra.s (pc' := 25) (st' := [.inl a1, .inr (some (13, 41)), .inl (5 : Int32), .inr (some (13, 40))]) (fun _ => rfl) ?_
    refine ra.ld (nx := 26) (v := (A 51 (y_ix a1))) 51 60 rfl rfl h1 rfl ?_
    refine ra.s (pc' := 27) (st' := [.inl ((5 : Int32) * (A 51 (y_ix a1))), .inr (some (13, 40))]) (fun _ => rfl) ?_
    refine ra.s (pc' := 28) (st' := [.inl a2, .inl ((5 : Int32) * (A 51 (y_ix a1))), .inr (some (13, 40))]) (fun _ => rfl) ?_
    refine ra.s (pc' := 29) (st' := [.inl (((5 : Int32) * (A 51 (y_ix a1))) + a2), .inr (some (13, 40))]) (fun _ => rfl) ?_
    obtain ⟨h4, hg⟩ := hg
    refine ra.ld (nx := 30) (v := (A 49 (y_ix (((5 : Int32) * (A 51 (y_ix a1))) + a2)))) 49 55 rfl rfl h4 rfl ?_
    refine ra.s (pc' := 34) (st' := [.inl (A 49 (y_ix (((5 : Int32) * (A 51 (y_ix a1))) + a2)))]) (fun _ => rfl) ?_
    subst hk
    exact ra.ret (r := some (.inl (A 49 (y_ix (((5 : Int32) * (A 51 (y_ix a1))) + a2))))) (fun _ => rfl) ⟨rfl, rfl, rfl⟩
/-- isAlike -/
def rf_isAlike (a1 a2 : Int32) (A : y_A) : Int32 := (if (A 52 (y_ix a1)) = (A 52 (y_ix a2)) then (if (A 53 (y_ix a1)) = (A 53 (y_ix a2)) then (if (A 54 (y_ix a1)) = (A 54 (y_ix a2)) then (1 : Int32) else (0 : Int32)) else (0 : Int32)) else (0 : Int32))
def rg_isAlike (a1 a2 : Int32) (A : y_A) : Prop := (y_in a1 60) ∧ (y_in a2 60) ∧ (((A 52 (y_ix a1)) = (A 52 (y_ix a2)) → (((A 53 (y_ix a1)) = (A 53 (y_ix a2)) → (((A 54 (y_ix a1)) = (A 54 (y_ix a2)) → True) ∧ (¬ (A 54 (y_ix a1)) = (A 54 (y_ix a2)) → True))) ∧ (¬ (A 53 (y_ix a1)) = (A 53 (y_ix a2)) → True))) ∧ (¬ (A 52 (y_ix a1)) = (A 52 (y_ix a2)) → True))
theorem rh_isAlike {d : Nat} (hd : 0 ≤ d) {a1 a2 : Int32} {A : y_A} {js : List y_J} (hg : rg_isAlike a1 a2 A) : rc d 138 [.inr (some (11, 0)), .inl a1, .inl a2] A js (y_P (rf_isAlike a1 a2 A) A js) := by
  obtain ⟨F, hk⟩ : ∃ F, rf_isAlike a1 a2 A = F := ⟨_, rfl⟩
  rw [hk]
  show ra _ _ _ [some (.inr (some (11, 0))), some (.inl a1), some (.inl a2)] _ _ _ _
  unfold rg_isAlike at hg
  unfold rf_isAlike at hk
  refine ra.s (pc' := 1) (st' := [.inr (some (11, 0))]) (fun _ => rfl) ?_
  refine ra.ga (x := 52) (nx := 4) (c := 13) (i := 42) rfl rfl ?_
  refine ra.s (pc' := 5) (st' := [.inl a1, .inr (some (13, 42))]) (fun _ => rfl) ?_
  obtain ⟨h1, hg⟩ := hg
  refine ra.ld (nx := 6) (v := (A 52 (y_ix a1))) 52 60 rfl rfl h1 rfl ?_
  refine ra.s (pc' := 7) (st' := [.inr (some (11, 0)), .inl (A 52 (y_ix a1))]) (fun _ => rfl) ?_
  refine ra.ga (x := 52) (nx := 10) (c := 13) (i := 42) rfl rfl ?_
  refine ra.s (pc' := 11) (st' := [.inl a2, .inr (some (13, 42)), .inl (A 52 (y_ix a1))]) (fun _ => rfl) ?_
  obtain ⟨h2, hg⟩ := hg
  refine ra.ld (nx := 12) (v := (A 52 (y_ix a2))) 52 60 rfl rfl h2 rfl ?_
  refine ra.bn (c := (A 52 (y_ix a1)) = (A 52 (y_ix a2))) (cd := .ne) (x := (A 52 (y_ix a1))) (y := (A 52 (y_ix a2))) 49 15 (st' := []) (fun _ => rfl) (y_cne _ _) hk hg (fun h3 hg hk => ?_) (fun h3 hg hk => ?_)
  · skip
    refine ra.s (pc' := 16) (st' := [.inr (some (11, 0))]) (fun _ => rfl) ?_
    refine ra.ga (x := 53) (nx := 19) (c := 13) (i := 43) rfl rfl ?_
    refine ra.s (pc' := 20) (st' := [.inl a1, .inr (some (13, 43))]) (fun _ => rfl) ?_
    refine ra.ld (nx := 21) (v := (A 53 (y_ix a1))) 53 60 rfl rfl h1 rfl ?_
    refine ra.s (pc' := 22) (st' := [.inr (some (11, 0)), .inl (A 53 (y_ix a1))]) (fun _ => rfl) ?_
    refine ra.ga (x := 53) (nx := 25) (c := 13) (i := 43) rfl rfl ?_
    refine ra.s (pc' := 26) (st' := [.inl a2, .inr (some (13, 43)), .inl (A 53 (y_ix a1))]) (fun _ => rfl) ?_
    refine ra.ld (nx := 27) (v := (A 53 (y_ix a2))) 53 60 rfl rfl h2 rfl ?_
    refine ra.bn (c := (A 53 (y_ix a1)) = (A 53 (y_ix a2))) (cd := .ne) (x := (A 53 (y_ix a1))) (y := (A 53 (y_ix a2))) 49 30 (st' := []) (fun _ => rfl) (y_cne _ _) hk hg (fun h4 hg hk => ?_) (fun h4 hg hk => ?_)
    · skip
      refine ra.s (pc' := 31) (st' := [.inr (some (11, 0))]) (fun _ => rfl) ?_
      refine ra.ga (x := 54) (nx := 34) (c := 13) (i := 44) rfl rfl ?_
      refine ra.s (pc' := 35) (st' := [.inl a1, .inr (some (13, 44))]) (fun _ => rfl) ?_
      refine ra.ld (nx := 36) (v := (A 54 (y_ix a1))) 54 60 rfl rfl h1 rfl ?_
      refine ra.s (pc' := 37) (st' := [.inr (some (11, 0)), .inl (A 54 (y_ix a1))]) (fun _ => rfl) ?_
      refine ra.ga (x := 54) (nx := 40) (c := 13) (i := 44) rfl rfl ?_
      refine ra.s (pc' := 41) (st' := [.inl a2, .inr (some (13, 44)), .inl (A 54 (y_ix a1))]) (fun _ => rfl) ?_
      refine ra.ld (nx := 42) (v := (A 54 (y_ix a2))) 54 60 rfl rfl h2 rfl ?_
      refine ra.bn (c := (A 54 (y_ix a1)) = (A 54 (y_ix a2))) (cd := .ne) (x := (A 54 (y_ix a1))) (y := (A 54 (y_ix a2))) 49 45 (st' := []) (fun _ => rfl) (y_cne _ _) hk hg (fun h5 hg hk => ?_) (fun h5 hg hk => ?_)
      · skip
        refine ra.s (pc' := 46) (st' := [.inl (1 : Int32)]) (fun _ => rfl) ?_
        refine ra.s (pc' := 50) (st' := [.inl (1 : Int32)]) (fun _ => rfl) ?_
        subst hk
        exact ra.retz (nx := 51) rfl (Or.inr rfl) ⟨rfl, rfl, rfl⟩
      · skip
        refine ra.s (pc' := 50) (st' := [.inl (0 : Int32)]) (fun _ => rfl) ?_
        subst hk
        exact ra.retz (nx := 51) rfl (Or.inl rfl) ⟨rfl, rfl, rfl⟩
    · skip
      refine ra.s (pc' := 50) (st' := [.inl (0 : Int32)]) (fun _ => rfl) ?_
      subst hk
      exact ra.retz (nx := 51) rfl (Or.inl rfl) ⟨rfl, rfl, rfl⟩
  · skip
    refine ra.s (pc' := 50) (st' := [.inl (0 : Int32)]) (fun _ => rfl) ?_
    subst hk
    exact ra.retz (nx := 51) rfl (Or.inl rfl) ⟨rfl, rfl, rfl⟩
def rf_tryEnd_15 : Nat → Int32 → Int32 → Int32 → Int32 → y_A → Int32 × Int32
  | 0, _, _, _, _, _ => (0, 0)
  | n + 1, l1, l2, l3, l4, A => (if (A 11 0) ≤ l4 then (l3, l4) else (if (A 12 (y_ix l4)) = l1 then (if (A 13 (y_ix l4)) = l2 then (if (A 0 0) < (A 14 (y_ix l4)) then (rf_tryEnd_15 n l1 l2 l3 (l4 + (1 : Int32)) A) else (if (A 15 (y_ix l4)) < (A 0 0) then (rf_tryEnd_15 n l1 l2 l3 (l4 + (1 : Int32)) A) else (rf_tryEnd_15 n l1 l2 (l3 + (A 16 (y_ix l4))) (l4 + (1 : Int32)) A))) else (rf_tryEnd_15 n l1 l2 l3 (l4 + (1 : Int32)) A)) else (rf_tryEnd_15 n l1 l2 l3 (l4 + (1 : Int32)) A)))
def rg_tryEnd_15 : Nat → Int32 → Int32 → Int32 → Int32 → y_A → Prop
  | 0, _, _, _, _, _ => False
  | n + 1, l1, l2, l3, l4, A => (((A 11 0) ≤ l4 → True) ∧ (¬ (A 11 0) ≤ l4 → (y_in l4 30) ∧ (((A 12 (y_ix l4)) = l1 → (((A 13 (y_ix l4)) = l2 → (((A 0 0) < (A 14 (y_ix l4)) → (rg_tryEnd_15 n l1 l2 l3 (l4 + (1 : Int32)) A)) ∧ (¬ (A 0 0) < (A 14 (y_ix l4)) → (((A 15 (y_ix l4)) < (A 0 0) → (rg_tryEnd_15 n l1 l2 l3 (l4 + (1 : Int32)) A)) ∧ (¬ (A 15 (y_ix l4)) < (A 0 0) → (rg_tryEnd_15 n l1 l2 (l3 + (A 16 (y_ix l4))) (l4 + (1 : Int32)) A)))))) ∧ (¬ (A 13 (y_ix l4)) = l2 → (rg_tryEnd_15 n l1 l2 l3 (l4 + (1 : Int32)) A)))) ∧ (¬ (A 12 (y_ix l4)) = l1 → (rg_tryEnd_15 n l1 l2 l3 (l4 + (1 : Int32)) A)))))
theorem rh_tryEnd_15 {d : Nat} (hd : 0 ≤ d) {Q : Option xm_V → y_A → List y_J → Prop} {F : Int32 × Int32} (n : Nat) : ∀ (l1 l2 l3 l4 : Int32) (A : y_A) (js : List y_J), rg_tryEnd_15 n l1 l2 l3 l4 A → rf_tryEnd_15 n l1 l2 l3 l4 A = F → (ra d 139 90 [some (.inr (some (11, 0))), some (.inl l1), some (.inl l2), some (.inl F.1), some (.inl F.2)] [] A js Q) → ra d 139 15 [some (.inr (some (11, 0))), some (.inl l1), some (.inl l2), some (.inl l3), some (.inl l4)] [] A js Q := by
  induction n with
  | zero => intro l1 l2 l3 l4 A js hg; exact hg.elim
  | succ n ih =>
    intro l1 l2 l3 l4 A js hg hk hE
    unfold rg_tryEnd_15 at hg
    unfold rf_tryEnd_15 at hk
    refine ra.s (pc' := 17) (st' := [.inl l4]) (fun _ => rfl) ?_
    refine ra.s (pc' := 18) (st' := [.inr (some (11, 0)), .inl l4]) (fun _ => rfl) ?_
    refine ra.gi (x := 11) (nx := 21) (v := (A 11 0)) rfl rfl rfl ?_
    refine ra.b (c := (A 11 0) ≤ l4) (cd := .ge) (x := l4) (y := (A 11 0)) 90 24 (st' := []) (fun _ => rfl) (y_cge _ _) hk hg (fun h1 hg hk => ?_) (fun h1 hg hk => ?_)
    · skip
      subst hk
      exact hE
    · skip
      refine ra.s (pc' := 25) (st' := [.inr (some (11, 0))]) (fun _ => rfl) ?_
      refine ra.ga (x := 12) (nx := 28) (c := 13) (i := 8) rfl rfl ?_
      refine ra.s (pc' := 30) (st' := [.inl l4, .inr (some (13, 8))]) (fun _ => rfl) ?_
      obtain ⟨h2, hg⟩ := hg
      refine ra.ld (nx := 31) (v := (A 12 (y_ix l4))) 12 30 rfl rfl h2 rfl ?_
      refine ra.s (pc' := 32) (st' := [.inl l1, .inl (A 12 (y_ix l4))]) (fun _ => rfl) ?_
      refine ra.bn (c := (A 12 (y_ix l4)) = l1) (cd := .ne) (x := (A 12 (y_ix l4))) (y := l1) 84 35 (st' := []) (fun _ => rfl) (y_cne _ _) hk hg (fun h3 hg hk => ?_) (fun h3 hg hk => ?_)
      · skip
        refine ra.s (pc' := 36) (st' := [.inr (some (11, 0))]) (fun _ => rfl) ?_
        refine ra.ga (x := 13) (nx := 39) (c := 13) (i := 9) rfl rfl ?_
        refine ra.s (pc' := 41) (st' := [.inl l4, .inr (some (13, 9))]) (fun _ => rfl) ?_
        refine ra.ld (nx := 42) (v := (A 13 (y_ix l4))) 13 30 rfl rfl h2 rfl ?_
        refine ra.s (pc' := 43) (st' := [.inl l2, .inl (A 13 (y_ix l4))]) (fun _ => rfl) ?_
        refine ra.bn (c := (A 13 (y_ix l4)) = l2) (cd := .ne) (x := (A 13 (y_ix l4))) (y := l2) 84 46 (st' := []) (fun _ => rfl) (y_cne _ _) hk hg (fun h4 hg hk => ?_) (fun h4 hg hk => ?_)
        · skip
          refine ra.s (pc' := 47) (st' := [.inr (some (11, 0))]) (fun _ => rfl) ?_
          refine ra.gi (x := 0) (nx := 50) (v := (A 0 0)) rfl rfl rfl ?_
          refine ra.s (pc' := 51) (st' := [.inr (some (11, 0)), .inl (A 0 0)]) (fun _ => rfl) ?_
          refine ra.ga (x := 14) (nx := 54) (c := 13) (i := 10) rfl rfl ?_
          refine ra.s (pc' := 56) (st' := [.inl l4, .inr (some (13, 10)), .inl (A 0 0)]) (fun _ => rfl) ?_
          refine ra.ld (nx := 57) (v := (A 14 (y_ix l4))) 14 30 rfl rfl h2 rfl ?_
          refine ra.b (c := (A 0 0) < (A 14 (y_ix l4))) (cd := .lt) (x := (A 0 0)) (y := (A 14 (y_ix l4))) 84 60 (st' := []) (fun _ => rfl) (y_clt _ _) hk hg (fun h5 hg hk => ?_) (fun h5 hg hk => ?_)
          · skip
            refine ra.s (pc' := 87) (L' := [some (.inr (some (11, 0))), some (.inl l1), some (.inl l2), some (.inl l3), some (.inl (l4 + (1 : Int32)))]) (st' := []) (fun _ => rfl) ?_
            refine ra.s (pc' := 15) (st' := []) (fun _ => rfl) ?_
            exact ih l1 l2 l3 (l4 + (1 : Int32)) A js hg hk hE
          · skip
            refine ra.s (pc' := 61) (st' := [.inr (some (11, 0))]) (fun _ => rfl) ?_
            refine ra.gi (x := 0) (nx := 64) (v := (A 0 0)) rfl rfl rfl ?_
            refine ra.s (pc' := 65) (st' := [.inr (some (11, 0)), .inl (A 0 0)]) (fun _ => rfl) ?_
            refine ra.ga (x := 15) (nx := 68) (c := 13) (i := 11) rfl rfl ?_
            refine ra.s (pc' := 70) (st' := [.inl l4, .inr (some (13, 11)), .inl (A 0 0)]) (fun _ => rfl) ?_
            refine ra.ld (nx := 71) (v := (A 15 (y_ix l4))) 15 30 rfl rfl h2 rfl ?_
            refine ra.b (c := (A 15 (y_ix l4)) < (A 0 0)) (cd := .gt) (x := (A 0 0)) (y := (A 15 (y_ix l4))) 84 74 (st' := []) (fun _ => rfl) (y_cgt _ _) hk hg (fun h6 hg hk => ?_) (fun h6 hg hk => ?_)
            · skip
              refine ra.s (pc' := 87) (L' := [some (.inr (some (11, 0))), some (.inl l1), some (.inl l2), some (.inl l3), some (.inl (l4 + (1 : Int32)))]) (st' := []) (fun _ => rfl) ?_
              refine ra.s (pc' := 15) (st' := []) (fun _ => rfl) ?_
              exact ih l1 l2 l3 (l4 + (1 : Int32)) A js hg hk hE
            · skip
              refine ra.s (pc' := 75) (st' := [.inl l3]) (fun _ => rfl) ?_
              refine ra.s (pc' := 76) (st' := [.inr (some (11, 0)), .inl l3]) (fun _ => rfl) ?_
              refine ra.ga (x := 16) (nx := 79) (c := 13) (i := 12) rfl rfl ?_
              refine ra.s (pc' := 81) (st' := [.inl l4, .inr (some (13, 12)), .inl l3]) (fun _ => rfl) ?_
              refine ra.ld (nx := 82) (v := (A 16 (y_ix l4))) 16 30 rfl rfl h2 rfl ?_
              refine ra.s (pc' := 83) (st' := [.inl (l3 + (A 16 (y_ix l4)))]) (fun _ => rfl) ?_
              refine ra.s (pc' := 84) (L' := [some (.inr (some (11, 0))), some (.inl l1), some (.inl l2), some (.inl (l3 + (A 16 (y_ix l4)))), some (.inl l4)]) (st' := []) (fun _ => rfl) ?_
              refine ra.s (pc' := 87) (L' := [some (.inr (some (11, 0))), some (.inl l1), some (.inl l2), some (.inl (l3 + (A 16 (y_ix l4)))), some (.inl (l4 + (1 : Int32)))]) (st' := []) (fun _ => rfl) ?_
              refine ra.s (pc' := 15) (st' := []) (fun _ => rfl) ?_
              exact ih l1 l2 (l3 + (A 16 (y_ix l4))) (l4 + (1 : Int32)) A js hg hk hE
        · skip
          refine ra.s (pc' := 87) (L' := [some (.inr (some (11, 0))), some (.inl l1), some (.inl l2), some (.inl l3), some (.inl (l4 + (1 : Int32)))]) (st' := []) (fun _ => rfl) ?_
          refine ra.s (pc' := 15) (st' := []) (fun _ => rfl) ?_
          exact ih l1 l2 l3 (l4 + (1 : Int32)) A js hg hk hE
      · skip
        refine ra.s (pc' := 87) (L' := [some (.inr (some (11, 0))), some (.inl l1), some (.inl l2), some (.inl l3), some (.inl (l4 + (1 : Int32)))]) (st' := []) (fun _ => rfl) ?_
        refine ra.s (pc' := 15) (st' := []) (fun _ => rfl) ?_
        exact ih l1 l2 l3 (l4 + (1 : Int32)) A js hg hk hE
/-- tryEnd -/
def rf_tryEnd (a1 a2 : Int32) (A : y_A) : Int32 := (rf_tryEnd_15 20000 a1 a2 ((A 0 0) + (A 4 (y_ix a1))) (0 : Int32) A).1
def rg_tryEnd (a1 a2 : Int32) (A : y_A) : Prop := (y_in a1 8) ∧ (rg_tryEnd_15 20000 a1 a2 ((A 0 0) + (A 4 (y_ix a1))) (0 : Int32) A) ∧ True
theorem rh_tryEnd {d : Nat} (hd : 0 ≤ d) {a1 a2 : Int32} {A : y_A} {js : List y_J} (hg : rg_tryEnd a1 a2 A) : rc d 139 [.inr (some (11, 0)), .inl a1, .inl a2] A js (y_P (rf_tryEnd a1 a2 A) A js) := by
  obtain ⟨F, hk⟩ : ∃ F, rf_tryEnd a1 a2 A = F := ⟨_, rfl⟩
  rw [hk]
  show ra _ _ _ [some (.inr (some (11, 0))), some (.inl a1), some (.inl a2), none, none] _ _ _ _
  unfold rg_tryEnd at hg
  unfold rf_tryEnd at hk
  refine ra.s (pc' := 1) (st' := [.inr (some (11, 0))]) (fun _ => rfl) ?_
  refine ra.gi (x := 0) (nx := 4) (v := (A 0 0)) rfl rfl rfl ?_
  refine ra.s (pc' := 5) (st' := [.inr (some (11, 0)), .inl (A 0 0)]) (fun _ => rfl) ?_
  refine ra.ga (x := 4) (nx := 8) (c := 13) (i := 2) rfl rfl ?_
  refine ra.s (pc' := 9) (st' := [.inl a1, .inr (some (13, 2)), .inl (A 0 0)]) (fun _ => rfl) ?_
  obtain ⟨h1, hg⟩ := hg
  refine ra.ld (nx := 10) (v := (A 4 (y_ix a1))) 4 8 rfl rfl h1 rfl ?_
  refine ra.s (pc' := 11) (st' := [.inl ((A 0 0) + (A 4 (y_ix a1)))]) (fun _ => rfl) ?_
  refine ra.s (pc' := 12) (L' := [some (.inr (some (11, 0))), some (.inl a1), some (.inl a2), some (.inl ((A 0 0) + (A 4 (y_ix a1)))), none]) (st' := []) (fun _ => rfl) ?_
  refine ra.s (pc' := 13) (st' := [.inl (0 : Int32)]) (fun _ => rfl) ?_
  refine ra.s (pc' := 15) (L' := [some (.inr (some (11, 0))), some (.inl a1), some (.inl a2), some (.inl ((A 0 0) + (A 4 (y_ix a1)))), some (.inl (0 : Int32))]) (st' := []) (fun _ => rfl) ?_
  obtain ⟨h2, hg⟩ := hg
  refine rh_tryEnd_15 (by omega) 20000 a1 a2 ((A 0 0) + (A 4 (y_ix a1))) (0 : Int32) A js h2 rfl ?_
  refine ra.s (pc' := 91) (st' := [.inl (rf_tryEnd_15 20000 a1 a2 ((A 0 0) + (A 4 (y_ix a1))) (0 : Int32) A).1]) (fun _ => rfl) ?_
  subst hk
  exact ra.ret (r := some (.inl (rf_tryEnd_15 20000 a1 a2 ((A 0 0) + (A 4 (y_ix a1))) (0 : Int32) A).1)) (fun _ => rfl) ⟨rfl, rfl, rfl⟩
/-- isNamed -/
def rf_isNamed (a1 a2 : Int32) (A : y_A) : Int32 := (if (A 69 (y_ix a1)) = (2 : Int32) then (if (rf_isUnder (A 24 (y_ix (A 70 (y_ix a1)))) (A 35 (y_ix a2)) A) = (0 : Int32) then (0 : Int32) else (1 : Int32)) else (0 : Int32))
def rg_isNamed (a1 a2 : Int32) (A : y_A) : Prop := (y_in a1 4400) ∧ (((A 69 (y_ix a1)) = (2 : Int32) → (y_in (A 70 (y_ix a1)) 4400) ∧ (y_in a2 24) ∧ (rg_isUnder (A 24 (y_ix (A 70 (y_ix a1)))) (A 35 (y_ix a2)) A) ∧ (((rf_isUnder (A 24 (y_ix (A 70 (y_ix a1)))) (A 35 (y_ix a2)) A) = (0 : Int32) → True) ∧ (¬ (rf_isUnder (A 24 (y_ix (A 70 (y_ix a1)))) (A 35 (y_ix a2)) A) = (0 : Int32) → True))) ∧ (¬ (A 69 (y_ix a1)) = (2 : Int32) → True))
theorem rh_isNamed {d : Nat} (hd : 2 ≤ d) {a1 a2 : Int32} {A : y_A} {js : List y_J} (hg : rg_isNamed a1 a2 A) : rc d 143 [.inr (some (11, 0)), .inl a1, .inl a2] A js (y_P (rf_isNamed a1 a2 A) A js) := by
  obtain ⟨d, rfl⟩ := Nat.exists_eq_add_of_le' hd
  obtain ⟨F, hk⟩ : ∃ F, rf_isNamed a1 a2 A = F := ⟨_, rfl⟩
  rw [hk]
  show ra _ _ _ [some (.inr (some (11, 0))), some (.inl a1), some (.inl a2)] _ _ _ _
  unfold rg_isNamed at hg
  unfold rf_isNamed at hk
  refine ra.s (pc' := 1) (st' := [.inr (some (11, 0))]) (fun _ => rfl) ?_
  refine ra.ga (x := 69) (nx := 4) (c := 13) (i := 57) rfl rfl ?_
  refine ra.s (pc' := 5) (st' := [.inl a1, .inr (some (13, 57))]) (fun _ => rfl) ?_
  obtain ⟨h1, hg⟩ := hg
  refine ra.ld (nx := 6) (v := (A 69 (y_ix a1))) 69 4400 rfl rfl h1 rfl ?_
  refine ra.s (pc' := 7) (st' := [.inl (2 : Int32), .inl (A 69 (y_ix a1))]) (fun _ => rfl) ?_
  refine ra.bn (c := (A 69 (y_ix a1)) = (2 : Int32)) (cd := .ne) (x := (A 69 (y_ix a1))) (y := (2 : Int32)) 38 10 (st' := []) (fun _ => rfl) (y_cne _ _) hk hg (fun h2 hg hk => ?_) (fun h2 hg hk => ?_)
  · skip
    refine ra.s (pc' := 11) (st' := [.inr (some (11, 0))]) (fun _ => rfl) ?_
    refine ra.s (pc' := 12) (st' := [.inr (some (11, 0)), .inr (some (11, 0))]) (fun _ => rfl) ?_
    refine ra.ga (x := 24) (nx := 15) (c := 13) (i := 18) rfl rfl ?_
    refine ra.s (pc' := 16) (st' := [.inr (some (11, 0)), .inr (some (13, 18)), .inr (some (11, 0))]) (fun _ => rfl) ?_
    refine ra.ga (x := 70) (nx := 19) (c := 13) (i := 58) rfl rfl ?_
    refine ra.s (pc' := 20) (st' := [.inl a1, .inr (some (13, 58)), .inr (some (13, 18)), .inr (some (11, 0))]) (fun _ => rfl) ?_
    refine ra.ld (nx := 21) (v := (A 70 (y_ix a1))) 70 4400 rfl rfl h1 rfl ?_
    obtain ⟨h3, hg⟩ := hg
    refine ra.ld (nx := 22) (v := (A 24 (y_ix (A 70 (y_ix a1))))) 24 4400 rfl rfl h3 rfl ?_
    refine ra.s (pc' := 23) (st' := [.inr (some (11, 0)), .inl (A 24 (y_ix (A 70 (y_ix a1)))), .inr (some (11, 0))]) (fun _ => rfl) ?_
    refine ra.ga (x := 35) (nx := 26) (c := 13) (i := 28) rfl rfl ?_
    refine ra.s (pc' := 27) (st' := [.inl a2, .inr (some (13, 28)), .inl (A 24 (y_ix (A 70 (y_ix a1)))), .inr (some (11, 0))]) (fun _ => rfl) ?_
    obtain ⟨h4, hg⟩ := hg
    refine ra.ld (nx := 28) (v := (A 35 (y_ix a2))) 35 24 rfl rfl h4 rfl ?_
    obtain ⟨h5, hg⟩ := hg
    refine ra.cP (f := (rf_isUnder (A 24 (y_ix (A 70 (y_ix a1)))) (A 35 (y_ix a2)) A)) (m := 119) (as := [.inr (some (11, 0)), .inl (A 24 (y_ix (A 70 (y_ix a1)))), .inl (A 35 (y_ix a2))]) (nx := 31) (L' := [some (.inr (some (11, 0))), some (.inl a1), some (.inl a2)]) (st' := []) (fun _ => rfl) (rh_isUnder (by omega) h5) ?_
    refine ra.b (c := (rf_isUnder (A 24 (y_ix (A 70 (y_ix a1)))) (A 35 (y_ix a2)) A) = (0 : Int32)) (cd := .eq) (x := (rf_isUnder (A 24 (y_ix (A 70 (y_ix a1)))) (A 35 (y_ix a2)) A)) (y := (0 : Int32)) 38 34 (st' := []) (fun _ => rfl) (y_ceq _ _) hk hg (fun h6 hg hk => ?_) (fun h6 hg hk => ?_)
    · skip
      refine ra.s (pc' := 39) (st' := [.inl (0 : Int32)]) (fun _ => rfl) ?_
      subst hk
      exact ra.retz (nx := 40) rfl (Or.inl rfl) ⟨rfl, rfl, rfl⟩
    · skip
      refine ra.s (pc' := 35) (st' := [.inl (1 : Int32)]) (fun _ => rfl) ?_
      refine ra.s (pc' := 39) (st' := [.inl (1 : Int32)]) (fun _ => rfl) ?_
      subst hk
      exact ra.retz (nx := 40) rfl (Or.inr rfl) ⟨rfl, rfl, rfl⟩
  · skip
    refine ra.s (pc' := 39) (st' := [.inl (0 : Int32)]) (fun _ => rfl) ?_
    subst hk
    exact ra.retz (nx := 40) rfl (Or.inl rfl) ⟨rfl, rfl, rfl⟩
def rf_otherOf_5 : Nat → Int32 → Int32 → Int32 → Int32 → y_A → Int32 × Int32
  | 0, _, _, _, _, _ => (0, 0)
  | n + 1, l1, l2, l3, l4, A => (if (A 61 0) ≤ l4 then (l3, l4) else (if (A 64 (y_ix l4)) = l1 then (if l4 = l2 then (rf_otherOf_5 n l1 l2 l3 (l4 + (1 : Int32)) A) else (rf_otherOf_5 n l1 l2 l4 (l4 + (1 : Int32)) A)) else (rf_otherOf_5 n l1 l2 l3 (l4 + (1 : Int32)) A)))
def rg_otherOf_5 : Nat → Int32 → Int32 → Int32 → Int32 → y_A → Prop
  | 0, _, _, _, _, _ => False
  | n + 1, l1, l2, l3, l4, A => (((A 61 0) ≤ l4 → True) ∧ (¬ (A 61 0) ≤ l4 → (y_in l4 4400) ∧ (((A 64 (y_ix l4)) = l1 → ((l4 = l2 → (rg_otherOf_5 n l1 l2 l3 (l4 + (1 : Int32)) A)) ∧ (¬ l4 = l2 → (rg_otherOf_5 n l1 l2 l4 (l4 + (1 : Int32)) A)))) ∧ (¬ (A 64 (y_ix l4)) = l1 → (rg_otherOf_5 n l1 l2 l3 (l4 + (1 : Int32)) A)))))
theorem rh_otherOf_5 {d : Nat} (hd : 0 ≤ d) {Q : Option xm_V → y_A → List y_J → Prop} {F : Int32 × Int32} (n : Nat) : ∀ (l1 l2 l3 l4 : Int32) (A : y_A) (js : List y_J), rg_otherOf_5 n l1 l2 l3 l4 A → rf_otherOf_5 n l1 l2 l3 l4 A = F → (ra d 148 40 [some (.inr (some (11, 0))), some (.inl l1), some (.inl l2), some (.inl F.1), some (.inl F.2)] [] A js Q) → ra d 148 5 [some (.inr (some (11, 0))), some (.inl l1), some (.inl l2), some (.inl l3), some (.inl l4)] [] A js Q := by
  induction n with
  | zero => intro l1 l2 l3 l4 A js hg; exact hg.elim
  | succ n ih =>
    intro l1 l2 l3 l4 A js hg hk hE
    unfold rg_otherOf_5 at hg
    unfold rf_otherOf_5 at hk
    refine ra.s (pc' := 7) (st' := [.inl l4]) (fun _ => rfl) ?_
    refine ra.s (pc' := 8) (st' := [.inr (some (11, 0)), .inl l4]) (fun _ => rfl) ?_
    refine ra.gi (x := 61) (nx := 11) (v := (A 61 0)) rfl rfl rfl ?_
    refine ra.b (c := (A 61 0) ≤ l4) (cd := .ge) (x := l4) (y := (A 61 0)) 40 14 (st' := []) (fun _ => rfl) (y_cge _ _) hk hg (fun h1 hg hk => ?_) (fun h1 hg hk => ?_)
    · skip
      subst hk
      exact hE
    · skip
      refine ra.s (pc' := 15) (st' := [.inr (some (11, 0))]) (fun _ => rfl) ?_
      refine ra.ga (x := 64) (nx := 18) (c := 13) (i := 52) rfl rfl ?_
      refine ra.s (pc' := 20) (st' := [.inl l4, .inr (some (13, 52))]) (fun _ => rfl) ?_
      obtain ⟨h2, hg⟩ := hg
      refine ra.ld (nx := 21) (v := (A 64 (y_ix l4))) 64 4400 rfl rfl h2 rfl ?_
      refine ra.s (pc' := 22) (st' := [.inl l1, .inl (A 64 (y_ix l4))]) (fun _ => rfl) ?_
      refine ra.bn (c := (A 64 (y_ix l4)) = l1) (cd := .ne) (x := (A 64 (y_ix l4))) (y := l1) 34 25 (st' := []) (fun _ => rfl) (y_cne _ _) hk hg (fun h3 hg hk => ?_) (fun h3 hg hk => ?_)
      · skip
        refine ra.s (pc' := 27) (st' := [.inl l4]) (fun _ => rfl) ?_
        refine ra.s (pc' := 28) (st' := [.inl l2, .inl l4]) (fun _ => rfl) ?_
        refine ra.b (c := l4 = l2) (cd := .eq) (x := l4) (y := l2) 34 31 (st' := []) (fun _ => rfl) (y_ceq _ _) hk hg (fun h4 hg hk => ?_) (fun h4 hg hk => ?_)
        · skip
          refine ra.s (pc' := 37) (L' := [some (.inr (some (11, 0))), some (.inl l1), some (.inl l2), some (.inl l3), some (.inl (l4 + (1 : Int32)))]) (st' := []) (fun _ => rfl) ?_
          refine ra.s (pc' := 5) (st' := []) (fun _ => rfl) ?_
          exact ih l1 l2 l3 (l4 + (1 : Int32)) A js hg hk hE
        · skip
          refine ra.s (pc' := 33) (st' := [.inl l4]) (fun _ => rfl) ?_
          refine ra.s (pc' := 34) (L' := [some (.inr (some (11, 0))), some (.inl l1), some (.inl l2), some (.inl l4), some (.inl l4)]) (st' := []) (fun _ => rfl) ?_
          refine ra.s (pc' := 37) (L' := [some (.inr (some (11, 0))), some (.inl l1), some (.inl l2), some (.inl l4), some (.inl (l4 + (1 : Int32)))]) (st' := []) (fun _ => rfl) ?_
          refine ra.s (pc' := 5) (st' := []) (fun _ => rfl) ?_
          exact ih l1 l2 l4 (l4 + (1 : Int32)) A js hg hk hE
      · skip
        refine ra.s (pc' := 37) (L' := [some (.inr (some (11, 0))), some (.inl l1), some (.inl l2), some (.inl l3), some (.inl (l4 + (1 : Int32)))]) (st' := []) (fun _ => rfl) ?_
        refine ra.s (pc' := 5) (st' := []) (fun _ => rfl) ?_
        exact ih l1 l2 l3 (l4 + (1 : Int32)) A js hg hk hE
/-- otherOf -/
def rf_otherOf (a1 a2 : Int32) (A : y_A) : Int32 := (rf_otherOf_5 20000 a1 a2 (-1 : Int32) (0 : Int32) A).1
def rg_otherOf (a1 a2 : Int32) (A : y_A) : Prop := (rg_otherOf_5 20000 a1 a2 (-1 : Int32) (0 : Int32) A) ∧ True
theorem rh_otherOf {d : Nat} (hd : 0 ≤ d) {a1 a2 : Int32} {A : y_A} {js : List y_J} (hg : rg_otherOf a1 a2 A) : rc d 148 [.inr (some (11, 0)), .inl a1, .inl a2] A js (y_P (rf_otherOf a1 a2 A) A js) := by
  obtain ⟨F, hk⟩ : ∃ F, rf_otherOf a1 a2 A = F := ⟨_, rfl⟩
  rw [hk]
  show ra _ _ _ [some (.inr (some (11, 0))), some (.inl a1), some (.inl a2), none, none] _ _ _ _
  unfold rg_otherOf at hg
  unfold rf_otherOf at hk
  refine ra.s (pc' := 1) (st' := [.inl (-1 : Int32)]) (fun _ => rfl) ?_
  refine ra.s (pc' := 2) (L' := [some (.inr (some (11, 0))), some (.inl a1), some (.inl a2), some (.inl (-1 : Int32)), none]) (st' := []) (fun _ => rfl) ?_
  refine ra.s (pc' := 3) (st' := [.inl (0 : Int32)]) (fun _ => rfl) ?_
  refine ra.s (pc' := 5) (L' := [some (.inr (some (11, 0))), some (.inl a1), some (.inl a2), some (.inl (-1 : Int32)), some (.inl (0 : Int32))]) (st' := []) (fun _ => rfl) ?_
  obtain ⟨h1, hg⟩ := hg
  refine rh_otherOf_5 (by omega) 20000 a1 a2 (-1 : Int32) (0 : Int32) A js h1 rfl ?_
  refine ra.s (pc' := 41) (st' := [.inl (rf_otherOf_5 20000 a1 a2 (-1 : Int32) (0 : Int32) A).1]) (fun _ => rfl) ?_
  subst hk
  exact ra.ret (r := some (.inl (rf_otherOf_5 20000 a1 a2 (-1 : Int32) (0 : Int32) A).1)) (fun _ => rfl) ⟨rfl, rfl, rfl⟩
/-- planned -/
def rf_planned (a1 a2 : Int32) (A : y_A) : Int32 := (if a1 < (0 : Int32) then (-1 : Int32) else (if a1 < (A 89 0) then (if a2 = (0 : Int32) then (A 98 (y_ix a1)) else (if a2 = (1 : Int32) then (A 99 (y_ix a1)) else (if a2 = (2 : Int32) then (A 100 (y_ix a1)) else (if a2 = (3 : Int32) then (A 101 (y_ix a1)) else (if a2 = (4 : Int32) then (if (A 102 (y_ix a1)) = (0 : Int32) then (1 : Int32) else (0 : Int32)) else (-1 : Int32)))))) else (-1 : Int32)))
def rg_planned (a1 a2 : Int32) (A : y_A) : Prop := ((a1 < (0 : Int32) → True) ∧ (¬ a1 < (0 : Int32) → ((a1 < (A 89 0) → ((a2 = (0 : Int32) → (y_in a1 12) ∧ True) ∧ (¬ a2 = (0 : Int32) → ((a2 = (1 : Int32) → (y_in a1 12) ∧ True) ∧ (¬ a2 = (1 : Int32) → ((a2 = (2 : Int32) → (y_in a1 12) ∧ True) ∧ (¬ a2 = (2 : Int32) → ((a2 = (3 : Int32) → (y_in a1 12) ∧ True) ∧ (¬ a2 = (3 : Int32) → ((a2 = (4 : Int32) → (y_in a1 12) ∧ (((A 102 (y_ix a1)) = (0 : Int32) → True) ∧ (¬ (A 102 (y_ix a1)) = (0 : Int32) → True))) ∧ (¬ a2 = (4 : Int32) → True))))))))))) ∧ (¬ a1 < (A 89 0) → True))))
theorem rh_planned {d : Nat} (hd : 0 ≤ d) {a1 a2 : Int32} {A : y_A} {js : List y_J} (hg : rg_planned a1 a2 A) : rc d 159 [.inr (some (11, 0)), .inl a1, .inl a2] A js (y_P (rf_planned a1 a2 A) A js) := by
  obtain ⟨F, hk⟩ : ∃ F, rf_planned a1 a2 A = F := ⟨_, rfl⟩
  rw [hk]
  show ra _ _ _ [some (.inr (some (11, 0))), some (.inl a1), some (.inl a2)] _ _ _ _
  unfold rg_planned at hg
  unfold rf_planned at hk
  refine ra.s (pc' := 1) (st' := [.inl a1]) (fun _ => rfl) ?_
  refine ra.b (c := a1 < (0 : Int32)) (cd := .lt) (x := a1) (y := (0 : Int32)) 12 4 (st' := []) (fun _ => rfl) (y_clt _ _) hk hg (fun h1 hg hk => ?_) (fun h1 hg hk => ?_)
  · skip
    refine ra.s (pc' := 13) (st' := [.inl (-1 : Int32)]) (fun _ => rfl) ?_
    subst hk
    exact ra.ret (r := some (.inl (-1 : Int32))) (fun _ => rfl) ⟨rfl, rfl, rfl⟩
  · skip
    refine ra.s (pc' := 5) (st' := [.inl a1]) (fun _ => rfl) ?_
    refine ra.s (pc' := 6) (st' := [.inr (some (11, 0)), .inl a1]) (fun _ => rfl) ?_
    refine ra.gi (x := 89) (nx := 9) (v := (A 89 0)) rfl rfl rfl ?_
    refine ra.b (c := a1 < (A 89 0)) (cd := .lt) (x := a1) (y := (A 89 0)) 14 12 (st' := []) (fun _ => rfl) (y_clt _ _) hk hg (fun h2 hg hk => ?_) (fun h2 hg hk => ?_)
    · skip
      refine ra.s (pc' := 15) (st' := [.inl a2]) (fun _ => rfl) ?_
      refine ra.ts rfl rfl ?_
      refine ra.bw (0 : Int32) rfl hk hg (fun h3 hg hk => ?_) (fun h3 hg hk => ?_)
      · skip
        refine ra.s (pc' := 49) (st' := [.inr (some (11, 0))]) (fun _ => rfl) ?_
        refine ra.ga (x := 98) (nx := 52) (c := 13) (i := 76) rfl rfl ?_
        refine ra.s (pc' := 53) (st' := [.inl a1, .inr (some (13, 76))]) (fun _ => rfl) ?_
        obtain ⟨h4, hg⟩ := hg
        refine ra.ld (nx := 54) (v := (A 98 (y_ix a1))) 98 12 rfl rfl h4 rfl ?_
        subst hk
        exact ra.ret (r := some (.inl (A 98 (y_ix a1)))) (fun _ => rfl) ⟨rfl, rfl, rfl⟩
      · skip
        refine ra.bw (1 : Int32) rfl hk hg (fun h5 hg hk => ?_) (fun h5 hg hk => ?_)
        · skip
          refine ra.s (pc' := 56) (st' := [.inr (some (11, 0))]) (fun _ => rfl) ?_
          refine ra.ga (x := 99) (nx := 59) (c := 13) (i := 77) rfl rfl ?_
          refine ra.s (pc' := 60) (st' := [.inl a1, .inr (some (13, 77))]) (fun _ => rfl) ?_
          obtain ⟨h6, hg⟩ := hg
          refine ra.ld (nx := 61) (v := (A 99 (y_ix a1))) 99 12 rfl rfl h6 rfl ?_
          subst hk
          exact ra.ret (r := some (.inl (A 99 (y_ix a1)))) (fun _ => rfl) ⟨rfl, rfl, rfl⟩
        · skip
          refine ra.bw (2 : Int32) rfl hk hg (fun h7 hg hk => ?_) (fun h7 hg hk => ?_)
          · skip
            refine ra.s (pc' := 63) (st' := [.inr (some (11, 0))]) (fun _ => rfl) ?_
            refine ra.ga (x := 100) (nx := 66) (c := 13) (i := 78) rfl rfl ?_
            refine ra.s (pc' := 67) (st' := [.inl a1, .inr (some (13, 78))]) (fun _ => rfl) ?_
            obtain ⟨h8, hg⟩ := hg
            refine ra.ld (nx := 68) (v := (A 100 (y_ix a1))) 100 12 rfl rfl h8 rfl ?_
            subst hk
            exact ra.ret (r := some (.inl (A 100 (y_ix a1)))) (fun _ => rfl) ⟨rfl, rfl, rfl⟩
          · skip
            refine ra.bw (3 : Int32) rfl hk hg (fun h9 hg hk => ?_) (fun h9 hg hk => ?_)
            · skip
              refine ra.s (pc' := 70) (st' := [.inr (some (11, 0))]) (fun _ => rfl) ?_
              refine ra.ga (x := 101) (nx := 73) (c := 13) (i := 79) rfl rfl ?_
              refine ra.s (pc' := 74) (st' := [.inl a1, .inr (some (13, 79))]) (fun _ => rfl) ?_
              obtain ⟨h10, hg⟩ := hg
              refine ra.ld (nx := 75) (v := (A 101 (y_ix a1))) 101 12 rfl rfl h10 rfl ?_
              subst hk
              exact ra.ret (r := some (.inl (A 101 (y_ix a1)))) (fun _ => rfl) ⟨rfl, rfl, rfl⟩
            · skip
              refine ra.bw (4 : Int32) rfl hk hg (fun h11 hg hk => ?_) (fun h11 hg hk => ?_)
              · skip
                refine ra.s (pc' := 77) (st' := [.inr (some (11, 0))]) (fun _ => rfl) ?_
                refine ra.ga (x := 102) (nx := 80) (c := 14) (i := 8) rfl rfl ?_
                refine ra.s (pc' := 81) (st' := [.inl a1, .inr (some (14, 8))]) (fun _ => rfl) ?_
                obtain ⟨h12, hg⟩ := hg
                refine ra.lz (nx := 82) (v := (A 102 (y_ix a1))) 102 12 rfl rfl h12 rfl ?_
                refine ra.b (c := (A 102 (y_ix a1)) = (0 : Int32)) (cd := .eq) (x := (A 102 (y_ix a1))) (y := (0 : Int32)) 89 85 (st' := []) (fun _ => rfl) (y_ceq _ _) hk hg (fun h13 hg hk => ?_) (fun h13 hg hk => ?_)
                · skip
                  refine ra.s (pc' := 90) (st' := [.inl (1 : Int32)]) (fun _ => rfl) ?_
                  subst hk
                  exact ra.ret (r := some (.inl (1 : Int32))) (fun _ => rfl) ⟨rfl, rfl, rfl⟩
                · skip
                  refine ra.s (pc' := 86) (st' := [.inl (0 : Int32)]) (fun _ => rfl) ?_
                  refine ra.s (pc' := 90) (st' := [.inl (0 : Int32)]) (fun _ => rfl) ?_
                  subst hk
                  exact ra.ret (r := some (.inl (0 : Int32))) (fun _ => rfl) ⟨rfl, rfl, rfl⟩
              · skip
                refine ra.s (pc' := 92) (st' := [.inl (-1 : Int32)]) (fun _ => rfl) ?_
                subst hk
                exact ra.ret (r := some (.inl (-1 : Int32))) (fun _ => rfl) ⟨rfl, rfl, rfl⟩
    · skip
      refine ra.s (pc' := 13) (st' := [.inl (-1 : Int32)]) (fun _ => rfl) ?_
      subst hk
      exact ra.ret (r := some (.inl (-1 : Int32))) (fun _ => rfl) ⟨rfl, rfl, rfl⟩
/-- isGuard -/
def rf_isGuard (a1 a2 : Int32) (A : y_A) : Int32 := (if a1 < (0 : Int32) then (0 : Int32) else (if (A 30 0) ≤ a1 then (0 : Int32) else (if (A 31 (y_ix a1)) = a2 then (1 : Int32) else (0 : Int32))))
def rg_isGuard (a1 a2 : Int32) (A : y_A) : Prop := ((a1 < (0 : Int32) → True) ∧ (¬ a1 < (0 : Int32) → (((A 30 0) ≤ a1 → True) ∧ (¬ (A 30 0) ≤ a1 → (y_in a1 24) ∧ (((A 31 (y_ix a1)) = a2 → True) ∧ (¬ (A 31 (y_ix a1)) = a2 → True))))))
theorem rh_isGuard {d : Nat} (hd : 0 ≤ d) {a1 a2 : Int32} {A : y_A} {js : List y_J} (hg : rg_isGuard a1 a2 A) : rc d 161 [.inr (some (11, 0)), .inl a1, .inl a2] A js (y_P (rf_isGuard a1 a2 A) A js) := by
  obtain ⟨F, hk⟩ : ∃ F, rf_isGuard a1 a2 A = F := ⟨_, rfl⟩
  rw [hk]
  show ra _ _ _ [some (.inr (some (11, 0))), some (.inl a1), some (.inl a2)] _ _ _ _
  unfold rg_isGuard at hg
  unfold rf_isGuard at hk
  refine ra.s (pc' := 1) (st' := [.inl a1]) (fun _ => rfl) ?_
  refine ra.b (c := a1 < (0 : Int32)) (cd := .lt) (x := a1) (y := (0 : Int32)) 26 4 (st' := []) (fun _ => rfl) (y_clt _ _) hk hg (fun h1 hg hk => ?_) (fun h1 hg hk => ?_)
  · skip
    refine ra.s (pc' := 27) (st' := [.inl (0 : Int32)]) (fun _ => rfl) ?_
    subst hk
    exact ra.retz (nx := 28) rfl (Or.inl rfl) ⟨rfl, rfl, rfl⟩
  · skip
    refine ra.s (pc' := 5) (st' := [.inl a1]) (fun _ => rfl) ?_
    refine ra.s (pc' := 6) (st' := [.inr (some (11, 0)), .inl a1]) (fun _ => rfl) ?_
    refine ra.gi (x := 30) (nx := 9) (v := (A 30 0)) rfl rfl rfl ?_
    refine ra.b (c := (A 30 0) ≤ a1) (cd := .ge) (x := a1) (y := (A 30 0)) 26 12 (st' := []) (fun _ => rfl) (y_cge _ _) hk hg (fun h2 hg hk => ?_) (fun h2 hg hk => ?_)
    · skip
      refine ra.s (pc' := 27) (st' := [.inl (0 : Int32)]) (fun _ => rfl) ?_
      subst hk
      exact ra.retz (nx := 28) rfl (Or.inl rfl) ⟨rfl, rfl, rfl⟩
    · skip
      refine ra.s (pc' := 13) (st' := [.inr (some (11, 0))]) (fun _ => rfl) ?_
      refine ra.ga (x := 31) (nx := 16) (c := 13) (i := 24) rfl rfl ?_
      refine ra.s (pc' := 17) (st' := [.inl a1, .inr (some (13, 24))]) (fun _ => rfl) ?_
      obtain ⟨h3, hg⟩ := hg
      refine ra.ld (nx := 18) (v := (A 31 (y_ix a1))) 31 24 rfl rfl h3 rfl ?_
      refine ra.s (pc' := 19) (st' := [.inl a2, .inl (A 31 (y_ix a1))]) (fun _ => rfl) ?_
      refine ra.bn (c := (A 31 (y_ix a1)) = a2) (cd := .ne) (x := (A 31 (y_ix a1))) (y := a2) 26 22 (st' := []) (fun _ => rfl) (y_cne _ _) hk hg (fun h4 hg hk => ?_) (fun h4 hg hk => ?_)
      · skip
        refine ra.s (pc' := 23) (st' := [.inl (1 : Int32)]) (fun _ => rfl) ?_
        refine ra.s (pc' := 27) (st' := [.inl (1 : Int32)]) (fun _ => rfl) ?_
        subst hk
        exact ra.retz (nx := 28) rfl (Or.inr rfl) ⟨rfl, rfl, rfl⟩
      · skip
        refine ra.s (pc' := 27) (st' := [.inl (0 : Int32)]) (fun _ => rfl) ?_
        subst hk
        exact ra.retz (nx := 28) rfl (Or.inl rfl) ⟨rfl, rfl, rfl⟩
/-- alarmed -/
def rf_alarmed (a1 a2 : Int32) (A : y_A) : Int32 := (if a1 < (0 : Int32) then (-1 : Int32) else (if a1 < (A 103 0) then (if a2 = (0 : Int32) then (if (A 109 (y_ix a1)) = (0 : Int32) then (0 : Int32) else (1 : Int32)) else (if a2 = (1 : Int32) then (A 107 (y_ix a1)) else (if a2 = (2 : Int32) then (A 108 (y_ix a1)) else (-1 : Int32)))) else (-1 : Int32)))
def rg_alarmed (a1 a2 : Int32) (A : y_A) : Prop := ((a1 < (0 : Int32) → True) ∧ (¬ a1 < (0 : Int32) → ((a1 < (A 103 0) → ((a2 = (0 : Int32) → (y_in a1 10) ∧ (((A 109 (y_ix a1)) = (0 : Int32) → True) ∧ (¬ (A 109 (y_ix a1)) = (0 : Int32) → True))) ∧ (¬ a2 = (0 : Int32) → ((a2 = (1 : Int32) → (y_in a1 10) ∧ True) ∧ (¬ a2 = (1 : Int32) → ((a2 = (2 : Int32) → (y_in a1 10) ∧ True) ∧ (¬ a2 = (2 : Int32) → True))))))) ∧ (¬ a1 < (A 103 0) → True))))
theorem rh_alarmed {d : Nat} (hd : 0 ≤ d) {a1 a2 : Int32} {A : y_A} {js : List y_J} (hg : rg_alarmed a1 a2 A) : rc d 162 [.inr (some (11, 0)), .inl a1, .inl a2] A js (y_P (rf_alarmed a1 a2 A) A js) := by
  obtain ⟨F, hk⟩ : ∃ F, rf_alarmed a1 a2 A = F := ⟨_, rfl⟩
  rw [hk]
  show ra _ _ _ [some (.inr (some (11, 0))), some (.inl a1), some (.inl a2)] _ _ _ _
  unfold rg_alarmed at hg
  unfold rf_alarmed at hk
  refine ra.s (pc' := 1) (st' := [.inl a1]) (fun _ => rfl) ?_
  refine ra.b (c := a1 < (0 : Int32)) (cd := .lt) (x := a1) (y := (0 : Int32)) 12 4 (st' := []) (fun _ => rfl) (y_clt _ _) hk hg (fun h1 hg hk => ?_) (fun h1 hg hk => ?_)
  · skip
    refine ra.s (pc' := 13) (st' := [.inl (-1 : Int32)]) (fun _ => rfl) ?_
    subst hk
    exact ra.ret (r := some (.inl (-1 : Int32))) (fun _ => rfl) ⟨rfl, rfl, rfl⟩
  · skip
    refine ra.s (pc' := 5) (st' := [.inl a1]) (fun _ => rfl) ?_
    refine ra.s (pc' := 6) (st' := [.inr (some (11, 0)), .inl a1]) (fun _ => rfl) ?_
    refine ra.gi (x := 103) (nx := 9) (v := (A 103 0)) rfl rfl rfl ?_
    refine ra.b (c := a1 < (A 103 0)) (cd := .lt) (x := a1) (y := (A 103 0)) 14 12 (st' := []) (fun _ => rfl) (y_clt _ _) hk hg (fun h2 hg hk => ?_) (fun h2 hg hk => ?_)
    · skip
      refine ra.s (pc' := 15) (st' := [.inl a2]) (fun _ => rfl) ?_
      refine ra.ts rfl rfl ?_
      refine ra.bw (0 : Int32) rfl hk hg (fun h3 hg hk => ?_) (fun h3 hg hk => ?_)
      · skip
        refine ra.s (pc' := 41) (st' := [.inr (some (11, 0))]) (fun _ => rfl) ?_
        refine ra.ga (x := 109) (nx := 44) (c := 14) (i := 9) rfl rfl ?_
        refine ra.s (pc' := 45) (st' := [.inl a1, .inr (some (14, 9))]) (fun _ => rfl) ?_
        obtain ⟨h4, hg⟩ := hg
        refine ra.lz (nx := 46) (v := (A 109 (y_ix a1))) 109 10 rfl rfl h4 rfl ?_
        refine ra.b (c := (A 109 (y_ix a1)) = (0 : Int32)) (cd := .eq) (x := (A 109 (y_ix a1))) (y := (0 : Int32)) 53 49 (st' := []) (fun _ => rfl) (y_ceq _ _) hk hg (fun h5 hg hk => ?_) (fun h5 hg hk => ?_)
        · skip
          refine ra.s (pc' := 54) (st' := [.inl (0 : Int32)]) (fun _ => rfl) ?_
          subst hk
          exact ra.ret (r := some (.inl (0 : Int32))) (fun _ => rfl) ⟨rfl, rfl, rfl⟩
        · skip
          refine ra.s (pc' := 50) (st' := [.inl (1 : Int32)]) (fun _ => rfl) ?_
          refine ra.s (pc' := 54) (st' := [.inl (1 : Int32)]) (fun _ => rfl) ?_
          subst hk
          exact ra.ret (r := some (.inl (1 : Int32))) (fun _ => rfl) ⟨rfl, rfl, rfl⟩
      · skip
        refine ra.bw (1 : Int32) rfl hk hg (fun h6 hg hk => ?_) (fun h6 hg hk => ?_)
        · skip
          refine ra.s (pc' := 56) (st' := [.inr (some (11, 0))]) (fun _ => rfl) ?_
          refine ra.ga (x := 107) (nx := 59) (c := 13) (i := 83) rfl rfl ?_
          refine ra.s (pc' := 60) (st' := [.inl a1, .inr (some (13, 83))]) (fun _ => rfl) ?_
          obtain ⟨h7, hg⟩ := hg
          refine ra.ld (nx := 61) (v := (A 107 (y_ix a1))) 107 10 rfl rfl h7 rfl ?_
          subst hk
          exact ra.ret (r := some (.inl (A 107 (y_ix a1)))) (fun _ => rfl) ⟨rfl, rfl, rfl⟩
        · skip
          refine ra.bw (2 : Int32) rfl hk hg (fun h8 hg hk => ?_) (fun h8 hg hk => ?_)
          · skip
            refine ra.s (pc' := 63) (st' := [.inr (some (11, 0))]) (fun _ => rfl) ?_
            refine ra.ga (x := 108) (nx := 66) (c := 13) (i := 84) rfl rfl ?_
            refine ra.s (pc' := 67) (st' := [.inl a1, .inr (some (13, 84))]) (fun _ => rfl) ?_
            obtain ⟨h9, hg⟩ := hg
            refine ra.ld (nx := 68) (v := (A 108 (y_ix a1))) 108 10 rfl rfl h9 rfl ?_
            subst hk
            exact ra.ret (r := some (.inl (A 108 (y_ix a1)))) (fun _ => rfl) ⟨rfl, rfl, rfl⟩
          · skip
            refine ra.s (pc' := 70) (st' := [.inl (-1 : Int32)]) (fun _ => rfl) ?_
            subst hk
            exact ra.ret (r := some (.inl (-1 : Int32))) (fun _ => rfl) ⟨rfl, rfl, rfl⟩
    · skip
      refine ra.s (pc' := 13) (st' := [.inl (-1 : Int32)]) (fun _ => rfl) ?_
      subst hk
      exact ra.ret (r := some (.inl (-1 : Int32))) (fun _ => rfl) ⟨rfl, rfl, rfl⟩
def rf_isSo_103 : Nat → Int32 → Int32 → Int32 → Int32 → y_A → Int32 × Int32
  | 0, _, _, _, _, _ => (0, 0)
  | n + 1, l1, l2, l3, l4, A => (if (A 50 0) ≤ l4 then (l3, l4) else (if (A 58 (y_ix l4)) = (0 : Int32) then (if ((A 0 0) - (A 56 (y_ix l4))) ≤ (A 106 (y_ix l1)) then (rf_isSo_103 n l1 l2 (l3 ||| (0 : Int32)) (l4 + (1 : Int32)) A) else (rf_isSo_103 n l1 l2 (l3 ||| (1 : Int32)) (l4 + (1 : Int32)) A)) else (rf_isSo_103 n l1 l2 (l3 ||| (0 : Int32)) (l4 + (1 : Int32)) A)))
def rg_isSo_103 : Nat → Int32 → Int32 → Int32 → Int32 → y_A → Prop
  | 0, _, _, _, _, _ => False
  | n + 1, l1, l2, l3, l4, A => (((A 50 0) ≤ l4 → True) ∧ (¬ (A 50 0) ≤ l4 → (y_in l4 60) ∧ (((A 58 (y_ix l4)) = (0 : Int32) → (y_in l1 10) ∧ ((((A 0 0) - (A 56 (y_ix l4))) ≤ (A 106 (y_ix l1)) → (rg_isSo_103 n l1 l2 (l3 ||| (0 : Int32)) (l4 + (1 : Int32)) A)) ∧ (¬ ((A 0 0) - (A 56 (y_ix l4))) ≤ (A 106 (y_ix l1)) → (rg_isSo_103 n l1 l2 (l3 ||| (1 : Int32)) (l4 + (1 : Int32)) A)))) ∧ (¬ (A 58 (y_ix l4)) = (0 : Int32) → (rg_isSo_103 n l1 l2 (l3 ||| (0 : Int32)) (l4 + (1 : Int32)) A)))))
theorem rh_isSo_103 {d : Nat} (hd : 0 ≤ d) {Q : Option xm_V → y_A → List y_J → Prop} {F : Int32 × Int32} (n : Nat) : ∀ (l1 l2 l3 l4 : Int32) (A : y_A) (js : List y_J), rg_isSo_103 n l1 l2 l3 l4 A → rf_isSo_103 n l1 l2 l3 l4 A = F → (ra d 168 157 [some (.inr (some (11, 0))), some (.inl l1), some (.inl l2), some (.inl F.1), some (.inl F.2)] [] A js Q) → ra d 168 103 [some (.inr (some (11, 0))), some (.inl l1), some (.inl l2), some (.inl l3), some (.inl l4)] [] A js Q := by
  induction n with
  | zero => intro l1 l2 l3 l4 A js hg; exact hg.elim
  | succ n ih =>
    intro l1 l2 l3 l4 A js hg hk hE
    unfold rg_isSo_103 at hg
    unfold rf_isSo_103 at hk
    refine ra.s (pc' := 105) (st' := [.inl l4]) (fun _ => rfl) ?_
    refine ra.s (pc' := 106) (st' := [.inr (some (11, 0)), .inl l4]) (fun _ => rfl) ?_
    refine ra.gi (x := 50) (nx := 109) (v := (A 50 0)) rfl rfl rfl ?_
    refine ra.b (c := (A 50 0) ≤ l4) (cd := .ge) (x := l4) (y := (A 50 0)) 157 112 (st' := []) (fun _ => rfl) (y_cge _ _) hk hg (fun h1 hg hk => ?_) (fun h1 hg hk => ?_)
    · skip
      subst hk
      exact hE
    · skip
      refine ra.s (pc' := 113) (st' := [.inl l3]) (fun _ => rfl) ?_
      refine ra.s (pc' := 114) (st' := [.inr (some (11, 0)), .inl l3]) (fun _ => rfl) ?_
      refine ra.ga (x := 58) (nx := 117) (c := 13) (i := 48) rfl rfl ?_
      refine ra.s (pc' := 119) (st' := [.inl l4, .inr (some (13, 48)), .inl l3]) (fun _ => rfl) ?_
      obtain ⟨h2, hg⟩ := hg
      refine ra.ld (nx := 120) (v := (A 58 (y_ix l4))) 58 60 rfl rfl h2 rfl ?_
      refine ra.bn (c := (A 58 (y_ix l4)) = (0 : Int32)) (cd := .ne) (x := (A 58 (y_ix l4))) (y := (0 : Int32)) 148 123 (st' := [.inl l3]) (fun _ => rfl) (y_cne _ _) hk hg (fun h3 hg hk => ?_) (fun h3 hg hk => ?_)
      · skip
        refine ra.s (pc' := 124) (st' := [.inr (some (11, 0)), .inl l3]) (fun _ => rfl) ?_
        refine ra.gi (x := 0) (nx := 127) (v := (A 0 0)) rfl rfl rfl ?_
        refine ra.s (pc' := 128) (st' := [.inr (some (11, 0)), .inl (A 0 0), .inl l3]) (fun _ => rfl) ?_
        refine ra.ga (x := 56) (nx := 131) (c := 13) (i := 46) rfl rfl ?_
        refine ra.s (pc' := 133) (st' := [.inl l4, .inr (some (13, 46)), .inl (A 0 0), .inl l3]) (fun _ => rfl) ?_
        refine ra.ld (nx := 134) (v := (A 56 (y_ix l4))) 56 60 rfl rfl h2 rfl ?_
        refine ra.s (pc' := 135) (st' := [.inl ((A 0 0) - (A 56 (y_ix l4))), .inl l3]) (fun _ => rfl) ?_
        refine ra.s (pc' := 136) (st' := [.inr (some (11, 0)), .inl ((A 0 0) - (A 56 (y_ix l4))), .inl l3]) (fun _ => rfl) ?_
        refine ra.ga (x := 106) (nx := 139) (c := 13) (i := 82) rfl rfl ?_
        refine ra.s (pc' := 140) (st' := [.inl l1, .inr (some (13, 82)), .inl ((A 0 0) - (A 56 (y_ix l4))), .inl l3]) (fun _ => rfl) ?_
        obtain ⟨h4, hg⟩ := hg
        refine ra.ld (nx := 141) (v := (A 106 (y_ix l1))) 106 10 rfl rfl h4 rfl ?_
        refine ra.b (c := ((A 0 0) - (A 56 (y_ix l4))) ≤ (A 106 (y_ix l1))) (cd := .le) (x := ((A 0 0) - (A 56 (y_ix l4)))) (y := (A 106 (y_ix l1))) 148 144 (st' := [.inl l3]) (fun _ => rfl) (y_cle _ _) hk hg (fun h5 hg hk => ?_) (fun h5 hg hk => ?_)
        · skip
          refine ra.s (pc' := 149) (st' := [.inl (0 : Int32), .inl l3]) (fun _ => rfl) ?_
          refine ra.s (pc' := 150) (st' := [.inl (l3 ||| (0 : Int32))]) (fun _ => rfl) ?_
          refine ra.s (pc' := 151) (L' := [some (.inr (some (11, 0))), some (.inl l1), some (.inl l2), some (.inl (l3 ||| (0 : Int32))), some (.inl l4)]) (st' := []) (fun _ => rfl) ?_
          refine ra.s (pc' := 154) (L' := [some (.inr (some (11, 0))), some (.inl l1), some (.inl l2), some (.inl (l3 ||| (0 : Int32))), some (.inl (l4 + (1 : Int32)))]) (st' := []) (fun _ => rfl) ?_
          refine ra.s (pc' := 103) (st' := []) (fun _ => rfl) ?_
          exact ih l1 l2 (l3 ||| (0 : Int32)) (l4 + (1 : Int32)) A js hg hk hE
        · skip
          refine ra.s (pc' := 145) (st' := [.inl (1 : Int32), .inl l3]) (fun _ => rfl) ?_
          refine ra.s (pc' := 149) (st' := [.inl (1 : Int32), .inl l3]) (fun _ => rfl) ?_
          refine ra.s (pc' := 150) (st' := [.inl (l3 ||| (1 : Int32))]) (fun _ => rfl) ?_
          refine ra.s (pc' := 151) (L' := [some (.inr (some (11, 0))), some (.inl l1), some (.inl l2), some (.inl (l3 ||| (1 : Int32))), some (.inl l4)]) (st' := []) (fun _ => rfl) ?_
          refine ra.s (pc' := 154) (L' := [some (.inr (some (11, 0))), some (.inl l1), some (.inl l2), some (.inl (l3 ||| (1 : Int32))), some (.inl (l4 + (1 : Int32)))]) (st' := []) (fun _ => rfl) ?_
          refine ra.s (pc' := 103) (st' := []) (fun _ => rfl) ?_
          exact ih l1 l2 (l3 ||| (1 : Int32)) (l4 + (1 : Int32)) A js hg hk hE
      · skip
        refine ra.s (pc' := 149) (st' := [.inl (0 : Int32), .inl l3]) (fun _ => rfl) ?_
        refine ra.s (pc' := 150) (st' := [.inl (l3 ||| (0 : Int32))]) (fun _ => rfl) ?_
        refine ra.s (pc' := 151) (L' := [some (.inr (some (11, 0))), some (.inl l1), some (.inl l2), some (.inl (l3 ||| (0 : Int32))), some (.inl l4)]) (st' := []) (fun _ => rfl) ?_
        refine ra.s (pc' := 154) (L' := [some (.inr (some (11, 0))), some (.inl l1), some (.inl l2), some (.inl (l3 ||| (0 : Int32))), some (.inl (l4 + (1 : Int32)))]) (st' := []) (fun _ => rfl) ?_
        refine ra.s (pc' := 103) (st' := []) (fun _ => rfl) ?_
        exact ih l1 l2 (l3 ||| (0 : Int32)) (l4 + (1 : Int32)) A js hg hk hE
/-- isSo -/
def rf_isSo (a1 : Int32) (A : y_A) : Int32 := (if (A 104 (y_ix a1)) = (0 : Int32) then (if (A 36 (y_ix (A 105 (y_ix a1)))) = (1 : Int32) then (1 : Int32) else (0 : Int32)) else (if (A 104 (y_ix a1)) = (1 : Int32) then (if (A 106 (y_ix a1)) ≤ (A 2 (y_ix (A 105 (y_ix a1)))) then (0 : Int32) else (1 : Int32)) else (if (A 104 (y_ix a1)) = (2 : Int32) then (if (A 40 (y_ix (A 105 (y_ix a1)))) < (A 106 (y_ix a1)) then (0 : Int32) else (1 : Int32)) else (rf_isSo_103 20000 a1 (A 105 (y_ix a1)) (0 : Int32) (0 : Int32) A).1)))
def rg_isSo (a1 : Int32) (A : y_A) : Prop := (y_in a1 10) ∧ (((A 104 (y_ix a1)) = (0 : Int32) → (y_in (A 105 (y_ix a1)) 24) ∧ (((A 36 (y_ix (A 105 (y_ix a1)))) = (1 : Int32) → True) ∧ (¬ (A 36 (y_ix (A 105 (y_ix a1)))) = (1 : Int32) → True))) ∧ (¬ (A 104 (y_ix a1)) = (0 : Int32) → (((A 104 (y_ix a1)) = (1 : Int32) → (y_in (A 105 (y_ix a1)) 8) ∧ (((A 106 (y_ix a1)) ≤ (A 2 (y_ix (A 105 (y_ix a1)))) → True) ∧ (¬ (A 106 (y_ix a1)) ≤ (A 2 (y_ix (A 105 (y_ix a1)))) → True))) ∧ (¬ (A 104 (y_ix a1)) = (1 : Int32) → (((A 104 (y_ix a1)) = (2 : Int32) → (y_in (A 105 (y_ix a1)) 24) ∧ (((A 40 (y_ix (A 105 (y_ix a1)))) < (A 106 (y_ix a1)) → True) ∧ (¬ (A 40 (y_ix (A 105 (y_ix a1)))) < (A 106 (y_ix a1)) → True))) ∧ (¬ (A 104 (y_ix a1)) = (2 : Int32) → (rg_isSo_103 20000 a1 (A 105 (y_ix a1)) (0 : Int32) (0 : Int32) A) ∧ ((rf_isSo_103 20000 a1 (A 105 (y_ix a1)) (0 : Int32) (0 : Int32) A).1 = 0 ∨ (rf_isSo_103 20000 a1 (A 105 (y_ix a1)) (0 : Int32) (0 : Int32) A).1 = 1) ∧ True))))))
theorem rh_isSo {d : Nat} (hd : 0 ≤ d) {a1 : Int32} {A : y_A} {js : List y_J} (hg : rg_isSo a1 A) : rc d 168 [.inr (some (11, 0)), .inl a1] A js (y_P (rf_isSo a1 A) A js) := by
  obtain ⟨F, hk⟩ : ∃ F, rf_isSo a1 A = F := ⟨_, rfl⟩
  rw [hk]
  show ra _ _ _ [some (.inr (some (11, 0))), some (.inl a1), none, none, none] _ _ _ _
  unfold rg_isSo at hg
  unfold rf_isSo at hk
  refine ra.s (pc' := 1) (st' := [.inr (some (11, 0))]) (fun _ => rfl) ?_
  refine ra.ga (x := 105) (nx := 4) (c := 13) (i := 81) rfl rfl ?_
  refine ra.s (pc' := 5) (st' := [.inl a1, .inr (some (13, 81))]) (fun _ => rfl) ?_
  obtain ⟨h1, hg⟩ := hg
  refine ra.ld (nx := 6) (v := (A 105 (y_ix a1))) 105 10 rfl rfl h1 rfl ?_
  refine ra.s (pc' := 7) (L' := [some (.inr (some (11, 0))), some (.inl a1), some (.inl (A 105 (y_ix a1))), none, none]) (st' := []) (fun _ => rfl) ?_
  refine ra.s (pc' := 8) (st' := [.inr (some (11, 0))]) (fun _ => rfl) ?_
  refine ra.ga (x := 104) (nx := 11) (c := 13) (i := 80) rfl rfl ?_
  refine ra.s (pc' := 12) (st' := [.inl a1, .inr (some (13, 80))]) (fun _ => rfl) ?_
  refine ra.ld (nx := 13) (v := (A 104 (y_ix a1))) 104 10 rfl rfl h1 rfl ?_
  refine ra.ts rfl rfl ?_
  refine ra.bw (0 : Int32) rfl hk hg (fun h2 hg hk => ?_) (fun h2 hg hk => ?_)
  · skip
    refine ra.s (pc' := 41) (st' := [.inr (some (11, 0))]) (fun _ => rfl) ?_
    refine ra.ga (x := 36) (nx := 44) (c := 13) (i := 29) rfl rfl ?_
    refine ra.s (pc' := 45) (st' := [.inl (A 105 (y_ix a1)), .inr (some (13, 29))]) (fun _ => rfl) ?_
    obtain ⟨h3, hg⟩ := hg
    refine ra.ld (nx := 46) (v := (A 36 (y_ix (A 105 (y_ix a1))))) 36 24 rfl rfl h3 rfl ?_
    refine ra.s (pc' := 47) (st' := [.inl (1 : Int32), .inl (A 36 (y_ix (A 105 (y_ix a1))))]) (fun _ => rfl) ?_
    refine ra.bn (c := (A 36 (y_ix (A 105 (y_ix a1)))) = (1 : Int32)) (cd := .ne) (x := (A 36 (y_ix (A 105 (y_ix a1))))) (y := (1 : Int32)) 54 50 (st' := []) (fun _ => rfl) (y_cne _ _) hk hg (fun h4 hg hk => ?_) (fun h4 hg hk => ?_)
    · skip
      refine ra.s (pc' := 51) (st' := [.inl (1 : Int32)]) (fun _ => rfl) ?_
      refine ra.s (pc' := 55) (st' := [.inl (1 : Int32)]) (fun _ => rfl) ?_
      subst hk
      exact ra.retz (nx := 56) rfl (Or.inr rfl) ⟨rfl, rfl, rfl⟩
    · skip
      refine ra.s (pc' := 55) (st' := [.inl (0 : Int32)]) (fun _ => rfl) ?_
      subst hk
      exact ra.retz (nx := 56) rfl (Or.inl rfl) ⟨rfl, rfl, rfl⟩
  · skip
    refine ra.bw (1 : Int32) rfl hk hg (fun h5 hg hk => ?_) (fun h5 hg hk => ?_)
    · skip
      refine ra.s (pc' := 57) (st' := [.inr (some (11, 0))]) (fun _ => rfl) ?_
      refine ra.ga (x := 2) (nx := 60) (c := 13) (i := 0) rfl rfl ?_
      refine ra.s (pc' := 61) (st' := [.inl (A 105 (y_ix a1)), .inr (some (13, 0))]) (fun _ => rfl) ?_
      obtain ⟨h6, hg⟩ := hg
      refine ra.ld (nx := 62) (v := (A 2 (y_ix (A 105 (y_ix a1))))) 2 8 rfl rfl h6 rfl ?_
      refine ra.s (pc' := 63) (st' := [.inr (some (11, 0)), .inl (A 2 (y_ix (A 105 (y_ix a1))))]) (fun _ => rfl) ?_
      refine ra.ga (x := 106) (nx := 66) (c := 13) (i := 82) rfl rfl ?_
      refine ra.s (pc' := 67) (st' := [.inl a1, .inr (some (13, 82)), .inl (A 2 (y_ix (A 105 (y_ix a1))))]) (fun _ => rfl) ?_
      refine ra.ld (nx := 68) (v := (A 106 (y_ix a1))) 106 10 rfl rfl h1 rfl ?_
      refine ra.b (c := (A 106 (y_ix a1)) ≤ (A 2 (y_ix (A 105 (y_ix a1))))) (cd := .ge) (x := (A 2 (y_ix (A 105 (y_ix a1))))) (y := (A 106 (y_ix a1))) 75 71 (st' := []) (fun _ => rfl) (y_cge _ _) hk hg (fun h7 hg hk => ?_) (fun h7 hg hk => ?_)
      · skip
        refine ra.s (pc' := 76) (st' := [.inl (0 : Int32)]) (fun _ => rfl) ?_
        subst hk
        exact ra.retz (nx := 77) rfl (Or.inl rfl) ⟨rfl, rfl, rfl⟩
      · skip
        refine ra.s (pc' := 72) (st' := [.inl (1 : Int32)]) (fun _ => rfl) ?_
        refine ra.s (pc' := 76) (st' := [.inl (1 : Int32)]) (fun _ => rfl) ?_
        subst hk
        exact ra.retz (nx := 77) rfl (Or.inr rfl) ⟨rfl, rfl, rfl⟩
    · skip
      refine ra.bw (2 : Int32) rfl hk hg (fun h8 hg hk => ?_) (fun h8 hg hk => ?_)
      · skip
        refine ra.s (pc' := 78) (st' := [.inr (some (11, 0))]) (fun _ => rfl) ?_
        refine ra.ga (x := 40) (nx := 81) (c := 13) (i := 33) rfl rfl ?_
        refine ra.s (pc' := 82) (st' := [.inl (A 105 (y_ix a1)), .inr (some (13, 33))]) (fun _ => rfl) ?_
        obtain ⟨h9, hg⟩ := hg
        refine ra.ld (nx := 83) (v := (A 40 (y_ix (A 105 (y_ix a1))))) 40 24 rfl rfl h9 rfl ?_
        refine ra.s (pc' := 84) (st' := [.inr (some (11, 0)), .inl (A 40 (y_ix (A 105 (y_ix a1))))]) (fun _ => rfl) ?_
        refine ra.ga (x := 106) (nx := 87) (c := 13) (i := 82) rfl rfl ?_
        refine ra.s (pc' := 88) (st' := [.inl a1, .inr (some (13, 82)), .inl (A 40 (y_ix (A 105 (y_ix a1))))]) (fun _ => rfl) ?_
        refine ra.ld (nx := 89) (v := (A 106 (y_ix a1))) 106 10 rfl rfl h1 rfl ?_
        refine ra.b (c := (A 40 (y_ix (A 105 (y_ix a1)))) < (A 106 (y_ix a1))) (cd := .lt) (x := (A 40 (y_ix (A 105 (y_ix a1))))) (y := (A 106 (y_ix a1))) 96 92 (st' := []) (fun _ => rfl) (y_clt _ _) hk hg (fun h10 hg hk => ?_) (fun h10 hg hk => ?_)
        · skip
          refine ra.s (pc' := 97) (st' := [.inl (0 : Int32)]) (fun _ => rfl) ?_
          subst hk
          exact ra.retz (nx := 98) rfl (Or.inl rfl) ⟨rfl, rfl, rfl⟩
        · skip
          refine ra.s (pc' := 93) (st' := [.inl (1 : Int32)]) (fun _ => rfl) ?_
          refine ra.s (pc' := 97) (st' := [.inl (1 : Int32)]) (fun _ => rfl) ?_
          subst hk
          exact ra.retz (nx := 98) rfl (Or.inr rfl) ⟨rfl, rfl, rfl⟩
      · skip
        refine ra.s (pc' := 99) (st' := [.inl (0 : Int32)]) (fun _ => rfl) ?_
        refine ra.s (pc' := 100) (L' := [some (.inr (some (11, 0))), some (.inl a1), some (.inl (A 105 (y_ix a1))), some (.inl (0 : Int32)), none]) (st' := []) (fun _ => rfl) ?_
        refine ra.s (pc' := 101) (st' := [.inl (0 : Int32)]) (fun _ => rfl) ?_
        refine ra.s (pc' := 103) (L' := [some (.inr (some (11, 0))), some (.inl a1), some (.inl (A 105 (y_ix a1))), some (.inl (0 : Int32)), some (.inl (0 : Int32))]) (st' := []) (fun _ => rfl) ?_
        obtain ⟨h11, hg⟩ := hg
        refine rh_isSo_103 (by omega) 20000 a1 (A 105 (y_ix a1)) (0 : Int32) (0 : Int32) A js h11 rfl ?_
        refine ra.s (pc' := 158) (st' := [.inl (rf_isSo_103 20000 a1 (A 105 (y_ix a1)) (0 : Int32) (0 : Int32) A).1]) (fun _ => rfl) ?_
        obtain ⟨h12, hg⟩ := hg
        subst hk
        exact ra.retz (nx := 159) rfl h12 ⟨rfl, rfl, rfl⟩
/-- now -/
def rf_now (A : y_A) : Int32 := (A 0 0)
def rg_now (A : y_A) : Prop := True
theorem rh_now {d : Nat} (hd : 0 ≤ d) {A : y_A} {js : List y_J} (hg : rg_now A) : rc d 169 [.inr (some (11, 0))] A js (y_P (rf_now A) A js) := by
  obtain ⟨F, hk⟩ : ∃ F, rf_now A = F := ⟨_, rfl⟩
  rw [hk]
  show ra _ _ _ [some (.inr (some (11, 0)))] _ _ _ _
  unfold rg_now at hg
  unfold rf_now at hk
  refine ra.s (pc' := 1) (st' := [.inr (some (11, 0))]) (fun _ => rfl) ?_
  refine ra.gi (x := 0) (nx := 4) (v := (A 0 0)) rfl rfl rfl ?_
  subst hk
  exact ra.ret (r := some (.inl (A 0 0))) (fun _ => rfl) ⟨rfl, rfl, rfl⟩
/-- outcome -/
def rf_outcome (a1 : Int32) (A : y_A) : Int32 := (if a1 < (0 : Int32) then (-1 : Int32) else (if a1 < (A 50 0) then (A 58 (y_ix a1)) else (-1 : Int32)))
def rg_outcome (a1 : Int32) (A : y_A) : Prop := ((a1 < (0 : Int32) → True) ∧ (¬ a1 < (0 : Int32) → ((a1 < (A 50 0) → (y_in a1 60) ∧ True) ∧ (¬ a1 < (A 50 0) → True))))
theorem rh_outcome {d : Nat} (hd : 0 ≤ d) {a1 : Int32} {A : y_A} {js : List y_J} (hg : rg_outcome a1 A) : rc d 170 [.inr (some (11, 0)), .inl a1] A js (y_P (rf_outcome a1 A) A js) := by
  obtain ⟨F, hk⟩ : ∃ F, rf_outcome a1 A = F := ⟨_, rfl⟩
  rw [hk]
  show ra _ _ _ [some (.inr (some (11, 0))), some (.inl a1)] _ _ _ _
  unfold rg_outcome at hg
  unfold rf_outcome at hk
  refine ra.s (pc' := 1) (st' := [.inl a1]) (fun _ => rfl) ?_
  refine ra.b (c := a1 < (0 : Int32)) (cd := .lt) (x := a1) (y := (0 : Int32)) 12 4 (st' := []) (fun _ => rfl) (y_clt _ _) hk hg (fun h1 hg hk => ?_) (fun h1 hg hk => ?_)
  · skip
    refine ra.s (pc' := 13) (st' := [.inl (-1 : Int32)]) (fun _ => rfl) ?_
    refine ra.s (pc' := 22) (st' := [.inl (-1 : Int32)]) (fun _ => rfl) ?_
    subst hk
    exact ra.ret (r := some (.inl (-1 : Int32))) (fun _ => rfl) ⟨rfl, rfl, rfl⟩
  · skip
    refine ra.s (pc' := 5) (st' := [.inl a1]) (fun _ => rfl) ?_
    refine ra.s (pc' := 6) (st' := [.inr (some (11, 0)), .inl a1]) (fun _ => rfl) ?_
    refine ra.gi (x := 50) (nx := 9) (v := (A 50 0)) rfl rfl rfl ?_
    refine ra.b (c := a1 < (A 50 0)) (cd := .lt) (x := a1) (y := (A 50 0)) 16 12 (st' := []) (fun _ => rfl) (y_clt _ _) hk hg (fun h2 hg hk => ?_) (fun h2 hg hk => ?_)
    · skip
      refine ra.s (pc' := 17) (st' := [.inr (some (11, 0))]) (fun _ => rfl) ?_
      refine ra.ga (x := 58) (nx := 20) (c := 13) (i := 48) rfl rfl ?_
      refine ra.s (pc' := 21) (st' := [.inl a1, .inr (some (13, 48))]) (fun _ => rfl) ?_
      obtain ⟨h3, hg⟩ := hg
      refine ra.ld (nx := 22) (v := (A 58 (y_ix a1))) 58 60 rfl rfl h3 rfl ?_
      subst hk
      exact ra.ret (r := some (.inl (A 58 (y_ix a1)))) (fun _ => rfl) ⟨rfl, rfl, rfl⟩
    · skip
      refine ra.s (pc' := 13) (st' := [.inl (-1 : Int32)]) (fun _ => rfl) ?_
      refine ra.s (pc' := 22) (st' := [.inl (-1 : Int32)]) (fun _ => rfl) ?_
      subst hk
      exact ra.ret (r := some (.inl (-1 : Int32))) (fun _ => rfl) ⟨rfl, rfl, rfl⟩
/-- of -/
def rf_of (a1 a2 : Int32) (A : y_A) : Int32 := (if a1 < (0 : Int32) then (-1 : Int32) else (if a1 < (A 50 0) then (if a2 = (0 : Int32) then (if (A 58 (y_ix a1)) = (1 : Int32) then (A 59 (y_ix a1)) else (if (A 58 (y_ix a1)) = (3 : Int32) then (A 59 (y_ix a1)) else (-1 : Int32))) else (if a2 = (1 : Int32) then (if (A 58 (y_ix a1)) = (2 : Int32) then (A 59 (y_ix a1)) else (-1 : Int32)) else (if a2 = (2 : Int32) then (A 56 (y_ix a1)) else (if a2 = (3 : Int32) then (A 57 (y_ix a1)) else (-1 : Int32))))) else (-1 : Int32)))
def rg_of (a1 a2 : Int32) (A : y_A) : Prop := ((a1 < (0 : Int32) → True) ∧ (¬ a1 < (0 : Int32) → ((a1 < (A 50 0) → ((a2 = (0 : Int32) → (y_in a1 60) ∧ (((A 58 (y_ix a1)) = (1 : Int32) → True) ∧ (¬ (A 58 (y_ix a1)) = (1 : Int32) → (((A 58 (y_ix a1)) = (3 : Int32) → True) ∧ (¬ (A 58 (y_ix a1)) = (3 : Int32) → True))))) ∧ (¬ a2 = (0 : Int32) → ((a2 = (1 : Int32) → (y_in a1 60) ∧ (((A 58 (y_ix a1)) = (2 : Int32) → True) ∧ (¬ (A 58 (y_ix a1)) = (2 : Int32) → True))) ∧ (¬ a2 = (1 : Int32) → ((a2 = (2 : Int32) → (y_in a1 60) ∧ True) ∧ (¬ a2 = (2 : Int32) → ((a2 = (3 : Int32) → (y_in a1 60) ∧ True) ∧ (¬ a2 = (3 : Int32) → True))))))))) ∧ (¬ a1 < (A 50 0) → True))))
theorem rh_of {d : Nat} (hd : 0 ≤ d) {a1 a2 : Int32} {A : y_A} {js : List y_J} (hg : rg_of a1 a2 A) : rc d 171 [.inr (some (11, 0)), .inl a1, .inl a2] A js (y_P (rf_of a1 a2 A) A js) := by
  obtain ⟨F, hk⟩ : ∃ F, rf_of a1 a2 A = F := ⟨_, rfl⟩
  rw [hk]
  show ra _ _ _ [some (.inr (some (11, 0))), some (.inl a1), some (.inl a2)] _ _ _ _
  unfold rg_of at hg
  unfold rf_of at hk
  refine ra.s (pc' := 1) (st' := [.inl a1]) (fun _ => rfl) ?_
  refine ra.b (c := a1 < (0 : Int32)) (cd := .lt) (x := a1) (y := (0 : Int32)) 12 4 (st' := []) (fun _ => rfl) (y_clt _ _) hk hg (fun h1 hg hk => ?_) (fun h1 hg hk => ?_)
  · skip
    refine ra.s (pc' := 13) (st' := [.inl (-1 : Int32)]) (fun _ => rfl) ?_
    subst hk
    exact ra.ret (r := some (.inl (-1 : Int32))) (fun _ => rfl) ⟨rfl, rfl, rfl⟩
  · skip
    refine ra.s (pc' := 5) (st' := [.inl a1]) (fun _ => rfl) ?_
    refine ra.s (pc' := 6) (st' := [.inr (some (11, 0)), .inl a1]) (fun _ => rfl) ?_
    refine ra.gi (x := 50) (nx := 9) (v := (A 50 0)) rfl rfl rfl ?_
    refine ra.b (c := a1 < (A 50 0)) (cd := .lt) (x := a1) (y := (A 50 0)) 14 12 (st' := []) (fun _ => rfl) (y_clt _ _) hk hg (fun h2 hg hk => ?_) (fun h2 hg hk => ?_)
    · skip
      refine ra.s (pc' := 15) (st' := [.inl a2]) (fun _ => rfl) ?_
      refine ra.ts rfl rfl ?_
      refine ra.bw (0 : Int32) rfl hk hg (fun h3 hg hk => ?_) (fun h3 hg hk => ?_)
      · skip
        refine ra.s (pc' := 45) (st' := [.inr (some (11, 0))]) (fun _ => rfl) ?_
        refine ra.ga (x := 58) (nx := 48) (c := 13) (i := 48) rfl rfl ?_
        refine ra.s (pc' := 49) (st' := [.inl a1, .inr (some (13, 48))]) (fun _ => rfl) ?_
        obtain ⟨h4, hg⟩ := hg
        refine ra.ld (nx := 50) (v := (A 58 (y_ix a1))) 58 60 rfl rfl h4 rfl ?_
        refine ra.s (pc' := 51) (st' := [.inl (1 : Int32), .inl (A 58 (y_ix a1))]) (fun _ => rfl) ?_
        refine ra.b (c := (A 58 (y_ix a1)) = (1 : Int32)) (cd := .eq) (x := (A 58 (y_ix a1))) (y := (1 : Int32)) 64 54 (st' := []) (fun _ => rfl) (y_ceq _ _) hk hg (fun h5 hg hk => ?_) (fun h5 hg hk => ?_)
        · skip
          refine ra.s (pc' := 65) (st' := [.inr (some (11, 0))]) (fun _ => rfl) ?_
          refine ra.ga (x := 59) (nx := 68) (c := 13) (i := 49) rfl rfl ?_
          refine ra.s (pc' := 69) (st' := [.inl a1, .inr (some (13, 49))]) (fun _ => rfl) ?_
          refine ra.ld (nx := 70) (v := (A 59 (y_ix a1))) 59 60 rfl rfl h4 rfl ?_
          refine ra.s (pc' := 74) (st' := [.inl (A 59 (y_ix a1))]) (fun _ => rfl) ?_
          subst hk
          exact ra.ret (r := some (.inl (A 59 (y_ix a1)))) (fun _ => rfl) ⟨rfl, rfl, rfl⟩
        · skip
          refine ra.s (pc' := 55) (st' := [.inr (some (11, 0))]) (fun _ => rfl) ?_
          refine ra.ga (x := 58) (nx := 58) (c := 13) (i := 48) rfl rfl ?_
          refine ra.s (pc' := 59) (st' := [.inl a1, .inr (some (13, 48))]) (fun _ => rfl) ?_
          refine ra.ld (nx := 60) (v := (A 58 (y_ix a1))) 58 60 rfl rfl h4 rfl ?_
          refine ra.s (pc' := 61) (st' := [.inl (3 : Int32), .inl (A 58 (y_ix a1))]) (fun _ => rfl) ?_
          refine ra.bn (c := (A 58 (y_ix a1)) = (3 : Int32)) (cd := .ne) (x := (A 58 (y_ix a1))) (y := (3 : Int32)) 73 64 (st' := []) (fun _ => rfl) (y_cne _ _) hk hg (fun h6 hg hk => ?_) (fun h6 hg hk => ?_)
          · skip
            refine ra.s (pc' := 65) (st' := [.inr (some (11, 0))]) (fun _ => rfl) ?_
            refine ra.ga (x := 59) (nx := 68) (c := 13) (i := 49) rfl rfl ?_
            refine ra.s (pc' := 69) (st' := [.inl a1, .inr (some (13, 49))]) (fun _ => rfl) ?_
            refine ra.ld (nx := 70) (v := (A 59 (y_ix a1))) 59 60 rfl rfl h4 rfl ?_
            refine ra.s (pc' := 74) (st' := [.inl (A 59 (y_ix a1))]) (fun _ => rfl) ?_
            subst hk
            exact ra.ret (r := some (.inl (A 59 (y_ix a1)))) (fun _ => rfl) ⟨rfl, rfl, rfl⟩
          · skip
            refine ra.s (pc' := 74) (st' := [.inl (-1 : Int32)]) (fun _ => rfl) ?_
            subst hk
            exact ra.ret (r := some (.inl (-1 : Int32))) (fun _ => rfl) ⟨rfl, rfl, rfl⟩
      · skip
        refine ra.bw (1 : Int32) rfl hk hg (fun h7 hg hk => ?_) (fun h7 hg hk => ?_)
        · skip
          refine ra.s (pc' := 76) (st' := [.inr (some (11, 0))]) (fun _ => rfl) ?_
          refine ra.ga (x := 58) (nx := 79) (c := 13) (i := 48) rfl rfl ?_
          refine ra.s (pc' := 80) (st' := [.inl a1, .inr (some (13, 48))]) (fun _ => rfl) ?_
          obtain ⟨h8, hg⟩ := hg
          refine ra.ld (nx := 81) (v := (A 58 (y_ix a1))) 58 60 rfl rfl h8 rfl ?_
          refine ra.s (pc' := 82) (st' := [.inl (2 : Int32), .inl (A 58 (y_ix a1))]) (fun _ => rfl) ?_
          refine ra.bn (c := (A 58 (y_ix a1)) = (2 : Int32)) (cd := .ne) (x := (A 58 (y_ix a1))) (y := (2 : Int32)) 94 85 (st' := []) (fun _ => rfl) (y_cne _ _) hk hg (fun h9 hg hk => ?_) (fun h9 hg hk => ?_)
          · skip
            refine ra.s (pc' := 86) (st' := [.inr (some (11, 0))]) (fun _ => rfl) ?_
            refine ra.ga (x := 59) (nx := 89) (c := 13) (i := 49) rfl rfl ?_
            refine ra.s (pc' := 90) (st' := [.inl a1, .inr (some (13, 49))]) (fun _ => rfl) ?_
            refine ra.ld (nx := 91) (v := (A 59 (y_ix a1))) 59 60 rfl rfl h8 rfl ?_
            refine ra.s (pc' := 95) (st' := [.inl (A 59 (y_ix a1))]) (fun _ => rfl) ?_
            subst hk
            exact ra.ret (r := some (.inl (A 59 (y_ix a1)))) (fun _ => rfl) ⟨rfl, rfl, rfl⟩
          · skip
            refine ra.s (pc' := 95) (st' := [.inl (-1 : Int32)]) (fun _ => rfl) ?_
            subst hk
            exact ra.ret (r := some (.inl (-1 : Int32))) (fun _ => rfl) ⟨rfl, rfl, rfl⟩
        · skip
          refine ra.bw (2 : Int32) rfl hk hg (fun h10 hg hk => ?_) (fun h10 hg hk => ?_)
          · skip
            refine ra.s (pc' := 97) (st' := [.inr (some (11, 0))]) (fun _ => rfl) ?_
            refine ra.ga (x := 56) (nx := 100) (c := 13) (i := 46) rfl rfl ?_
            refine ra.s (pc' := 101) (st' := [.inl a1, .inr (some (13, 46))]) (fun _ => rfl) ?_
            obtain ⟨h11, hg⟩ := hg
            refine ra.ld (nx := 102) (v := (A 56 (y_ix a1))) 56 60 rfl rfl h11 rfl ?_
            subst hk
            exact ra.ret (r := some (.inl (A 56 (y_ix a1)))) (fun _ => rfl) ⟨rfl, rfl, rfl⟩
          · skip
            refine ra.bw (3 : Int32) rfl hk hg (fun h12 hg hk => ?_) (fun h12 hg hk => ?_)
            · skip
              refine ra.s (pc' := 104) (st' := [.inr (some (11, 0))]) (fun _ => rfl) ?_
              refine ra.ga (x := 57) (nx := 107) (c := 13) (i := 47) rfl rfl ?_
              refine ra.s (pc' := 108) (st' := [.inl a1, .inr (some (13, 47))]) (fun _ => rfl) ?_
              obtain ⟨h13, hg⟩ := hg
              refine ra.ld (nx := 109) (v := (A 57 (y_ix a1))) 57 60 rfl rfl h13 rfl ?_
              subst hk
              exact ra.ret (r := some (.inl (A 57 (y_ix a1)))) (fun _ => rfl) ⟨rfl, rfl, rfl⟩
            · skip
              refine ra.s (pc' := 111) (st' := [.inl (-1 : Int32)]) (fun _ => rfl) ?_
              subst hk
              exact ra.ret (r := some (.inl (-1 : Int32))) (fun _ => rfl) ⟨rfl, rfl, rfl⟩
    · skip
      refine ra.s (pc' := 13) (st' := [.inl (-1 : Int32)]) (fun _ => rfl) ?_
      subst hk
      exact ra.ret (r := some (.inl (-1 : Int32))) (fun _ => rfl) ⟨rfl, rfl, rfl⟩
/-- call -/
def rf_call (a1 a2 : Int32) (A : y_A) : Int32 := (if a1 < (0 : Int32) then (-1 : Int32) else (if a1 < (A 61 0) then (if a2 = (0 : Int32) then (A 62 (y_ix a1)) else (if a2 = (1 : Int32) then (A 63 (y_ix a1)) else (if a2 = (2 : Int32) then (A 64 (y_ix a1)) else (if a2 = (3 : Int32) then (A 65 (y_ix a1)) else (if a2 = (4 : Int32) then (A 66 (y_ix a1)) else (if a2 = (5 : Int32) then (A 67 (y_ix a1)) else (if a2 = (6 : Int32) then (A 68 (y_ix a1)) else (if a2 = (7 : Int32) then (A 69 (y_ix a1)) else (if a2 = (8 : Int32) then (if (A 69 (y_ix a1)) = (1 : Int32) then (A 70 (y_ix a1)) else (-1 : Int32)) else (if a2 = (9 : Int32) then (if (A 69 (y_ix a1)) = (2 : Int32) then (A 70 (y_ix a1)) else (-1 : Int32)) else (if a2 = (10 : Int32) then (if (A 69 (y_ix a1)) = (0 : Int32) then (if (A 75 (y_ix a1)) = (0 : Int32) then (if (A 76 (y_ix a1)) = (0 : Int32) then (if (A 74 (y_ix a1)) < (0 : Int32) then (0 : Int32) else (3 : Int32)) else (2 : Int32)) else (1 : Int32)) else (0 : Int32)) else (-1 : Int32)))))))))))) else (-1 : Int32)))
def rg_call (a1 a2 : Int32) (A : y_A) : Prop := ((a1 < (0 : Int32) → True) ∧ (¬ a1 < (0 : Int32) → ((a1 < (A 61 0) → ((a2 = (0 : Int32) → (y_in a1 4400) ∧ True) ∧ (¬ a2 = (0 : Int32) → ((a2 = (1 : Int32) → (y_in a1 4400) ∧ True) ∧ (¬ a2 = (1 : Int32) → ((a2 = (2 : Int32) → (y_in a1 4400) ∧ True) ∧ (¬ a2 = (2 : Int32) → ((a2 = (3 : Int32) → (y_in a1 4400) ∧ True) ∧ (¬ a2 = (3 : Int32) → ((a2 = (4 : Int32) → (y_in a1 4400) ∧ True) ∧ (¬ a2 = (4 : Int32) → ((a2 = (5 : Int32) → (y_in a1 4400) ∧ True) ∧ (¬ a2 = (5 : Int32) → ((a2 = (6 : Int32) → (y_in a1 4400) ∧ True) ∧ (¬ a2 = (6 : Int32) → ((a2 = (7 : Int32) → (y_in a1 4400) ∧ True) ∧ (¬ a2 = (7 : Int32) → ((a2 = (8 : Int32) → (y_in a1 4400) ∧ (((A 69 (y_ix a1)) = (1 : Int32) → True) ∧ (¬ (A 69 (y_ix a1)) = (1 : Int32) → True))) ∧ (¬ a2 = (8 : Int32) → ((a2 = (9 : Int32) → (y_in a1 4400) ∧ (((A 69 (y_ix a1)) = (2 : Int32) → True) ∧ (¬ (A 69 (y_ix a1)) = (2 : Int32) → True))) ∧ (¬ a2 = (9 : Int32) → ((a2 = (10 : Int32) → (y_in a1 4400) ∧ (((A 69 (y_ix a1)) = (0 : Int32) → (((A 75 (y_ix a1)) = (0 : Int32) → (((A 76 (y_ix a1)) = (0 : Int32) → (((A 74 (y_ix a1)) < (0 : Int32) → True) ∧ (¬ (A 74 (y_ix a1)) < (0 : Int32) → True))) ∧ (¬ (A 76 (y_ix a1)) = (0 : Int32) → True))) ∧ (¬ (A 75 (y_ix a1)) = (0 : Int32) → True))) ∧ (¬ (A 69 (y_ix a1)) = (0 : Int32) → True))) ∧ (¬ a2 = (10 : Int32) → True))))))))))))))))))))))) ∧ (¬ a1 < (A 61 0) → True))))
theorem rh_call {d : Nat} (hd : 0 ≤ d) {a1 a2 : Int32} {A : y_A} {js : List y_J} (hg : rg_call a1 a2 A) : rc d 172 [.inr (some (11, 0)), .inl a1, .inl a2] A js (y_P (rf_call a1 a2 A) A js) := by
  obtain ⟨F, hk⟩ : ∃ F, rf_call a1 a2 A = F := ⟨_, rfl⟩
  rw [hk]
  show ra _ _ _ [some (.inr (some (11, 0))), some (.inl a1), some (.inl a2)] _ _ _ _
  unfold rg_call at hg
  unfold rf_call at hk
  refine ra.s (pc' := 1) (st' := [.inl a1]) (fun _ => rfl) ?_
  refine ra.b (c := a1 < (0 : Int32)) (cd := .lt) (x := a1) (y := (0 : Int32)) 12 4 (st' := []) (fun _ => rfl) (y_clt _ _) hk hg (fun h1 hg hk => ?_) (fun h1 hg hk => ?_)
  · skip
    refine ra.s (pc' := 13) (st' := [.inl (-1 : Int32)]) (fun _ => rfl) ?_
    subst hk
    exact ra.ret (r := some (.inl (-1 : Int32))) (fun _ => rfl) ⟨rfl, rfl, rfl⟩
  · skip
    refine ra.s (pc' := 5) (st' := [.inl a1]) (fun _ => rfl) ?_
    refine ra.s (pc' := 6) (st' := [.inr (some (11, 0)), .inl a1]) (fun _ => rfl) ?_
    refine ra.gi (x := 61) (nx := 9) (v := (A 61 0)) rfl rfl rfl ?_
    refine ra.b (c := a1 < (A 61 0)) (cd := .lt) (x := a1) (y := (A 61 0)) 14 12 (st' := []) (fun _ => rfl) (y_clt _ _) hk hg (fun h2 hg hk => ?_) (fun h2 hg hk => ?_)
    · skip
      refine ra.s (pc' := 15) (st' := [.inl a2]) (fun _ => rfl) ?_
      refine ra.ts rfl rfl ?_
      refine ra.bw (0 : Int32) rfl hk hg (fun h3 hg hk => ?_) (fun h3 hg hk => ?_)
      · skip
        refine ra.s (pc' := 73) (st' := [.inr (some (11, 0))]) (fun _ => rfl) ?_
        refine ra.ga (x := 62) (nx := 76) (c := 13) (i := 50) rfl rfl ?_
        refine ra.s (pc' := 77) (st' := [.inl a1, .inr (some (13, 50))]) (fun _ => rfl) ?_
        obtain ⟨h4, hg⟩ := hg
        refine ra.ld (nx := 78) (v := (A 62 (y_ix a1))) 62 4400 rfl rfl h4 rfl ?_
        subst hk
        exact ra.ret (r := some (.inl (A 62 (y_ix a1)))) (fun _ => rfl) ⟨rfl, rfl, rfl⟩
      · skip
        refine ra.bw (1 : Int32) rfl hk hg (fun h5 hg hk => ?_) (fun h5 hg hk => ?_)
        · skip
          refine ra.s (pc' := 80) (st' := [.inr (some (11, 0))]) (fun _ => rfl) ?_
          refine ra.ga (x := 63) (nx := 83) (c := 13) (i := 51) rfl rfl ?_
          refine ra.s (pc' := 84) (st' := [.inl a1, .inr (some (13, 51))]) (fun _ => rfl) ?_
          obtain ⟨h6, hg⟩ := hg
          refine ra.ld (nx := 85) (v := (A 63 (y_ix a1))) 63 4400 rfl rfl h6 rfl ?_
          subst hk
          exact ra.ret (r := some (.inl (A 63 (y_ix a1)))) (fun _ => rfl) ⟨rfl, rfl, rfl⟩
        · skip
          refine ra.bw (2 : Int32) rfl hk hg (fun h7 hg hk => ?_) (fun h7 hg hk => ?_)
          · skip
            refine ra.s (pc' := 87) (st' := [.inr (some (11, 0))]) (fun _ => rfl) ?_
            refine ra.ga (x := 64) (nx := 90) (c := 13) (i := 52) rfl rfl ?_
            refine ra.s (pc' := 91) (st' := [.inl a1, .inr (some (13, 52))]) (fun _ => rfl) ?_
            obtain ⟨h8, hg⟩ := hg
            refine ra.ld (nx := 92) (v := (A 64 (y_ix a1))) 64 4400 rfl rfl h8 rfl ?_
            subst hk
            exact ra.ret (r := some (.inl (A 64 (y_ix a1)))) (fun _ => rfl) ⟨rfl, rfl, rfl⟩
          · skip
            refine ra.bw (3 : Int32) rfl hk hg (fun h9 hg hk => ?_) (fun h9 hg hk => ?_)
            · skip
              refine ra.s (pc' := 94) (st' := [.inr (some (11, 0))]) (fun _ => rfl) ?_
              refine ra.ga (x := 65) (nx := 97) (c := 13) (i := 53) rfl rfl ?_
              refine ra.s (pc' := 98) (st' := [.inl a1, .inr (some (13, 53))]) (fun _ => rfl) ?_
              obtain ⟨h10, hg⟩ := hg
              refine ra.ld (nx := 99) (v := (A 65 (y_ix a1))) 65 4400 rfl rfl h10 rfl ?_
              subst hk
              exact ra.ret (r := some (.inl (A 65 (y_ix a1)))) (fun _ => rfl) ⟨rfl, rfl, rfl⟩
            · skip
              refine ra.bw (4 : Int32) rfl hk hg (fun h11 hg hk => ?_) (fun h11 hg hk => ?_)
              · skip
                refine ra.s (pc' := 101) (st' := [.inr (some (11, 0))]) (fun _ => rfl) ?_
                refine ra.ga (x := 66) (nx := 104) (c := 13) (i := 54) rfl rfl ?_
                refine ra.s (pc' := 105) (st' := [.inl a1, .inr (some (13, 54))]) (fun _ => rfl) ?_
                obtain ⟨h12, hg⟩ := hg
                refine ra.ld (nx := 106) (v := (A 66 (y_ix a1))) 66 4400 rfl rfl h12 rfl ?_
                subst hk
                exact ra.ret (r := some (.inl (A 66 (y_ix a1)))) (fun _ => rfl) ⟨rfl, rfl, rfl⟩
              · skip
                refine ra.bw (5 : Int32) rfl hk hg (fun h13 hg hk => ?_) (fun h13 hg hk => ?_)
                · skip
                  refine ra.s (pc' := 108) (st' := [.inr (some (11, 0))]) (fun _ => rfl) ?_
                  refine ra.ga (x := 67) (nx := 111) (c := 13) (i := 55) rfl rfl ?_
                  refine ra.s (pc' := 112) (st' := [.inl a1, .inr (some (13, 55))]) (fun _ => rfl) ?_
                  obtain ⟨h14, hg⟩ := hg
                  refine ra.ld (nx := 113) (v := (A 67 (y_ix a1))) 67 4400 rfl rfl h14 rfl ?_
                  subst hk
                  exact ra.ret (r := some (.inl (A 67 (y_ix a1)))) (fun _ => rfl) ⟨rfl, rfl, rfl⟩
                · skip
                  refine ra.bw (6 : Int32) rfl hk hg (fun h15 hg hk => ?_) (fun h15 hg hk => ?_)
                  · skip
                    refine ra.s (pc' := 115) (st' := [.inr (some (11, 0))]) (fun _ => rfl) ?_
                    refine ra.ga (x := 68) (nx := 118) (c := 13) (i := 56) rfl rfl ?_
                    refine ra.s (pc' := 119) (st' := [.inl a1, .inr (some (13, 56))]) (fun _ => rfl) ?_
                    obtain ⟨h16, hg⟩ := hg
                    refine ra.ld (nx := 120) (v := (A 68 (y_ix a1))) 68 4400 rfl rfl h16 rfl ?_
                    subst hk
                    exact ra.ret (r := some (.inl (A 68 (y_ix a1)))) (fun _ => rfl) ⟨rfl, rfl, rfl⟩
                  · skip
                    refine ra.bw (7 : Int32) rfl hk hg (fun h17 hg hk => ?_) (fun h17 hg hk => ?_)
                    · skip
                      refine ra.s (pc' := 122) (st' := [.inr (some (11, 0))]) (fun _ => rfl) ?_
                      refine ra.ga (x := 69) (nx := 125) (c := 13) (i := 57) rfl rfl ?_
                      refine ra.s (pc' := 126) (st' := [.inl a1, .inr (some (13, 57))]) (fun _ => rfl) ?_
                      obtain ⟨h18, hg⟩ := hg
                      refine ra.ld (nx := 127) (v := (A 69 (y_ix a1))) 69 4400 rfl rfl h18 rfl ?_
                      subst hk
                      exact ra.ret (r := some (.inl (A 69 (y_ix a1)))) (fun _ => rfl) ⟨rfl, rfl, rfl⟩
                    · skip
                      refine ra.bw (8 : Int32) rfl hk hg (fun h19 hg hk => ?_) (fun h19 hg hk => ?_)
                      · skip
                        refine ra.s (pc' := 129) (st' := [.inr (some (11, 0))]) (fun _ => rfl) ?_
                        refine ra.ga (x := 69) (nx := 132) (c := 13) (i := 57) rfl rfl ?_
                        refine ra.s (pc' := 133) (st' := [.inl a1, .inr (some (13, 57))]) (fun _ => rfl) ?_
                        obtain ⟨h20, hg⟩ := hg
                        refine ra.ld (nx := 134) (v := (A 69 (y_ix a1))) 69 4400 rfl rfl h20 rfl ?_
                        refine ra.s (pc' := 135) (st' := [.inl (1 : Int32), .inl (A 69 (y_ix a1))]) (fun _ => rfl) ?_
                        refine ra.bn (c := (A 69 (y_ix a1)) = (1 : Int32)) (cd := .ne) (x := (A 69 (y_ix a1))) (y := (1 : Int32)) 147 138 (st' := []) (fun _ => rfl) (y_cne _ _) hk hg (fun h21 hg hk => ?_) (fun h21 hg hk => ?_)
                        · skip
                          refine ra.s (pc' := 139) (st' := [.inr (some (11, 0))]) (fun _ => rfl) ?_
                          refine ra.ga (x := 70) (nx := 142) (c := 13) (i := 58) rfl rfl ?_
                          refine ra.s (pc' := 143) (st' := [.inl a1, .inr (some (13, 58))]) (fun _ => rfl) ?_
                          refine ra.ld (nx := 144) (v := (A 70 (y_ix a1))) 70 4400 rfl rfl h20 rfl ?_
                          refine ra.s (pc' := 148) (st' := [.inl (A 70 (y_ix a1))]) (fun _ => rfl) ?_
                          subst hk
                          exact ra.ret (r := some (.inl (A 70 (y_ix a1)))) (fun _ => rfl) ⟨rfl, rfl, rfl⟩
                        · skip
                          refine ra.s (pc' := 148) (st' := [.inl (-1 : Int32)]) (fun _ => rfl) ?_
                          subst hk
                          exact ra.ret (r := some (.inl (-1 : Int32))) (fun _ => rfl) ⟨rfl, rfl, rfl⟩
                      · skip
                        refine ra.bw (9 : Int32) rfl hk hg (fun h22 hg hk => ?_) (fun h22 hg hk => ?_)
                        · skip
                          refine ra.s (pc' := 150) (st' := [.inr (some (11, 0))]) (fun _ => rfl) ?_
                          refine ra.ga (x := 69) (nx := 153) (c := 13) (i := 57) rfl rfl ?_
                          refine ra.s (pc' := 154) (st' := [.inl a1, .inr (some (13, 57))]) (fun _ => rfl) ?_
                          obtain ⟨h23, hg⟩ := hg
                          refine ra.ld (nx := 155) (v := (A 69 (y_ix a1))) 69 4400 rfl rfl h23 rfl ?_
                          refine ra.s (pc' := 156) (st' := [.inl (2 : Int32), .inl (A 69 (y_ix a1))]) (fun _ => rfl) ?_
                          refine ra.bn (c := (A 69 (y_ix a1)) = (2 : Int32)) (cd := .ne) (x := (A 69 (y_ix a1))) (y := (2 : Int32)) 168 159 (st' := []) (fun _ => rfl) (y_cne _ _) hk hg (fun h24 hg hk => ?_) (fun h24 hg hk => ?_)
                          · skip
                            refine ra.s (pc' := 160) (st' := [.inr (some (11, 0))]) (fun _ => rfl) ?_
                            refine ra.ga (x := 70) (nx := 163) (c := 13) (i := 58) rfl rfl ?_
                            refine ra.s (pc' := 164) (st' := [.inl a1, .inr (some (13, 58))]) (fun _ => rfl) ?_
                            refine ra.ld (nx := 165) (v := (A 70 (y_ix a1))) 70 4400 rfl rfl h23 rfl ?_
                            refine ra.s (pc' := 169) (st' := [.inl (A 70 (y_ix a1))]) (fun _ => rfl) ?_
                            subst hk
                            exact ra.ret (r := some (.inl (A 70 (y_ix a1)))) (fun _ => rfl) ⟨rfl, rfl, rfl⟩
                          · skip
                            refine ra.s (pc' := 169) (st' := [.inl (-1 : Int32)]) (fun _ => rfl) ?_
                            subst hk
                            exact ra.ret (r := some (.inl (-1 : Int32))) (fun _ => rfl) ⟨rfl, rfl, rfl⟩
                        · skip
                          refine ra.bw (10 : Int32) rfl hk hg (fun h25 hg hk => ?_) (fun h25 hg hk => ?_)
                          · skip
                            refine ra.s (pc' := 171) (st' := [.inr (some (11, 0))]) (fun _ => rfl) ?_
                            refine ra.ga (x := 69) (nx := 174) (c := 13) (i := 57) rfl rfl ?_
                            refine ra.s (pc' := 175) (st' := [.inl a1, .inr (some (13, 57))]) (fun _ => rfl) ?_
                            obtain ⟨h26, hg⟩ := hg
                            refine ra.ld (nx := 176) (v := (A 69 (y_ix a1))) 69 4400 rfl rfl h26 rfl ?_
                            refine ra.b (c := (A 69 (y_ix a1)) = (0 : Int32)) (cd := .eq) (x := (A 69 (y_ix a1))) (y := (0 : Int32)) 183 179 (st' := []) (fun _ => rfl) (y_ceq _ _) hk hg (fun h27 hg hk => ?_) (fun h27 hg hk => ?_)
                            · skip
                              refine ra.s (pc' := 184) (st' := [.inr (some (11, 0))]) (fun _ => rfl) ?_
                              refine ra.ga (x := 75) (nx := 187) (c := 14) (i := 2) rfl rfl ?_
                              refine ra.s (pc' := 188) (st' := [.inl a1, .inr (some (14, 2))]) (fun _ => rfl) ?_
                              refine ra.lz (nx := 189) (v := (A 75 (y_ix a1))) 75 4400 rfl rfl h26 rfl ?_
                              refine ra.b (c := (A 75 (y_ix a1)) = (0 : Int32)) (cd := .eq) (x := (A 75 (y_ix a1))) (y := (0 : Int32)) 196 192 (st' := []) (fun _ => rfl) (y_ceq _ _) hk hg (fun h28 hg hk => ?_) (fun h28 hg hk => ?_)
                              · skip
                                refine ra.s (pc' := 197) (st' := [.inr (some (11, 0))]) (fun _ => rfl) ?_
                                refine ra.ga (x := 76) (nx := 200) (c := 14) (i := 3) rfl rfl ?_
                                refine ra.s (pc' := 201) (st' := [.inl a1, .inr (some (14, 3))]) (fun _ => rfl) ?_
                                refine ra.lz (nx := 202) (v := (A 76 (y_ix a1))) 76 4400 rfl rfl h26 rfl ?_
                                refine ra.b (c := (A 76 (y_ix a1)) = (0 : Int32)) (cd := .eq) (x := (A 76 (y_ix a1))) (y := (0 : Int32)) 209 205 (st' := []) (fun _ => rfl) (y_ceq _ _) hk hg (fun h29 hg hk => ?_) (fun h29 hg hk => ?_)
                                · skip
                                  refine ra.s (pc' := 210) (st' := [.inr (some (11, 0))]) (fun _ => rfl) ?_
                                  refine ra.ga (x := 74) (nx := 213) (c := 13) (i := 61) rfl rfl ?_
                                  refine ra.s (pc' := 214) (st' := [.inl a1, .inr (some (13, 61))]) (fun _ => rfl) ?_
                                  refine ra.ld (nx := 215) (v := (A 74 (y_ix a1))) 74 4400 rfl rfl h26 rfl ?_
                                  refine ra.b (c := (A 74 (y_ix a1)) < (0 : Int32)) (cd := .lt) (x := (A 74 (y_ix a1))) (y := (0 : Int32)) 222 218 (st' := []) (fun _ => rfl) (y_clt _ _) hk hg (fun h30 hg hk => ?_) (fun h30 hg hk => ?_)
                                  · skip
                                    refine ra.s (pc' := 223) (st' := [.inl (0 : Int32)]) (fun _ => rfl) ?_
                                    subst hk
                                    exact ra.ret (r := some (.inl (0 : Int32))) (fun _ => rfl) ⟨rfl, rfl, rfl⟩
                                  · skip
                                    refine ra.s (pc' := 219) (st' := [.inl (3 : Int32)]) (fun _ => rfl) ?_
                                    refine ra.s (pc' := 223) (st' := [.inl (3 : Int32)]) (fun _ => rfl) ?_
                                    subst hk
                                    exact ra.ret (r := some (.inl (3 : Int32))) (fun _ => rfl) ⟨rfl, rfl, rfl⟩
                                · skip
                                  refine ra.s (pc' := 206) (st' := [.inl (2 : Int32)]) (fun _ => rfl) ?_
                                  refine ra.s (pc' := 223) (st' := [.inl (2 : Int32)]) (fun _ => rfl) ?_
                                  subst hk
                                  exact ra.ret (r := some (.inl (2 : Int32))) (fun _ => rfl) ⟨rfl, rfl, rfl⟩
                              · skip
                                refine ra.s (pc' := 193) (st' := [.inl (1 : Int32)]) (fun _ => rfl) ?_
                                refine ra.s (pc' := 223) (st' := [.inl (1 : Int32)]) (fun _ => rfl) ?_
                                subst hk
                                exact ra.ret (r := some (.inl (1 : Int32))) (fun _ => rfl) ⟨rfl, rfl, rfl⟩
                            · skip
                              refine ra.s (pc' := 180) (st' := [.inl (0 : Int32)]) (fun _ => rfl) ?_
                              refine ra.s (pc' := 223) (st' := [.inl (0 : Int32)]) (fun _ => rfl) ?_
                              subst hk
                              exact ra.ret (r := some (.inl (0 : Int32))) (fun _ => rfl) ⟨rfl, rfl, rfl⟩
                          · skip
                            refine ra.s (pc' := 225) (st' := [.inl (-1 : Int32)]) (fun _ => rfl) ?_
                            subst hk
                            exact ra.ret (r := some (.inl (-1 : Int32))) (fun _ => rfl) ⟨rfl, rfl, rfl⟩
    · skip
      refine ra.s (pc' := 13) (st' := [.inl (-1 : Int32)]) (fun _ => rfl) ?_
      subst hk
      exact ra.ret (r := some (.inl (-1 : Int32))) (fun _ => rfl) ⟨rfl, rfl, rfl⟩
/-- fuse -/
def rf_fuse (a1 a2 : Int32) (A : y_A) : Int32 := (if (rf_isGuard a1 (0 : Int32) A) = (0 : Int32) then (-1 : Int32) else (if a2 = (0 : Int32) then (A 36 (y_ix a1)) else (if a2 = (1 : Int32) then (A 37 (y_ix a1)) else (if a2 = (2 : Int32) then (A 38 (y_ix a1)) else (-1 : Int32)))))
def rg_fuse (a1 a2 : Int32) (A : y_A) : Prop := (rg_isGuard a1 (0 : Int32) A) ∧ (((rf_isGuard a1 (0 : Int32) A) = (0 : Int32) → True) ∧ (¬ (rf_isGuard a1 (0 : Int32) A) = (0 : Int32) → ((a2 = (0 : Int32) → (y_in a1 24) ∧ True) ∧ (¬ a2 = (0 : Int32) → ((a2 = (1 : Int32) → (y_in a1 24) ∧ True) ∧ (¬ a2 = (1 : Int32) → ((a2 = (2 : Int32) → (y_in a1 24) ∧ True) ∧ (¬ a2 = (2 : Int32) → True))))))))
theorem rh_fuse {d : Nat} (hd : 1 ≤ d) {a1 a2 : Int32} {A : y_A} {js : List y_J} (hg : rg_fuse a1 a2 A) : rc d 173 [.inr (some (11, 0)), .inl a1, .inl a2] A js (y_P (rf_fuse a1 a2 A) A js) := by
  obtain ⟨d, rfl⟩ := Nat.exists_eq_add_of_le' hd
  obtain ⟨F, hk⟩ : ∃ F, rf_fuse a1 a2 A = F := ⟨_, rfl⟩
  rw [hk]
  show ra _ _ _ [some (.inr (some (11, 0))), some (.inl a1), some (.inl a2)] _ _ _ _
  unfold rg_fuse at hg
  unfold rf_fuse at hk
  refine ra.s (pc' := 1) (st' := [.inr (some (11, 0))]) (fun _ => rfl) ?_
  refine ra.s (pc' := 2) (st' := [.inl a1, .inr (some (11, 0))]) (fun _ => rfl) ?_
  refine ra.s (pc' := 3) (st' := [.inl (0 : Int32), .inl a1, .inr (some (11, 0))]) (fun _ => rfl) ?_
  obtain ⟨h1, hg⟩ := hg
  refine ra.cP (f := (rf_isGuard a1 (0 : Int32) A)) (m := 161) (as := [.inr (some (11, 0)), .inl a1, .inl (0 : Int32)]) (nx := 6) (L' := [some (.inr (some (11, 0))), some (.inl a1), some (.inl a2)]) (st' := []) (fun _ => rfl) (rh_isGuard (by omega) h1) ?_
  refine ra.bn (c := (rf_isGuard a1 (0 : Int32) A) = (0 : Int32)) (cd := .ne) (x := (rf_isGuard a1 (0 : Int32) A)) (y := (0 : Int32)) 11 9 (st' := []) (fun _ => rfl) (y_cne _ _) hk hg (fun h2 hg hk => ?_) (fun h2 hg hk => ?_)
  · skip
    refine ra.s (pc' := 10) (st' := [.inl (-1 : Int32)]) (fun _ => rfl) ?_
    subst hk
    exact ra.ret (r := some (.inl (-1 : Int32))) (fun _ => rfl) ⟨rfl, rfl, rfl⟩
  · skip
    refine ra.s (pc' := 12) (st' := [.inl a2]) (fun _ => rfl) ?_
    refine ra.ts rfl rfl ?_
    refine ra.bw (0 : Int32) rfl hk hg (fun h3 hg hk => ?_) (fun h3 hg hk => ?_)
    · skip
      refine ra.s (pc' := 41) (st' := [.inr (some (11, 0))]) (fun _ => rfl) ?_
      refine ra.ga (x := 36) (nx := 44) (c := 13) (i := 29) rfl rfl ?_
      refine ra.s (pc' := 45) (st' := [.inl a1, .inr (some (13, 29))]) (fun _ => rfl) ?_
      obtain ⟨h4, hg⟩ := hg
      refine ra.ld (nx := 46) (v := (A 36 (y_ix a1))) 36 24 rfl rfl h4 rfl ?_
      subst hk
      exact ra.ret (r := some (.inl (A 36 (y_ix a1)))) (fun _ => rfl) ⟨rfl, rfl, rfl⟩
    · skip
      refine ra.bw (1 : Int32) rfl hk hg (fun h5 hg hk => ?_) (fun h5 hg hk => ?_)
      · skip
        refine ra.s (pc' := 48) (st' := [.inr (some (11, 0))]) (fun _ => rfl) ?_
        refine ra.ga (x := 37) (nx := 51) (c := 13) (i := 30) rfl rfl ?_
        refine ra.s (pc' := 52) (st' := [.inl a1, .inr (some (13, 30))]) (fun _ => rfl) ?_
        obtain ⟨h6, hg⟩ := hg
        refine ra.ld (nx := 53) (v := (A 37 (y_ix a1))) 37 24 rfl rfl h6 rfl ?_
        subst hk
        exact ra.ret (r := some (.inl (A 37 (y_ix a1)))) (fun _ => rfl) ⟨rfl, rfl, rfl⟩
      · skip
        refine ra.bw (2 : Int32) rfl hk hg (fun h7 hg hk => ?_) (fun h7 hg hk => ?_)
        · skip
          refine ra.s (pc' := 55) (st' := [.inr (some (11, 0))]) (fun _ => rfl) ?_
          refine ra.ga (x := 38) (nx := 58) (c := 13) (i := 31) rfl rfl ?_
          refine ra.s (pc' := 59) (st' := [.inl a1, .inr (some (13, 31))]) (fun _ => rfl) ?_
          obtain ⟨h8, hg⟩ := hg
          refine ra.ld (nx := 60) (v := (A 38 (y_ix a1))) 38 24 rfl rfl h8 rfl ?_
          subst hk
          exact ra.ret (r := some (.inl (A 38 (y_ix a1)))) (fun _ => rfl) ⟨rfl, rfl, rfl⟩
        · skip
          refine ra.s (pc' := 62) (st' := [.inl (-1 : Int32)]) (fun _ => rfl) ?_
          subst hk
          exact ra.ret (r := some (.inl (-1 : Int32))) (fun _ => rfl) ⟨rfl, rfl, rfl⟩
/-- bulkhead -/
def rf_bulkhead (a1 a2 : Int32) (A : y_A) : Int32 := (if (rf_isGuard a1 (1 : Int32) A) = (0 : Int32) then (-1 : Int32) else (if a2 = (0 : Int32) then (A 39 (y_ix a1)) else (if a2 = (1 : Int32) then (A 40 (y_ix a1)) else (if a2 = (2 : Int32) then (A 41 (y_ix a1)) else (-1 : Int32)))))
def rg_bulkhead (a1 a2 : Int32) (A : y_A) : Prop := (rg_isGuard a1 (1 : Int32) A) ∧ (((rf_isGuard a1 (1 : Int32) A) = (0 : Int32) → True) ∧ (¬ (rf_isGuard a1 (1 : Int32) A) = (0 : Int32) → ((a2 = (0 : Int32) → (y_in a1 24) ∧ True) ∧ (¬ a2 = (0 : Int32) → ((a2 = (1 : Int32) → (y_in a1 24) ∧ True) ∧ (¬ a2 = (1 : Int32) → ((a2 = (2 : Int32) → (y_in a1 24) ∧ True) ∧ (¬ a2 = (2 : Int32) → True))))))))
theorem rh_bulkhead {d : Nat} (hd : 1 ≤ d) {a1 a2 : Int32} {A : y_A} {js : List y_J} (hg : rg_bulkhead a1 a2 A) : rc d 174 [.inr (some (11, 0)), .inl a1, .inl a2] A js (y_P (rf_bulkhead a1 a2 A) A js) := by
  obtain ⟨d, rfl⟩ := Nat.exists_eq_add_of_le' hd
  obtain ⟨F, hk⟩ : ∃ F, rf_bulkhead a1 a2 A = F := ⟨_, rfl⟩
  rw [hk]
  show ra _ _ _ [some (.inr (some (11, 0))), some (.inl a1), some (.inl a2)] _ _ _ _
  unfold rg_bulkhead at hg
  unfold rf_bulkhead at hk
  refine ra.s (pc' := 1) (st' := [.inr (some (11, 0))]) (fun _ => rfl) ?_
  refine ra.s (pc' := 2) (st' := [.inl a1, .inr (some (11, 0))]) (fun _ => rfl) ?_
  refine ra.s (pc' := 3) (st' := [.inl (1 : Int32), .inl a1, .inr (some (11, 0))]) (fun _ => rfl) ?_
  obtain ⟨h1, hg⟩ := hg
  refine ra.cP (f := (rf_isGuard a1 (1 : Int32) A)) (m := 161) (as := [.inr (some (11, 0)), .inl a1, .inl (1 : Int32)]) (nx := 6) (L' := [some (.inr (some (11, 0))), some (.inl a1), some (.inl a2)]) (st' := []) (fun _ => rfl) (rh_isGuard (by omega) h1) ?_
  refine ra.bn (c := (rf_isGuard a1 (1 : Int32) A) = (0 : Int32)) (cd := .ne) (x := (rf_isGuard a1 (1 : Int32) A)) (y := (0 : Int32)) 11 9 (st' := []) (fun _ => rfl) (y_cne _ _) hk hg (fun h2 hg hk => ?_) (fun h2 hg hk => ?_)
  · skip
    refine ra.s (pc' := 10) (st' := [.inl (-1 : Int32)]) (fun _ => rfl) ?_
    subst hk
    exact ra.ret (r := some (.inl (-1 : Int32))) (fun _ => rfl) ⟨rfl, rfl, rfl⟩
  · skip
    refine ra.s (pc' := 12) (st' := [.inl a2]) (fun _ => rfl) ?_
    refine ra.ts rfl rfl ?_
    refine ra.bw (0 : Int32) rfl hk hg (fun h3 hg hk => ?_) (fun h3 hg hk => ?_)
    · skip
      refine ra.s (pc' := 41) (st' := [.inr (some (11, 0))]) (fun _ => rfl) ?_
      refine ra.ga (x := 39) (nx := 44) (c := 13) (i := 32) rfl rfl ?_
      refine ra.s (pc' := 45) (st' := [.inl a1, .inr (some (13, 32))]) (fun _ => rfl) ?_
      obtain ⟨h4, hg⟩ := hg
      refine ra.ld (nx := 46) (v := (A 39 (y_ix a1))) 39 24 rfl rfl h4 rfl ?_
      subst hk
      exact ra.ret (r := some (.inl (A 39 (y_ix a1)))) (fun _ => rfl) ⟨rfl, rfl, rfl⟩
    · skip
      refine ra.bw (1 : Int32) rfl hk hg (fun h5 hg hk => ?_) (fun h5 hg hk => ?_)
      · skip
        refine ra.s (pc' := 48) (st' := [.inr (some (11, 0))]) (fun _ => rfl) ?_
        refine ra.ga (x := 40) (nx := 51) (c := 13) (i := 33) rfl rfl ?_
        refine ra.s (pc' := 52) (st' := [.inl a1, .inr (some (13, 33))]) (fun _ => rfl) ?_
        obtain ⟨h6, hg⟩ := hg
        refine ra.ld (nx := 53) (v := (A 40 (y_ix a1))) 40 24 rfl rfl h6 rfl ?_
        subst hk
        exact ra.ret (r := some (.inl (A 40 (y_ix a1)))) (fun _ => rfl) ⟨rfl, rfl, rfl⟩
      · skip
        refine ra.bw (2 : Int32) rfl hk hg (fun h7 hg hk => ?_) (fun h7 hg hk => ?_)
        · skip
          refine ra.s (pc' := 55) (st' := [.inr (some (11, 0))]) (fun _ => rfl) ?_
          refine ra.ga (x := 41) (nx := 58) (c := 13) (i := 34) rfl rfl ?_
          refine ra.s (pc' := 59) (st' := [.inl a1, .inr (some (13, 34))]) (fun _ => rfl) ?_
          obtain ⟨h8, hg⟩ := hg
          refine ra.ld (nx := 60) (v := (A 41 (y_ix a1))) 41 24 rfl rfl h8 rfl ?_
          subst hk
          exact ra.ret (r := some (.inl (A 41 (y_ix a1)))) (fun _ => rfl) ⟨rfl, rfl, rfl⟩
        · skip
          refine ra.s (pc' := 62) (st' := [.inl (-1 : Int32)]) (fun _ => rfl) ?_
          subst hk
          exact ra.ret (r := some (.inl (-1 : Int32))) (fun _ => rfl) ⟨rfl, rfl, rfl⟩
/-- waiting -/
def rf_waiting (a1 a2 : Int32) (A : y_A) : Int32 := (if (rf_isGuard a1 (1 : Int32) A) = (0 : Int32) then (-1 : Int32) else (if a2 < (0 : Int32) then (-1 : Int32) else (if a2 < (A 40 (y_ix a1)) then (A 43 (y_ix (((10 : Int32) * a1) + a2))) else (-1 : Int32))))
def rg_waiting (a1 a2 : Int32) (A : y_A) : Prop := (rg_isGuard a1 (1 : Int32) A) ∧ (((rf_isGuard a1 (1 : Int32) A) = (0 : Int32) → True) ∧ (¬ (rf_isGuard a1 (1 : Int32) A) = (0 : Int32) → ((a2 < (0 : Int32) → True) ∧ (¬ a2 < (0 : Int32) → (y_in a1 24) ∧ ((a2 < (A 40 (y_ix a1)) → (y_in (((10 : Int32) * a1) + a2) 240) ∧ True) ∧ (¬ a2 < (A 40 (y_ix a1)) → True))))))
theorem rh_waiting {d : Nat} (hd : 1 ≤ d) {a1 a2 : Int32} {A : y_A} {js : List y_J} (hg : rg_waiting a1 a2 A) : rc d 175 [.inr (some (11, 0)), .inl a1, .inl a2] A js (y_P (rf_waiting a1 a2 A) A js) := by
  obtain ⟨d, rfl⟩ := Nat.exists_eq_add_of_le' hd
  obtain ⟨F, hk⟩ : ∃ F, rf_waiting a1 a2 A = F := ⟨_, rfl⟩
  rw [hk]
  show ra _ _ _ [some (.inr (some (11, 0))), some (.inl a1), some (.inl a2)] _ _ _ _
  unfold rg_waiting at hg
  unfold rf_waiting at hk
  refine ra.s (pc' := 1) (st' := [.inr (some (11, 0))]) (fun _ => rfl) ?_
  refine ra.s (pc' := 2) (st' := [.inl a1, .inr (some (11, 0))]) (fun _ => rfl) ?_
  refine ra.s (pc' := 3) (st' := [.inl (1 : Int32), .inl a1, .inr (some (11, 0))]) (fun _ => rfl) ?_
  obtain ⟨h1, hg⟩ := hg
  refine ra.cP (f := (rf_isGuard a1 (1 : Int32) A)) (m := 161) (as := [.inr (some (11, 0)), .inl a1, .inl (1 : Int32)]) (nx := 6) (L' := [some (.inr (some (11, 0))), some (.inl a1), some (.inl a2)]) (st' := []) (fun _ => rfl) (rh_isGuard (by omega) h1) ?_
  refine ra.b (c := (rf_isGuard a1 (1 : Int32) A) = (0 : Int32)) (cd := .eq) (x := (rf_isGuard a1 (1 : Int32) A)) (y := (0 : Int32)) 23 9 (st' := []) (fun _ => rfl) (y_ceq _ _) hk hg (fun h2 hg hk => ?_) (fun h2 hg hk => ?_)
  · skip
    refine ra.s (pc' := 24) (st' := [.inl (-1 : Int32)]) (fun _ => rfl) ?_
    refine ra.s (pc' := 38) (st' := [.inl (-1 : Int32)]) (fun _ => rfl) ?_
    subst hk
    exact ra.ret (r := some (.inl (-1 : Int32))) (fun _ => rfl) ⟨rfl, rfl, rfl⟩
  · skip
    refine ra.s (pc' := 10) (st' := [.inl a2]) (fun _ => rfl) ?_
    refine ra.b (c := a2 < (0 : Int32)) (cd := .lt) (x := a2) (y := (0 : Int32)) 23 13 (st' := []) (fun _ => rfl) (y_clt _ _) hk hg (fun h3 hg hk => ?_) (fun h3 hg hk => ?_)
    · skip
      refine ra.s (pc' := 24) (st' := [.inl (-1 : Int32)]) (fun _ => rfl) ?_
      refine ra.s (pc' := 38) (st' := [.inl (-1 : Int32)]) (fun _ => rfl) ?_
      subst hk
      exact ra.ret (r := some (.inl (-1 : Int32))) (fun _ => rfl) ⟨rfl, rfl, rfl⟩
    · skip
      refine ra.s (pc' := 14) (st' := [.inl a2]) (fun _ => rfl) ?_
      refine ra.s (pc' := 15) (st' := [.inr (some (11, 0)), .inl a2]) (fun _ => rfl) ?_
      refine ra.ga (x := 40) (nx := 18) (c := 13) (i := 33) rfl rfl ?_
      refine ra.s (pc' := 19) (st' := [.inl a1, .inr (some (13, 33)), .inl a2]) (fun _ => rfl) ?_
      obtain ⟨h4, hg⟩ := hg
      refine ra.ld (nx := 20) (v := (A 40 (y_ix a1))) 40 24 rfl rfl h4 rfl ?_
      refine ra.b (c := a2 < (A 40 (y_ix a1))) (cd := .lt) (x := a2) (y := (A 40 (y_ix a1))) 27 23 (st' := []) (fun _ => rfl) (y_clt _ _) hk hg (fun h5 hg hk => ?_) (fun h5 hg hk => ?_)
      · skip
        refine ra.s (pc' := 28) (st' := [.inr (some (11, 0))]) (fun _ => rfl) ?_
        refine ra.ga (x := 43) (nx := 31) (c := 13) (i := 36) rfl rfl ?_
        refine ra.s (pc' := 33) (st' := [.inl (10 : Int32), .inr (some (13, 36))]) (fun _ => rfl) ?_
        refine ra.s (pc' := 34) (st' := [.inl a1, .inl (10 : Int32), .inr (some (13, 36))]) (fun _ => rfl) ?_
        refine ra.s (pc' := 35) (st' := [.inl ((10 : Int32) * a1), .inr (some (13, 36))]) (fun _ => rfl) ?_
        refine ra.s (pc' := 36) (st' := [.inl a2, .inl ((10 : Int32) * a1), .inr (some (13, 36))]) (fun _ => rfl) ?_
        refine ra.s (pc' := 37) (st' := [.inl (((10 : Int32) * a1) + a2), .inr (some (13, 36))]) (fun _ => rfl) ?_
        obtain ⟨h6, hg⟩ := hg
        refine ra.ld (nx := 38) (v := (A 43 (y_ix (((10 : Int32) * a1) + a2)))) 43 240 rfl rfl h6 rfl ?_
        subst hk
        exact ra.ret (r := some (.inl (A 43 (y_ix (((10 : Int32) * a1) + a2))))) (fun _ => rfl) ⟨rfl, rfl, rfl⟩
      · skip
        refine ra.s (pc' := 24) (st' := [.inl (-1 : Int32)]) (fun _ => rfl) ?_
        refine ra.s (pc' := 38) (st' := [.inl (-1 : Int32)]) (fun _ => rfl) ?_
        subst hk
        exact ra.ret (r := some (.inl (-1 : Int32))) (fun _ => rfl) ⟨rfl, rfl, rfl⟩
/-- tokens -/
def rf_tokens (a1 : Int32) (A : y_A) : Int32 := (if (rf_isGuard a1 (2 : Int32) A) = (0 : Int32) then (-1 : Int32) else (A 42 (y_ix a1)))
def rg_tokens (a1 : Int32) (A : y_A) : Prop := (rg_isGuard a1 (2 : Int32) A) ∧ (((rf_isGuard a1 (2 : Int32) A) = (0 : Int32) → True) ∧ (¬ (rf_isGuard a1 (2 : Int32) A) = (0 : Int32) → (y_in a1 24) ∧ True))
theorem rh_tokens {d : Nat} (hd : 1 ≤ d) {a1 : Int32} {A : y_A} {js : List y_J} (hg : rg_tokens a1 A) : rc d 176 [.inr (some (11, 0)), .inl a1] A js (y_P (rf_tokens a1 A) A js) := by
  obtain ⟨d, rfl⟩ := Nat.exists_eq_add_of_le' hd
  obtain ⟨F, hk⟩ : ∃ F, rf_tokens a1 A = F := ⟨_, rfl⟩
  rw [hk]
  show ra _ _ _ [some (.inr (some (11, 0))), some (.inl a1)] _ _ _ _
  unfold rg_tokens at hg
  unfold rf_tokens at hk
  refine ra.s (pc' := 1) (st' := [.inr (some (11, 0))]) (fun _ => rfl) ?_
  refine ra.s (pc' := 2) (st' := [.inl a1, .inr (some (11, 0))]) (fun _ => rfl) ?_
  refine ra.s (pc' := 3) (st' := [.inl (2 : Int32), .inl a1, .inr (some (11, 0))]) (fun _ => rfl) ?_
  obtain ⟨h1, hg⟩ := hg
  refine ra.cP (f := (rf_isGuard a1 (2 : Int32) A)) (m := 161) (as := [.inr (some (11, 0)), .inl a1, .inl (2 : Int32)]) (nx := 6) (L' := [some (.inr (some (11, 0))), some (.inl a1)]) (st' := []) (fun _ => rfl) (rh_isGuard (by omega) h1) ?_
  refine ra.b (c := (rf_isGuard a1 (2 : Int32) A) = (0 : Int32)) (cd := .eq) (x := (rf_isGuard a1 (2 : Int32) A)) (y := (0 : Int32)) 18 9 (st' := []) (fun _ => rfl) (y_ceq _ _) hk hg (fun h2 hg hk => ?_) (fun h2 hg hk => ?_)
  · skip
    refine ra.s (pc' := 19) (st' := [.inl (-1 : Int32)]) (fun _ => rfl) ?_
    subst hk
    exact ra.ret (r := some (.inl (-1 : Int32))) (fun _ => rfl) ⟨rfl, rfl, rfl⟩
  · skip
    refine ra.s (pc' := 10) (st' := [.inr (some (11, 0))]) (fun _ => rfl) ?_
    refine ra.ga (x := 42) (nx := 13) (c := 13) (i := 35) rfl rfl ?_
    refine ra.s (pc' := 14) (st' := [.inl a1, .inr (some (13, 35))]) (fun _ => rfl) ?_
    obtain ⟨h3, hg⟩ := hg
    refine ra.ld (nx := 15) (v := (A 42 (y_ix a1))) 42 24 rfl rfl h3 rfl ?_
    refine ra.s (pc' := 19) (st' := [.inl (A 42 (y_ix a1))]) (fun _ => rfl) ?_
    subst hk
    exact ra.ret (r := some (.inl (A 42 (y_ix a1)))) (fun _ => rfl) ⟨rfl, rfl, rfl⟩
/-- kept -/
def rf_kept (a1 a2 a3 : Int32) (A : y_A) : Int32 := (if (rf_isGuard a1 (7 : Int32) A) = (0 : Int32) then (-1 : Int32) else (if (rf_isStation a2 A) = (0 : Int32) then (-1 : Int32) else (if a3 < (0 : Int32) then (-1 : Int32) else (if (1 : Int32) < a3 then (-1 : Int32) else (if (0 : Int32) ≤ (A 45 (y_ix (((8 : Int32) * a1) + a2))) then (if a3 = (0 : Int32) then (A 44 (y_ix (((8 : Int32) * a1) + a2))) else (A 45 (y_ix (((8 : Int32) * a1) + a2)))) else (-1 : Int32))))))
def rg_kept (a1 a2 a3 : Int32) (A : y_A) : Prop := (rg_isGuard a1 (7 : Int32) A) ∧ (((rf_isGuard a1 (7 : Int32) A) = (0 : Int32) → True) ∧ (¬ (rf_isGuard a1 (7 : Int32) A) = (0 : Int32) → (rg_isStation a2 A) ∧ (((rf_isStation a2 A) = (0 : Int32) → True) ∧ (¬ (rf_isStation a2 A) = (0 : Int32) → ((a3 < (0 : Int32) → True) ∧ (¬ a3 < (0 : Int32) → (((1 : Int32) < a3 → True) ∧ (¬ (1 : Int32) < a3 → (y_in (((8 : Int32) * a1) + a2) 192) ∧ (((0 : Int32) ≤ (A 45 (y_ix (((8 : Int32) * a1) + a2))) → ((a3 = (0 : Int32) → True) ∧ (¬ a3 = (0 : Int32) → True))) ∧ (¬ (0 : Int32) ≤ (A 45 (y_ix (((8 : Int32) * a1) + a2))) → True))))))))))
theorem rh_kept {d : Nat} (hd : 1 ≤ d) {a1 a2 a3 : Int32} {A : y_A} {js : List y_J} (hg : rg_kept a1 a2 a3 A) : rc d 177 [.inr (some (11, 0)), .inl a1, .inl a2, .inl a3] A js (y_P (rf_kept a1 a2 a3 A) A js) := by
  obtain ⟨d, rfl⟩ := Nat.exists_eq_add_of_le' hd
  obtain ⟨F, hk⟩ : ∃ F, rf_kept a1 a2 a3 A = F := ⟨_, rfl⟩
  rw [hk]
  show ra _ _ _ [some (.inr (some (11, 0))), some (.inl a1), some (.inl a2), some (.inl a3)] _ _ _ _
  unfold rg_kept at hg
  unfold rf_kept at hk
  refine ra.s (pc' := 1) (st' := [.inr (some (11, 0))]) (fun _ => rfl) ?_
  refine ra.s (pc' := 2) (st' := [.inl a1, .inr (some (11, 0))]) (fun _ => rfl) ?_
  refine ra.s (pc' := 4) (st' := [.inl (7 : Int32), .inl a1, .inr (some (11, 0))]) (fun _ => rfl) ?_
  obtain ⟨h1, hg⟩ := hg
  refine ra.cP (f := (rf_isGuard a1 (7 : Int32) A)) (m := 161) (as := [.inr (some (11, 0)), .inl a1, .inl (7 : Int32)]) (nx := 7) (L' := [some (.inr (some (11, 0))), some (.inl a1), some (.inl a2), some (.inl a3)]) (st' := []) (fun _ => rfl) (rh_isGuard (by omega) h1) ?_
  refine ra.b (c := (rf_isGuard a1 (7 : Int32) A) = (0 : Int32)) (cd := .eq) (x := (rf_isGuard a1 (7 : Int32) A)) (y := (0 : Int32)) 41 10 (st' := []) (fun _ => rfl) (y_ceq _ _) hk hg (fun h2 hg hk => ?_) (fun h2 hg hk => ?_)
  · skip
    refine ra.s (pc' := 42) (st' := [.inl (-1 : Int32)]) (fun _ => rfl) ?_
    subst hk
    exact ra.ret (r := some (.inl (-1 : Int32))) (fun _ => rfl) ⟨rfl, rfl, rfl⟩
  · skip
    refine ra.s (pc' := 11) (st' := [.inr (some (11, 0))]) (fun _ => rfl) ?_
    refine ra.s (pc' := 12) (st' := [.inl a2, .inr (some (11, 0))]) (fun _ => rfl) ?_
    obtain ⟨h3, hg⟩ := hg
    refine ra.cP (f := (rf_isStation a2 A)) (m := 115) (as := [.inr (some (11, 0)), .inl a2]) (nx := 15) (L' := [some (.inr (some (11, 0))), some (.inl a1), some (.inl a2), some (.inl a3)]) (st' := []) (fun _ => rfl) (rh_isStation (by omega) h3) ?_
    refine ra.b (c := (rf_isStation a2 A) = (0 : Int32)) (cd := .eq) (x := (rf_isStation a2 A)) (y := (0 : Int32)) 41 18 (st' := []) (fun _ => rfl) (y_ceq _ _) hk hg (fun h4 hg hk => ?_) (fun h4 hg hk => ?_)
    · skip
      refine ra.s (pc' := 42) (st' := [.inl (-1 : Int32)]) (fun _ => rfl) ?_
      subst hk
      exact ra.ret (r := some (.inl (-1 : Int32))) (fun _ => rfl) ⟨rfl, rfl, rfl⟩
    · skip
      refine ra.s (pc' := 19) (st' := [.inl a3]) (fun _ => rfl) ?_
      refine ra.b (c := a3 < (0 : Int32)) (cd := .lt) (x := a3) (y := (0 : Int32)) 41 22 (st' := []) (fun _ => rfl) (y_clt _ _) hk hg (fun h5 hg hk => ?_) (fun h5 hg hk => ?_)
      · skip
        refine ra.s (pc' := 42) (st' := [.inl (-1 : Int32)]) (fun _ => rfl) ?_
        subst hk
        exact ra.ret (r := some (.inl (-1 : Int32))) (fun _ => rfl) ⟨rfl, rfl, rfl⟩
      · skip
        refine ra.s (pc' := 23) (st' := [.inl a3]) (fun _ => rfl) ?_
        refine ra.s (pc' := 24) (st' := [.inl (1 : Int32), .inl a3]) (fun _ => rfl) ?_
        refine ra.b (c := (1 : Int32) < a3) (cd := .gt) (x := a3) (y := (1 : Int32)) 41 27 (st' := []) (fun _ => rfl) (y_cgt _ _) hk hg (fun h6 hg hk => ?_) (fun h6 hg hk => ?_)
        · skip
          refine ra.s (pc' := 42) (st' := [.inl (-1 : Int32)]) (fun _ => rfl) ?_
          subst hk
          exact ra.ret (r := some (.inl (-1 : Int32))) (fun _ => rfl) ⟨rfl, rfl, rfl⟩
        · skip
          refine ra.s (pc' := 28) (st' := [.inr (some (11, 0))]) (fun _ => rfl) ?_
          refine ra.ga (x := 45) (nx := 31) (c := 13) (i := 38) rfl rfl ?_
          refine ra.s (pc' := 33) (st' := [.inl (8 : Int32), .inr (some (13, 38))]) (fun _ => rfl) ?_
          refine ra.s (pc' := 34) (st' := [.inl a1, .inl (8 : Int32), .inr (some (13, 38))]) (fun _ => rfl) ?_
          refine ra.s (pc' := 35) (st' := [.inl ((8 : Int32) * a1), .inr (some (13, 38))]) (fun _ => rfl) ?_
          refine ra.s (pc' := 36) (st' := [.inl a2, .inl ((8 : Int32) * a1), .inr (some (13, 38))]) (fun _ => rfl) ?_
          refine ra.s (pc' := 37) (st' := [.inl (((8 : Int32) * a1) + a2), .inr (some (13, 38))]) (fun _ => rfl) ?_
          obtain ⟨h7, hg⟩ := hg
          refine ra.ld (nx := 38) (v := (A 45 (y_ix (((8 : Int32) * a1) + a2)))) 45 192 rfl rfl h7 rfl ?_
          refine ra.b (c := (0 : Int32) ≤ (A 45 (y_ix (((8 : Int32) * a1) + a2)))) (cd := .ge) (x := (A 45 (y_ix (((8 : Int32) * a1) + a2)))) (y := (0 : Int32)) 43 41 (st' := []) (fun _ => rfl) (y_cge _ _) hk hg (fun h8 hg hk => ?_) (fun h8 hg hk => ?_)
          · skip
            refine ra.s (pc' := 44) (st' := [.inl a3]) (fun _ => rfl) ?_
            refine ra.bn (c := a3 = (0 : Int32)) (cd := .ne) (x := a3) (y := (0 : Int32)) 61 47 (st' := []) (fun _ => rfl) (y_cne _ _) hk hg (fun h9 hg hk => ?_) (fun h9 hg hk => ?_)
            · skip
              refine ra.s (pc' := 48) (st' := [.inr (some (11, 0))]) (fun _ => rfl) ?_
              refine ra.ga (x := 44) (nx := 51) (c := 13) (i := 37) rfl rfl ?_
              refine ra.s (pc' := 53) (st' := [.inl (8 : Int32), .inr (some (13, 37))]) (fun _ => rfl) ?_
              refine ra.s (pc' := 54) (st' := [.inl a1, .inl (8 : Int32), .inr (some (13, 37))]) (fun _ => rfl) ?_
              refine ra.s (pc' := 55) (st' := [.inl ((8 : Int32) * a1), .inr (some (13, 37))]) (fun _ => rfl) ?_
              refine ra.s (pc' := 56) (st' := [.inl a2, .inl ((8 : Int32) * a1), .inr (some (13, 37))]) (fun _ => rfl) ?_
              refine ra.s (pc' := 57) (st' := [.inl (((8 : Int32) * a1) + a2), .inr (some (13, 37))]) (fun _ => rfl) ?_
              refine ra.ld (nx := 58) (v := (A 44 (y_ix (((8 : Int32) * a1) + a2)))) 44 192 rfl rfl h7 rfl ?_
              refine ra.s (pc' := 72) (st' := [.inl (A 44 (y_ix (((8 : Int32) * a1) + a2)))]) (fun _ => rfl) ?_
              subst hk
              exact ra.ret (r := some (.inl (A 44 (y_ix (((8 : Int32) * a1) + a2))))) (fun _ => rfl) ⟨rfl, rfl, rfl⟩
            · skip
              refine ra.s (pc' := 62) (st' := [.inr (some (11, 0))]) (fun _ => rfl) ?_
              refine ra.ga (x := 45) (nx := 65) (c := 13) (i := 38) rfl rfl ?_
              refine ra.s (pc' := 67) (st' := [.inl (8 : Int32), .inr (some (13, 38))]) (fun _ => rfl) ?_
              refine ra.s (pc' := 68) (st' := [.inl a1, .inl (8 : Int32), .inr (some (13, 38))]) (fun _ => rfl) ?_
              refine ra.s (pc' := 69) (st' := [.inl ((8 : Int32) * a1), .inr (some (13, 38))]) (fun _ => rfl) ?_
              refine ra.s (pc' := 70) (st' := [.inl a2, .inl ((8 : Int32) * a1), .inr (some (13, 38))]) (fun _ => rfl) ?_
              refine ra.s (pc' := 71) (st' := [.inl (((8 : Int32) * a1) + a2), .inr (some (13, 38))]) (fun _ => rfl) ?_
              refine ra.ld (nx := 72) (v := (A 45 (y_ix (((8 : Int32) * a1) + a2)))) 45 192 rfl rfl h7 rfl ?_
              subst hk
              exact ra.ret (r := some (.inl (A 45 (y_ix (((8 : Int32) * a1) + a2))))) (fun _ => rfl) ⟨rfl, rfl, rfl⟩
          · skip
            refine ra.s (pc' := 42) (st' := [.inl (-1 : Int32)]) (fun _ => rfl) ?_
            subst hk
            exact ra.ret (r := some (.inl (-1 : Int32))) (fun _ => rfl) ⟨rfl, rfl, rfl⟩
def rf_joined_23 : Nat → Int32 → Int32 → Int32 → Int32 → y_A → Int32
  | 0, _, _, _, _, _ => 0
  | n + 1, l1, l2, l3, l4, A => (if (A 61 0) ≤ l4 then (-1 : Int32) else (if (A 74 (y_ix l4)) = l1 then (if (A 69 (y_ix l4)) = (0 : Int32) then (if l3 = (0 : Int32) then l4 else (rf_joined_23 n l1 l2 (l3 + (-1 : Int32)) (l4 + (1 : Int32)) A)) else (rf_joined_23 n l1 l2 l3 (l4 + (1 : Int32)) A)) else (rf_joined_23 n l1 l2 l3 (l4 + (1 : Int32)) A)))
def rg_joined_23 : Nat → Int32 → Int32 → Int32 → Int32 → y_A → Prop
  | 0, _, _, _, _, _ => False
  | n + 1, l1, l2, l3, l4, A => (((A 61 0) ≤ l4 → True) ∧ (¬ (A 61 0) ≤ l4 → (y_in l4 4400) ∧ (((A 74 (y_ix l4)) = l1 → (((A 69 (y_ix l4)) = (0 : Int32) → ((l3 = (0 : Int32) → True) ∧ (¬ l3 = (0 : Int32) → (rg_joined_23 n l1 l2 (l3 + (-1 : Int32)) (l4 + (1 : Int32)) A)))) ∧ (¬ (A 69 (y_ix l4)) = (0 : Int32) → (rg_joined_23 n l1 l2 l3 (l4 + (1 : Int32)) A)))) ∧ (¬ (A 74 (y_ix l4)) = l1 → (rg_joined_23 n l1 l2 l3 (l4 + (1 : Int32)) A)))))
theorem rh_joined_23 {d : Nat} (hd : 0 ≤ d) {F : Int32} (n : Nat) : ∀ (l1 l2 l3 l4 : Int32) (A : y_A) (js : List y_J), rg_joined_23 n l1 l2 l3 l4 A → rf_joined_23 n l1 l2 l3 l4 A = F → ra d 178 23 [some (.inr (some (11, 0))), some (.inl l1), some (.inl l2), some (.inl l3), some (.inl l4)] [] A js (y_P F A js) := by
  induction n with
  | zero => intro l1 l2 l3 l4 A js hg; exact hg.elim
  | succ n ih =>
    intro l1 l2 l3 l4 A js hg hk
    unfold rg_joined_23 at hg
    unfold rf_joined_23 at hk
    refine ra.s (pc' := 25) (st' := [.inl l4]) (fun _ => rfl) ?_
    refine ra.s (pc' := 26) (st' := [.inr (some (11, 0)), .inl l4]) (fun _ => rfl) ?_
    refine ra.gi (x := 61) (nx := 29) (v := (A 61 0)) rfl rfl rfl ?_
    refine ra.b (c := (A 61 0) ≤ l4) (cd := .ge) (x := l4) (y := (A 61 0)) 72 32 (st' := []) (fun _ => rfl) (y_cge _ _) hk hg (fun h1 hg hk => ?_) (fun h1 hg hk => ?_)
    · skip
      refine ra.s (pc' := 73) (st' := [.inl (-1 : Int32)]) (fun _ => rfl) ?_
      subst hk
      exact ra.ret (r := some (.inl (-1 : Int32))) (fun _ => rfl) ⟨rfl, rfl, rfl⟩
    · skip
      refine ra.s (pc' := 33) (st' := [.inr (some (11, 0))]) (fun _ => rfl) ?_
      refine ra.ga (x := 74) (nx := 36) (c := 13) (i := 61) rfl rfl ?_
      refine ra.s (pc' := 38) (st' := [.inl l4, .inr (some (13, 61))]) (fun _ => rfl) ?_
      obtain ⟨h2, hg⟩ := hg
      refine ra.ld (nx := 39) (v := (A 74 (y_ix l4))) 74 4400 rfl rfl h2 rfl ?_
      refine ra.s (pc' := 40) (st' := [.inl l1, .inl (A 74 (y_ix l4))]) (fun _ => rfl) ?_
      refine ra.bn (c := (A 74 (y_ix l4)) = l1) (cd := .ne) (x := (A 74 (y_ix l4))) (y := l1) 66 43 (st' := []) (fun _ => rfl) (y_cne _ _) hk hg (fun h3 hg hk => ?_) (fun h3 hg hk => ?_)
      · skip
        refine ra.s (pc' := 44) (st' := [.inr (some (11, 0))]) (fun _ => rfl) ?_
        refine ra.ga (x := 69) (nx := 47) (c := 13) (i := 57) rfl rfl ?_
        refine ra.s (pc' := 49) (st' := [.inl l4, .inr (some (13, 57))]) (fun _ => rfl) ?_
        refine ra.ld (nx := 50) (v := (A 69 (y_ix l4))) 69 4400 rfl rfl h2 rfl ?_
        refine ra.b (c := (A 69 (y_ix l4)) = (0 : Int32)) (cd := .eq) (x := (A 69 (y_ix l4))) (y := (0 : Int32)) 56 53 (st' := []) (fun _ => rfl) (y_ceq _ _) hk hg (fun h4 hg hk => ?_) (fun h4 hg hk => ?_)
        · skip
          refine ra.s (pc' := 57) (st' := [.inl l3]) (fun _ => rfl) ?_
          refine ra.bn (c := l3 = (0 : Int32)) (cd := .ne) (x := l3) (y := (0 : Int32)) 63 60 (st' := []) (fun _ => rfl) (y_cne _ _) hk hg (fun h5 hg hk => ?_) (fun h5 hg hk => ?_)
          · skip
            refine ra.s (pc' := 62) (st' := [.inl l4]) (fun _ => rfl) ?_
            subst hk
            exact ra.ret (r := some (.inl l4)) (fun _ => rfl) ⟨rfl, rfl, rfl⟩
          · skip
            refine ra.s (pc' := 66) (L' := [some (.inr (some (11, 0))), some (.inl l1), some (.inl l2), some (.inl (l3 + (-1 : Int32))), some (.inl l4)]) (st' := []) (fun _ => rfl) ?_
            refine ra.s (pc' := 69) (L' := [some (.inr (some (11, 0))), some (.inl l1), some (.inl l2), some (.inl (l3 + (-1 : Int32))), some (.inl (l4 + (1 : Int32)))]) (st' := []) (fun _ => rfl) ?_
            refine ra.s (pc' := 23) (st' := []) (fun _ => rfl) ?_
            exact ih l1 l2 (l3 + (-1 : Int32)) (l4 + (1 : Int32)) A js hg hk
        · skip
          refine ra.s (pc' := 66) (st' := []) (fun _ => rfl) ?_
          refine ra.s (pc' := 69) (L' := [some (.inr (some (11, 0))), some (.inl l1), some (.inl l2), some (.inl l3), some (.inl (l4 + (1 : Int32)))]) (st' := []) (fun _ => rfl) ?_
          refine ra.s (pc' := 23) (st' := []) (fun _ => rfl) ?_
          exact ih l1 l2 l3 (l4 + (1 : Int32)) A js hg hk
      · skip
        refine ra.s (pc' := 69) (L' := [some (.inr (some (11, 0))), some (.inl l1), some (.inl l2), some (.inl l3), some (.inl (l4 + (1 : Int32)))]) (st' := []) (fun _ => rfl) ?_
        refine ra.s (pc' := 23) (st' := []) (fun _ => rfl) ?_
        exact ih l1 l2 l3 (l4 + (1 : Int32)) A js hg hk
/-- joined -/
def rf_joined (a1 a2 : Int32) (A : y_A) : Int32 := (if a1 < (0 : Int32) then (-1 : Int32) else (if (A 61 0) ≤ a1 then (-1 : Int32) else (if (0 : Int32) ≤ a2 then (rf_joined_23 20000 a1 a2 a2 (0 : Int32) A) else (-1 : Int32))))
def rg_joined (a1 a2 : Int32) (A : y_A) : Prop := ((a1 < (0 : Int32) → True) ∧ (¬ a1 < (0 : Int32) → (((A 61 0) ≤ a1 → True) ∧ (¬ (A 61 0) ≤ a1 → (((0 : Int32) ≤ a2 → (rg_joined_23 20000 a1 a2 a2 (0 : Int32) A)) ∧ (¬ (0 : Int32) ≤ a2 → True))))))
theorem rh_joined {d : Nat} (hd : 0 ≤ d) {a1 a2 : Int32} {A : y_A} {js : List y_J} (hg : rg_joined a1 a2 A) : rc d 178 [.inr (some (11, 0)), .inl a1, .inl a2] A js (y_P (rf_joined a1 a2 A) A js) := by
  obtain ⟨F, hk⟩ : ∃ F, rf_joined a1 a2 A = F := ⟨_, rfl⟩
  rw [hk]
  show ra _ _ _ [some (.inr (some (11, 0))), some (.inl a1), some (.inl a2), none, none] _ _ _ _
  unfold rg_joined at hg
  unfold rf_joined at hk
  refine ra.s (pc' := 1) (st' := [.inl a1]) (fun _ => rfl) ?_
  refine ra.b (c := a1 < (0 : Int32)) (cd := .lt) (x := a1) (y := (0 : Int32)) 16 4 (st' := []) (fun _ => rfl) (y_clt _ _) hk hg (fun h1 hg hk => ?_) (fun h1 hg hk => ?_)
  · skip
    refine ra.s (pc' := 17) (st' := [.inl (-1 : Int32)]) (fun _ => rfl) ?_
    subst hk
    exact ra.ret (r := some (.inl (-1 : Int32))) (fun _ => rfl) ⟨rfl, rfl, rfl⟩
  · skip
    refine ra.s (pc' := 5) (st' := [.inl a1]) (fun _ => rfl) ?_
    refine ra.s (pc' := 6) (st' := [.inr (some (11, 0)), .inl a1]) (fun _ => rfl) ?_
    refine ra.gi (x := 61) (nx := 9) (v := (A 61 0)) rfl rfl rfl ?_
    refine ra.b (c := (A 61 0) ≤ a1) (cd := .ge) (x := a1) (y := (A 61 0)) 16 12 (st' := []) (fun _ => rfl) (y_cge _ _) hk hg (fun h2 hg hk => ?_) (fun h2 hg hk => ?_)
    · skip
      refine ra.s (pc' := 17) (st' := [.inl (-1 : Int32)]) (fun _ => rfl) ?_
      subst hk
      exact ra.ret (r := some (.inl (-1 : Int32))) (fun _ => rfl) ⟨rfl, rfl, rfl⟩
    · skip
      refine ra.s (pc' := 13) (st' := [.inl a2]) (fun _ => rfl) ?_
      refine ra.b (c := (0 : Int32) ≤ a2) (cd := .ge) (x := a2) (y := (0 : Int32)) 18 16 (st' := []) (fun _ => rfl) (y_cge _ _) hk hg (fun h3 hg hk => ?_) (fun h3 hg hk => ?_)
      · skip
        refine ra.s (pc' := 19) (st' := [.inl a2]) (fun _ => rfl) ?_
        refine ra.s (pc' := 20) (L' := [some (.inr (some (11, 0))), some (.inl a1), some (.inl a2), some (.inl a2), none]) (st' := []) (fun _ => rfl) ?_
        refine ra.s (pc' := 21) (st' := [.inl (0 : Int32)]) (fun _ => rfl) ?_
        refine ra.s (pc' := 23) (L' := [some (.inr (some (11, 0))), some (.inl a1), some (.inl a2), some (.inl a2), some (.inl (0 : Int32))]) (st' := []) (fun _ => rfl) ?_
        exact rh_joined_23 (by omega) 20000 a1 a2 a2 (0 : Int32) A js hg hk
      · skip
        refine ra.s (pc' := 17) (st' := [.inl (-1 : Int32)]) (fun _ => rfl) ?_
        subst hk
        exact ra.ret (r := some (.inl (-1 : Int32))) (fun _ => rfl) ⟨rfl, rfl, rfl⟩
/-- level -/
def rf_level (a1 : Int32) (A : y_A) : Int32 := (if (rf_isStation a1 A) = (0 : Int32) then (-1 : Int32) else (A 2 (y_ix a1)))
def rg_level (a1 : Int32) (A : y_A) : Prop := (rg_isStation a1 A) ∧ (((rf_isStation a1 A) = (0 : Int32) → True) ∧ (¬ (rf_isStation a1 A) = (0 : Int32) → (y_in a1 8) ∧ True))
theorem rh_level {d : Nat} (hd : 1 ≤ d) {a1 : Int32} {A : y_A} {js : List y_J} (hg : rg_level a1 A) : rc d 179 [.inr (some (11, 0)), .inl a1] A js (y_P (rf_level a1 A) A js) := by
  obtain ⟨d, rfl⟩ := Nat.exists_eq_add_of_le' hd
  obtain ⟨F, hk⟩ : ∃ F, rf_level a1 A = F := ⟨_, rfl⟩
  rw [hk]
  show ra _ _ _ [some (.inr (some (11, 0))), some (.inl a1)] _ _ _ _
  unfold rg_level at hg
  unfold rf_level at hk
  refine ra.s (pc' := 1) (st' := [.inr (some (11, 0))]) (fun _ => rfl) ?_
  refine ra.s (pc' := 2) (st' := [.inl a1, .inr (some (11, 0))]) (fun _ => rfl) ?_
  obtain ⟨h1, hg⟩ := hg
  refine ra.cP (f := (rf_isStation a1 A)) (m := 115) (as := [.inr (some (11, 0)), .inl a1]) (nx := 5) (L' := [some (.inr (some (11, 0))), some (.inl a1)]) (st' := []) (fun _ => rfl) (rh_isStation (by omega) h1) ?_
  refine ra.b (c := (rf_isStation a1 A) = (0 : Int32)) (cd := .eq) (x := (rf_isStation a1 A)) (y := (0 : Int32)) 17 8 (st' := []) (fun _ => rfl) (y_ceq _ _) hk hg (fun h2 hg hk => ?_) (fun h2 hg hk => ?_)
  · skip
    refine ra.s (pc' := 18) (st' := [.inl (-1 : Int32)]) (fun _ => rfl) ?_
    subst hk
    exact ra.ret (r := some (.inl (-1 : Int32))) (fun _ => rfl) ⟨rfl, rfl, rfl⟩
  · skip
    refine ra.s (pc' := 9) (st' := [.inr (some (11, 0))]) (fun _ => rfl) ?_
    refine ra.ga (x := 2) (nx := 12) (c := 13) (i := 0) rfl rfl ?_
    refine ra.s (pc' := 13) (st' := [.inl a1, .inr (some (13, 0))]) (fun _ => rfl) ?_
    obtain ⟨h3, hg⟩ := hg
    refine ra.ld (nx := 14) (v := (A 2 (y_ix a1))) 2 8 rfl rfl h3 rfl ?_
    refine ra.s (pc' := 18) (st' := [.inl (A 2 (y_ix a1))]) (fun _ => rfl) ?_
    subst hk
    exact ra.ret (r := some (.inl (A 2 (y_ix a1)))) (fun _ => rfl) ⟨rfl, rfl, rfl⟩
/-- effect -/
def rf_effect (a1 a2 : Int32) (A : y_A) : Int32 := (if a1 < (0 : Int32) then (-1 : Int32) else (if a1 < (A 17 0) then (if a2 = (0 : Int32) then (A 18 (y_ix a1)) else (if a2 = (1 : Int32) then (A 19 (y_ix a1)) else (if a2 = (2 : Int32) then (A 20 (y_ix a1)) else (if a2 = (3 : Int32) then (A 21 (y_ix a1)) else (if a2 = (4 : Int32) then (A 22 (y_ix a1)) else (-1 : Int32)))))) else (-1 : Int32)))
def rg_effect (a1 a2 : Int32) (A : y_A) : Prop := ((a1 < (0 : Int32) → True) ∧ (¬ a1 < (0 : Int32) → ((a1 < (A 17 0) → ((a2 = (0 : Int32) → (y_in a1 4400) ∧ True) ∧ (¬ a2 = (0 : Int32) → ((a2 = (1 : Int32) → (y_in a1 4400) ∧ True) ∧ (¬ a2 = (1 : Int32) → ((a2 = (2 : Int32) → (y_in a1 4400) ∧ True) ∧ (¬ a2 = (2 : Int32) → ((a2 = (3 : Int32) → (y_in a1 4400) ∧ True) ∧ (¬ a2 = (3 : Int32) → ((a2 = (4 : Int32) → (y_in a1 4400) ∧ True) ∧ (¬ a2 = (4 : Int32) → True))))))))))) ∧ (¬ a1 < (A 17 0) → True))))
theorem rh_effect {d : Nat} (hd : 0 ≤ d) {a1 a2 : Int32} {A : y_A} {js : List y_J} (hg : rg_effect a1 a2 A) : rc d 180 [.inr (some (11, 0)), .inl a1, .inl a2] A js (y_P (rf_effect a1 a2 A) A js) := by
  obtain ⟨F, hk⟩ : ∃ F, rf_effect a1 a2 A = F := ⟨_, rfl⟩
  rw [hk]
  show ra _ _ _ [some (.inr (some (11, 0))), some (.inl a1), some (.inl a2)] _ _ _ _
  unfold rg_effect at hg
  unfold rf_effect at hk
  refine ra.s (pc' := 1) (st' := [.inl a1]) (fun _ => rfl) ?_
  refine ra.b (c := a1 < (0 : Int32)) (cd := .lt) (x := a1) (y := (0 : Int32)) 12 4 (st' := []) (fun _ => rfl) (y_clt _ _) hk hg (fun h1 hg hk => ?_) (fun h1 hg hk => ?_)
  · skip
    refine ra.s (pc' := 13) (st' := [.inl (-1 : Int32)]) (fun _ => rfl) ?_
    subst hk
    exact ra.ret (r := some (.inl (-1 : Int32))) (fun _ => rfl) ⟨rfl, rfl, rfl⟩
  · skip
    refine ra.s (pc' := 5) (st' := [.inl a1]) (fun _ => rfl) ?_
    refine ra.s (pc' := 6) (st' := [.inr (some (11, 0)), .inl a1]) (fun _ => rfl) ?_
    refine ra.gi (x := 17) (nx := 9) (v := (A 17 0)) rfl rfl rfl ?_
    refine ra.b (c := a1 < (A 17 0)) (cd := .lt) (x := a1) (y := (A 17 0)) 14 12 (st' := []) (fun _ => rfl) (y_clt _ _) hk hg (fun h2 hg hk => ?_) (fun h2 hg hk => ?_)
    · skip
      refine ra.s (pc' := 15) (st' := [.inl a2]) (fun _ => rfl) ?_
      refine ra.ts rfl rfl ?_
      refine ra.bw (0 : Int32) rfl hk hg (fun h3 hg hk => ?_) (fun h3 hg hk => ?_)
      · skip
        refine ra.s (pc' := 49) (st' := [.inr (some (11, 0))]) (fun _ => rfl) ?_
        refine ra.ga (x := 18) (nx := 52) (c := 13) (i := 13) rfl rfl ?_
        refine ra.s (pc' := 53) (st' := [.inl a1, .inr (some (13, 13))]) (fun _ => rfl) ?_
        obtain ⟨h4, hg⟩ := hg
        refine ra.ld (nx := 54) (v := (A 18 (y_ix a1))) 18 4400 rfl rfl h4 rfl ?_
        subst hk
        exact ra.ret (r := some (.inl (A 18 (y_ix a1)))) (fun _ => rfl) ⟨rfl, rfl, rfl⟩
      · skip
        refine ra.bw (1 : Int32) rfl hk hg (fun h5 hg hk => ?_) (fun h5 hg hk => ?_)
        · skip
          refine ra.s (pc' := 56) (st' := [.inr (some (11, 0))]) (fun _ => rfl) ?_
          refine ra.ga (x := 19) (nx := 59) (c := 13) (i := 14) rfl rfl ?_
          refine ra.s (pc' := 60) (st' := [.inl a1, .inr (some (13, 14))]) (fun _ => rfl) ?_
          obtain ⟨h6, hg⟩ := hg
          refine ra.ld (nx := 61) (v := (A 19 (y_ix a1))) 19 4400 rfl rfl h6 rfl ?_
          subst hk
          exact ra.ret (r := some (.inl (A 19 (y_ix a1)))) (fun _ => rfl) ⟨rfl, rfl, rfl⟩
        · skip
          refine ra.bw (2 : Int32) rfl hk hg (fun h7 hg hk => ?_) (fun h7 hg hk => ?_)
          · skip
            refine ra.s (pc' := 63) (st' := [.inr (some (11, 0))]) (fun _ => rfl) ?_
            refine ra.ga (x := 20) (nx := 66) (c := 13) (i := 15) rfl rfl ?_
            refine ra.s (pc' := 67) (st' := [.inl a1, .inr (some (13, 15))]) (fun _ => rfl) ?_
            obtain ⟨h8, hg⟩ := hg
            refine ra.ld (nx := 68) (v := (A 20 (y_ix a1))) 20 4400 rfl rfl h8 rfl ?_
            subst hk
            exact ra.ret (r := some (.inl (A 20 (y_ix a1)))) (fun _ => rfl) ⟨rfl, rfl, rfl⟩
          · skip
            refine ra.bw (3 : Int32) rfl hk hg (fun h9 hg hk => ?_) (fun h9 hg hk => ?_)
            · skip
              refine ra.s (pc' := 70) (st' := [.inr (some (11, 0))]) (fun _ => rfl) ?_
              refine ra.ga (x := 21) (nx := 73) (c := 13) (i := 16) rfl rfl ?_
              refine ra.s (pc' := 74) (st' := [.inl a1, .inr (some (13, 16))]) (fun _ => rfl) ?_
              obtain ⟨h10, hg⟩ := hg
              refine ra.ld (nx := 75) (v := (A 21 (y_ix a1))) 21 4400 rfl rfl h10 rfl ?_
              subst hk
              exact ra.ret (r := some (.inl (A 21 (y_ix a1)))) (fun _ => rfl) ⟨rfl, rfl, rfl⟩
            · skip
              refine ra.bw (4 : Int32) rfl hk hg (fun h11 hg hk => ?_) (fun h11 hg hk => ?_)
              · skip
                refine ra.s (pc' := 77) (st' := [.inr (some (11, 0))]) (fun _ => rfl) ?_
                refine ra.ga (x := 22) (nx := 80) (c := 13) (i := 17) rfl rfl ?_
                refine ra.s (pc' := 81) (st' := [.inl a1, .inr (some (13, 17))]) (fun _ => rfl) ?_
                obtain ⟨h12, hg⟩ := hg
                refine ra.ld (nx := 82) (v := (A 22 (y_ix a1))) 22 4400 rfl rfl h12 rfl ?_
                subst hk
                exact ra.ret (r := some (.inl (A 22 (y_ix a1)))) (fun _ => rfl) ⟨rfl, rfl, rfl⟩
              · skip
                refine ra.s (pc' := 84) (st' := [.inl (-1 : Int32)]) (fun _ => rfl) ?_
                subst hk
                exact ra.ret (r := some (.inl (-1 : Int32))) (fun _ => rfl) ⟨rfl, rfl, rfl⟩
    · skip
      refine ra.s (pc' := 13) (st' := [.inl (-1 : Int32)]) (fun _ => rfl) ?_
      subst hk
      exact ra.ret (r := some (.inl (-1 : Int32))) (fun _ => rfl) ⟨rfl, rfl, rfl⟩
def rf_count_123 : Nat → Int32 → Int32 → Int32 → y_A → Int32 × Int32
  | 0, _, _, _, _ => (0, 0)
  | n + 1, l1, l2, l3, A => (if (A 61 0) ≤ l3 then (l2, l3) else (if (A 69 (y_ix l3)) = (0 : Int32) then (if l1 = (9 : Int32) then (rf_count_123 n l1 (l2 + (1 : Int32)) (l3 + (1 : Int32)) A) else (if (0 : Int32) ≤ (A 65 (y_ix l3)) then (rf_count_123 n l1 (l2 + (0 : Int32)) (l3 + (1 : Int32)) A) else (rf_count_123 n l1 (l2 + (1 : Int32)) (l3 + (1 : Int32)) A))) else (rf_count_123 n l1 (l2 + (0 : Int32)) (l3 + (1 : Int32)) A)))
def rg_count_123 : Nat → Int32 → Int32 → Int32 → y_A → Prop
  | 0, _, _, _, _ => False
  | n + 1, l1, l2, l3, A => (((A 61 0) ≤ l3 → True) ∧ (¬ (A 61 0) ≤ l3 → (y_in l3 4400) ∧ (((A 69 (y_ix l3)) = (0 : Int32) → ((l1 = (9 : Int32) → (rg_count_123 n l1 (l2 + (1 : Int32)) (l3 + (1 : Int32)) A)) ∧ (¬ l1 = (9 : Int32) → (((0 : Int32) ≤ (A 65 (y_ix l3)) → (rg_count_123 n l1 (l2 + (0 : Int32)) (l3 + (1 : Int32)) A)) ∧ (¬ (0 : Int32) ≤ (A 65 (y_ix l3)) → (rg_count_123 n l1 (l2 + (1 : Int32)) (l3 + (1 : Int32)) A)))))) ∧ (¬ (A 69 (y_ix l3)) = (0 : Int32) → (rg_count_123 n l1 (l2 + (0 : Int32)) (l3 + (1 : Int32)) A)))))
theorem rh_count_123 {d : Nat} (hd : 0 ≤ d) {Q : Option xm_V → y_A → List y_J → Prop} {F : Int32 × Int32} (n : Nat) : ∀ (l1 l2 l3 : Int32) (A : y_A) (js : List y_J), rg_count_123 n l1 l2 l3 A → rf_count_123 n l1 l2 l3 A = F → (ra d 181 169 [some (.inr (some (11, 0))), some (.inl l1), some (.inl F.1), some (.inl F.2)] [] A js Q) → ra d 181 123 [some (.inr (some (11, 0))), some (.inl l1), some (.inl l2), some (.inl l3)] [] A js Q := by
  induction n with
  | zero => intro l1 l2 l3 A js hg; exact hg.elim
  | succ n ih =>
    intro l1 l2 l3 A js hg hk hE
    unfold rg_count_123 at hg
    unfold rf_count_123 at hk
    refine ra.s (pc' := 124) (st' := [.inl l3]) (fun _ => rfl) ?_
    refine ra.s (pc' := 125) (st' := [.inr (some (11, 0)), .inl l3]) (fun _ => rfl) ?_
    refine ra.gi (x := 61) (nx := 128) (v := (A 61 0)) rfl rfl rfl ?_
    refine ra.b (c := (A 61 0) ≤ l3) (cd := .ge) (x := l3) (y := (A 61 0)) 169 131 (st' := []) (fun _ => rfl) (y_cge _ _) hk hg (fun h1 hg hk => ?_) (fun h1 hg hk => ?_)
    · skip
      subst hk
      exact hE
    · skip
      refine ra.s (pc' := 132) (st' := [.inl l2]) (fun _ => rfl) ?_
      refine ra.s (pc' := 133) (st' := [.inr (some (11, 0)), .inl l2]) (fun _ => rfl) ?_
      refine ra.ga (x := 69) (nx := 136) (c := 13) (i := 57) rfl rfl ?_
      refine ra.s (pc' := 137) (st' := [.inl l3, .inr (some (13, 57)), .inl l2]) (fun _ => rfl) ?_
      obtain ⟨h2, hg⟩ := hg
      refine ra.ld (nx := 138) (v := (A 69 (y_ix l3))) 69 4400 rfl rfl h2 rfl ?_
      refine ra.bn (c := (A 69 (y_ix l3)) = (0 : Int32)) (cd := .ne) (x := (A 69 (y_ix l3))) (y := (0 : Int32)) 160 141 (st' := [.inl l2]) (fun _ => rfl) (y_cne _ _) hk hg (fun h3 hg hk => ?_) (fun h3 hg hk => ?_)
      · skip
        refine ra.s (pc' := 142) (st' := [.inl l1, .inl l2]) (fun _ => rfl) ?_
        refine ra.s (pc' := 144) (st' := [.inl (9 : Int32), .inl l1, .inl l2]) (fun _ => rfl) ?_
        refine ra.b (c := l1 = (9 : Int32)) (cd := .eq) (x := l1) (y := (9 : Int32)) 156 147 (st' := [.inl l2]) (fun _ => rfl) (y_ceq _ _) hk hg (fun h4 hg hk => ?_) (fun h4 hg hk => ?_)
        · skip
          refine ra.s (pc' := 157) (st' := [.inl (1 : Int32), .inl l2]) (fun _ => rfl) ?_
          refine ra.s (pc' := 161) (st' := [.inl (1 : Int32), .inl l2]) (fun _ => rfl) ?_
          refine ra.s (pc' := 162) (st' := [.inl (l2 + (1 : Int32))]) (fun _ => rfl) ?_
          refine ra.s (pc' := 163) (L' := [some (.inr (some (11, 0))), some (.inl l1), some (.inl (l2 + (1 : Int32))), some (.inl l3)]) (st' := []) (fun _ => rfl) ?_
          refine ra.s (pc' := 166) (L' := [some (.inr (some (11, 0))), some (.inl l1), some (.inl (l2 + (1 : Int32))), some (.inl (l3 + (1 : Int32)))]) (st' := []) (fun _ => rfl) ?_
          refine ra.s (pc' := 123) (st' := []) (fun _ => rfl) ?_
          exact ih l1 (l2 + (1 : Int32)) (l3 + (1 : Int32)) A js hg hk hE
        · skip
          refine ra.s (pc' := 148) (st' := [.inr (some (11, 0)), .inl l2]) (fun _ => rfl) ?_
          refine ra.ga (x := 65) (nx := 151) (c := 13) (i := 53) rfl rfl ?_
          refine ra.s (pc' := 152) (st' := [.inl l3, .inr (some (13, 53)), .inl l2]) (fun _ => rfl) ?_
          refine ra.ld (nx := 153) (v := (A 65 (y_ix l3))) 65 4400 rfl rfl h2 rfl ?_
          refine ra.b (c := (0 : Int32) ≤ (A 65 (y_ix l3))) (cd := .ge) (x := (A 65 (y_ix l3))) (y := (0 : Int32)) 160 156 (st' := [.inl l2]) (fun _ => rfl) (y_cge _ _) hk hg (fun h5 hg hk => ?_) (fun h5 hg hk => ?_)
          · skip
            refine ra.s (pc' := 161) (st' := [.inl (0 : Int32), .inl l2]) (fun _ => rfl) ?_
            refine ra.s (pc' := 162) (st' := [.inl (l2 + (0 : Int32))]) (fun _ => rfl) ?_
            refine ra.s (pc' := 163) (L' := [some (.inr (some (11, 0))), some (.inl l1), some (.inl (l2 + (0 : Int32))), some (.inl l3)]) (st' := []) (fun _ => rfl) ?_
            refine ra.s (pc' := 166) (L' := [some (.inr (some (11, 0))), some (.inl l1), some (.inl (l2 + (0 : Int32))), some (.inl (l3 + (1 : Int32)))]) (st' := []) (fun _ => rfl) ?_
            refine ra.s (pc' := 123) (st' := []) (fun _ => rfl) ?_
            exact ih l1 (l2 + (0 : Int32)) (l3 + (1 : Int32)) A js hg hk hE
          · skip
            refine ra.s (pc' := 157) (st' := [.inl (1 : Int32), .inl l2]) (fun _ => rfl) ?_
            refine ra.s (pc' := 161) (st' := [.inl (1 : Int32), .inl l2]) (fun _ => rfl) ?_
            refine ra.s (pc' := 162) (st' := [.inl (l2 + (1 : Int32))]) (fun _ => rfl) ?_
            refine ra.s (pc' := 163) (L' := [some (.inr (some (11, 0))), some (.inl l1), some (.inl (l2 + (1 : Int32))), some (.inl l3)]) (st' := []) (fun _ => rfl) ?_
            refine ra.s (pc' := 166) (L' := [some (.inr (some (11, 0))), some (.inl l1), some (.inl (l2 + (1 : Int32))), some (.inl (l3 + (1 : Int32)))]) (st' := []) (fun _ => rfl) ?_
            refine ra.s (pc' := 123) (st' := []) (fun _ => rfl) ?_
            exact ih l1 (l2 + (1 : Int32)) (l3 + (1 : Int32)) A js hg hk hE
      · skip
        refine ra.s (pc' := 161) (st' := [.inl (0 : Int32), .inl l2]) (fun _ => rfl) ?_
        refine ra.s (pc' := 162) (st' := [.inl (l2 + (0 : Int32))]) (fun _ => rfl) ?_
        refine ra.s (pc' := 163) (L' := [some (.inr (some (11, 0))), some (.inl l1), some (.inl (l2 + (0 : Int32))), some (.inl l3)]) (st' := []) (fun _ => rfl) ?_
        refine ra.s (pc' := 166) (L' := [some (.inr (some (11, 0))), some (.inl l1), some (.inl (l2 + (0 : Int32))), some (.inl (l3 + (1 : Int32)))]) (st' := []) (fun _ => rfl) ?_
        refine ra.s (pc' := 123) (st' := []) (fun _ => rfl) ?_
        exact ih l1 (l2 + (0 : Int32)) (l3 + (1 : Int32)) A js hg hk hE
def rf_count_173 : Nat → Int32 → Int32 → Int32 → y_A → Int32 × Int32
  | 0, _, _, _, _ => (0, 0)
  | n + 1, l1, l2, l3, A => (if (A 50 0) ≤ l3 then (l2, l3) else (if (A 58 (y_ix l3)) = (0 : Int32) then (rf_count_173 n l1 (l2 + (1 : Int32)) (l3 + (1 : Int32)) A) else (rf_count_173 n l1 (l2 + (0 : Int32)) (l3 + (1 : Int32)) A)))
def rg_count_173 : Nat → Int32 → Int32 → Int32 → y_A → Prop
  | 0, _, _, _, _ => False
  | n + 1, l1, l2, l3, A => (((A 50 0) ≤ l3 → True) ∧ (¬ (A 50 0) ≤ l3 → (y_in l3 60) ∧ (((A 58 (y_ix l3)) = (0 : Int32) → (rg_count_173 n l1 (l2 + (1 : Int32)) (l3 + (1 : Int32)) A)) ∧ (¬ (A 58 (y_ix l3)) = (0 : Int32) → (rg_count_173 n l1 (l2 + (0 : Int32)) (l3 + (1 : Int32)) A)))))
theorem rh_count_173 {d : Nat} (hd : 0 ≤ d) {Q : Option xm_V → y_A → List y_J → Prop} {F : Int32 × Int32} (n : Nat) : ∀ (l1 l2 l3 : Int32) (A : y_A) (js : List y_J), rg_count_173 n l1 l2 l3 A → rf_count_173 n l1 l2 l3 A = F → (ra d 181 204 [some (.inr (some (11, 0))), some (.inl l1), some (.inl F.1), some (.inl F.2)] [] A js Q) → ra d 181 173 [some (.inr (some (11, 0))), some (.inl l1), some (.inl l2), some (.inl l3)] [] A js Q := by
  induction n with
  | zero => intro l1 l2 l3 A js hg; exact hg.elim
  | succ n ih =>
    intro l1 l2 l3 A js hg hk hE
    unfold rg_count_173 at hg
    unfold rf_count_173 at hk
    refine ra.s (pc' := 174) (st' := [.inl l3]) (fun _ => rfl) ?_
    refine ra.s (pc' := 175) (st' := [.inr (some (11, 0)), .inl l3]) (fun _ => rfl) ?_
    refine ra.gi (x := 50) (nx := 178) (v := (A 50 0)) rfl rfl rfl ?_
    refine ra.b (c := (A 50 0) ≤ l3) (cd := .ge) (x := l3) (y := (A 50 0)) 204 181 (st' := []) (fun _ => rfl) (y_cge _ _) hk hg (fun h1 hg hk => ?_) (fun h1 hg hk => ?_)
    · skip
      subst hk
      exact hE
    · skip
      refine ra.s (pc' := 182) (st' := [.inl l2]) (fun _ => rfl) ?_
      refine ra.s (pc' := 183) (st' := [.inr (some (11, 0)), .inl l2]) (fun _ => rfl) ?_
      refine ra.ga (x := 58) (nx := 186) (c := 13) (i := 48) rfl rfl ?_
      refine ra.s (pc' := 187) (st' := [.inl l3, .inr (some (13, 48)), .inl l2]) (fun _ => rfl) ?_
      obtain ⟨h2, hg⟩ := hg
      refine ra.ld (nx := 188) (v := (A 58 (y_ix l3))) 58 60 rfl rfl h2 rfl ?_
      refine ra.bn (c := (A 58 (y_ix l3)) = (0 : Int32)) (cd := .ne) (x := (A 58 (y_ix l3))) (y := (0 : Int32)) 195 191 (st' := [.inl l2]) (fun _ => rfl) (y_cne _ _) hk hg (fun h3 hg hk => ?_) (fun h3 hg hk => ?_)
      · skip
        refine ra.s (pc' := 192) (st' := [.inl (1 : Int32), .inl l2]) (fun _ => rfl) ?_
        refine ra.s (pc' := 196) (st' := [.inl (1 : Int32), .inl l2]) (fun _ => rfl) ?_
        refine ra.s (pc' := 197) (st' := [.inl (l2 + (1 : Int32))]) (fun _ => rfl) ?_
        refine ra.s (pc' := 198) (L' := [some (.inr (some (11, 0))), some (.inl l1), some (.inl (l2 + (1 : Int32))), some (.inl l3)]) (st' := []) (fun _ => rfl) ?_
        refine ra.s (pc' := 201) (L' := [some (.inr (some (11, 0))), some (.inl l1), some (.inl (l2 + (1 : Int32))), some (.inl (l3 + (1 : Int32)))]) (st' := []) (fun _ => rfl) ?_
        refine ra.s (pc' := 173) (st' := []) (fun _ => rfl) ?_
        exact ih l1 (l2 + (1 : Int32)) (l3 + (1 : Int32)) A js hg hk hE
      · skip
        refine ra.s (pc' := 196) (st' := [.inl (0 : Int32), .inl l2]) (fun _ => rfl) ?_
        refine ra.s (pc' := 197) (st' := [.inl (l2 + (0 : Int32))]) (fun _ => rfl) ?_
        refine ra.s (pc' := 198) (L' := [some (.inr (some (11, 0))), some (.inl l1), some (.inl (l2 + (0 : Int32))), some (.inl l3)]) (st' := []) (fun _ => rfl) ?_
        refine ra.s (pc' := 201) (L' := [some (.inr (some (11, 0))), some (.inl l1), some (.inl (l2 + (0 : Int32))), some (.inl (l3 + (1 : Int32)))]) (st' := []) (fun _ => rfl) ?_
        refine ra.s (pc' := 173) (st' := []) (fun _ => rfl) ?_
        exact ih l1 (l2 + (0 : Int32)) (l3 + (1 : Int32)) A js hg hk hE
def rf_count_221 : Nat → Int32 → Int32 → Int32 → y_A → Int32 × Int32
  | 0, _, _, _, _ => (0, 0)
  | n + 1, l1, l2, l3, A => (if (A 103 0) ≤ l3 then (l2, l3) else (if (A 109 (y_ix l3)) = (0 : Int32) then (rf_count_221 n l1 (l2 + (0 : Int32)) (l3 + (1 : Int32)) A) else (rf_count_221 n l1 (l2 + (1 : Int32)) (l3 + (1 : Int32)) A)))
def rg_count_221 : Nat → Int32 → Int32 → Int32 → y_A → Prop
  | 0, _, _, _, _ => False
  | n + 1, l1, l2, l3, A => (((A 103 0) ≤ l3 → True) ∧ (¬ (A 103 0) ≤ l3 → (y_in l3 10) ∧ (((A 109 (y_ix l3)) = (0 : Int32) → (rg_count_221 n l1 (l2 + (0 : Int32)) (l3 + (1 : Int32)) A)) ∧ (¬ (A 109 (y_ix l3)) = (0 : Int32) → (rg_count_221 n l1 (l2 + (1 : Int32)) (l3 + (1 : Int32)) A)))))
theorem rh_count_221 {d : Nat} (hd : 0 ≤ d) {Q : Option xm_V → y_A → List y_J → Prop} {F : Int32 × Int32} (n : Nat) : ∀ (l1 l2 l3 : Int32) (A : y_A) (js : List y_J), rg_count_221 n l1 l2 l3 A → rf_count_221 n l1 l2 l3 A = F → (ra d 181 252 [some (.inr (some (11, 0))), some (.inl l1), some (.inl F.1), some (.inl F.2)] [] A js Q) → ra d 181 221 [some (.inr (some (11, 0))), some (.inl l1), some (.inl l2), some (.inl l3)] [] A js Q := by
  induction n with
  | zero => intro l1 l2 l3 A js hg; exact hg.elim
  | succ n ih =>
    intro l1 l2 l3 A js hg hk hE
    unfold rg_count_221 at hg
    unfold rf_count_221 at hk
    refine ra.s (pc' := 222) (st' := [.inl l3]) (fun _ => rfl) ?_
    refine ra.s (pc' := 223) (st' := [.inr (some (11, 0)), .inl l3]) (fun _ => rfl) ?_
    refine ra.gi (x := 103) (nx := 226) (v := (A 103 0)) rfl rfl rfl ?_
    refine ra.b (c := (A 103 0) ≤ l3) (cd := .ge) (x := l3) (y := (A 103 0)) 252 229 (st' := []) (fun _ => rfl) (y_cge _ _) hk hg (fun h1 hg hk => ?_) (fun h1 hg hk => ?_)
    · skip
      subst hk
      exact hE
    · skip
      refine ra.s (pc' := 230) (st' := [.inl l2]) (fun _ => rfl) ?_
      refine ra.s (pc' := 231) (st' := [.inr (some (11, 0)), .inl l2]) (fun _ => rfl) ?_
      refine ra.ga (x := 109) (nx := 234) (c := 14) (i := 9) rfl rfl ?_
      refine ra.s (pc' := 235) (st' := [.inl l3, .inr (some (14, 9)), .inl l2]) (fun _ => rfl) ?_
      obtain ⟨h2, hg⟩ := hg
      refine ra.lz (nx := 236) (v := (A 109 (y_ix l3))) 109 10 rfl rfl h2 rfl ?_
      refine ra.b (c := (A 109 (y_ix l3)) = (0 : Int32)) (cd := .eq) (x := (A 109 (y_ix l3))) (y := (0 : Int32)) 243 239 (st' := [.inl l2]) (fun _ => rfl) (y_ceq _ _) hk hg (fun h3 hg hk => ?_) (fun h3 hg hk => ?_)
      · skip
        refine ra.s (pc' := 244) (st' := [.inl (0 : Int32), .inl l2]) (fun _ => rfl) ?_
        refine ra.s (pc' := 245) (st' := [.inl (l2 + (0 : Int32))]) (fun _ => rfl) ?_
        refine ra.s (pc' := 246) (L' := [some (.inr (some (11, 0))), some (.inl l1), some (.inl (l2 + (0 : Int32))), some (.inl l3)]) (st' := []) (fun _ => rfl) ?_
        refine ra.s (pc' := 249) (L' := [some (.inr (some (11, 0))), some (.inl l1), some (.inl (l2 + (0 : Int32))), some (.inl (l3 + (1 : Int32)))]) (st' := []) (fun _ => rfl) ?_
        refine ra.s (pc' := 221) (st' := []) (fun _ => rfl) ?_
        exact ih l1 (l2 + (0 : Int32)) (l3 + (1 : Int32)) A js hg hk hE
      · skip
        refine ra.s (pc' := 240) (st' := [.inl (1 : Int32), .inl l2]) (fun _ => rfl) ?_
        refine ra.s (pc' := 244) (st' := [.inl (1 : Int32), .inl l2]) (fun _ => rfl) ?_
        refine ra.s (pc' := 245) (st' := [.inl (l2 + (1 : Int32))]) (fun _ => rfl) ?_
        refine ra.s (pc' := 246) (L' := [some (.inr (some (11, 0))), some (.inl l1), some (.inl (l2 + (1 : Int32))), some (.inl l3)]) (st' := []) (fun _ => rfl) ?_
        refine ra.s (pc' := 249) (L' := [some (.inr (some (11, 0))), some (.inl l1), some (.inl (l2 + (1 : Int32))), some (.inl (l3 + (1 : Int32)))]) (st' := []) (fun _ => rfl) ?_
        refine ra.s (pc' := 221) (st' := []) (fun _ => rfl) ?_
        exact ih l1 (l2 + (1 : Int32)) (l3 + (1 : Int32)) A js hg hk hE
/-- count -/
def rf_count (a1 : Int32) (A : y_A) : Int32 := (if a1 = (0 : Int32) then (A 1 0) else (if a1 = (1 : Int32) then (A 5 0) else (if a1 = (2 : Int32) then (A 11 0) else (if a1 = (3 : Int32) then (A 30 0) else (if a1 = (4 : Int32) then (A 47 0) else (if a1 = (5 : Int32) then (A 50 0) else (if a1 = (6 : Int32) then (A 61 0) else (if a1 = (7 : Int32) then (A 23 0) else (if a1 = (8 : Int32) then (A 17 0) else (if a1 = (9 : Int32) then (rf_count_123 20000 a1 (0 : Int32) (0 : Int32) A).1 else (if a1 = (10 : Int32) then (rf_count_123 20000 a1 (0 : Int32) (0 : Int32) A).1 else (if a1 = (11 : Int32) then (rf_count_173 20000 a1 (0 : Int32) (0 : Int32) A).1 else (if a1 = (12 : Int32) then (A 48 (y_ix (10 : Int32))) else (if a1 = (13 : Int32) then (A 89 0) else (if a1 = (14 : Int32) then (rf_count_221 20000 a1 (0 : Int32) (0 : Int32) A).1 else (-1 : Int32))))))))))))))))
def rg_count (a1 : Int32) (A : y_A) : Prop := ((a1 = (0 : Int32) → True) ∧ (¬ a1 = (0 : Int32) → ((a1 = (1 : Int32) → True) ∧ (¬ a1 = (1 : Int32) → ((a1 = (2 : Int32) → True) ∧ (¬ a1 = (2 : Int32) → ((a1 = (3 : Int32) → True) ∧ (¬ a1 = (3 : Int32) → ((a1 = (4 : Int32) → True) ∧ (¬ a1 = (4 : Int32) → ((a1 = (5 : Int32) → True) ∧ (¬ a1 = (5 : Int32) → ((a1 = (6 : Int32) → True) ∧ (¬ a1 = (6 : Int32) → ((a1 = (7 : Int32) → True) ∧ (¬ a1 = (7 : Int32) → ((a1 = (8 : Int32) → True) ∧ (¬ a1 = (8 : Int32) → ((a1 = (9 : Int32) → (rg_count_123 20000 a1 (0 : Int32) (0 : Int32) A) ∧ True) ∧ (¬ a1 = (9 : Int32) → ((a1 = (10 : Int32) → (rg_count_123 20000 a1 (0 : Int32) (0 : Int32) A) ∧ True) ∧ (¬ a1 = (10 : Int32) → ((a1 = (11 : Int32) → (rg_count_173 20000 a1 (0 : Int32) (0 : Int32) A) ∧ True) ∧ (¬ a1 = (11 : Int32) → ((a1 = (12 : Int32) → True) ∧ (¬ a1 = (12 : Int32) → ((a1 = (13 : Int32) → True) ∧ (¬ a1 = (13 : Int32) → ((a1 = (14 : Int32) → (rg_count_221 20000 a1 (0 : Int32) (0 : Int32) A) ∧ True) ∧ (¬ a1 = (14 : Int32) → True))))))))))))))))))))))))))))))
theorem rh_count {d : Nat} (hd : 0 ≤ d) {a1 : Int32} {A : y_A} {js : List y_J} (hg : rg_count a1 A) : rc d 181 [.inr (some (11, 0)), .inl a1] A js (y_P (rf_count a1 A) A js) := by
  obtain ⟨F, hk⟩ : ∃ F, rf_count a1 A = F := ⟨_, rfl⟩
  rw [hk]
  show ra _ _ _ [some (.inr (some (11, 0))), some (.inl a1), none, none] _ _ _ _
  unfold rg_count at hg
  unfold rf_count at hk
  refine ra.s (pc' := 1) (st' := [.inl (0 : Int32)]) (fun _ => rfl) ?_
  refine ra.s (pc' := 2) (L' := [some (.inr (some (11, 0))), some (.inl a1), some (.inl (0 : Int32)), none]) (st' := []) (fun _ => rfl) ?_
  refine ra.s (pc' := 3) (st' := [.inl a1]) (fun _ => rfl) ?_
  refine ra.ts rfl rfl ?_
  refine ra.bw (0 : Int32) rfl hk hg (fun h1 hg hk => ?_) (fun h1 hg hk => ?_)
  · skip
    refine ra.s (pc' := 77) (st' := [.inr (some (11, 0))]) (fun _ => rfl) ?_
    refine ra.gi (x := 1) (nx := 80) (v := (A 1 0)) rfl rfl rfl ?_
    subst hk
    exact ra.ret (r := some (.inl (A 1 0))) (fun _ => rfl) ⟨rfl, rfl, rfl⟩
  · skip
    refine ra.bw (1 : Int32) rfl hk hg (fun h2 hg hk => ?_) (fun h2 hg hk => ?_)
    · skip
      refine ra.s (pc' := 82) (st' := [.inr (some (11, 0))]) (fun _ => rfl) ?_
      refine ra.gi (x := 5) (nx := 85) (v := (A 5 0)) rfl rfl rfl ?_
      subst hk
      exact ra.ret (r := some (.inl (A 5 0))) (fun _ => rfl) ⟨rfl, rfl, rfl⟩
    · skip
      refine ra.bw (2 : Int32) rfl hk hg (fun h3 hg hk => ?_) (fun h3 hg hk => ?_)
      · skip
        refine ra.s (pc' := 87) (st' := [.inr (some (11, 0))]) (fun _ => rfl) ?_
        refine ra.gi (x := 11) (nx := 90) (v := (A 11 0)) rfl rfl rfl ?_
        subst hk
        exact ra.ret (r := some (.inl (A 11 0))) (fun _ => rfl) ⟨rfl, rfl, rfl⟩
      · skip
        refine ra.bw (3 : Int32) rfl hk hg (fun h4 hg hk => ?_) (fun h4 hg hk => ?_)
        · skip
          refine ra.s (pc' := 92) (st' := [.inr (some (11, 0))]) (fun _ => rfl) ?_
          refine ra.gi (x := 30) (nx := 95) (v := (A 30 0)) rfl rfl rfl ?_
          subst hk
          exact ra.ret (r := some (.inl (A 30 0))) (fun _ => rfl) ⟨rfl, rfl, rfl⟩
        · skip
          refine ra.bw (4 : Int32) rfl hk hg (fun h5 hg hk => ?_) (fun h5 hg hk => ?_)
          · skip
            refine ra.s (pc' := 97) (st' := [.inr (some (11, 0))]) (fun _ => rfl) ?_
            refine ra.gi (x := 47) (nx := 100) (v := (A 47 0)) rfl rfl rfl ?_
            subst hk
            exact ra.ret (r := some (.inl (A 47 0))) (fun _ => rfl) ⟨rfl, rfl, rfl⟩
          · skip
            refine ra.bw (5 : Int32) rfl hk hg (fun h6 hg hk => ?_) (fun h6 hg hk => ?_)
            · skip
              refine ra.s (pc' := 102) (st' := [.inr (some (11, 0))]) (fun _ => rfl) ?_
              refine ra.gi (x := 50) (nx := 105) (v := (A 50 0)) rfl rfl rfl ?_
              subst hk
              exact ra.ret (r := some (.inl (A 50 0))) (fun _ => rfl) ⟨rfl, rfl, rfl⟩
            · skip
              refine ra.bw (6 : Int32) rfl hk hg (fun h7 hg hk => ?_) (fun h7 hg hk => ?_)
              · skip
                refine ra.s (pc' := 107) (st' := [.inr (some (11, 0))]) (fun _ => rfl) ?_
                refine ra.gi (x := 61) (nx := 110) (v := (A 61 0)) rfl rfl rfl ?_
                subst hk
                exact ra.ret (r := some (.inl (A 61 0))) (fun _ => rfl) ⟨rfl, rfl, rfl⟩
              · skip
                refine ra.bw (7 : Int32) rfl hk hg (fun h8 hg hk => ?_) (fun h8 hg hk => ?_)
                · skip
                  refine ra.s (pc' := 112) (st' := [.inr (some (11, 0))]) (fun _ => rfl) ?_
                  refine ra.gi (x := 23) (nx := 115) (v := (A 23 0)) rfl rfl rfl ?_
                  subst hk
                  exact ra.ret (r := some (.inl (A 23 0))) (fun _ => rfl) ⟨rfl, rfl, rfl⟩
                · skip
                  refine ra.bw (8 : Int32) rfl hk hg (fun h9 hg hk => ?_) (fun h9 hg hk => ?_)
                  · skip
                    refine ra.s (pc' := 117) (st' := [.inr (some (11, 0))]) (fun _ => rfl) ?_
                    refine ra.gi (x := 17) (nx := 120) (v := (A 17 0)) rfl rfl rfl ?_
                    subst hk
                    exact ra.ret (r := some (.inl (A 17 0))) (fun _ => rfl) ⟨rfl, rfl, rfl⟩
                  · skip
                    refine ra.bw (9 : Int32) rfl hk hg (fun h10 hg hk => ?_) (fun h10 hg hk => ?_)
                    · skip
                      refine ra.s (pc' := 122) (st' := [.inl (0 : Int32)]) (fun _ => rfl) ?_
                      refine ra.s (pc' := 123) (L' := [some (.inr (some (11, 0))), some (.inl a1), some (.inl (0 : Int32)), some (.inl (0 : Int32))]) (st' := []) (fun _ => rfl) ?_
                      obtain ⟨h11, hg⟩ := hg
                      refine rh_count_123 (by omega) 20000 a1 (0 : Int32) (0 : Int32) A js h11 rfl ?_
                      refine ra.s (pc' := 170) (st' := [.inl (rf_count_123 20000 a1 (0 : Int32) (0 : Int32) A).1]) (fun _ => rfl) ?_
                      subst hk
                      exact ra.ret (r := some (.inl (rf_count_123 20000 a1 (0 : Int32) (0 : Int32) A).1)) (fun _ => rfl) ⟨rfl, rfl, rfl⟩
                    · skip
                      refine ra.bw (10 : Int32) rfl hk hg (fun h12 hg hk => ?_) (fun h12 hg hk => ?_)
                      · skip
                        refine ra.s (pc' := 122) (st' := [.inl (0 : Int32)]) (fun _ => rfl) ?_
                        refine ra.s (pc' := 123) (L' := [some (.inr (some (11, 0))), some (.inl a1), some (.inl (0 : Int32)), some (.inl (0 : Int32))]) (st' := []) (fun _ => rfl) ?_
                        obtain ⟨h13, hg⟩ := hg
                        refine rh_count_123 (by omega) 20000 a1 (0 : Int32) (0 : Int32) A js h13 rfl ?_
                        refine ra.s (pc' := 170) (st' := [.inl (rf_count_123 20000 a1 (0 : Int32) (0 : Int32) A).1]) (fun _ => rfl) ?_
                        subst hk
                        exact ra.ret (r := some (.inl (rf_count_123 20000 a1 (0 : Int32) (0 : Int32) A).1)) (fun _ => rfl) ⟨rfl, rfl, rfl⟩
                      · skip
                        refine ra.bw (11 : Int32) rfl hk hg (fun h14 hg hk => ?_) (fun h14 hg hk => ?_)
                        · skip
                          refine ra.s (pc' := 172) (st' := [.inl (0 : Int32)]) (fun _ => rfl) ?_
                          refine ra.s (pc' := 173) (L' := [some (.inr (some (11, 0))), some (.inl a1), some (.inl (0 : Int32)), some (.inl (0 : Int32))]) (st' := []) (fun _ => rfl) ?_
                          obtain ⟨h15, hg⟩ := hg
                          refine rh_count_173 (by omega) 20000 a1 (0 : Int32) (0 : Int32) A js h15 rfl ?_
                          refine ra.s (pc' := 205) (st' := [.inl (rf_count_173 20000 a1 (0 : Int32) (0 : Int32) A).1]) (fun _ => rfl) ?_
                          subst hk
                          exact ra.ret (r := some (.inl (rf_count_173 20000 a1 (0 : Int32) (0 : Int32) A).1)) (fun _ => rfl) ⟨rfl, rfl, rfl⟩
                        · skip
                          refine ra.bw (12 : Int32) rfl hk hg (fun h16 hg hk => ?_) (fun h16 hg hk => ?_)
                          · skip
                            refine ra.s (pc' := 207) (st' := [.inr (some (11, 0))]) (fun _ => rfl) ?_
                            refine ra.ga (x := 48) (nx := 210) (c := 13) (i := 39) rfl rfl ?_
                            refine ra.s (pc' := 212) (st' := [.inl (10 : Int32), .inr (some (13, 39))]) (fun _ => rfl) ?_
                            refine ra.ld (nx := 213) (v := (A 48 (y_ix (10 : Int32)))) 48 11 rfl rfl ⟨by decide, by decide⟩ rfl ?_
                            subst hk
                            exact ra.ret (r := some (.inl (A 48 (y_ix (10 : Int32))))) (fun _ => rfl) ⟨rfl, rfl, rfl⟩
                          · skip
                            refine ra.bw (13 : Int32) rfl hk hg (fun h17 hg hk => ?_) (fun h17 hg hk => ?_)
                            · skip
                              refine ra.s (pc' := 215) (st' := [.inr (some (11, 0))]) (fun _ => rfl) ?_
                              refine ra.gi (x := 89) (nx := 218) (v := (A 89 0)) rfl rfl rfl ?_
                              subst hk
                              exact ra.ret (r := some (.inl (A 89 0))) (fun _ => rfl) ⟨rfl, rfl, rfl⟩
                            · skip
                              refine ra.bw (14 : Int32) rfl hk hg (fun h18 hg hk => ?_) (fun h18 hg hk => ?_)
                              · skip
                                refine ra.s (pc' := 220) (st' := [.inl (0 : Int32)]) (fun _ => rfl) ?_
                                refine ra.s (pc' := 221) (L' := [some (.inr (some (11, 0))), some (.inl a1), some (.inl (0 : Int32)), some (.inl (0 : Int32))]) (st' := []) (fun _ => rfl) ?_
                                obtain ⟨h19, hg⟩ := hg
                                refine rh_count_221 (by omega) 20000 a1 (0 : Int32) (0 : Int32) A js h19 rfl ?_
                                refine ra.s (pc' := 253) (st' := [.inl (rf_count_221 20000 a1 (0 : Int32) (0 : Int32) A).1]) (fun _ => rfl) ?_
                                subst hk
                                exact ra.ret (r := some (.inl (rf_count_221 20000 a1 (0 : Int32) (0 : Int32) A).1)) (fun _ => rfl) ⟨rfl, rfl, rfl⟩
                              · skip
                                refine ra.s (pc' := 255) (st' := [.inl (-1 : Int32)]) (fun _ => rfl) ?_
                                subst hk
                                exact ra.ret (r := some (.inl (-1 : Int32))) (fun _ => rfl) ⟨rfl, rfl, rfl⟩
end
