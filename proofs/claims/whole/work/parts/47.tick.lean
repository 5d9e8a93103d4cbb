/-! ===== THE REFERENCE: a second (printed by wip/whole/gen42.py) ===== -/
section
/-- tick -/
noncomputable def rf_tick (A : y_A) (js : List y_J) : y_A × List y_J := ((rf_tick_409 20000 (0 : Int32) (rf_tick_388 20000 (0 : Int32) (rf_tick_256 20000 (0 : Int32) (rf_tick_88 20000 (0 : Int32) (rf_tick_12 20000 (0 : Int32) (xm_u2 A 0 0 ((A 0 0) + (1 : Int32)))).2 js).2.1 (rf_tick_88 20000 (0 : Int32) (rf_tick_12 20000 (0 : Int32) (xm_u2 A 0 0 ((A 0 0) + (1 : Int32)))).2 js).2.2).2.1 (rf_tick_256 20000 (0 : Int32) (rf_tick_88 20000 (0 : Int32) (rf_tick_12 20000 (0 : Int32) (xm_u2 A 0 0 ((A 0 0) + (1 : Int32)))).2 js).2.1 (rf_tick_88 20000 (0 : Int32) (rf_tick_12 20000 (0 : Int32) (xm_u2 A 0 0 ((A 0 0) + (1 : Int32)))).2 js).2.2).2.2).2.1).2, (rf_tick_388 20000 (0 : Int32) (rf_tick_256 20000 (0 : Int32) (rf_tick_88 20000 (0 : Int32) (rf_tick_12 20000 (0 : Int32) (xm_u2 A 0 0 ((A 0 0) + (1 : Int32)))).2 js).2.1 (rf_tick_88 20000 (0 : Int32) (rf_tick_12 20000 (0 : Int32) (xm_u2 A 0 0 ((A 0 0) + (1 : Int32)))).2 js).2.2).2.1 (rf_tick_256 20000 (0 : Int32) (rf_tick_88 20000 (0 : Int32) (rf_tick_12 20000 (0 : Int32) (xm_u2 A 0 0 ((A 0 0) + (1 : Int32)))).2 js).2.1 (rf_tick_88 20000 (0 : Int32) (rf_tick_12 20000 (0 : Int32) (xm_u2 A 0 0 ((A 0 0) + (1 : Int32)))).2 js).2.2).2.2).2.2)
def rg_tick (A : y_A) (js : List y_J) : Prop := (rg_tick_12 20000 (0 : Int32) (xm_u2 A 0 0 ((A 0 0) + (1 : Int32)))) ∧ (rg_tick_88 20000 (0 : Int32) (rf_tick_12 20000 (0 : Int32) (xm_u2 A 0 0 ((A 0 0) + (1 : Int32)))).2 js) ∧ (rg_tick_256 20000 (0 : Int32) (rf_tick_88 20000 (0 : Int32) (rf_tick_12 20000 (0 : Int32) (xm_u2 A 0 0 ((A 0 0) + (1 : Int32)))).2 js).2.1 (rf_tick_88 20000 (0 : Int32) (rf_tick_12 20000 (0 : Int32) (xm_u2 A 0 0 ((A 0 0) + (1 : Int32)))).2 js).2.2) ∧ (rg_tick_388 20000 (0 : Int32) (rf_tick_256 20000 (0 : Int32) (rf_tick_88 20000 (0 : Int32) (rf_tick_12 20000 (0 : Int32) (xm_u2 A 0 0 ((A 0 0) + (1 : Int32)))).2 js).2.1 (rf_tick_88 20000 (0 : Int32) (rf_tick_12 20000 (0 : Int32) (xm_u2 A 0 0 ((A 0 0) + (1 : Int32)))).2 js).2.2).2.1 (rf_tick_256 20000 (0 : Int32) (rf_tick_88 20000 (0 : Int32) (rf_tick_12 20000 (0 : Int32) (xm_u2 A 0 0 ((A 0 0) + (1 : Int32)))).2 js).2.1 (rf_tick_88 20000 (0 : Int32) (rf_tick_12 20000 (0 : Int32) (xm_u2 A 0 0 ((A 0 0) + (1 : Int32)))).2 js).2.2).2.2) ∧ (rg_tick_409 20000 (0 : Int32) (rf_tick_388 20000 (0 : Int32) (rf_tick_256 20000 (0 : Int32) (rf_tick_88 20000 (0 : Int32) (rf_tick_12 20000 (0 : Int32) (xm_u2 A 0 0 ((A 0 0) + (1 : Int32)))).2 js).2.1 (rf_tick_88 20000 (0 : Int32) (rf_tick_12 20000 (0 : Int32) (xm_u2 A 0 0 ((A 0 0) + (1 : Int32)))).2 js).2.2).2.1 (rf_tick_256 20000 (0 : Int32) (rf_tick_88 20000 (0 : Int32) (rf_tick_12 20000 (0 : Int32) (xm_u2 A 0 0 ((A 0 0) + (1 : Int32)))).2 js).2.1 (rf_tick_88 20000 (0 : Int32) (rf_tick_12 20000 (0 : Int32) (xm_u2 A 0 0 ((A 0 0) + (1 : Int32)))).2 js).2.2).2.2).2.1) ∧ True
theorem rh_tick {d : Nat} (hd : 9 ≤ d) {A : y_A} {js : List y_J} (hg : rg_tick A js) : rc d 164 [.inr (some (11, 0))] A js (y_V (rf_tick A js)) := by
  obtain ⟨d, rfl⟩ := Nat.exists_eq_add_of_le' hd
  obtain ⟨F, hk⟩ : ∃ F, rf_tick A js = F := ⟨_, rfl⟩
  rw [hk]
  show ra _ _ _ [some (.inr (some (11, 0))), none, none, none] _ _ _ _
  unfold rg_tick at hg
  unfold rf_tick at hk
  refine ra.s (pc' := 1) (st' := [.inr (some (11, 0))]) (fun _ => rfl) ?_
  refine ra.s (pc' := 2) (st' := [.inr (some (11, 0)), .inr (some (11, 0))]) (fun _ => rfl) ?_
  refine ra.gi (x := 0) (nx := 5) (v := (A 0 0)) rfl rfl rfl ?_
  refine ra.s (pc' := 6) (st' := [.inl (1 : Int32), .inl (A 0 0), .inr (some (11, 0))]) (fun _ => rfl) ?_
  refine ra.s (pc' := 7) (st' := [.inl ((A 0 0) + (1 : Int32)), .inr (some (11, 0))]) (fun _ => rfl) ?_
  refine ra.pi (x := 0) (nx := 10) rfl rfl ?_
  refine ra.s (pc' := 11) (st' := [.inl (0 : Int32)]) (fun _ => rfl) ?_
  refine ra.s (pc' := 12) (L' := [some (.inr (some (11, 0))), some (.inl (0 : Int32)), none, none]) (st' := []) (fun _ => rfl) ?_
  obtain ⟨h1, hg⟩ := hg
  refine rh_tick_12 (by omega) 20000 (0 : Int32) none none (xm_u2 A 0 0 ((A 0 0) + (1 : Int32))) js h1 rfl ?_
  intro e1x e2x
  refine ra.s (pc' := 87) (st' := [.inl (0 : Int32)]) (fun _ => rfl) ?_
  refine ra.s (pc' := 88) (L' := [some (.inr (some (11, 0))), some (.inl (0 : Int32)), e1x, e2x]) (st' := []) (fun _ => rfl) ?_
  obtain ⟨h2, hg⟩ := hg
  refine rh_tick_88 (by omega) 20000 (0 : Int32) e1x e2x (rf_tick_12 20000 (0 : Int32) (xm_u2 A 0 0 ((A 0 0) + (1 : Int32)))).2 js h2 rfl ?_
  intro e3x e4x
  refine ra.s (pc' := 255) (st' := [.inl (0 : Int32)]) (fun _ => rfl) ?_
  refine ra.s (pc' := 256) (L' := [some (.inr (some (11, 0))), some (.inl (0 : Int32)), e3x, e4x]) (st' := []) (fun _ => rfl) ?_
  obtain ⟨h3, hg⟩ := hg
  refine rh_tick_256 (by omega) 20000 (0 : Int32) e3x e4x (rf_tick_88 20000 (0 : Int32) (rf_tick_12 20000 (0 : Int32) (xm_u2 A 0 0 ((A 0 0) + (1 : Int32)))).2 js).2.1 (rf_tick_88 20000 (0 : Int32) (rf_tick_12 20000 (0 : Int32) (xm_u2 A 0 0 ((A 0 0) + (1 : Int32)))).2 js).2.2 h3 rfl ?_
  intro e5x e6x
  refine ra.s (pc' := 387) (st' := [.inl (0 : Int32)]) (fun _ => rfl) ?_
  refine ra.s (pc' := 388) (L' := [some (.inr (some (11, 0))), some (.inl (0 : Int32)), e5x, e6x]) (st' := []) (fun _ => rfl) ?_
  obtain ⟨h4, hg⟩ := hg
  refine rh_tick_388 (by omega) 20000 (0 : Int32) e5x e6x (rf_tick_256 20000 (0 : Int32) (rf_tick_88 20000 (0 : Int32) (rf_tick_12 20000 (0 : Int32) (xm_u2 A 0 0 ((A 0 0) + (1 : Int32)))).2 js).2.1 (rf_tick_88 20000 (0 : Int32) (rf_tick_12 20000 (0 : Int32) (xm_u2 A 0 0 ((A 0 0) + (1 : Int32)))).2 js).2.2).2.1 (rf_tick_256 20000 (0 : Int32) (rf_tick_88 20000 (0 : Int32) (rf_tick_12 20000 (0 : Int32) (xm_u2 A 0 0 ((A 0 0) + (1 : Int32)))).2 js).2.1 (rf_tick_88 20000 (0 : Int32) (rf_tick_12 20000 (0 : Int32) (xm_u2 A 0 0 ((A 0 0) + (1 : Int32)))).2 js).2.2).2.2 h4 rfl ?_
  intro e7x e8x
  refine ra.s (pc' := 408) (st' := [.inl (0 : Int32)]) (fun _ => rfl) ?_
  refine ra.s (pc' := 409) (L' := [some (.inr (some (11, 0))), some (.inl (0 : Int32)), e7x, e8x]) (st' := []) (fun _ => rfl) ?_
  obtain ⟨h5, hg⟩ := hg
  refine rh_tick_409 (by omega) 20000 (0 : Int32) e7x e8x (rf_tick_388 20000 (0 : Int32) (rf_tick_256 20000 (0 : Int32) (rf_tick_88 20000 (0 : Int32) (rf_tick_12 20000 (0 : Int32) (xm_u2 A 0 0 ((A 0 0) + (1 : Int32)))).2 js).2.1 (rf_tick_88 20000 (0 : Int32) (rf_tick_12 20000 (0 : Int32) (xm_u2 A 0 0 ((A 0 0) + (1 : Int32)))).2 js).2.2).2.1 (rf_tick_256 20000 (0 : Int32) (rf_tick_88 20000 (0 : Int32) (rf_tick_12 20000 (0 : Int32) (xm_u2 A 0 0 ((A 0 0) + (1 : Int32)))).2 js).2.1 (rf_tick_88 20000 (0 : Int32) (rf_tick_12 20000 (0 : Int32) (xm_u2 A 0 0 ((A 0 0) + (1 : Int32)))).2 js).2.2).2.2).2.1 (rf_tick_388 20000 (0 : Int32) (rf_tick_256 20000 (0 : Int32) (rf_tick_88 20000 (0 : Int32) (rf_tick_12 20000 (0 : Int32) (xm_u2 A 0 0 ((A 0 0) + (1 : Int32)))).2 js).2.1 (rf_tick_88 20000 (0 : Int32) (rf_tick_12 20000 (0 : Int32) (xm_u2 A 0 0 ((A 0 0) + (1 : Int32)))).2 js).2.2).2.1 (rf_tick_256 20000 (0 : Int32) (rf_tick_88 20000 (0 : Int32) (rf_tick_12 20000 (0 : Int32) (xm_u2 A 0 0 ((A 0 0) + (1 : Int32)))).2 js).2.1 (rf_tick_88 20000 (0 : Int32) (rf_tick_12 20000 (0 : Int32) (xm_u2 A 0 0 ((A 0 0) + (1 : Int32)))).2 js).2.2).2.2).2.2 h5 rfl ?_
  intro e9x e10x
  refine ra.ret (r := none) (fun _ => rfl) ⟨rfl, ?_, ?_⟩
  · rw [← hk]
  · rw [← hk]
noncomputable def rf_second_21 : Nat → Int32 → Int32 → y_A → List y_J → Int32 × y_A × List y_J
  | 0, _, _, A, js => (0, A, js)
  | n + 1, l1, l2, A, js => (if l1 ≤ l2 then (l2, A, js) else (rf_second_21 n l1 (l2 + (1 : Int32)) (rf_tick A js).1 (rf_tick A js).2))
def rg_second_21 : Nat → Int32 → Int32 → y_A → List y_J → Prop
  | 0, _, _, _, _ => False
  | n + 1, l1, l2, A, js => ((l1 ≤ l2 → True) ∧ (¬ l1 ≤ l2 → (rg_tick A js) ∧ (rg_second_21 n l1 (l2 + (1 : Int32)) (rf_tick A js).1 (rf_tick A js).2)))
theorem rh_second_21 {d : Nat} (hd : 10 ≤ d) {Q : Option xm_V → y_A → List y_J → Prop} {F : Int32 × y_A × List y_J} (n : Nat) : ∀ (l1 l2 : Int32) (A : y_A) (js : List y_J), rg_second_21 n l1 l2 A js → rf_second_21 n l1 l2 A js = F → (ra d 163 36 [some (.inr (some (11, 0))), some (.inl l1), some (.inl F.1)] [] F.2.1 F.2.2 Q) → ra d 163 21 [some (.inr (some (11, 0))), some (.inl l1), some (.inl l2)] [] A js Q := by
  obtain ⟨d, rfl⟩ := Nat.exists_eq_add_of_le' hd
  induction n with
  | zero => intro l1 l2 A js hg; exact hg.elim
  | succ n ih =>
    intro l1 l2 A js hg hk hE
    unfold rg_second_21 at hg
    unfold rf_second_21 at hk
    refine ra.s (pc' := 22) (st' := [.inl l2]) (fun _ => rfl) ?_
    refine ra.s (pc' := 23) (st' := [.inl l1, .inl l2]) (fun _ => rfl) ?_
    refine ra.b (c := l1 ≤ l2) (cd := .ge) (x := l2) (y := l1) 36 26 (st' := []) (fun _ => rfl) (y_cge _ _) hk hg (fun h1 hg hk => ?_) (fun h1 hg hk => ?_)
    · skip
      subst hk
      exact hE
    · skip
      refine ra.s (pc' := 27) (st' := [.inr (some (11, 0))]) (fun _ => rfl) ?_
      obtain ⟨h2, hg⟩ := hg
      refine ra.cV (F := (rf_tick A js)) (m := 164) (as := [.inr (some (11, 0))]) (nx := 30) (L' := [some (.inr (some (11, 0))), some (.inl l1), some (.inl l2)]) (st' := []) (fun _ => rfl) (rh_tick (by omega) h2) ?_
      show ra _ _ _ _ [] (rf_tick A js).1 (rf_tick A js).2 _
      refine ra.s (pc' := 33) (L' := [some (.inr (some (11, 0))), some (.inl l1), some (.inl (l2 + (1 : Int32)))]) (st' := []) (fun _ => rfl) ?_
      refine ra.s (pc' := 21) (st' := []) (fun _ => rfl) ?_
      exact ih l1 (l2 + (1 : Int32)) (rf_tick A js).1 (rf_tick A js).2 hg hk hE
/-- second -/
noncomputable def rf_second (a1 : Int32) (A : y_A) (js : List y_J) : Int32 × y_A × List y_J := (if a1 < (1 : Int32) then ((-2 : Int32), A, js) else (if a1 ≤ (100 : Int32) then (((rf_second_21 20000 a1 (0 : Int32) (xm_u2 A 60 0 (0 : Int32)) js).2.1 60 0), (rf_second_21 20000 a1 (0 : Int32) (xm_u2 A 60 0 (0 : Int32)) js).2.1, (rf_second_21 20000 a1 (0 : Int32) (xm_u2 A 60 0 (0 : Int32)) js).2.2) else ((-2 : Int32), A, js)))
def rg_second (a1 : Int32) (A : y_A) (js : List y_J) : Prop := ((a1 < (1 : Int32) → True) ∧ (¬ a1 < (1 : Int32) → ((a1 ≤ (100 : Int32) → (rg_second_21 20000 a1 (0 : Int32) (xm_u2 A 60 0 (0 : Int32)) js) ∧ True) ∧ (¬ a1 ≤ (100 : Int32) → True))))
theorem rh_second {d : Nat} (hd : 10 ≤ d) {a1 : Int32} {A : y_A} {js : List y_J} (hg : rg_second a1 A js) : rc d 163 [.inr (some (11, 0)), .inl a1] A js (y_I (rf_second a1 A js)) := by
  obtain ⟨d, rfl⟩ := Nat.exists_eq_add_of_le' hd
  obtain ⟨F, hk⟩ : ∃ F, rf_second a1 A js = F := ⟨_, rfl⟩
  rw [hk]
  show ra _ _ _ [some (.inr (some (11, 0))), some (.inl a1), none] _ _ _ _
  unfold rg_second at hg
  unfold rf_second at hk
  refine ra.s (pc' := 1) (st' := [.inl a1]) (fun _ => rfl) ?_
  refine ra.s (pc' := 2) (st' := [.inl (1 : Int32), .inl a1]) (fun _ => rfl) ?_
  refine ra.b (c := a1 < (1 : Int32)) (cd := .lt) (x := a1) (y := (1 : Int32)) 11 5 (st' := []) (fun _ => rfl) (y_clt _ _) hk hg (fun h1 hg hk => ?_) (fun h1 hg hk => ?_)
  · skip
    refine ra.s (pc' := 13) (st' := [.inl (-2 : Int32)]) (fun _ => rfl) ?_
    subst hk
    exact ra.ret (r := some (.inl (-2 : Int32))) (fun _ => rfl) ⟨rfl, rfl, rfl⟩
  · skip
    refine ra.s (pc' := 6) (st' := [.inl a1]) (fun _ => rfl) ?_
    refine ra.s (pc' := 8) (st' := [.inl (100 : Int32), .inl a1]) (fun _ => rfl) ?_
    refine ra.b (c := a1 ≤ (100 : Int32)) (cd := .le) (x := a1) (y := (100 : Int32)) 14 11 (st' := []) (fun _ => rfl) (y_cle _ _) hk hg (fun h2 hg hk => ?_) (fun h2 hg hk => ?_)
    · skip
      refine ra.s (pc' := 15) (st' := [.inr (some (11, 0))]) (fun _ => rfl) ?_
      refine ra.s (pc' := 16) (st' := [.inl (0 : Int32), .inr (some (11, 0))]) (fun _ => rfl) ?_
      refine ra.pi (x := 60) (nx := 19) rfl rfl ?_
      refine ra.s (pc' := 20) (st' := [.inl (0 : Int32)]) (fun _ => rfl) ?_
      refine ra.s (pc' := 21) (L' := [some (.inr (some (11, 0))), some (.inl a1), some (.inl (0 : Int32))]) (st' := []) (fun _ => rfl) ?_
      obtain ⟨h3, hg⟩ := hg
      refine rh_second_21 (by omega) 20000 a1 (0 : Int32) (xm_u2 A 60 0 (0 : Int32)) js h3 rfl ?_
      refine ra.s (pc' := 37) (st' := [.inr (some (11, 0))]) (fun _ => rfl) ?_
      refine ra.gi (x := 60) (nx := 40) (v := ((rf_second_21 20000 a1 (0 : Int32) (xm_u2 A 60 0 (0 : Int32)) js).2.1 60 0)) rfl rfl rfl ?_
      subst hk
      exact ra.ret (r := some (.inl ((rf_second_21 20000 a1 (0 : Int32) (xm_u2 A 60 0 (0 : Int32)) js).2.1 60 0))) (fun _ => rfl) ⟨rfl, rfl, rfl⟩
    · skip
      refine ra.s (pc' := 13) (st' := [.inl (-2 : Int32)]) (fun _ => rfl) ?_
      subst hk
      exact ra.ret (r := some (.inl (-2 : Int32))) (fun _ => rfl) ⟨rfl, rfl, rfl⟩
end
