/-! ===== THE JOBS: what one does, what it asks; how they are worked off ===== -/
section
def y_do (j : y_J) (A : y_A) (js : List y_J) : y_A × List y_J :=
  if j.1 = 0 then rf_begins j.2.1 j.2.2.1 j.2.2.2.1 j.2.2.2.2 A js
  else if j.1 = 1 then rf_ends j.2.1 j.2.2.1 j.2.2.2.1 (if j.2.2.2.2 ≤ 0 then 0 else 1) A js
  else if j.1 = 2 then rf_failsNow j.2.1 j.2.2.1 A js
  else if j.1 = 3 then rf_freeJoined j.2.1 j.2.2.1 A js
  else if j.1 = 4 then rf_takenBack j.2.1 j.2.2.1 A js
  else rf_gone j.2.1 j.2.2.1 A js
def y_ok (j : y_J) (A : y_A) (js : List y_J) : Prop :=
  if j.1 = 0 then rg_begins j.2.1 j.2.2.1 j.2.2.2.1 j.2.2.2.2 A js
  else if j.1 = 1 then rg_ends j.2.1 j.2.2.1 j.2.2.2.1 (if j.2.2.2.2 ≤ 0 then 0 else 1) A js
  else if j.1 = 2 then rg_failsNow j.2.1 j.2.2.1 A js
  else if j.1 = 3 then rg_freeJoined j.2.1 j.2.2.1 A js
  else if j.1 = 4 then rg_takenBack j.2.1 j.2.2.1 A js
  else rg_gone j.2.1 j.2.2.1 A js
def y_go : Nat → y_A → List y_J → y_A → List y_J → Prop
  | 0, A, js, A', js' => A = A' ∧ js = js'
  | _ + 1, _, [], _, _ => False
  | n + 1, A, j :: t, A', js' => y_ok j A t ∧ y_go n (y_do j A t).1 (y_do j A t).2 A' js'
/-- from these jobs to those -/
def y_to (A : y_A) (js : List y_J) (A' : y_A) (js' : List y_J) : Prop := ∃ n, y_go n A js A' js'
theorem y_to.rf (A : y_A) (js : List y_J) : y_to A js A js := ⟨0, rfl, rfl⟩
theorem y_go.tr : ∀ {n k : Nat} {A : y_A} {js : List y_J} {B : y_A} {ks : List y_J} {C : y_A} {ls : List y_J}, y_go n A js B ks → y_go k B ks C ls → y_go (n + k) A js C ls
  | 0, k, A, js, B, ks, C, ls, h, g => by obtain ⟨rfl, rfl⟩ := h; rw [Nat.zero_add]; exact g
  | n + 1, k, A, [], B, ks, C, ls, h, g => h.elim
  | n + 1, k, A, j :: t, B, ks, C, ls, h, g => by
    rw [show n + 1 + k = (n + k) + 1 by omega]
    exact ⟨h.1, y_go.tr h.2 g⟩
theorem y_to.tr {A : y_A} {js : List y_J} {B : y_A} {ks : List y_J} {C : y_A} {ls : List y_J} (h : y_to A js B ks) (g : y_to B ks C ls) : y_to A js C ls := ⟨h.choose + g.choose, y_go.tr h.choose_spec g.choose_spec⟩
theorem y_to.s {A : y_A} {j : y_J} {t : List y_J} {B : y_A} {ks : List y_J} {C : y_A} {ls : List y_J} (hok : y_ok j A t) (hdo : y_do j A t = (B, ks)) (g : y_to B ks C ls) : y_to A (j :: t) C ls := by
  obtain ⟨n, g⟩ := g
  refine ⟨n + 1, hok, ?_⟩
  rw [hdo]
  exact g
theorem xw.ts {d mi pc : Nat} {L : xm_L} {st : List xm_V} {S : xm_S} {Q : Option xm_V → xm_S → Prop} {df hi : Int} {offs : Array Int} {nx : Nat} {x : Int32} (hp : xm_P mi pc = (.tableswitch df 0 hi offs, nx)) (hh : (decide (hi = (offs.toList.length : Int) - 1) && decide (offs.toList.length ≤ 1000)) = true) (k : xw d mi (y_sw x df.toNat 0 offs.toList) L st S Q) : xw d mi pc L (.inl x :: st) S Q := by
  simp only [Bool.and_eq_true, decide_eq_true_eq] at hh
  refine xw.s ?_ k
  rw [hp, ← y_sw_eq x df offs.toList 0 (Int.le_refl _) (by omega)]
  have e : offs.getD (x.toInt - 0).toNat 0 = offs.toList.getD (x.toInt - 0).toNat 0 := by
    simp [Array.getD_eq_getD_getElem?, List.getD_eq_getElem?_getD]
  show some _ = _
  rw [show (0 : Int) + (offs.toList.length : Int) - 1 = hi by omega, ← e]
/-- a job is taken off -/
theorem y_R.pop {S : xm_S} {A : y_A} {j : y_J} {t : List y_J} (h : y_R S A (j :: t)) : y_R (xm_si S 11 0 88 (nI t.length)) A t ∧ y_q (xm_si S 11 0 88 (nI t.length)) t.length = j := by
  obtain ⟨hW, hA, hn, hl, hq⟩ := h
  rw [List.length_cons] at hl hq hn
  have q8 : ∀ k, y_q (xm_si S 11 0 88 (nI t.length)) k = y_q S k := fun k => by
    unfold y_q
    rw [y_m_88 (by decide) (Or.inl (by decide)), y_m_88 (by decide) (Or.inl (by decide)), y_m_88 (by decide) (Or.inl (by decide)), y_m_88 (by decide) (Or.inl (by decide)), y_m_88 (by decide) (Or.inl (by decide))]
    rfl
  refine ⟨⟨hW, fun x hx hx8 k hk => ?_, ?_, by omega, fun k hk => ?_⟩, ?_⟩
  · rw [y_m_88 hx hk, if_neg (by omega)]
    exact hA x hx hx8 k hk
  · rw [y_m_88 (by decide) (Or.inr rfl), if_pos ⟨rfl, rfl⟩]
  · have e := hq k (by omega)
    rw [List.reverse_cons, List.getElem?_append_left (by simp; omega)] at e
    rw [q8]
    exact e
  · have e := hq t.length (by omega)
    rw [List.reverse_cons, List.getElem?_append_right (by simp)] at e
    rw [q8]
    simp at e
    exact e.symm
/-- behind a call: the rest -/
theorem xw.rc {d mi pc : Nat} {L : xm_L} {st : List xm_V} {S S0 : xm_S} {A : y_A} {js : List y_J} {Q : Option xm_V → y_A → List y_J → Prop} {m : Nat} {as : List xm_V} {nx : Nat} {L' : xm_L} {st' : List xm_V} {F : y_A × List y_J} (h : xm_step (xm_P mi pc) L st S = some (.inr (.inr (m, as, nx, L', st')))) (hS : y_R S A js) (h0 : y_S S0 S) (hc : rc d m as A js (y_V F)) (k : ra (d + 1) mi nx L' st' F.1 F.2 Q) : xw (d + 1) mi pc L st S (fun r S' => y_S S0 S' ∧ ∃ A' js', y_R S' A' js' ∧ Q r A' js') := by
  refine xw.call h (xw.mono (hc S hS) ?_)
  rintro r S1 ⟨h1, A1, js1, h2, rfl, rfl, rfl⟩
  refine xw.mono (k S1 h2) ?_
  rintro r2 S2 ⟨h4, z⟩
  exact ⟨h0.tr (h1.tr h4), z⟩
theorem rh_work_0 {d : Nat} {A' : y_A} : ∀ (n : Nat) (e1 : Option xm_V) (A : y_A) (js : List y_J), y_go n A js A' [] → ra (d + 6) 132 0 [some (.inr (some (11, 0))), e1] [] A js (y_V (A', [])) := by
  intro n
  induction n with
  | zero =>
    rintro e1 A js ⟨rfl, rfl⟩ S hS
    refine xw.s (pc' := 1) (st' := [.inr (some (11, 0))]) rfl ?_
    refine xw.gi 88 (nx := 4) (v := 0) rfl rfl hS.2.2.1 ?_
    refine xw.s (pc' := 210) (st' := []) rfl ?_
    exact xw.ret rfl ⟨y_S.rf S, A, [], hS, rfl, rfl, rfl⟩
  | succ n ih =>
    intro e1 A js hgo S hS
    cases js with
    | nil => exact hgo.elim
    | cons j t =>
    obtain ⟨hok, hgo⟩ := hgo
    have hl := hS.2.2.2.1
    rw [List.length_cons] at hl
    have hn : y_m S 88 0 = nI (t.length + 1) := hS.2.2.1
    refine xw.s (pc' := 1) (st' := [.inr (some (11, 0))]) rfl ?_
    refine xw.gi 88 (nx := 4) (v := nI (t.length + 1)) rfl rfl hn ?_
    refine xw.s (pc' := 7) (st' := []) (L' := [some (.inr (some (11, 0))), e1]) (S1 := S) ?_ ?_
    · show some (Sum.inl (if xm_cmp .le (nI (t.length + 1)) 0 = true then 210 else 7, _)) = _
      rw [if_neg (fun z => nI_nle (by omega) (by omega) ((y_cle _ _).mp z))]
    refine xw.s (pc' := 8) (st' := [.inr (some (11, 0))]) rfl ?_
    refine xw.s (pc' := 9) (st' := [.inr (some (11, 0)), .inr (some (11, 0))]) rfl ?_
    refine xw.gi 88 (nx := 12) (v := nI (t.length + 1)) rfl rfl hn ?_
    refine xw.s (pc' := 13) (st' := [.inl 1, .inl (nI (t.length + 1)), .inr (some (11, 0))]) rfl ?_
    refine xw.s (pc' := 14) (st' := [.inl (nI (t.length + 1) - 1), .inr (some (11, 0))]) rfl ?_
    rw [nI_pred]
    refine xw.pi 88 (nx := 17) rfl (by decide) ?_
    obtain ⟨hR, hj⟩ := hS.pop
    have hSS : y_S S (xm_si S 11 0 88 (nI t.length)) := y_S.si (x := 88) _ _ (by decide) rfl
    generalize xm_si S 11 0 88 (nI t.length) = T at hR hj hSS ⊢
    have hT : y_W T := hR.1
    have hi : y_in (nI t.length) 20000 := y_in_nI (by omega) (by decide)
    have hx : y_ix (nI t.length) = t.length := y_ix_nI (by omega)
    obtain ⟨w, a, b, c, e⟩ := j
    unfold y_q at hj
    simp only [Prod.mk.injEq] at hj
    obtain ⟨h83, h84, h85, h86, h87⟩ := hj
    rw [← hx] at h83 h84 h85 h86 h87
    refine xw.s (pc' := 18) (st' := [.inr (some (11, 0))]) rfl ?_
    refine xw.gi 88 (nx := 21) (v := nI t.length) rfl rfl hR.2.2.1 ?_
    refine xw.s (pc' := 22) (st' := []) (L' := [some (.inr (some (11, 0))), some (.inl (nI t.length))]) rfl ?_
    refine xw.s (pc' := 23) (st' := [.inr (some (11, 0))]) rfl ?_
    refine xw.ga 83 (nx := 26) (c := 13) (i := 63) hT rfl rfl ?_
    refine xw.s (pc' := 27) (st' := [.inl (nI t.length), .inr (some (13, 63))]) rfl ?_
    refine xw.ldi 83 20000 (nx := 28) hT rfl rfl hi h83 ?_
    refine xw.ts rfl rfl ?_
    unfold y_ok at hok
    have hgo2 := ih
    unfold y_do at hgo
    simp only at hok hgo
    have back : ∀ F : y_A × List y_J, y_go n F.1 F.2 A' [] → ∀ e1 : Option xm_V, ra (d + 6) 132 0 [some (.inr (some (11, 0))), e1] [] F.1 F.2 (y_V (A', [])) := fun F hF e1 => ih e1 F.1 F.2 hF
    by_cases h0 : w = 0
    · have hsw : y_sw w 191 0 [64, 95, 134, 153, 172] = 64 := if_pos h0
      show xw _ _ (y_sw w 191 0 [64, 95, 134, 153, 172]) _ _ _ _
      rw [hsw]
      rw [if_pos h0] at hok hgo
      refine xw.s (pc' := 65) (st' := [.inr (some (11, 0))]) rfl ?_
      refine xw.s (pc' := 66) (st' := [.inr (some (11, 0)), .inr (some (11, 0))]) rfl ?_
      refine xw.ga 84 (nx := 69) (c := 13) (i := 64) hT rfl rfl ?_
      refine xw.s (pc' := 70) (st' := [.inl (nI t.length), .inr (some (13, 64)), .inr (some (11, 0))]) rfl ?_
      refine xw.ldi 84 20000 (nx := 71) hT rfl rfl hi h84 ?_
      refine xw.s (pc' := 72) (st' := [.inr (some (11, 0)), .inl a, .inr (some (11, 0))]) rfl ?_
      refine xw.ga 85 (nx := 75) (c := 13) (i := 65) hT rfl rfl ?_
      refine xw.s (pc' := 76) (st' := [.inl (nI t.length), .inr (some (13, 65)), .inl a, .inr (some (11, 0))]) rfl ?_
      refine xw.ldi 85 20000 (nx := 77) hT rfl rfl hi h85 ?_
      refine xw.s (pc' := 78) (st' := [.inr (some (11, 0)), .inl b, .inl a, .inr (some (11, 0))]) rfl ?_
      refine xw.ga 86 (nx := 81) (c := 13) (i := 66) hT rfl rfl ?_
      refine xw.s (pc' := 82) (st' := [.inl (nI t.length), .inr (some (13, 66)), .inl b, .inl a, .inr (some (11, 0))]) rfl ?_
      refine xw.ldi 86 20000 (nx := 83) hT rfl rfl hi h86 ?_
      refine xw.s (pc' := 84) (st' := [.inr (some (11, 0)), .inl c, .inl b, .inl a, .inr (some (11, 0))]) rfl ?_
      refine xw.ga 87 (nx := 87) (c := 13) (i := 67) hT rfl rfl ?_
      refine xw.s (pc' := 88) (st' := [.inl (nI t.length), .inr (some (13, 67)), .inl c, .inl b, .inl a, .inr (some (11, 0))]) rfl ?_
      refine xw.ldi 87 20000 (nx := 89) hT rfl rfl hi h87 ?_
      refine xw.rc (m := 133) (as := [.inr (some (11, 0)), .inl a, .inl b, .inl c, .inl e]) (nx := 92) (L' := [some (.inr (some (11, 0))), some (.inl (nI t.length))]) (st' := []) rfl hR hSS (rh_begins (by omega) hok) ?_
      exact ra.s (pc' := 207) (st' := []) (fun _ => rfl) (ra.s (pc' := 0) (fun _ => rfl) (back _ hgo (some (.inl (nI t.length)))))
    by_cases h1 : w = 1
    · have hsw : y_sw w 191 0 [64, 95, 134, 153, 172] = 95 := (if_neg h0).trans (if_pos h1)
      show xw _ _ (y_sw w 191 0 [64, 95, 134, 153, 172]) _ _ _ _
      rw [hsw]
      rw [if_neg h0, if_pos h1] at hok hgo
      refine xw.s (pc' := 96) (st' := [.inr (some (11, 0))]) rfl ?_
      refine xw.s (pc' := 97) (st' := [.inr (some (11, 0)), .inr (some (11, 0))]) rfl ?_
      refine xw.ga 84 (nx := 100) (c := 13) (i := 64) hT rfl rfl ?_
      refine xw.s (pc' := 101) (st' := [.inl (nI t.length), .inr (some (13, 64)), .inr (some (11, 0))]) rfl ?_
      refine xw.ldi 84 20000 (nx := 102) hT rfl rfl hi h84 ?_
      refine xw.s (pc' := 103) (st' := [.inr (some (11, 0)), .inl a, .inr (some (11, 0))]) rfl ?_
      refine xw.ga 85 (nx := 106) (c := 13) (i := 65) hT rfl rfl ?_
      refine xw.s (pc' := 107) (st' := [.inl (nI t.length), .inr (some (13, 65)), .inl a, .inr (some (11, 0))]) rfl ?_
      refine xw.ldi 85 20000 (nx := 108) hT rfl rfl hi h85 ?_
      refine xw.s (pc' := 109) (st' := [.inr (some (11, 0)), .inl b, .inl a, .inr (some (11, 0))]) rfl ?_
      refine xw.ga 86 (nx := 112) (c := 13) (i := 66) hT rfl rfl ?_
      refine xw.s (pc' := 113) (st' := [.inl (nI t.length), .inr (some (13, 66)), .inl b, .inl a, .inr (some (11, 0))]) rfl ?_
      refine xw.ldi 86 20000 (nx := 114) hT rfl rfl hi h86 ?_
      refine xw.s (pc' := 115) (st' := [.inr (some (11, 0)), .inl c, .inl b, .inl a, .inr (some (11, 0))]) rfl ?_
      refine xw.ga 87 (nx := 118) (c := 13) (i := 67) hT rfl rfl ?_
      refine xw.s (pc' := 119) (st' := [.inl (nI t.length), .inr (some (13, 67)), .inl c, .inl b, .inl a, .inr (some (11, 0))]) rfl ?_
      refine xw.ldi 87 20000 (nx := 120) hT rfl rfl hi h87 ?_
      by_cases he : e ≤ 0
      · refine xw.s (pc' := 127) (st' := [.inl c, .inl b, .inl a, .inr (some (11, 0))]) (L' := [some (.inr (some (11, 0))), some (.inl (nI t.length))]) (S1 := T) ?_ ?_
        · show some (Sum.inl (if xm_cmp .le e 0 = true then 127 else 123, _)) = _
          rw [if_pos ((y_cle _ _).mpr he)]
        rw [if_pos he] at hok hgo
        refine xw.s (pc' := 128) (st' := [.inl (0 : Int32), .inl c, .inl b, .inl a, .inr (some (11, 0))]) rfl ?_
        refine xw.rc (m := 140) (as := [.inr (some (11, 0)), .inl a, .inl b, .inl c, .inl (0 : Int32)]) (nx := 131) (L' := [some (.inr (some (11, 0))), some (.inl (nI t.length))]) (st' := []) rfl hR hSS (rh_ends (by omega) hok) ?_
        exact ra.s (pc' := 207) (st' := []) (fun _ => rfl) (ra.s (pc' := 0) (fun _ => rfl) (back _ hgo (some (.inl (nI t.length)))))
      · refine xw.s (pc' := 123) (st' := [.inl c, .inl b, .inl a, .inr (some (11, 0))]) (L' := [some (.inr (some (11, 0))), some (.inl (nI t.length))]) (S1 := T) ?_ ?_
        · show some (Sum.inl (if xm_cmp .le e 0 = true then 127 else 123, _)) = _
          rw [if_neg (fun z => he ((y_cle _ _).mp z))]
        rw [if_neg he] at hok hgo
        refine xw.s (pc' := 124) (st' := [.inl (1 : Int32), .inl c, .inl b, .inl a, .inr (some (11, 0))]) rfl ?_
        refine xw.s (pc' := 128) (st' := [.inl (1 : Int32), .inl c, .inl b, .inl a, .inr (some (11, 0))]) rfl ?_
        refine xw.rc (m := 140) (as := [.inr (some (11, 0)), .inl a, .inl b, .inl c, .inl (1 : Int32)]) (nx := 131) (L' := [some (.inr (some (11, 0))), some (.inl (nI t.length))]) (st' := []) rfl hR hSS (rh_ends (by omega) hok) ?_
        exact ra.s (pc' := 207) (st' := []) (fun _ => rfl) (ra.s (pc' := 0) (fun _ => rfl) (back _ hgo (some (.inl (nI t.length)))))
    by_cases h2 : w = 2
    · have hsw : y_sw w 191 0 [64, 95, 134, 153, 172] = 134 := (if_neg h0).trans ((if_neg h1).trans (if_pos h2))
      show xw _ _ (y_sw w 191 0 [64, 95, 134, 153, 172]) _ _ _ _
      rw [hsw]
      rw [if_neg h0, if_neg h1, if_pos h2] at hok hgo
      refine xw.s (pc' := 135) (st' := [.inr (some (11, 0))]) rfl ?_
      refine xw.s (pc' := 136) (st' := [.inr (some (11, 0)), .inr (some (11, 0))]) rfl ?_
      refine xw.ga 84 (nx := 139) (c := 13) (i := 64) hT rfl rfl ?_
      refine xw.s (pc' := 140) (st' := [.inl (nI t.length), .inr (some (13, 64)), .inr (some (11, 0))]) rfl ?_
      refine xw.ldi 84 20000 (nx := 141) hT rfl rfl hi h84 ?_
      refine xw.s (pc' := 142) (st' := [.inr (some (11, 0)), .inl a, .inr (some (11, 0))]) rfl ?_
      refine xw.ga 85 (nx := 145) (c := 13) (i := 65) hT rfl rfl ?_
      refine xw.s (pc' := 146) (st' := [.inl (nI t.length), .inr (some (13, 65)), .inl a, .inr (some (11, 0))]) rfl ?_
      refine xw.ldi 85 20000 (nx := 147) hT rfl rfl hi h85 ?_
      refine xw.rc (m := 152) (as := [.inr (some (11, 0)), .inl a, .inl b]) (nx := 150) (L' := [some (.inr (some (11, 0))), some (.inl (nI t.length))]) (st' := []) rfl hR hSS (rh_failsNow (by omega) hok) ?_
      exact ra.s (pc' := 207) (st' := []) (fun _ => rfl) (ra.s (pc' := 0) (fun _ => rfl) (back _ hgo (some (.inl (nI t.length)))))
    by_cases h3 : w = 3
    · have hsw : y_sw w 191 0 [64, 95, 134, 153, 172] = 153 := (if_neg h0).trans ((if_neg h1).trans ((if_neg h2).trans (if_pos h3)))
      show xw _ _ (y_sw w 191 0 [64, 95, 134, 153, 172]) _ _ _ _
      rw [hsw]
      rw [if_neg h0, if_neg h1, if_neg h2, if_pos h3] at hok hgo
      refine xw.s (pc' := 154) (st' := [.inr (some (11, 0))]) rfl ?_
      refine xw.s (pc' := 155) (st' := [.inr (some (11, 0)), .inr (some (11, 0))]) rfl ?_
      refine xw.ga 84 (nx := 158) (c := 13) (i := 64) hT rfl rfl ?_
      refine xw.s (pc' := 159) (st' := [.inl (nI t.length), .inr (some (13, 64)), .inr (some (11, 0))]) rfl ?_
      refine xw.ldi 84 20000 (nx := 160) hT rfl rfl hi h84 ?_
      refine xw.s (pc' := 161) (st' := [.inr (some (11, 0)), .inl a, .inr (some (11, 0))]) rfl ?_
      refine xw.ga 85 (nx := 164) (c := 13) (i := 65) hT rfl rfl ?_
      refine xw.s (pc' := 165) (st' := [.inl (nI t.length), .inr (some (13, 65)), .inl a, .inr (some (11, 0))]) rfl ?_
      refine xw.ldi 85 20000 (nx := 166) hT rfl rfl hi h85 ?_
      refine xw.rc (m := 153) (as := [.inr (some (11, 0)), .inl a, .inl b]) (nx := 169) (L' := [some (.inr (some (11, 0))), some (.inl (nI t.length))]) (st' := []) rfl hR hSS (rh_freeJoined (by omega) hok) ?_
      exact ra.s (pc' := 207) (st' := []) (fun _ => rfl) (ra.s (pc' := 0) (fun _ => rfl) (back _ hgo (some (.inl (nI t.length)))))
    by_cases h4 : w = 4
    · have hsw : y_sw w 191 0 [64, 95, 134, 153, 172] = 172 := (if_neg h0).trans ((if_neg h1).trans ((if_neg h2).trans ((if_neg h3).trans (if_pos h4))))
      show xw _ _ (y_sw w 191 0 [64, 95, 134, 153, 172]) _ _ _ _
      rw [hsw]
      rw [if_neg h0, if_neg h1, if_neg h2, if_neg h3, if_pos h4] at hok hgo
      refine xw.s (pc' := 173) (st' := [.inr (some (11, 0))]) rfl ?_
      refine xw.s (pc' := 174) (st' := [.inr (some (11, 0)), .inr (some (11, 0))]) rfl ?_
      refine xw.ga 84 (nx := 177) (c := 13) (i := 64) hT rfl rfl ?_
      refine xw.s (pc' := 178) (st' := [.inl (nI t.length), .inr (some (13, 64)), .inr (some (11, 0))]) rfl ?_
      refine xw.ldi 84 20000 (nx := 179) hT rfl rfl hi h84 ?_
      refine xw.s (pc' := 180) (st' := [.inr (some (11, 0)), .inl a, .inr (some (11, 0))]) rfl ?_
      refine xw.ga 85 (nx := 183) (c := 13) (i := 65) hT rfl rfl ?_
      refine xw.s (pc' := 184) (st' := [.inl (nI t.length), .inr (some (13, 65)), .inl a, .inr (some (11, 0))]) rfl ?_
      refine xw.ldi 85 20000 (nx := 185) hT rfl rfl hi h85 ?_
      refine xw.rc (m := 154) (as := [.inr (some (11, 0)), .inl a, .inl b]) (nx := 188) (L' := [some (.inr (some (11, 0))), some (.inl (nI t.length))]) (st' := []) rfl hR hSS (rh_takenBack (by omega) hok) ?_
      exact ra.s (pc' := 207) (st' := []) (fun _ => rfl) (ra.s (pc' := 0) (fun _ => rfl) (back _ hgo (some (.inl (nI t.length)))))
    have hsw : y_sw w 191 0 [64, 95, 134, 153, 172] = 191 := (if_neg h0).trans ((if_neg h1).trans ((if_neg h2).trans ((if_neg h3).trans ((if_neg h4).trans (rfl)))))
    show xw _ _ (y_sw w 191 0 [64, 95, 134, 153, 172]) _ _ _ _
    rw [hsw]
    rw [if_neg h0, if_neg h1, if_neg h2, if_neg h3, if_neg h4] at hok hgo
    refine xw.s (pc' := 192) (st' := [.inr (some (11, 0))]) rfl ?_
    refine xw.s (pc' := 193) (st' := [.inr (some (11, 0)), .inr (some (11, 0))]) rfl ?_
    refine xw.ga 84 (nx := 196) (c := 13) (i := 64) hT rfl rfl ?_
    refine xw.s (pc' := 197) (st' := [.inl (nI t.length), .inr (some (13, 64)), .inr (some (11, 0))]) rfl ?_
    refine xw.ldi 84 20000 (nx := 198) hT rfl rfl hi h84 ?_
    refine xw.s (pc' := 199) (st' := [.inr (some (11, 0)), .inl a, .inr (some (11, 0))]) rfl ?_
    refine xw.ga 85 (nx := 202) (c := 13) (i := 65) hT rfl rfl ?_
    refine xw.s (pc' := 203) (st' := [.inl (nI t.length), .inr (some (13, 65)), .inl a, .inr (some (11, 0))]) rfl ?_
    refine xw.ldi 85 20000 (nx := 204) hT rfl rfl hi h85 ?_
    refine xw.rc (m := 155) (as := [.inr (some (11, 0)), .inl a, .inl b]) (nx := 207) (L' := [some (.inr (some (11, 0))), some (.inl (nI t.length))]) (st' := []) rfl hR hSS (rh_gone (by omega) hok) ?_
    exact ra.s (pc' := 0) (fun _ => rfl) (back _ hgo (some (.inl (nI t.length))))
theorem rh_work {d : Nat} (hd : 6 ≤ d) {A A' : y_A} {js : List y_J} (h : y_to A js A' []) : rc d 132 [.inr (some (11, 0))] A js (y_V (A', [])) := by
  obtain ⟨d, rfl⟩ := Nat.exists_eq_add_of_le' hd
  obtain ⟨n, h⟩ := h
  exact rh_work_0 n none A js h
end
section
theorem y_go.det : ∀ {n k : Nat} {A : y_A} {js : List y_J} {B C : y_A}, y_go n A js B [] → y_go k A js C [] → B = C
  | 0, 0, A, js, B, C, h, g => h.1.symm.trans g.1
  | 0, k + 1, A, js, B, C, h, g => by
    obtain ⟨rfl, rfl⟩ := h
    exact g.elim
  | n + 1, 0, A, js, B, C, h, g => by
    obtain ⟨rfl, rfl⟩ := g
    exact h.elim
  | n + 1, k + 1, A, [], B, C, h, g => h.elim
  | n + 1, k + 1, A, j :: t, B, C, h, g => y_go.det h.2 g.2
def rg_work (A : y_A) (js : List y_J) : Prop := ∃ A', y_to A js A' []
noncomputable def rf_work (A : y_A) (js : List y_J) : y_A × List y_J := (Classical.epsilon (fun A' => y_to A js A' []), [])
theorem rf_work_eq {A A' : y_A} {js : List y_J} (h : y_to A js A' []) : rf_work A js = (A', []) := by
  have e : y_to A js (Classical.epsilon (fun A' => y_to A js A' [])) [] := Classical.epsilon_spec (p := fun A' => y_to A js A' []) ⟨A', h⟩
  unfold rf_work
  rw [y_go.det e.choose_spec h.choose_spec]
theorem rh_workf {d : Nat} (hd : 6 ≤ d) {A : y_A} {js : List y_J} (h : rg_work A js) : rc d 132 [.inr (some (11, 0))] A js (y_V (rf_work A js)) := by
  obtain ⟨A', h⟩ := h
  rw [rf_work_eq h]
  exact rh_work hd h
end
