/-! ===== THE JOB TAKEN of the reference, case by case (printed by wip/whole/gen92.py) ===== -/
section
def kJt (a1 a2 : Int32) (js : List y_J) : List y_J := if a2 ≤ a1 + 1 then js else ((4 : Int32), a1 + 1, a2, (0 : Int32), (0 : Int32)) :: js
theorem k_tk_none {A : y_A} {js : List y_J} {a1 a2 : Int32} {k : Nat} (hy : y_in a1 4400) (hk : A 81 (y_ix a1) = nI k) (hkb : k < 4400) (hlen : js.length + 2 ≤ 20000) (h65 : ¬ 0 ≤ A 65 k) : rf_takenBack a1 a2 A js = (A, kJt a1 a2 js) ∧ rg_takenBack a1 a2 A js := by
  have hix : y_ix (nI k) = k := y_ix_nI (by omega)
  have yk : y_in (nI k) 4400 := y_in_nI hkb (by decide)
  unfold kJt
  by_cases c : a2 ≤ a1 + 1
  · refine ⟨?_, ?_⟩
    · unfold rf_takenBack
      rw [if_pos c, hk, hix, if_neg h65, if_pos c]
    · unfold rg_takenBack
      rw [hk, hix]
      exact ⟨fun _ => ⟨hy, yk, ⟨fun z => absurd z h65, fun _ => trivial⟩⟩, fun z => absurd c z⟩
  · refine ⟨?_, ?_⟩
    · unfold rf_takenBack
      rw [if_neg c, hk, hix, if_neg h65, if_neg c]
    · unfold rg_takenBack
      rw [hk, hix]
      exact ⟨fun z => absurd z c, fun _ => ⟨by omega, hy, yk, ⟨fun z => absurd z h65, fun _ => trivial⟩⟩⟩
theorem k_tk_plain {A : y_A} {js : List y_J} {a1 a2 : Int32} {k : Nat} (hy : y_in a1 4400) (hk : A 81 (y_ix a1) = nI k) (hkb : k < 4400) (hlen : js.length + 2 ≤ 20000) (h65 : 0 ≤ A 65 k) (h79 : A 79 k = 0) (h77 : A 77 k = 0) (h75 : A 75 k = 0) (h78 : A 78 k = 0) : rf_takenBack a1 a2 A js = (A, kJt a1 a2 js) ∧ rg_takenBack a1 a2 A js := by
  have hix : y_ix (nI k) = k := y_ix_nI (by omega)
  have yk : y_in (nI k) 4400 := y_in_nI hkb (by decide)
  unfold kJt
  by_cases c : a2 ≤ a1 + 1
  · refine ⟨?_, ?_⟩
    · unfold rf_takenBack
      rw [if_pos c, hk, hix, if_pos h65, if_pos h79, if_pos h77, if_pos h75, if_pos h78, if_pos c]
    · unfold rg_takenBack
      rw [hk, hix]
      exact ⟨fun _ => ⟨hy, yk, ⟨fun _ => ⟨fun _ => ⟨fun _ => ⟨fun _ => ⟨fun _ => trivial, fun z => absurd h78 z⟩, fun z => absurd h75 z⟩, fun z => absurd h77 z⟩, fun z => absurd h79 z⟩, fun z => absurd h65 z⟩⟩, fun z => absurd c z⟩
  · refine ⟨?_, ?_⟩
    · unfold rf_takenBack
      rw [if_neg c, hk, hix, if_pos h65, if_pos h79, if_pos h77, if_pos h75, if_pos h78, if_neg c]
    · unfold rg_takenBack
      rw [hk, hix]
      exact ⟨fun z => absurd z c, fun _ => ⟨by omega, hy, yk, ⟨fun _ => ⟨fun _ => ⟨fun _ => ⟨fun _ => ⟨fun _ => trivial, fun z => absurd h78 z⟩, fun z => absurd h75 z⟩, fun z => absurd h77 z⟩, fun z => absurd h79 z⟩, fun z => absurd h65 z⟩⟩⟩
theorem k_tk_lead {A : y_A} {js : List y_J} {a1 a2 : Int32} {k : Nat} (hy : y_in a1 4400) (hk : A 81 (y_ix a1) = nI k) (hkb : k < 4400) (hlen : js.length + 2 ≤ 20000) (h65 : 0 ≤ A 65 k) (h79 : A 79 k = 0) (h77 : A 77 k = 0) (h75 : A 75 k = 0) (h78 : ¬ A 78 k = 0) : rf_takenBack a1 a2 A js = (A, ((5 : Int32), nI k, (-1 : Int32), (0 : Int32), (0 : Int32)) :: kJt a1 a2 js) ∧ rg_takenBack a1 a2 A js := by
  have hix : y_ix (nI k) = k := y_ix_nI (by omega)
  have yk : y_in (nI k) 4400 := y_in_nI hkb (by decide)
  unfold kJt
  by_cases c : a2 ≤ a1 + 1
  · refine ⟨?_, ?_⟩
    · unfold rf_takenBack
      rw [if_pos c, hk, hix, if_pos h65, if_pos h79, if_pos h77, if_pos h75, if_neg h78, if_pos c]
    · unfold rg_takenBack
      rw [hk, hix]
      exact ⟨fun _ => ⟨hy, yk, ⟨fun _ => ⟨fun _ => ⟨fun _ => ⟨fun _ => ⟨fun z => absurd z h78, fun _ => ⟨(by omega), trivial⟩⟩, fun z => absurd h75 z⟩, fun z => absurd h77 z⟩, fun z => absurd h79 z⟩, fun z => absurd h65 z⟩⟩, fun z => absurd c z⟩
  · refine ⟨?_, ?_⟩
    · unfold rf_takenBack
      rw [if_neg c, hk, hix, if_pos h65, if_pos h79, if_pos h77, if_pos h75, if_neg h78, if_neg c]
    · unfold rg_takenBack
      rw [hk, hix]
      exact ⟨fun z => absurd z c, fun _ => ⟨by omega, hy, yk, ⟨fun _ => ⟨fun _ => ⟨fun _ => ⟨fun _ => ⟨fun z => absurd z h78, fun _ => ⟨(by rw [List.length_cons]; omega), trivial⟩⟩, fun z => absurd h75 z⟩, fun z => absurd h77 z⟩, fun z => absurd h79 z⟩, fun z => absurd h65 z⟩⟩⟩
theorem k_tk_work {A : y_A} {js : List y_J} {a1 a2 : Int32} {k : Nat} (hy : y_in a1 4400) (hk : A 81 (y_ix a1) = nI k) (hkb : k < 4400) (hlen : js.length + 2 ≤ 20000) {g : Nat} (hg : g < 24) (hG : A 65 k = nI g) (h79 : A 79 k = 0) (h77 : ¬ A 77 k = 0) (h75 : A 75 k = 0) (h78 : A 78 k = 0) : rf_takenBack a1 a2 A js = (xm_u2 (xm_u2 A 77 k 0) 39 g (A 39 g - 1), kJt a1 a2 js) ∧ rg_takenBack a1 a2 A js := by
  have hix : y_ix (nI k) = k := y_ix_nI (by omega)
  have yk : y_in (nI k) 4400 := y_in_nI hkb (by decide)
  have hgx : y_ix (nI g) = g := y_ix_nI (by omega)
  have yg : y_in (nI g) 24 := y_in_nI hg (by decide)
  have h65 : (0 : Int32) ≤ nI g := nI_pos' (by omega)
  unfold kJt
  by_cases c : a2 ≤ a1 + 1
  · refine ⟨?_, ?_⟩
    · unfold rf_takenBack
      rw [if_pos c, hk, hix, hG, hgx, if_pos h65, if_pos h79, if_neg h77, if_pos h75, if_pos h78, if_pos c]
    · unfold rg_takenBack
      rw [hk, hix, hG, hgx]
      exact ⟨fun _ => ⟨hy, yk, ⟨fun _ => ⟨fun _ => ⟨fun z => absurd z h77, fun _ => ⟨yg, fun _ => ⟨fun _ => trivial, fun z => absurd h78 z⟩, fun z => absurd h75 z⟩⟩, fun z => absurd h79 z⟩, fun z => absurd h65 z⟩⟩, fun z => absurd c z⟩
  · refine ⟨?_, ?_⟩
    · unfold rf_takenBack
      rw [if_neg c, hk, hix, hG, hgx, if_pos h65, if_pos h79, if_neg h77, if_pos h75, if_pos h78, if_neg c]
    · unfold rg_takenBack
      rw [hk, hix, hG, hgx]
      exact ⟨fun z => absurd z c, fun _ => ⟨by omega, hy, yk, ⟨fun _ => ⟨fun _ => ⟨fun z => absurd z h77, fun _ => ⟨yg, fun _ => ⟨fun _ => trivial, fun z => absurd h78 z⟩, fun z => absurd h75 z⟩⟩, fun z => absurd h79 z⟩, fun z => absurd h65 z⟩⟩⟩
theorem k_tk_trial {A : y_A} {js : List y_J} {a1 a2 : Int32} {k : Nat} (hy : y_in a1 4400) (hk : A 81 (y_ix a1) = nI k) (hkb : k < 4400) (hlen : js.length + 2 ≤ 20000) {g : Nat} (hg : g < 24) (hG : A 65 k = nI g) (h79 : ¬ A 79 k = 0) (h77 : A 77 k = 0) (h75 : A 75 k = 0) (h78 : A 78 k = 0) : rf_takenBack a1 a2 A js = (xm_u2 (xm_u2 A 36 g 1) 38 g (A 0 0), kJt a1 a2 js) ∧ rg_takenBack a1 a2 A js := by
  have hix : y_ix (nI k) = k := y_ix_nI (by omega)
  have yk : y_in (nI k) 4400 := y_in_nI hkb (by decide)
  have hgx : y_ix (nI g) = g := y_ix_nI (by omega)
  have yg : y_in (nI g) 24 := y_in_nI hg (by decide)
  have h65 : (0 : Int32) ≤ nI g := nI_pos' (by omega)
  unfold kJt
  by_cases c : a2 ≤ a1 + 1
  · refine ⟨?_, ?_⟩
    · unfold rf_takenBack
      rw [if_pos c, hk, hix, hG, hgx, if_pos h65, if_neg h79, if_pos h77, if_pos h75, if_pos h78, if_pos c]
    · unfold rg_takenBack
      rw [hk, hix, hG, hgx]
      exact ⟨fun _ => ⟨hy, yk, ⟨fun _ => ⟨fun z => absurd z h79, fun _ => ⟨⟨yg, trivial⟩, fun _ => ⟨fun _ => ⟨fun _ => trivial, fun z => absurd h78 z⟩, fun z => absurd h75 z⟩, fun z => absurd h77 z⟩⟩, fun z => absurd h65 z⟩⟩, fun z => absurd c z⟩
  · refine ⟨?_, ?_⟩
    · unfold rf_takenBack
      rw [if_neg c, hk, hix, hG, hgx, if_pos h65, if_neg h79, if_pos h77, if_pos h75, if_pos h78, if_neg c]
    · unfold rg_takenBack
      rw [hk, hix, hG, hgx]
      exact ⟨fun z => absurd z c, fun _ => ⟨by omega, hy, yk, ⟨fun _ => ⟨fun z => absurd z h79, fun _ => ⟨⟨yg, trivial⟩, fun _ => ⟨fun _ => ⟨fun _ => trivial, fun z => absurd h78 z⟩, fun z => absurd h75 z⟩, fun z => absurd h77 z⟩⟩, fun z => absurd h65 z⟩⟩⟩
theorem k_tk_wait {A : y_A} {js : List y_J} {a1 a2 : Int32} {k : Nat} (hy : y_in a1 4400) (hk : A 81 (y_ix a1) = nI k) (hkb : k < 4400) (hlen : js.length + 2 ≤ 20000) {g m wt : Nat} (hg : g < 24) (hG : A 65 k = nI g) (h79 : A 79 k = 0) (h77 : A 77 k = 0) (h75 : ¬ A 75 k = 0) (h78 : A 78 k = 0) (hm : m < 10) (hwb : wt ≤ 10) (hmw : m < wt) (h40 : A 40 g = nI wt) (hat : A 43 (10 * g + m) = nI k) (hbe : ∀ i, i < m → ∃ e, e < 2 ^ 31 ∧ e ≠ k ∧ A 43 (10 * g + i) = nI e) : ∃ A', rf_takenBack a1 a2 A js = (A', kJt a1 a2 js) ∧ rg_takenBack a1 a2 A js ∧ ∀ x e, A' x e = if x = 40 ∧ e = g then nI (wt - 1) else if x = 43 ∧ 10 * g + m ≤ e ∧ e + 1 < 10 * g + wt then A 43 (e + 1) else if x = 75 ∧ e = k then 0 else A x e := by
  have hix : y_ix (nI k) = k := y_ix_nI (by omega)
  have yk : y_in (nI k) 4400 := y_in_nI hkb (by decide)
  have hgx : y_ix (nI g) = g := y_ix_nI (by omega)
  have yg : y_in (nI g) 24 := y_in_nI hg (by decide)
  have h65 : (0 : Int32) ≤ nI g := nI_pos' (by omega)
  obtain ⟨g1, g2⟩ := k_104 (A := xm_u2 A 75 k 0) (a1 := a1) (a2 := a2) hg hm (by omega) hat hbe m 0 20000 (by omega) (by omega)
  rw [show nI 0 = (0 : Int32) from rfl] at g1 g2
  obtain ⟨s1, s2⟩ := k_131 (a1 := a1) (a2 := a2) (l3 := nI k) (l5 := nI m) hg hwb (wt - 1 - m) m 20000 (xm_u2 A 75 k 0) (by omega) (by omega) h40
  have s78 : (rf_takenBack_131 20000 a1 a2 (nI k) (nI g) (nI m) (nI m) (xm_u2 A 75 k 0)).2 78 k = 0 := by rw [s2, if_neg (by omega)]; exact h78
  have s40 : (rf_takenBack_131 20000 a1 a2 (nI k) (nI g) (nI m) (nI m) (xm_u2 A 75 k 0)).2 40 g = nI wt := by rw [s2, if_neg (by omega)]; exact h40
  refine ⟨xm_u2 (rf_takenBack_131 20000 a1 a2 (nI k) (nI g) (nI m) (nI m) (xm_u2 A 75 k 0)).2 40 g (nI wt - 1), ?_, ?_, fun x e => ?_⟩
  · unfold kJt rf_takenBack
    by_cases c : a2 ≤ a1 + 1
    · rw [if_pos c, hk, hix, hG, hgx, if_pos h65, if_pos h79, if_pos h77, if_neg h75, g2, if_pos s78, s40, if_pos c]
    · rw [if_neg c, hk, hix, hG, hgx, if_pos h65, if_pos h79, if_pos h77, if_neg h75, g2, if_pos s78, s40, if_neg c]
  · unfold rg_takenBack
    rw [hk, hix, hG, g2]
    refine ⟨fun c => ⟨hy, yk, fun _ => ⟨fun _ => ⟨fun _ => ⟨fun z => absurd z h75, fun _ => ⟨g1, s1, yg, fun _ => trivial, fun z => absurd s78 z⟩⟩, fun z => absurd h77 z⟩, fun z => absurd h79 z⟩, fun z => absurd h65 z⟩, fun c => ⟨by omega, hy, yk, fun _ => ⟨fun _ => ⟨fun _ => ⟨fun z => absurd z h75, fun _ => ⟨g1, s1, yg, fun _ => trivial, fun z => absurd s78 z⟩⟩, fun z => absurd h77 z⟩, fun z => absurd h79 z⟩, fun z => absurd h65 z⟩⟩
  · by_cases e1 : x = 40 ∧ e = g
    · rw [if_pos e1, e1.1, e1.2, y_same]
      obtain ⟨v, rfl⟩ : ∃ v, wt = v + 1 := ⟨wt - 1, by omega⟩
      rw [nI_pred]
      rfl
    · rw [if_neg e1, y_off e1, s2]
      by_cases e2 : x = 43 ∧ 10 * g + m ≤ e ∧ e + 1 < 10 * g + wt
      · rw [if_pos e2, if_pos e2]
        rfl
      · rw [if_neg e2, if_neg e2]
        rfl
end
