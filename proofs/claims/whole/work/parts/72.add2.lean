/-! ===== FAULT, SLOW, ALARM, PLAN (printed by wip/whole/gen72.py) ===== -/
section
theorem xi_sr {S : xm_S} {c k j : Nat} {x : Option Nat} {p q r : Nat} : xm_i (xm_sr S c k j x) p q r = xm_i S p q r := rfl
theorem xr_si {S : xm_S} {c k j : Nat} {x : Int32} {p q r : Nat} : xm_r (xm_si S c k j x) p q r = xm_r S p q r := rfl
theorem k_at {a : Int32} {n : Nat} (h1 : ¬ a < 0) (h2 : ¬ nI n ≤ a) (hn : n < 2 ^ 31) : y_in a n ∧ y_ix a < n ∧ a = nI (y_ix a) := by
  rcases k_idx a hn with z | ⟨_, z, _⟩ | ⟨j, hj, rfl⟩
  · exact absurd z h1
  · exact absurd z h2
  · rw [y_ix_nI (by omega)]
    exact ⟨y_in_nI hj hn, hj, rfl⟩
theorem k_full {n m : Nat} (h : n ≤ m) (hm : m < 2 ^ 31) : (nI n = nI m) = ¬ (nI n < nI m) := by
  apply propext
  by_cases e : n = m
  · subst e
    exact ⟨fun _ => nI_nlt (Nat.le_refl _) hm, fun _ => rfl⟩
  · exact ⟨fun z => absurd ((nI_eq (by omega) hm).mp z) e, fun z => absurd (nI_lt (by omega) hm) z⟩
theorem k_le (a b : Int32) : (a ≤ b) = ¬ (b < a) := propext Int32.not_lt.symm
theorem k_newFault {d : Nat} {S : xm_S} {A : y_A} {t : Nat} {j : Nat} {ac fr to sz : Int32} (hK : kK S A t) (hlt : xm_n S 1 1 < 30) (hj : j < xm_n S 1 0) (hsz : 1 ≤ sz ∧ sz ≤ 7) : xc d 106 [.inr (some (8, xm_n S 0 8)), .inr (some (9, j)), .inl ac, .inl fr, .inl to, .inl sz] (xm_mk 8 5 S) (fun r S13 => r = none ∧ xk_C S13 ∧ ((xm_n S13 2 1 ≠ 0 ∧ xm_n S13 1 1 < 100000 ∧ (∀ S17, S17 = xm_push 1 (8, xm_n S 0 8) S13 → xm_n S17 1 1 = xm_n S 1 1 + 1 ∧ kK S17 (xm_u2 (xm_u2 (xm_u2 (xm_u2 (xm_u2 (xm_u2 A 6 (xm_n S 1 1) (nI j)) 7 (xm_n S 1 1) ac) 8 (xm_n S 1 1) fr) 9 (xm_n S 1 1) to) 10 (xm_n S 1 1) sz) 5 0 (nI (xm_n S 1 1 + 1))) t)))) := by
  have hKK := hK
  obtain ⟨⟨⟨⟨hC, hcnt, hb, hl, ht, hv, h1, h2, h3, -⟩, -⟩, -⟩, ⟨-, -, -, hO, hcap, -, -, -, -, -, -, -, -, hpln, htm, htb, -⟩⟩ := hK
  have hbb := hb
  unfold k_bnd at hbb
  have ho12 := hO.2.2.2.2.2.2.2.2.2.2.2.1
  obtain ⟨w1, w2, w3, w4, w5, w6, w7, w8, w9, w10, w11⟩ := hcnt
  refine cw_newSpan (S := xm_mk 8 5 S) hC ?_
  intro S1 e1 S3 e3 S5 e5 S7 e7 S9 e9
  have n : kN S S9 8 5 := by
    subst e1 e3 e5 e7 e9
    exact ((((((kN.mk S 8 5).sr 0 _).si 1 _).si 2 _).si 3 _).si 4 _)
  have r0 : xm_r S9 8 (xm_n S 0 8) 0 = some j := by
    subst e1 e3 e5 e7 e9
    exact (xr_si.trans (xr_si.trans (xr_si.trans (xr_si.trans xr_same))))
  have i1 : xm_i S9 8 (xm_n S 0 8) 1 = ac := by
    subst e1 e3 e5 e7 e9
    exact ((xi_si (by decide)).trans ((xi_si (by decide)).trans ((xi_si (by decide)).trans xi_same)))
  have i2 : xm_i S9 8 (xm_n S 0 8) 2 = fr := by
    subst e1 e3 e5 e7 e9
    exact ((xi_si (by decide)).trans ((xi_si (by decide)).trans xi_same))
  have i3 : xm_i S9 8 (xm_n S 0 8) 3 = to := by
    subst e1 e3 e5 e7 e9
    exact ((xi_si (by decide)).trans xi_same)
  have i4 : xm_i S9 8 (xm_n S 0 8) 4 = sz := by
    subst e1 e3 e5 e7 e9
    exact xi_same
  have hC7 : xk_C S9 := by
    subst e1 e3 e5 e7 e9
    exact hC
  have n1 : xm_n S9 1 1 = xm_n S 1 1 := by
    subst e1 e3 e5 e7 e9
    rfl
  have n2 : xm_n S9 2 1 = xm_n S 2 1 := by
    subst e1 e3 e5 e7 e9
    rfl
  have pl7 : k_pln S9 A t 5000 := by
    subst e1 e3 e5 e7 e9
    exact hpln
  have h20 : xm_n S 2 1 ≠ 0 := hcap.1 1 (by omega)
  refine ⟨rfl, hC7, by rw [n2]; exact h20, by rw [n1]; omega, fun S16 e16 => ?_⟩
  clear e1 e3 e5 e7 e9
  obtain ⟨c2', c100, c101, b, ep, hc2, hcp⟩ := xm_push_x S9 1 (8, xm_n S 0 8) (by rw [n2]; exact h20)
  rw [ep] at e16
  subst e16
  rw [n1, n2] at hcp
  have pp := n.psh (l := 1) (by decide) (8, xm_n S 0 8) c2' c100 c101 b
  have p1 := pp.1
  have q0 : xm_n (xk_psh S9 1 (8, xm_n S 0 8) c2' c100 c101 b) 1 1 = xm_n S 1 1 + 1 := by rw [p1, if_pos rfl]
  refine ⟨q0, ?_⟩
  refine kK.add (m := 30) hKK n (Or.inr (Or.inl ⟨rfl, rfl, rfl⟩)) hlt hc2 hcp (fun x k hk => ?_) ?_ (fun z => absurd z (by decide)) (fun z => absurd z (by decide)) (fun z => absurd z (by decide)) (fun _ => ?_) (fun z => absurd z (by decide)) ?_
  · unfold kOld at hk
    unfold xm_u2
    rw [if_neg (by omega), if_neg (by omega), if_neg (by omega), if_neg (by omega), if_neg (by omega), if_neg (by omega)]
  · unfold k_cnt
    simp only [p1]
    refine ⟨w1, ?_, w3, w4, w5, w6, w7, w8, w9, w10, w11⟩
    exact y_same _ _ _ _
  · refine ⟨xm_n S 0 8, ?_, ?_, ⟨j, r0, ?_, ?_⟩, ?_, ?_, ?_, ?_⟩
    · show xm_u2 (xm_l S9) 1 (xm_n S9 1 1) _ 1 (xm_n S 1 1) = _
      rw [n1]
      exact if_pos ⟨rfl, rfl⟩
    · rw [pp.2.2.1 8 (by decide), if_pos rfl]
      omega
    · rw [p1, if_neg (by decide)]
      exact hj
    · exact (show ((nI j) : Int32) = (xm_u2 A 6 (xm_n S 1 1) (nI j)) 6 (xm_n S 1 1) from (y_same _ _ _ _).symm).symm
    · exact i1.trans (show (ac : Int32) = (xm_u2 (xm_u2 A 6 (xm_n S 1 1) (nI j)) 7 (xm_n S 1 1) ac) 7 (xm_n S 1 1) from (y_same _ _ _ _).symm)
    · exact i2.trans (show (fr : Int32) = (xm_u2 (xm_u2 (xm_u2 A 6 (xm_n S 1 1) (nI j)) 7 (xm_n S 1 1) ac) 8 (xm_n S 1 1) fr) 8 (xm_n S 1 1) from (y_same _ _ _ _).symm)
    · exact i3.trans (show (to : Int32) = (xm_u2 (xm_u2 (xm_u2 (xm_u2 A 6 (xm_n S 1 1) (nI j)) 7 (xm_n S 1 1) ac) 8 (xm_n S 1 1) fr) 9 (xm_n S 1 1) to) 9 (xm_n S 1 1) from (y_same _ _ _ _).symm)
    · exact i4.trans (show (sz : Int32) = (xm_u2 (xm_u2 (xm_u2 (xm_u2 (xm_u2 A 6 (xm_n S 1 1) (nI j)) 7 (xm_n S 1 1) ac) 8 (xm_n S 1 1) fr) 9 (xm_n S 1 1) to) 10 (xm_n S 1 1) sz) 10 (xm_n S 1 1) from (y_same _ _ _ _).symm)
  · obtain ⟨⟨v1, v2, v3, v4, v5⟩, v6⟩ := pl7
    refine ⟨⟨v1, fun k hk => ?_, v3, v4, v5⟩, v6⟩
    rw [p1, if_pos rfl] at hk
    by_cases e : k = (xm_n S 1 1)
    · subst e
      have e : (xm_u2 (xm_u2 (xm_u2 (xm_u2 (xm_u2 A 6 (xm_n S 1 1) (nI j)) 7 (xm_n S 1 1) ac) 8 (xm_n S 1 1) fr) 9 (xm_n S 1 1) to) 10 (xm_n S 1 1) sz) 10 (xm_n S 1 1) = sz := y_same _ _ _ _
      show 1 ≤ (xm_u2 (xm_u2 (xm_u2 (xm_u2 (xm_u2 A 6 (xm_n S 1 1) (nI j)) 7 (xm_n S 1 1) ac) 8 (xm_n S 1 1) fr) 9 (xm_n S 1 1) to) 10 (xm_n S 1 1) sz) 10 (xm_n S 1 1) ∧ (xm_u2 (xm_u2 (xm_u2 (xm_u2 (xm_u2 A 6 (xm_n S 1 1) (nI j)) 7 (xm_n S 1 1) ac) 8 (xm_n S 1 1) fr) 9 (xm_n S 1 1) to) 10 (xm_n S 1 1) sz) 10 (xm_n S 1 1) ≤ 7
      rw [e]
      exact hsz
    · have hv := v2 k (by rw [n1]; omega)
      unfold xm_u2
      rw [if_neg (by omega), if_neg (by omega), if_neg (by omega), if_neg (by omega), if_neg (by omega), if_neg (by omega)]
      exact hv
theorem k_newSlow {d : Nat} {S : xm_S} {A : y_A} {t : Nat} {j : Nat} {ac fr to sz : Int32} (hK : kK S A t) (hlt : xm_n S 1 2 < 30) (hj : j < xm_n S 1 0) (hsz : 1 ≤ sz ∧ sz ≤ 1000) : xc d 106 [.inr (some (8, xm_n S 0 8)), .inr (some (9, j)), .inl ac, .inl fr, .inl to, .inl sz] (xm_mk 8 5 S) (fun r S13 => r = none ∧ xk_C S13 ∧ ((xm_n S13 2 2 ≠ 0 ∧ xm_n S13 1 2 < 100000 ∧ (∀ S17, S17 = xm_push 2 (8, xm_n S 0 8) S13 → xm_n S17 1 2 = xm_n S 1 2 + 1 ∧ kK S17 (xm_u2 (xm_u2 (xm_u2 (xm_u2 (xm_u2 (xm_u2 A 12 (xm_n S 1 2) (nI j)) 13 (xm_n S 1 2) ac) 14 (xm_n S 1 2) fr) 15 (xm_n S 1 2) to) 16 (xm_n S 1 2) sz) 11 0 (nI (xm_n S 1 2 + 1))) t)))) := by
  have hKK := hK
  obtain ⟨⟨⟨⟨hC, hcnt, hb, hl, ht, hv, h1, h2, h3, -⟩, -⟩, -⟩, ⟨-, -, -, hO, hcap, -, -, -, -, -, -, -, -, hpln, htm, htb, -⟩⟩ := hK
  have hbb := hb
  unfold k_bnd at hbb
  have ho12 := hO.2.2.2.2.2.2.2.2.2.2.2.1
  obtain ⟨w1, w2, w3, w4, w5, w6, w7, w8, w9, w10, w11⟩ := hcnt
  refine cw_newSpan (S := xm_mk 8 5 S) hC ?_
  intro S1 e1 S3 e3 S5 e5 S7 e7 S9 e9
  have n : kN S S9 8 5 := by
    subst e1 e3 e5 e7 e9
    exact ((((((kN.mk S 8 5).sr 0 _).si 1 _).si 2 _).si 3 _).si 4 _)
  have r0 : xm_r S9 8 (xm_n S 0 8) 0 = some j := by
    subst e1 e3 e5 e7 e9
    exact (xr_si.trans (xr_si.trans (xr_si.trans (xr_si.trans xr_same))))
  have i1 : xm_i S9 8 (xm_n S 0 8) 1 = ac := by
    subst e1 e3 e5 e7 e9
    exact ((xi_si (by decide)).trans ((xi_si (by decide)).trans ((xi_si (by decide)).trans xi_same)))
  have i2 : xm_i S9 8 (xm_n S 0 8) 2 = fr := by
    subst e1 e3 e5 e7 e9
    exact ((xi_si (by decide)).trans ((xi_si (by decide)).trans xi_same))
  have i3 : xm_i S9 8 (xm_n S 0 8) 3 = to := by
    subst e1 e3 e5 e7 e9
    exact ((xi_si (by decide)).trans xi_same)
  have i4 : xm_i S9 8 (xm_n S 0 8) 4 = sz := by
    subst e1 e3 e5 e7 e9
    exact xi_same
  have hC7 : xk_C S9 := by
    subst e1 e3 e5 e7 e9
    exact hC
  have n1 : xm_n S9 1 2 = xm_n S 1 2 := by
    subst e1 e3 e5 e7 e9
    rfl
  have n2 : xm_n S9 2 2 = xm_n S 2 2 := by
    subst e1 e3 e5 e7 e9
    rfl
  have pl7 : k_pln S9 A t 5000 := by
    subst e1 e3 e5 e7 e9
    exact hpln
  have h20 : xm_n S 2 2 ≠ 0 := hcap.1 2 (by omega)
  refine ⟨rfl, hC7, by rw [n2]; exact h20, by rw [n1]; omega, fun S16 e16 => ?_⟩
  clear e1 e3 e5 e7 e9
  obtain ⟨c2', c100, c101, b, ep, hc2, hcp⟩ := xm_push_x S9 2 (8, xm_n S 0 8) (by rw [n2]; exact h20)
  rw [ep] at e16
  subst e16
  rw [n1, n2] at hcp
  have pp := n.psh (l := 2) (by decide) (8, xm_n S 0 8) c2' c100 c101 b
  have p1 := pp.1
  have q0 : xm_n (xk_psh S9 2 (8, xm_n S 0 8) c2' c100 c101 b) 1 2 = xm_n S 1 2 + 1 := by rw [p1, if_pos rfl]
  refine ⟨q0, ?_⟩
  refine kK.add (m := 30) hKK n (Or.inr (Or.inr (Or.inl ⟨rfl, rfl, rfl⟩))) hlt hc2 hcp (fun x k hk => ?_) ?_ (fun z => absurd z (by decide)) (fun z => absurd z (by decide)) (fun z => absurd z (by decide)) (fun z => absurd z (by decide)) (fun _ => ?_) ?_
  · unfold kOld at hk
    unfold xm_u2
    rw [if_neg (by omega), if_neg (by omega), if_neg (by omega), if_neg (by omega), if_neg (by omega), if_neg (by omega)]
  · unfold k_cnt
    simp only [p1]
    refine ⟨w1, w2, ?_, w4, w5, w6, w7, w8, w9, w10, w11⟩
    exact y_same _ _ _ _
  · refine ⟨xm_n S 0 8, ?_, ?_, ⟨j, r0, ?_, ?_⟩, ?_, ?_, ?_, ?_⟩
    · show xm_u2 (xm_l S9) 2 (xm_n S9 1 2) _ 2 (xm_n S 1 2) = _
      rw [n1]
      exact if_pos ⟨rfl, rfl⟩
    · rw [pp.2.2.1 8 (by decide), if_pos rfl]
      omega
    · rw [p1, if_neg (by decide)]
      exact hj
    · exact (show ((nI j) : Int32) = (xm_u2 A 12 (xm_n S 1 2) (nI j)) 12 (xm_n S 1 2) from (y_same _ _ _ _).symm).symm
    · exact i1.trans (show (ac : Int32) = (xm_u2 (xm_u2 A 12 (xm_n S 1 2) (nI j)) 13 (xm_n S 1 2) ac) 13 (xm_n S 1 2) from (y_same _ _ _ _).symm)
    · exact i2.trans (show (fr : Int32) = (xm_u2 (xm_u2 (xm_u2 A 12 (xm_n S 1 2) (nI j)) 13 (xm_n S 1 2) ac) 14 (xm_n S 1 2) fr) 14 (xm_n S 1 2) from (y_same _ _ _ _).symm)
    · exact i3.trans (show (to : Int32) = (xm_u2 (xm_u2 (xm_u2 (xm_u2 A 12 (xm_n S 1 2) (nI j)) 13 (xm_n S 1 2) ac) 14 (xm_n S 1 2) fr) 15 (xm_n S 1 2) to) 15 (xm_n S 1 2) from (y_same _ _ _ _).symm)
    · exact i4.trans (show (sz : Int32) = (xm_u2 (xm_u2 (xm_u2 (xm_u2 (xm_u2 A 12 (xm_n S 1 2) (nI j)) 13 (xm_n S 1 2) ac) 14 (xm_n S 1 2) fr) 15 (xm_n S 1 2) to) 16 (xm_n S 1 2) sz) 16 (xm_n S 1 2) from (y_same _ _ _ _).symm)
  · obtain ⟨⟨v1, v2, v3, v4, v5⟩, v6⟩ := pl7
    refine ⟨⟨v1, v2, fun k hk => ?_, v4, v5⟩, v6⟩
    rw [p1, if_pos rfl] at hk
    by_cases e : k = (xm_n S 1 2)
    · subst e
      have e : (xm_u2 (xm_u2 (xm_u2 (xm_u2 (xm_u2 A 12 (xm_n S 1 2) (nI j)) 13 (xm_n S 1 2) ac) 14 (xm_n S 1 2) fr) 15 (xm_n S 1 2) to) 16 (xm_n S 1 2) sz) 16 (xm_n S 1 2) = sz := y_same _ _ _ _
      show 1 ≤ (xm_u2 (xm_u2 (xm_u2 (xm_u2 (xm_u2 A 12 (xm_n S 1 2) (nI j)) 13 (xm_n S 1 2) ac) 14 (xm_n S 1 2) fr) 15 (xm_n S 1 2) to) 16 (xm_n S 1 2) sz) 16 (xm_n S 1 2) ∧ (xm_u2 (xm_u2 (xm_u2 (xm_u2 (xm_u2 A 12 (xm_n S 1 2) (nI j)) 13 (xm_n S 1 2) ac) 14 (xm_n S 1 2) fr) 15 (xm_n S 1 2) to) 16 (xm_n S 1 2) sz) 16 (xm_n S 1 2) ≤ 1000
      rw [e]
      exact hsz
    · have hv := v3 k (by rw [n1]; omega)
      unfold xm_u2
      rw [if_neg (by omega), if_neg (by omega), if_neg (by omega), if_neg (by omega), if_neg (by omega), if_neg (by omega)]
      exact hv
theorem k_newAlarm {d : Nat} {S : xm_S} {A : y_A} {t : Nat} {a1 a2 a3 : Int32} (hK : kK S A t) (hlt : xm_n S 1 11 < 10) (hz0 : a1 = 0 → ∃ g, a2 = nI g ∧ g < xm_n S 1 3) (hz1 : a1 = 1 → ∃ s, a2 = nI s ∧ s < xm_n S 1 0) (hz2 : a1 = 2 → ∃ g, a2 = nI g ∧ g < xm_n S 1 3) (hz : a1 = 0 ∨ a1 = 1 ∨ a1 = 2 ∨ a1 = 3) : xc d 92 [.inr (some (1, xm_n S 0 1)), .inl a1, .inl a2, .inl a3] (xm_mk 1 6 S) (fun r S13 => r = none ∧ xk_C S13 ∧ ((xm_n S13 2 11 ≠ 0 ∧ xm_n S13 1 11 < 100000 ∧ (∀ S17, S17 = xm_push 11 (1, xm_n S 0 1) S13 → xm_n S17 1 11 = xm_n S 1 11 + 1 ∧ kK S17 (xm_u2 (xm_u2 (xm_u2 (xm_u2 (xm_u2 (xm_u2 (xm_u2 A 104 (xm_n S 1 11) a1) 105 (xm_n S 1 11) a2) 106 (xm_n S 1 11) a3) 107 (xm_n S 1 11) 0) 108 (xm_n S 1 11) (-1)) 109 (xm_n S 1 11) 0) 103 0 (nI (xm_n S 1 11 + 1))) t)))) := by
  have hKK := hK
  obtain ⟨⟨⟨⟨hC, hcnt, hb, hl, ht, hv, h1, h2, h3, -⟩, -⟩, -⟩, ⟨-, -, -, hO, hcap, -, -, -, -, -, -, -, -, hpln, htm, htb, -⟩⟩ := hK
  have hbb := hb
  unfold k_bnd at hbb
  have ho12 := hO.2.2.2.2.2.2.2.2.2.2.2.1
  obtain ⟨w1, w2, w3, w4, w5, w6, w7, w8, w9, w10, w11⟩ := hcnt
  refine cw_newAlarm (S := xm_mk 1 6 S) hC ?_
  intro S1 e1 S3 e3 S5 e5 S7 e7 S9 e9 S11 e11
  have n : kN S S11 1 6 := by
    subst e1 e3 e5 e7 e9 e11
    exact (((((((kN.mk S 1 6).si 3 _).si 4 _).si 5 _).si 0 _).si 1 _).si 2 _)
  have i0 : xm_i S11 1 (xm_n S 0 1) 0 = a1 := by
    subst e1 e3 e5 e7 e9 e11
    exact ((xi_si (by decide)).trans ((xi_si (by decide)).trans xi_same))
  have i1 : xm_i S11 1 (xm_n S 0 1) 1 = a2 := by
    subst e1 e3 e5 e7 e9 e11
    exact ((xi_si (by decide)).trans xi_same)
  have i2 : xm_i S11 1 (xm_n S 0 1) 2 = a3 := by
    subst e1 e3 e5 e7 e9 e11
    exact xi_same
  have i3 : xm_i S11 1 (xm_n S 0 1) 3 = 0 := by
    subst e1 e3 e5 e7 e9 e11
    exact ((xi_si (by decide)).trans ((xi_si (by decide)).trans ((xi_si (by decide)).trans ((xi_si (by decide)).trans ((xi_si (by decide)).trans xi_same)))))
  have i4 : xm_i S11 1 (xm_n S 0 1) 4 = 0 := by
    subst e1 e3 e5 e7 e9 e11
    exact ((xi_si (by decide)).trans ((xi_si (by decide)).trans ((xi_si (by decide)).trans ((xi_si (by decide)).trans xi_same))))
  have i5 : xm_i S11 1 (xm_n S 0 1) 5 = -1 := by
    subst e1 e3 e5 e7 e9 e11
    exact ((xi_si (by decide)).trans ((xi_si (by decide)).trans ((xi_si (by decide)).trans xi_same)))
  have hC7 : xk_C S11 := by
    subst e1 e3 e5 e7 e9 e11
    exact hC
  have n1 : xm_n S11 1 11 = xm_n S 1 11 := by
    subst e1 e3 e5 e7 e9 e11
    rfl
  have n2 : xm_n S11 2 11 = xm_n S 2 11 := by
    subst e1 e3 e5 e7 e9 e11
    rfl
  have pl7 : k_pln S11 A t 5000 := by
    subst e1 e3 e5 e7 e9 e11
    exact hpln
  have h20 : xm_n S 2 11 ≠ 0 := hcap.1 11 (by omega)
  refine ⟨rfl, hC7, by rw [n2]; exact h20, by rw [n1]; omega, fun S16 e16 => ?_⟩
  clear e1 e3 e5 e7 e9 e11
  obtain ⟨c2', c100, c101, b, ep, hc2, hcp⟩ := xm_push_x S11 11 (1, xm_n S 0 1) (by rw [n2]; exact h20)
  rw [ep] at e16
  subst e16
  rw [n1, n2] at hcp
  have pp := n.psh (l := 11) (by decide) (1, xm_n S 0 1) c2' c100 c101 b
  have p1 := pp.1
  have q0 : xm_n (xk_psh S11 11 (1, xm_n S 0 1) c2' c100 c101 b) 1 11 = xm_n S 1 11 + 1 := by rw [p1, if_pos rfl]
  refine ⟨q0, ?_⟩
  refine kK.add (m := 10) hKK n (Or.inr (Or.inr (Or.inr (Or.inr ⟨rfl, rfl, rfl⟩)))) hlt hc2 hcp (fun x k hk => ?_) ?_ (fun z => absurd z (by decide)) (fun z => absurd z (by decide)) (fun _ => ?_) (fun z => absurd z (by decide)) (fun z => absurd z (by decide)) pl7
  · unfold kOld at hk
    unfold xm_u2
    rw [if_neg (by omega), if_neg (by omega), if_neg (by omega), if_neg (by omega), if_neg (by omega), if_neg (by omega), if_neg (by omega)]
  · unfold k_cnt
    simp only [p1]
    refine ⟨w1, w2, w3, w4, w5, w6, w7, w8, w9, w10, ?_⟩
    exact y_same _ _ _ _
  · rw [show xm_n S 0 1 = xm_n S 1 11 from hO.2.2.2.2.2.2.2.2.1] at i0 i1 i2 i3 i4 i5
    refine ⟨?_, ?_, ?_, ?_, ?_, ?_, ?_, ?_, ?_, ?_, ?_⟩
    · exact i0.trans (show (a1 : Int32) = (xm_u2 A 104 (xm_n S 1 11) a1) 104 (xm_n S 1 11) from (y_same _ _ _ _).symm)
    · exact i1.trans (show (a2 : Int32) = (xm_u2 (xm_u2 A 104 (xm_n S 1 11) a1) 105 (xm_n S 1 11) a2) 105 (xm_n S 1 11) from (y_same _ _ _ _).symm)
    · exact i2.trans (show (a3 : Int32) = (xm_u2 (xm_u2 (xm_u2 A 104 (xm_n S 1 11) a1) 105 (xm_n S 1 11) a2) 106 (xm_n S 1 11) a3) 106 (xm_n S 1 11) from (y_same _ _ _ _).symm)
    · exact i3.trans (show (0 : Int32) = (xm_u2 (xm_u2 (xm_u2 (xm_u2 (xm_u2 (xm_u2 A 104 (xm_n S 1 11) a1) 105 (xm_n S 1 11) a2) 106 (xm_n S 1 11) a3) 107 (xm_n S 1 11) 0) 108 (xm_n S 1 11) (-1)) 109 (xm_n S 1 11) 0) 109 (xm_n S 1 11) from (y_same _ _ _ _).symm)
    · exact i4.trans (show (0 : Int32) = (xm_u2 (xm_u2 (xm_u2 (xm_u2 A 104 (xm_n S 1 11) a1) 105 (xm_n S 1 11) a2) 106 (xm_n S 1 11) a3) 107 (xm_n S 1 11) 0) 107 (xm_n S 1 11) from (y_same _ _ _ _).symm)
    · exact i5.trans (show ((-1) : Int32) = (xm_u2 (xm_u2 (xm_u2 (xm_u2 (xm_u2 A 104 (xm_n S 1 11) a1) 105 (xm_n S 1 11) a2) 106 (xm_n S 1 11) a3) 107 (xm_n S 1 11) 0) 108 (xm_n S 1 11) (-1)) 108 (xm_n S 1 11) from (y_same _ _ _ _).symm)
    · exact Or.inl (y_same _ _ _ _)
    · intro z
      obtain ⟨g, g1, g2⟩ := hz0 ((show (a1 : Int32) = (xm_u2 A 104 (xm_n S 1 11) a1) 104 (xm_n S 1 11) from (y_same _ _ _ _).symm).trans z)
      exact ⟨g, (show (a2 : Int32) = (xm_u2 (xm_u2 A 104 (xm_n S 1 11) a1) 105 (xm_n S 1 11) a2) 105 (xm_n S 1 11) from (y_same _ _ _ _).symm).symm.trans g1, by rw [p1, if_neg (by decide)]; exact g2⟩
    · intro z
      obtain ⟨g, g1, g2⟩ := hz1 ((show (a1 : Int32) = (xm_u2 A 104 (xm_n S 1 11) a1) 104 (xm_n S 1 11) from (y_same _ _ _ _).symm).trans z)
      exact ⟨g, (show (a2 : Int32) = (xm_u2 (xm_u2 A 104 (xm_n S 1 11) a1) 105 (xm_n S 1 11) a2) 105 (xm_n S 1 11) from (y_same _ _ _ _).symm).symm.trans g1, by rw [p1, if_neg (by decide)]; exact g2⟩
    · intro z
      obtain ⟨g, g1, g2⟩ := hz2 ((show (a1 : Int32) = (xm_u2 A 104 (xm_n S 1 11) a1) 104 (xm_n S 1 11) from (y_same _ _ _ _).symm).trans z)
      exact ⟨g, (show (a2 : Int32) = (xm_u2 (xm_u2 A 104 (xm_n S 1 11) a1) 105 (xm_n S 1 11) a2) 105 (xm_n S 1 11) from (y_same _ _ _ _).symm).symm.trans g1, by rw [p1, if_neg (by decide)]; exact g2⟩
    · rcases hz with z | z | z | z
      · exact Or.inl ((show (a1 : Int32) = (xm_u2 A 104 (xm_n S 1 11) a1) 104 (xm_n S 1 11) from (y_same _ _ _ _).symm).symm.trans z)
      · exact Or.inr (Or.inl ((show (a1 : Int32) = (xm_u2 A 104 (xm_n S 1 11) a1) 104 (xm_n S 1 11) from (y_same _ _ _ _).symm).symm.trans z))
      · exact Or.inr (Or.inr (Or.inl ((show (a1 : Int32) = (xm_u2 A 104 (xm_n S 1 11) a1) 104 (xm_n S 1 11) from (y_same _ _ _ _).symm).symm.trans z)))
      · exact Or.inr (Or.inr (Or.inr ((show (a1 : Int32) = (xm_u2 A 104 (xm_n S 1 11) a1) 104 (xm_n S 1 11) from (y_same _ _ _ _).symm).symm.trans z)))
theorem k_newPlan {d : Nat} {S : xm_S} {A : y_A} {t : Nat} {tw s : Nat} {a3 a4 a5 a6 a7 : Int32} (hK : kK S A t) (hlt : xm_n S 1 10 < 12) (htw : tw < xm_n S 1 4) (hs : s < xm_n S 1 0) (ha3 : 0 ≤ a3 ∧ a3 ≤ 2) (ha4 : 0 ≤ a4 ∧ a4 ≤ 1000000) (ha5 : ∃ E, 1 ≤ E ∧ E ≤ 1000 ∧ a5 = nI E) : xc d 105 [.inr (some (7, xm_n S 0 7)), .inr (some (10, tw)), .inr (some (9, s)), .inl a3, .inl a4, .inl a5, .inl a6, .inl a7] (xm_mk 7 13 S) (fun r S13 => r = none ∧ xk_C S13 ∧ (∀ S37, S37 = xm_si S13 7 (xm_n S 0 7) 7 ((xm_i S13 0 0 13) + a5) → (xm_n S37 2 10 ≠ 0 ∧ xm_n S37 1 10 < 100000 ∧ (∀ S17, S17 = xm_push 10 (7, xm_n S 0 7) S37 → xm_n S17 1 10 = xm_n S 1 10 + 1 ∧ kK S17 (xm_u2 (xm_u2 (xm_u2 (xm_u2 (xm_u2 (xm_u2 (xm_u2 (xm_u2 (xm_u2 (xm_u2 (xm_u2 (xm_u2 (xm_u2 (xm_u2 A 90 (xm_n S 1 10) (nI tw)) 91 (xm_n S 1 10) (nI s)) 92 (xm_n S 1 10) a3) 93 (xm_n S 1 10) a4) 94 (xm_n S 1 10) a5) 95 (xm_n S 1 10) a6) 96 (xm_n S 1 10) a7) 97 (xm_n S 1 10) (A 0 0)) 98 (xm_n S 1 10) 0) 99 (xm_n S 1 10) (-1)) 100 (xm_n S 1 10) 0) 101 (xm_n S 1 10) 0) 102 (xm_n S 1 10) 0) 89 0 (nI (xm_n S 1 10 + 1))) t)))) := by
  have hKK := hK
  obtain ⟨⟨⟨⟨hC, hcnt, hb, hl, ht, hv, h1, h2, h3, -⟩, -⟩, -⟩, ⟨-, -, -, hO, hcap, -, -, -, -, -, -, -, -, hpln, htm, htb, -⟩⟩ := hK
  have hbb := hb
  unfold k_bnd at hbb
  have ho12 := hO.2.2.2.2.2.2.2.2.2.2.2.1
  obtain ⟨w1, w2, w3, w4, w5, w6, w7, w8, w9, w10, w11⟩ := hcnt
  refine cw_newPlan (S := xm_mk 7 13 S) hC ?_
  intro S1 e1 S3 e3 S5 e5 S7 e7 S9 e9 S11 e11 S13 e13 S15 e15 S17 e17 S19 e19 S21 e21 S23 e23 S25 e25
  refine ⟨rfl, (by
    subst e1 e3 e5 e7 e9 e11 e13 e15 e17 e19 e21 e23 e25
    exact hC), fun S37 e37 => ?_⟩
  have n : kN S S37 7 13 := by
    subst e1 e3 e5 e7 e9 e11 e13 e15 e17 e19 e21 e23 e25 e37
    exact (((((((((((((((kN.mk S 7 13).si 7 _).si 8 _).si 9 _).si 10 _).si 11 _).si 12 _).sr 0 _).sr 1 _).si 2 _).si 3 _).si 4 _).si 5 _).si 6 _).si 7 _)
  have r0 : xm_r S37 7 (xm_n S 0 7) 0 = some tw := by
    subst e1 e3 e5 e7 e9 e11 e13 e15 e17 e19 e21 e23 e25 e37
    exact (xr_si.trans (xr_si.trans (xr_si.trans (xr_si.trans (xr_si.trans (xr_si.trans ((xr_sr (by decide)).trans xr_same)))))))
  have r1 : xm_r S37 7 (xm_n S 0 7) 1 = some s := by
    subst e1 e3 e5 e7 e9 e11 e13 e15 e17 e19 e21 e23 e25 e37
    exact (xr_si.trans (xr_si.trans (xr_si.trans (xr_si.trans (xr_si.trans (xr_si.trans xr_same))))))
  have i2 : xm_i S37 7 (xm_n S 0 7) 2 = a3 := by
    subst e1 e3 e5 e7 e9 e11 e13 e15 e17 e19 e21 e23 e25 e37
    exact ((xi_si (by decide)).trans ((xi_si (by decide)).trans ((xi_si (by decide)).trans ((xi_si (by decide)).trans ((xi_si (by decide)).trans xi_same)))))
  have i3 : xm_i S37 7 (xm_n S 0 7) 3 = a4 := by
    subst e1 e3 e5 e7 e9 e11 e13 e15 e17 e19 e21 e23 e25 e37
    exact ((xi_si (by decide)).trans ((xi_si (by decide)).trans ((xi_si (by decide)).trans ((xi_si (by decide)).trans xi_same))))
  have i4 : xm_i S37 7 (xm_n S 0 7) 4 = a5 := by
    subst e1 e3 e5 e7 e9 e11 e13 e15 e17 e19 e21 e23 e25 e37
    exact ((xi_si (by decide)).trans ((xi_si (by decide)).trans ((xi_si (by decide)).trans xi_same)))
  have i5 : xm_i S37 7 (xm_n S 0 7) 5 = a6 := by
    subst e1 e3 e5 e7 e9 e11 e13 e15 e17 e19 e21 e23 e25 e37
    exact ((xi_si (by decide)).trans ((xi_si (by decide)).trans xi_same))
  have i6 : xm_i S37 7 (xm_n S 0 7) 6 = a7 := by
    subst e1 e3 e5 e7 e9 e11 e13 e15 e17 e19 e21 e23 e25 e37
    exact ((xi_si (by decide)).trans xi_same)
  have i7 : xm_i S37 7 (xm_n S 0 7) 7 = xm_i S25 0 0 13 + a5 := by
    subst e1 e3 e5 e7 e9 e11 e13 e15 e17 e19 e21 e23 e25 e37
    exact xi_same
  have i8 : xm_i S37 7 (xm_n S 0 7) 8 = 0 := by
    subst e1 e3 e5 e7 e9 e11 e13 e15 e17 e19 e21 e23 e25 e37
    exact ((xi_si (by decide)).trans ((xi_si (by decide)).trans ((xi_si (by decide)).trans ((xi_si (by decide)).trans ((xi_si (by decide)).trans ((xi_si (by decide)).trans (xi_sr.trans (xi_sr.trans ((xi_si (by decide)).trans ((xi_si (by decide)).trans ((xi_si (by decide)).trans ((xi_si (by decide)).trans xi_same))))))))))))
  have i9 : xm_i S37 7 (xm_n S 0 7) 9 = -1 := by
    subst e1 e3 e5 e7 e9 e11 e13 e15 e17 e19 e21 e23 e25 e37
    exact ((xi_si (by decide)).trans ((xi_si (by decide)).trans ((xi_si (by decide)).trans ((xi_si (by decide)).trans ((xi_si (by decide)).trans ((xi_si (by decide)).trans (xi_sr.trans (xi_sr.trans ((xi_si (by decide)).trans ((xi_si (by decide)).trans ((xi_si (by decide)).trans xi_same)))))))))))
  have i10 : xm_i S37 7 (xm_n S 0 7) 10 = 0 := by
    subst e1 e3 e5 e7 e9 e11 e13 e15 e17 e19 e21 e23 e25 e37
    exact ((xi_si (by decide)).trans ((xi_si (by decide)).trans ((xi_si (by decide)).trans ((xi_si (by decide)).trans ((xi_si (by decide)).trans ((xi_si (by decide)).trans (xi_sr.trans (xi_sr.trans ((xi_si (by decide)).trans ((xi_si (by decide)).trans xi_same))))))))))
  have i11 : xm_i S37 7 (xm_n S 0 7) 11 = 0 := by
    subst e1 e3 e5 e7 e9 e11 e13 e15 e17 e19 e21 e23 e25 e37
    exact ((xi_si (by decide)).trans ((xi_si (by decide)).trans ((xi_si (by decide)).trans ((xi_si (by decide)).trans ((xi_si (by decide)).trans ((xi_si (by decide)).trans (xi_sr.trans (xi_sr.trans ((xi_si (by decide)).trans xi_same)))))))))
  have i12 : xm_i S37 7 (xm_n S 0 7) 12 = 1 := by
    subst e1 e3 e5 e7 e9 e11 e13 e15 e17 e19 e21 e23 e25 e37
    exact ((xi_si (by decide)).trans ((xi_si (by decide)).trans ((xi_si (by decide)).trans ((xi_si (by decide)).trans ((xi_si (by decide)).trans ((xi_si (by decide)).trans (xi_sr.trans (xi_sr.trans xi_same))))))))
  have hC7 : xk_C S37 := by
    subst e1 e3 e5 e7 e9 e11 e13 e15 e17 e19 e21 e23 e25 e37
    exact hC
  have n1 : xm_n S37 1 10 = xm_n S 1 10 := by
    subst e1 e3 e5 e7 e9 e11 e13 e15 e17 e19 e21 e23 e25 e37
    rfl
  have n2 : xm_n S37 2 10 = xm_n S 2 10 := by
    subst e1 e3 e5 e7 e9 e11 e13 e15 e17 e19 e21 e23 e25 e37
    rfl
  have psp : k_spn S37 A := by
    subst e1 e3 e5 e7 e9 e11 e13 e15 e17 e19 e21 e23 e25 e37
    exact hpln.1
  have i013 : xm_i S25 0 0 13 = A 0 0 := by
    subst e1 e3 e5 e7 e9 e11 e13 e15 e17 e19 e21 e23 e25 e37
    exact ht.1
  have h20 : xm_n S 2 10 ≠ 0 := hcap.1 10 (by omega)
  refine ⟨by rw [n2]; exact h20, by rw [n1]; omega, fun S16 e16 => ?_⟩
  clear e1 e3 e5 e7 e9 e11 e13 e15 e17 e19 e21 e23 e25 e37
  obtain ⟨c2', c100, c101, b, ep, hc2, hcp⟩ := xm_push_x S37 10 (7, xm_n S 0 7) (by rw [n2]; exact h20)
  rw [ep] at e16
  subst e16
  rw [n1, n2] at hcp
  have pp := n.psh (l := 10) (by decide) (7, xm_n S 0 7) c2' c100 c101 b
  have p1 := pp.1
  have q0 : xm_n (xk_psh S37 10 (7, xm_n S 0 7) c2' c100 c101 b) 1 10 = xm_n S 1 10 + 1 := by rw [p1, if_pos rfl]
  refine ⟨q0, ?_⟩
  refine kK.add (m := 12) hKK n (Or.inr (Or.inr (Or.inr (Or.inl ⟨rfl, rfl, rfl⟩)))) hlt hc2 hcp (fun x k hk => ?_) ?_ (fun z => absurd z (by decide)) (fun _ => ?_) (fun z => absurd z (by decide)) (fun z => absurd z (by decide)) (fun z => absurd z (by decide)) ?_
  · unfold kOld at hk
    unfold xm_u2
    rw [if_neg (by omega), if_neg (by omega), if_neg (by omega), if_neg (by omega), if_neg (by omega), if_neg (by omega), if_neg (by omega), if_neg (by omega), if_neg (by omega), if_neg (by omega), if_neg (by omega), if_neg (by omega), if_neg (by omega), if_neg (by omega)]
  · unfold k_cnt
    simp only [p1]
    refine ⟨w1, w2, w3, w4, w5, w6, w7, w8, w9, ?_, w11⟩
    exact y_same _ _ _ _
  · rw [show xm_n S 0 7 = xm_n S 1 10 from hO.2.2.2.2.2.2.2.1] at r0 r1 i2 i3 i4 i5 i6 i7 i8 i9 i10 i11 i12
    refine ⟨⟨tw, r0, ?_, (show ((nI tw) : Int32) = (xm_u2 A 90 (xm_n S 1 10) (nI tw)) 90 (xm_n S 1 10) from (y_same _ _ _ _).symm).symm⟩, ⟨s, r1, ?_, (show ((nI s) : Int32) = (xm_u2 (xm_u2 A 90 (xm_n S 1 10) (nI tw)) 91 (xm_n S 1 10) (nI s)) 91 (xm_n S 1 10) from (y_same _ _ _ _).symm).symm⟩, ?_, ?_, ?_, ?_, ?_, ?_, ?_, ?_, ?_, ?_, ?_, ?_⟩
    · rw [p1, if_neg (by decide)]
      exact htw
    · rw [p1, if_neg (by decide)]
      exact hs
    · exact i2.trans (show (a3 : Int32) = (xm_u2 (xm_u2 (xm_u2 A 90 (xm_n S 1 10) (nI tw)) 91 (xm_n S 1 10) (nI s)) 92 (xm_n S 1 10) a3) 92 (xm_n S 1 10) from (y_same _ _ _ _).symm)
    · exact i3.trans (show (a4 : Int32) = (xm_u2 (xm_u2 (xm_u2 (xm_u2 A 90 (xm_n S 1 10) (nI tw)) 91 (xm_n S 1 10) (nI s)) 92 (xm_n S 1 10) a3) 93 (xm_n S 1 10) a4) 93 (xm_n S 1 10) from (y_same _ _ _ _).symm)
    · exact i4.trans (show (a5 : Int32) = (xm_u2 (xm_u2 (xm_u2 (xm_u2 (xm_u2 A 90 (xm_n S 1 10) (nI tw)) 91 (xm_n S 1 10) (nI s)) 92 (xm_n S 1 10) a3) 93 (xm_n S 1 10) a4) 94 (xm_n S 1 10) a5) 94 (xm_n S 1 10) from (y_same _ _ _ _).symm)
    · exact i5.trans (show (a6 : Int32) = (xm_u2 (xm_u2 (xm_u2 (xm_u2 (xm_u2 (xm_u2 A 90 (xm_n S 1 10) (nI tw)) 91 (xm_n S 1 10) (nI s)) 92 (xm_n S 1 10) a3) 93 (xm_n S 1 10) a4) 94 (xm_n S 1 10) a5) 95 (xm_n S 1 10) a6) 95 (xm_n S 1 10) from (y_same _ _ _ _).symm)
    · exact i6.trans (show (a7 : Int32) = (xm_u2 (xm_u2 (xm_u2 (xm_u2 (xm_u2 (xm_u2 (xm_u2 A 90 (xm_n S 1 10) (nI tw)) 91 (xm_n S 1 10) (nI s)) 92 (xm_n S 1 10) a3) 93 (xm_n S 1 10) a4) 94 (xm_n S 1 10) a5) 95 (xm_n S 1 10) a6) 96 (xm_n S 1 10) a7) 96 (xm_n S 1 10) from (y_same _ _ _ _).symm)
    · exact i8.trans (show (0 : Int32) = (xm_u2 (xm_u2 (xm_u2 (xm_u2 (xm_u2 (xm_u2 (xm_u2 (xm_u2 (xm_u2 A 90 (xm_n S 1 10) (nI tw)) 91 (xm_n S 1 10) (nI s)) 92 (xm_n S 1 10) a3) 93 (xm_n S 1 10) a4) 94 (xm_n S 1 10) a5) 95 (xm_n S 1 10) a6) 96 (xm_n S 1 10) a7) 97 (xm_n S 1 10) (A 0 0)) 98 (xm_n S 1 10) 0) 98 (xm_n S 1 10) from (y_same _ _ _ _).symm)
    · exact i9.trans (show ((-1) : Int32) = (xm_u2 (xm_u2 (xm_u2 (xm_u2 (xm_u2 (xm_u2 (xm_u2 (xm_u2 (xm_u2 (xm_u2 A 90 (xm_n S 1 10) (nI tw)) 91 (xm_n S 1 10) (nI s)) 92 (xm_n S 1 10) a3) 93 (xm_n S 1 10) a4) 94 (xm_n S 1 10) a5) 95 (xm_n S 1 10) a6) 96 (xm_n S 1 10) a7) 97 (xm_n S 1 10) (A 0 0)) 98 (xm_n S 1 10) 0) 99 (xm_n S 1 10) (-1)) 99 (xm_n S 1 10) from (y_same _ _ _ _).symm)
    · exact i10.trans (show (0 : Int32) = (xm_u2 (xm_u2 (xm_u2 (xm_u2 (xm_u2 (xm_u2 (xm_u2 (xm_u2 (xm_u2 (xm_u2 (xm_u2 A 90 (xm_n S 1 10) (nI tw)) 91 (xm_n S 1 10) (nI s)) 92 (xm_n S 1 10) a3) 93 (xm_n S 1 10) a4) 94 (xm_n S 1 10) a5) 95 (xm_n S 1 10) a6) 96 (xm_n S 1 10) a7) 97 (xm_n S 1 10) (A 0 0)) 98 (xm_n S 1 10) 0) 99 (xm_n S 1 10) (-1)) 100 (xm_n S 1 10) 0) 100 (xm_n S 1 10) from (y_same _ _ _ _).symm)
    · exact i11.trans (show (0 : Int32) = (xm_u2 (xm_u2 (xm_u2 (xm_u2 (xm_u2 (xm_u2 (xm_u2 (xm_u2 (xm_u2 (xm_u2 (xm_u2 (xm_u2 A 90 (xm_n S 1 10) (nI tw)) 91 (xm_n S 1 10) (nI s)) 92 (xm_n S 1 10) a3) 93 (xm_n S 1 10) a4) 94 (xm_n S 1 10) a5) 95 (xm_n S 1 10) a6) 96 (xm_n S 1 10) a7) 97 (xm_n S 1 10) (A 0 0)) 98 (xm_n S 1 10) 0) 99 (xm_n S 1 10) (-1)) 100 (xm_n S 1 10) 0) 101 (xm_n S 1 10) 0) 101 (xm_n S 1 10) from (y_same _ _ _ _).symm)
    · have e : (xm_u2 (xm_u2 (xm_u2 (xm_u2 (xm_u2 (xm_u2 (xm_u2 (xm_u2 (xm_u2 (xm_u2 (xm_u2 (xm_u2 (xm_u2 A 90 (xm_n S 1 10) (nI tw)) 91 (xm_n S 1 10) (nI s)) 92 (xm_n S 1 10) a3) 93 (xm_n S 1 10) a4) 94 (xm_n S 1 10) a5) 95 (xm_n S 1 10) a6) 96 (xm_n S 1 10) a7) 97 (xm_n S 1 10) (A 0 0)) 98 (xm_n S 1 10) 0) 99 (xm_n S 1 10) (-1)) 100 (xm_n S 1 10) 0) 101 (xm_n S 1 10) 0) 102 (xm_n S 1 10) 0) 102 (xm_n S 1 10) = 0 := y_same _ _ _ _
      refine i12.trans ?_
      show _ = if (xm_u2 (xm_u2 (xm_u2 (xm_u2 (xm_u2 (xm_u2 (xm_u2 (xm_u2 (xm_u2 (xm_u2 (xm_u2 (xm_u2 (xm_u2 A 90 (xm_n S 1 10) (nI tw)) 91 (xm_n S 1 10) (nI s)) 92 (xm_n S 1 10) a3) 93 (xm_n S 1 10) a4) 94 (xm_n S 1 10) a5) 95 (xm_n S 1 10) a6) 96 (xm_n S 1 10) a7) 97 (xm_n S 1 10) (A 0 0)) 98 (xm_n S 1 10) 0) 99 (xm_n S 1 10) (-1)) 100 (xm_n S 1 10) 0) 101 (xm_n S 1 10) 0) 102 (xm_n S 1 10) 0) 102 (xm_n S 1 10) = 0 then _ else _
      rw [if_pos e]
    · exact Or.inl (y_same _ _ _ _)
    · have e : (xm_u2 (xm_u2 (xm_u2 A 90 (xm_n S 1 10) (nI tw)) 91 (xm_n S 1 10) (nI s)) 92 (xm_n S 1 10) a3) 92 (xm_n S 1 10) = a3 := y_same _ _ _ _
      show 0 ≤ (xm_u2 (xm_u2 (xm_u2 A 90 (xm_n S 1 10) (nI tw)) 91 (xm_n S 1 10) (nI s)) 92 (xm_n S 1 10) a3) 92 (xm_n S 1 10) ∧ (xm_u2 (xm_u2 (xm_u2 A 90 (xm_n S 1 10) (nI tw)) 91 (xm_n S 1 10) (nI s)) 92 (xm_n S 1 10) a3) 92 (xm_n S 1 10) ≤ 2
      rw [e]
      exact ha3
  · refine ⟨⟨psp.1, psp.2.1, psp.2.2.1, psp.2.2.2.1, fun p hp => ?_⟩, fun p hp => ?_⟩
    · rw [p1, if_pos rfl] at hp
      by_cases e : p = xm_n S 1 10
      · subst e
        have e : (xm_u2 (xm_u2 (xm_u2 (xm_u2 A 90 (xm_n S 1 10) (nI tw)) 91 (xm_n S 1 10) (nI s)) 92 (xm_n S 1 10) a3) 93 (xm_n S 1 10) a4) 93 (xm_n S 1 10) = a4 := y_same _ _ _ _
        show 0 ≤ (xm_u2 (xm_u2 (xm_u2 (xm_u2 A 90 (xm_n S 1 10) (nI tw)) 91 (xm_n S 1 10) (nI s)) 92 (xm_n S 1 10) a3) 93 (xm_n S 1 10) a4) 93 (xm_n S 1 10) ∧ (xm_u2 (xm_u2 (xm_u2 (xm_u2 A 90 (xm_n S 1 10) (nI tw)) 91 (xm_n S 1 10) (nI s)) 92 (xm_n S 1 10) a3) 93 (xm_n S 1 10) a4) 93 (xm_n S 1 10) ≤ 1000000
        rw [e]
        exact ha4
      · have hv := hpln.1.2.2.2.2 p (by omega)
        unfold xm_u2
        rw [if_neg (by omega), if_neg (by omega), if_neg (by omega), if_neg (by omega), if_neg (by omega), if_neg (by omega), if_neg (by omega), if_neg (by omega), if_neg (by omega), if_neg (by omega), if_neg (by omega), if_neg (by omega), if_neg (by omega), if_neg (by omega)]
        exact hv
    rw [p1, if_pos rfl] at hp
    by_cases e : p = xm_n S 1 10
    · subst e
      rw [show xm_n S 0 7 = xm_n S 1 10 from hO.2.2.2.2.2.2.2.1] at i7
      obtain ⟨E, hE1, hE2, hE3⟩ := ha5
      refine ⟨1, t, E, hE1, hE2, Nat.le_refl _, ((show ((A 0 0) : Int32) = (xm_u2 (xm_u2 (xm_u2 (xm_u2 (xm_u2 (xm_u2 (xm_u2 (xm_u2 A 90 (xm_n S 1 10) (nI tw)) 91 (xm_n S 1 10) (nI s)) 92 (xm_n S 1 10) a3) 93 (xm_n S 1 10) a4) 94 (xm_n S 1 10) a5) 95 (xm_n S 1 10) a6) 96 (xm_n S 1 10) a7) 97 (xm_n S 1 10) (A 0 0)) 97 (xm_n S 1 10) from (y_same _ _ _ _).symm).symm).trans htm, ((show (a5 : Int32) = (xm_u2 (xm_u2 (xm_u2 (xm_u2 (xm_u2 A 90 (xm_n S 1 10) (nI tw)) 91 (xm_n S 1 10) (nI s)) 92 (xm_n S 1 10) a3) 93 (xm_n S 1 10) a4) 94 (xm_n S 1 10) a5) 94 (xm_n S 1 10) from (y_same _ _ _ _).symm).symm).trans hE3, fun _ => ⟨i7.trans ?_, by omega, by omega⟩⟩
      rw [i013, htm, hE3, nI_add, Nat.one_mul]
    · obtain ⟨m, a, f, z1, z2, z3, z4, z5, z6⟩ := hpln.2 p (by omega)
      refine ⟨m, a, f, z1, z2, z3, ?_, ?_, fun y => ?_⟩
      · unfold xm_u2
        rw [if_neg (by omega), if_neg (by omega), if_neg (by omega), if_neg (by omega), if_neg (by omega), if_neg (by omega), if_neg (by omega), if_neg (by omega), if_neg (by omega), if_neg (by omega), if_neg (by omega), if_neg (by omega), if_neg (by omega), if_neg (by omega)]
        exact z4
      · unfold xm_u2
        rw [if_neg (by omega), if_neg (by omega), if_neg (by omega), if_neg (by omega), if_neg (by omega), if_neg (by omega), if_neg (by omega), if_neg (by omega), if_neg (by omega), if_neg (by omega), if_neg (by omega), if_neg (by omega), if_neg (by omega), if_neg (by omega)]
        exact z5
      · have o := fun j => ((n.1 7 p j).resolve_left (fun z => e (z.2.trans hO.2.2.2.2.2.2.2.1))).1
        have y2 : xm_i S37 7 p 12 = 1 := y
        rw [o] at y2
        show xm_i S37 7 p 7 = _ ∧ _
        rw [o]
        exact z6 y2
theorem p_fault : kPub 3 114 5 := by
  intro as hn S A t hK _
  obtain ⟨s, ac, fr, to, sz, rfl⟩ := k_l5 hn
  have hKK := hK
  obtain ⟨⟨⟨⟨hC, hcnt, hb, hl, ht, hv, h1, h2, h3, -⟩, -⟩, -⟩, ⟨-, -, -, hO, hcap, -, -, -, -, -, -, -, -, hpln, htm, htb, -⟩⟩ := hK
  have hbb := hb
  unfold k_bnd at hbb
  have ho12 := hO.2.2.2.2.2.2.2.2.2.2.2.1
  obtain ⟨w1, w2, w3, w4, w5, w6, w7, w8, w9, w10, w11⟩ := hcnt
  have lf : ∀ v A', rf_fault s ac fr to sz A = (v, A') → ∀ S', kK S' A' t → (some (.inl v) : Option xm_V) = some (.inl (rf_fault s ac fr to sz A).1) ∧ kK S' (rf_fault s ac fr to sz A).2 t := fun v A' e S' h => by
    rw [e]
    exact ⟨rfl, h⟩
  have T : ∀ {p : Prop}, p → True := fun _ => trivial
  have hF : (nI (xm_n S 1 1) = (30 : Int32)) = ¬ (nI (xm_n S 1 1) < (30 : Int32)) := k_full (m := 30) (by omega) (by decide)
  have hin : ¬ A 5 0 = 30 → y_in (A 5 0) 30 := fun z => by
    rw [w2] at z ⊢
    exact y_in_nI (Nat.lt_of_le_of_ne (by omega) (fun e => z (by rw [e]; rfl))) (by decide)
  have G : rg_fault s ac fr to sz A := ⟨⟨T, fun _ => ⟨T, T⟩⟩, T, fun _ => ⟨⟨T, fun _ => ⟨T, T⟩⟩, T, fun _ => ⟨T, fun _ => ⟨T, fun _ => ⟨T, fun _ => ⟨fun _ => ⟨T, fun z => ⟨hin z, trivial⟩⟩, T⟩⟩⟩⟩⟩⟩
  refine ⟨(rf_fault s ac fr to sz A).1, (rf_fault s ac fr to sz A).2, t, by omega, ?_, ra.up (ra.mono (rh_fault (d := 20) (js := []) (by decide) G) (fun r A2 js y => y)) (Nat.le_refl _)⟩
  refine xc.up (d := 2) (show xc 2 3 [.inr (some (0, 0)), .inl s, .inl ac, .inl fr, .inl to, .inl sz] S _ from ?_) (by decide)
  have lg : ∀ (v : Int32) (S2 : xm_S) (P : Prop), (some (.inl v) : Option xm_V) = some (.inl (rf_fault s ac fr to sz A).1) ∧ kK S2 (rf_fault s ac fr to sz A).2 t → ∃ x4 : Int32, (some (.inl v) : Option xm_V) = some (.inl x4) ∧ xk_C S2 ∧ ((some (.inl x4) : Option xm_V) = some (.inl (rf_fault s ac fr to sz A).1) ∧ kK S2 (rf_fault s ac fr to sz A).2 t) := fun v S2 _ h => ⟨v, rfl, h.2.1.1.1.1, h⟩
  refine cw_fault (d := 1) hC ?_
  refine ⟨fun c1 => ?_, fun c1 => ?_⟩
  · refine (cw_addSpan (d := 0) (a1 := 1) (a2 := none) hC ?_ : xc 1 5 _ S _)
    refine ⟨fun _ => ?_, fun k z => (by cases z)⟩
    exact lg _ _ True (lf (-1) A (by simp (decide := true) only [rf_fault, rf_isStation, rf_isAct, c1, w1, w2, hF, k_le sz, y_ix_nI (show xm_n S 1 1 < 2 ^ 31 by omega), nI_1, if_true, if_false, not_true_eq_false, not_false_eq_true]) S hKK)
  · refine ⟨fun c2 => ?_, fun c2 => ?_⟩
    · refine (cw_addSpan (d := 0) (a1 := 1) (a2 := none) hC ?_ : xc 1 5 _ S _)
      refine ⟨fun _ => ?_, fun k z => (by cases z)⟩
      exact lg _ _ True (lf (-1) A (by simp (decide := true) only [rf_fault, rf_isStation, rf_isAct, c1, c2, w1, w2, hF, k_le sz, y_ix_nI (show xm_n S 1 1 < 2 ^ 31 by omega), nI_1, if_true, if_false, not_true_eq_false, not_false_eq_true]) S hKK)
    · obtain ⟨y3i, y3j, y3k⟩ := k_at c1 c2 (by omega)
      refine ⟨y3i, y_ix s, hl.1 _ y3j, ?_⟩
      refine (cw_addSpan (d := 0) (a1 := 1) (a2 := some (y_ix s)) hC ?_ : xc 1 5 _ S _)
      refine ⟨fun z => (by cases z), fun k z => ?_⟩
      cases z
      obtain ⟨y0i, y0j, y0k⟩ := (⟨y3i, y3j, y3k⟩ : _ ∧ _ ∧ _)
      refine ⟨fun c101 => ?_, fun c101 => ?_⟩
      · exact lg _ _ True (lf (-2) A (by simp (decide := true) only [rf_fault, rf_isStation, rf_isAct, c1, c2, c101, w1, w2, hF, k_le sz, y_ix_nI (show xm_n S 1 1 < 2 ^ 31 by omega), nI_1, if_true, if_false, not_true_eq_false, not_false_eq_true]) S hKK)
      · refine ⟨fun c102 => ?_, fun c102 => ?_⟩
        · exact lg _ _ True (lf (-2) A (by simp (decide := true) only [rf_fault, rf_isStation, rf_isAct, c1, c2, c101, c102, w1, w2, hF, k_le sz, y_ix_nI (show xm_n S 1 1 < 2 ^ 31 by omega), nI_1, if_true, if_false, not_true_eq_false, not_false_eq_true]) S hKK)
        · refine ⟨fun c103 => ?_, fun c103 => ?_⟩
          · exact lg _ _ True (lf (-2) A (by simp (decide := true) only [rf_fault, rf_isStation, rf_isAct, c1, c2, c101, c102, c103, w1, w2, hF, k_le sz, y_ix_nI (show xm_n S 1 1 < 2 ^ 31 by omega), nI_1, if_true, if_false, not_true_eq_false, not_false_eq_true]) S hKK)
          · refine ⟨fun c104 => ?_, fun c104 => ?_⟩
            · exact lg _ _ True (lf (-2) A (by simp (decide := true) only [rf_fault, rf_isStation, rf_isAct, c1, c2, c101, c102, c103, c104, w1, w2, hF, k_le sz, y_ix_nI (show xm_n S 1 1 < 2 ^ 31 by omega), nI_1, if_true, if_false, not_true_eq_false, not_false_eq_true]) S hKK)
            · refine ⟨fun c105 => ?_, fun c105 => ?_⟩
              · exact lg _ _ True (lf (-2) A (by simp (decide := true) only [rf_fault, rf_isStation, rf_isAct, c1, c2, c101, c102, c103, c104, c105, w1, w2, hF, k_le sz, y_ix_nI (show xm_n S 1 1 < 2 ^ 31 by omega), nI_1, if_true, if_false, not_true_eq_false, not_false_eq_true]) S hKK)
              · refine ⟨fun c106 => ?_, fun c106 => ?_⟩
                · exact lg _ _ True (lf (-2) A (by simp (decide := true) only [rf_fault, rf_isStation, rf_isAct, c1, c2, c101, c102, c103, c104, c105, c106, w1, w2, hF, k_le sz, y_ix_nI (show xm_n S 1 1 < 2 ^ 31 by omega), nI_1, if_true, if_false, not_true_eq_false, not_false_eq_true]) S hKK)
                · refine ⟨fun c107 => ?_, fun c107 => ?_⟩
                  · rintro k rfl S11 rfl
                    refine (k_newFault (d := 0) hKK ((nI_ltI (b := 30) (by omega) (by decide)).mp c107) y0j ⟨Int32.not_lt.mp c105, Int32.not_lt.mp c106⟩).mono (fun r S13 y => ⟨y.1, y.2.1, y.2.2.1, y.2.2.2.1, fun S17 e17 => ?_⟩)
                    obtain ⟨z1, z2⟩ := y.2.2.2.2 S17 e17
                    refine lg _ _ True ?_
                    rw [z1]
                    refine lf _ _ (by simp (decide := true) only [rf_fault, rf_isStation, rf_isAct, c1, c2, c101, c102, c103, c104, c105, c106, c107, w1, w2, hF, k_le sz, y_ix_nI (show xm_n S 1 1 < 2 ^ 31 by omega), nI_1, if_true, if_false, not_true_eq_false, not_false_eq_true, ← y0k]) _ z2
                  · exact lg _ _ True (lf (-3) A (by simp (decide := true) only [rf_fault, rf_isStation, rf_isAct, c1, c2, c101, c102, c103, c104, c105, c106, c107, w1, w2, hF, k_le sz, y_ix_nI (show xm_n S 1 1 < 2 ^ 31 by omega), nI_1, if_true, if_false, not_true_eq_false, not_false_eq_true]) S hKK)
theorem p_slow : kPub 6 117 5 := by
  intro as hn S A t hK _
  obtain ⟨s, ac, fr, to, sz, rfl⟩ := k_l5 hn
  have hKK := hK
  obtain ⟨⟨⟨⟨hC, hcnt, hb, hl, ht, hv, h1, h2, h3, -⟩, -⟩, -⟩, ⟨-, -, -, hO, hcap, -, -, -, -, -, -, -, -, hpln, htm, htb, -⟩⟩ := hK
  have hbb := hb
  unfold k_bnd at hbb
  have ho12 := hO.2.2.2.2.2.2.2.2.2.2.2.1
  obtain ⟨w1, w2, w3, w4, w5, w6, w7, w8, w9, w10, w11⟩ := hcnt
  have lf : ∀ v A', rf_slow s ac fr to sz A = (v, A') → ∀ S', kK S' A' t → (some (.inl v) : Option xm_V) = some (.inl (rf_slow s ac fr to sz A).1) ∧ kK S' (rf_slow s ac fr to sz A).2 t := fun v A' e S' h => by
    rw [e]
    exact ⟨rfl, h⟩
  have T : ∀ {p : Prop}, p → True := fun _ => trivial
  have hF : (nI (xm_n S 1 2) = (30 : Int32)) = ¬ (nI (xm_n S 1 2) < (30 : Int32)) := k_full (m := 30) (by omega) (by decide)
  have hin : ¬ A 11 0 = 30 → y_in (A 11 0) 30 := fun z => by
    rw [w3] at z ⊢
    exact y_in_nI (Nat.lt_of_le_of_ne (by omega) (fun e => z (by rw [e]; rfl))) (by decide)
  have G : rg_slow s ac fr to sz A := ⟨⟨T, fun _ => ⟨T, T⟩⟩, T, fun _ => ⟨⟨T, fun _ => ⟨T, T⟩⟩, T, fun _ => ⟨T, fun _ => ⟨T, fun _ => ⟨T, fun _ => ⟨fun _ => ⟨T, fun z => ⟨hin z, trivial⟩⟩, T⟩⟩⟩⟩⟩⟩
  refine ⟨(rf_slow s ac fr to sz A).1, (rf_slow s ac fr to sz A).2, t, by omega, ?_, ra.up (ra.mono (rh_slow (d := 20) (js := []) (by decide) G) (fun r A2 js y => y)) (Nat.le_refl _)⟩
  refine xc.up (d := 2) (show xc 2 6 [.inr (some (0, 0)), .inl s, .inl ac, .inl fr, .inl to, .inl sz] S _ from ?_) (by decide)
  have lg : ∀ (v : Int32) (S2 : xm_S) (P : Prop), (some (.inl v) : Option xm_V) = some (.inl (rf_slow s ac fr to sz A).1) ∧ kK S2 (rf_slow s ac fr to sz A).2 t → ∃ x4 : Int32, (some (.inl v) : Option xm_V) = some (.inl x4) ∧ xk_C S2 ∧ ((some (.inl x4) : Option xm_V) = some (.inl (rf_slow s ac fr to sz A).1) ∧ kK S2 (rf_slow s ac fr to sz A).2 t) := fun v S2 _ h => ⟨v, rfl, h.2.1.1.1.1, h⟩
  refine cw_slow (d := 1) hC ?_
  refine ⟨fun c1 => ?_, fun c1 => ?_⟩
  · refine (cw_addSpan (d := 0) (a1 := 2) (a2 := none) hC ?_ : xc 1 5 _ S _)
    refine ⟨fun _ => ?_, fun k z => (by cases z)⟩
    exact lg _ _ True (lf (-1) A (by simp (decide := true) only [rf_slow, rf_isStation, rf_isAct, c1, w1, w3, hF, k_le sz, y_ix_nI (show xm_n S 1 2 < 2 ^ 31 by omega), nI_1, if_true, if_false, not_true_eq_false, not_false_eq_true]) S hKK)
  · refine ⟨fun c2 => ?_, fun c2 => ?_⟩
    · refine (cw_addSpan (d := 0) (a1 := 2) (a2 := none) hC ?_ : xc 1 5 _ S _)
      refine ⟨fun _ => ?_, fun k z => (by cases z)⟩
      exact lg _ _ True (lf (-1) A (by simp (decide := true) only [rf_slow, rf_isStation, rf_isAct, c1, c2, w1, w3, hF, k_le sz, y_ix_nI (show xm_n S 1 2 < 2 ^ 31 by omega), nI_1, if_true, if_false, not_true_eq_false, not_false_eq_true]) S hKK)
    · obtain ⟨y3i, y3j, y3k⟩ := k_at c1 c2 (by omega)
      refine ⟨y3i, y_ix s, hl.1 _ y3j, ?_⟩
      refine (cw_addSpan (d := 0) (a1 := 2) (a2 := some (y_ix s)) hC ?_ : xc 1 5 _ S _)
      refine ⟨fun z => (by cases z), fun k z => ?_⟩
      cases z
      obtain ⟨y0i, y0j, y0k⟩ := (⟨y3i, y3j, y3k⟩ : _ ∧ _ ∧ _)
      refine ⟨fun c101 => ?_, fun c101 => ?_⟩
      · exact lg _ _ True (lf (-2) A (by simp (decide := true) only [rf_slow, rf_isStation, rf_isAct, c1, c2, c101, w1, w3, hF, k_le sz, y_ix_nI (show xm_n S 1 2 < 2 ^ 31 by omega), nI_1, if_true, if_false, not_true_eq_false, not_false_eq_true]) S hKK)
      · refine ⟨fun c102 => ?_, fun c102 => ?_⟩
        · exact lg _ _ True (lf (-2) A (by simp (decide := true) only [rf_slow, rf_isStation, rf_isAct, c1, c2, c101, c102, w1, w3, hF, k_le sz, y_ix_nI (show xm_n S 1 2 < 2 ^ 31 by omega), nI_1, if_true, if_false, not_true_eq_false, not_false_eq_true]) S hKK)
        · refine ⟨fun c103 => ?_, fun c103 => ?_⟩
          · exact lg _ _ True (lf (-2) A (by simp (decide := true) only [rf_slow, rf_isStation, rf_isAct, c1, c2, c101, c102, c103, w1, w3, hF, k_le sz, y_ix_nI (show xm_n S 1 2 < 2 ^ 31 by omega), nI_1, if_true, if_false, not_true_eq_false, not_false_eq_true]) S hKK)
          · refine ⟨fun c104 => ?_, fun c104 => ?_⟩
            · exact lg _ _ True (lf (-2) A (by simp (decide := true) only [rf_slow, rf_isStation, rf_isAct, c1, c2, c101, c102, c103, c104, w1, w3, hF, k_le sz, y_ix_nI (show xm_n S 1 2 < 2 ^ 31 by omega), nI_1, if_true, if_false, not_true_eq_false, not_false_eq_true]) S hKK)
            · refine ⟨fun c105 => ?_, fun c105 => ?_⟩
              · exact lg _ _ True (lf (-2) A (by simp (decide := true) only [rf_slow, rf_isStation, rf_isAct, c1, c2, c101, c102, c103, c104, c105, w1, w3, hF, k_le sz, y_ix_nI (show xm_n S 1 2 < 2 ^ 31 by omega), nI_1, if_true, if_false, not_true_eq_false, not_false_eq_true]) S hKK)
              · refine ⟨fun c106 => ?_, fun c106 => ?_⟩
                · exact lg _ _ True (lf (-2) A (by simp (decide := true) only [rf_slow, rf_isStation, rf_isAct, c1, c2, c101, c102, c103, c104, c105, c106, w1, w3, hF, k_le sz, y_ix_nI (show xm_n S 1 2 < 2 ^ 31 by omega), nI_1, if_true, if_false, not_true_eq_false, not_false_eq_true]) S hKK)
                · refine ⟨fun c107 => ?_, fun c107 => ?_⟩
                  · rintro k rfl S11 rfl
                    refine (k_newSlow (d := 0) hKK ((nI_ltI (b := 30) (by omega) (by decide)).mp c107) y0j ⟨Int32.not_lt.mp c105, Int32.not_lt.mp c106⟩).mono (fun r S13 y => ⟨y.1, y.2.1, y.2.2.1, y.2.2.2.1, fun S17 e17 => ?_⟩)
                    obtain ⟨z1, z2⟩ := y.2.2.2.2 S17 e17
                    refine lg _ _ True ?_
                    rw [z1]
                    refine lf _ _ (by simp (decide := true) only [rf_slow, rf_isStation, rf_isAct, c1, c2, c101, c102, c103, c104, c105, c106, c107, w1, w3, hF, k_le sz, y_ix_nI (show xm_n S 1 2 < 2 ^ 31 by omega), nI_1, if_true, if_false, not_true_eq_false, not_false_eq_true, ← y0k]) _ z2
                  · exact lg _ _ True (lf (-3) A (by simp (decide := true) only [rf_slow, rf_isStation, rf_isAct, c1, c2, c101, c102, c103, c104, c105, c106, c107, w1, w3, hF, k_le sz, y_ix_nI (show xm_n S 1 2 < 2 ^ 31 by omega), nI_1, if_true, if_false, not_true_eq_false, not_false_eq_true]) S hKK)
theorem p_alarm : kPub 67 160 3 := by
  intro as hn S A t hK _
  obtain ⟨a1, a2, a3, rfl⟩ := k_l3 hn
  have hKK := hK
  obtain ⟨⟨⟨⟨hC, hcnt, hb, hl, ht, hv, h1, h2, h3, -⟩, -⟩, -⟩, ⟨-, -, -, hO, hcap, -, -, -, -, -, -, -, -, hpln, htm, htb, -⟩⟩ := hK
  have hbb := hb
  unfold k_bnd at hbb
  have ho12 := hO.2.2.2.2.2.2.2.2.2.2.2.1
  obtain ⟨w1, w2, w3, w4, w5, w6, w7, w8, w9, w10, w11⟩ := hcnt
  have lf : ∀ v A', rf_alarm a1 a2 a3 A = (v, A') → ∀ S', kK S' A' t → (some (.inl v) : Option xm_V) = some (.inl (rf_alarm a1 a2 a3 A).1) ∧ kK S' (rf_alarm a1 a2 a3 A).2 t := fun v A' e S' h => by
    rw [e]
    exact ⟨rfl, h⟩
  have T : ∀ {p : Prop}, p → True := fun _ => trivial
  have hF : (nI (xm_n S 1 11) = (10 : Int32)) = ¬ (nI (xm_n S 1 11) < (10 : Int32)) := k_full (m := 10) (by omega) (by decide)
  have hin : ¬ A 103 0 = 10 → y_in (A 103 0) 10 := fun z => by
    rw [w11] at z ⊢
    exact y_in_nI (Nat.lt_of_le_of_ne (by omega) (fun e => z (by rw [e]; rfl))) (by decide)
  have gG : ∀ b, rg_isGuard a2 b A := fun b => ⟨T, fun c => ⟨T, fun c2 => ⟨by
    rw [w4] at c2
    obtain ⟨yi, yj, yk⟩ := k_at c c2 (by omega)
    rw [yk]
    exact y_in_nI (by omega) (by decide), T, T⟩⟩⟩
  have gI : ∀ x y z, rg_in x y z A := fun x y z => ⟨T, fun _ => ⟨T, T⟩⟩
  have G : rg_alarm a1 a2 a3 A := ⟨fun _ => ⟨gG 0, T, fun _ => ⟨fun _ => ⟨T, fun z => ⟨hin z, trivial⟩⟩, T⟩⟩, fun _ => ⟨fun _ => ⟨⟨T, fun _ => ⟨T, T⟩⟩, T, fun _ => ⟨gI _ _ _, T, fun _ => ⟨T, fun z => ⟨hin z, trivial⟩⟩⟩⟩, fun _ => ⟨fun _ => ⟨gG 1, T, fun _ => ⟨gI _ _ _, T, fun _ => ⟨T, fun z => ⟨hin z, trivial⟩⟩⟩⟩, fun _ => ⟨fun _ => ⟨fun _ => ⟨gI _ _ _, T, fun _ => ⟨T, fun z => ⟨hin z, trivial⟩⟩⟩, T⟩, T⟩⟩⟩⟩
  refine ⟨(rf_alarm a1 a2 a3 A).1, (rf_alarm a1 a2 a3 A).2, t, by omega, ?_, ra.up (ra.mono (rh_alarm (d := 20) (js := []) (by decide) G) (fun r A2 js y => y)) (Nat.le_refl _)⟩
  refine xc.up (d := 3) (show xc 3 67 [.inr (some (0, 0)), .inl a1, .inl a2, .inl a3] S _ from ?_) (by decide)
  refine cw_alarm (d := 0) hC ?_
  refine ⟨fun c1 => ?_, fun c1 => ?_⟩
  · refine ⟨fun c2 => ?_, fun c2 => ?_⟩
    · exact lf (-1) A (by simp (decide := true) only [rf_alarm, rf_isStation, rf_isGuard, rf_in, c2, c1, w1, w4, w11, hF, y_ix_nI (show xm_n S 1 11 < 2 ^ 31 by omega), nI_1, nI_pred, if_true, if_false, not_true_eq_false, not_false_eq_true]) S hKK
    · refine ⟨fun c3 => ?_, fun c3 => ?_⟩
      · exact lf (-1) A (by simp (decide := true) only [rf_alarm, rf_isStation, rf_isGuard, rf_in, c2, c3, c1, w1, w4, w11, hF, y_ix_nI (show xm_n S 1 11 < 2 ^ 31 by omega), nI_1, nI_pred, if_true, if_false, not_true_eq_false, not_false_eq_true]) S hKK
      · obtain ⟨y4i, y4j, y4k⟩ := k_at c2 c3 (by omega)
        refine ⟨y4i, y_ix a2, hl.2.1 _ y4j, ?_⟩
        refine ⟨fun c5 => ?_, fun c5 => ?_⟩
        · refine ⟨fun _ => ?_, fun z => absurd c1 z⟩
          refine ⟨fun c6 => ?_, fun c6 => ?_⟩
          · refine ⟨fun c7 => ?_, fun c7 => ?_⟩
            · rw [(h3 _ y4j).2.1] at c5
              rintro k rfl S11 rfl
              refine (k_newAlarm (d := 2) hKK ((nI_ltI (b := 10) (by omega) (by decide)).mp c7) (fun _ => ⟨_, y4k, y4j⟩) (fun z => absurd (c1.symm.trans z) (by decide)) (fun z => absurd (c1.symm.trans z) (by decide)) (Or.inl c1)).mono (fun r S13 y => ⟨y.1, y.2.1, y.2.2.1, y.2.2.2.1, fun S17 e17 => ?_⟩)
              obtain ⟨z1, z2⟩ := y.2.2.2.2 S17 e17
              rw [z1, nI_pred]
              subst c1
              exact lf _ _ (by simp (decide := true) only [rf_alarm, rf_isStation, rf_isGuard, rf_in, c2, c3, c5, c6, c7, w1, w4, w11, hF, y_ix_nI (show xm_n S 1 11 < 2 ^ 31 by omega), nI_1, nI_pred, if_true, if_false, not_true_eq_false, not_false_eq_true]) _ z2
            · rw [(h3 _ y4j).2.1] at c5
              exact lf (-3) A (by simp (decide := true) only [rf_alarm, rf_isStation, rf_isGuard, rf_in, c2, c3, c5, c6, c7, c1, w1, w4, w11, hF, y_ix_nI (show xm_n S 1 11 < 2 ^ 31 by omega), nI_1, nI_pred, if_true, if_false, not_true_eq_false, not_false_eq_true]) S hKK
          · rw [(h3 _ y4j).2.1] at c5
            exact lf (-2) A (by simp (decide := true) only [rf_alarm, rf_isStation, rf_isGuard, rf_in, c2, c3, c5, c6, c1, w1, w4, w11, hF, y_ix_nI (show xm_n S 1 11 < 2 ^ 31 by omega), nI_1, nI_pred, if_true, if_false, not_true_eq_false, not_false_eq_true]) S hKK
        · rw [(h3 _ y4j).2.1] at c5
          exact lf (-1) A (by simp (decide := true) only [rf_alarm, rf_isStation, rf_isGuard, rf_in, c2, c3, c5, c1, w1, w4, w11, hF, y_ix_nI (show xm_n S 1 11 < 2 ^ 31 by omega), nI_1, nI_pred, if_true, if_false, not_true_eq_false, not_false_eq_true]) S hKK
  · refine ⟨fun c8 => ?_, fun c8 => ?_⟩
    · refine ⟨fun c9 => ?_, fun c9 => ?_⟩
      · exact lf (-1) A (by simp (decide := true) only [rf_alarm, rf_isStation, rf_isGuard, rf_in, c1, c9, c8, w1, w4, w11, hF, y_ix_nI (show xm_n S 1 11 < 2 ^ 31 by omega), nI_1, nI_pred, if_true, if_false, not_true_eq_false, not_false_eq_true]) S hKK
      · refine ⟨fun c10 => ?_, fun c10 => ?_⟩
        · exact lf (-1) A (by simp (decide := true) only [rf_alarm, rf_isStation, rf_isGuard, rf_in, c1, c9, c10, c8, w1, w4, w11, hF, y_ix_nI (show xm_n S 1 11 < 2 ^ 31 by omega), nI_1, nI_pred, if_true, if_false, not_true_eq_false, not_false_eq_true]) S hKK
        · obtain ⟨y11i, y11j, y11k⟩ := k_at c9 c10 (by omega)
          refine ⟨y11i, y_ix a2, hl.1 _ y11j, ?_⟩
          refine ⟨fun z => absurd z c1, fun _ => ?_⟩
          refine ⟨fun _ => ?_, fun z => absurd c8 z⟩
          refine ⟨fun c12 => ?_, fun c12 => ?_⟩
          · exact lf (-2) A (by simp (decide := true) only [rf_alarm, rf_isStation, rf_isGuard, rf_in, c1, c9, c10, c12, c8, w1, w4, w11, hF, y_ix_nI (show xm_n S 1 11 < 2 ^ 31 by omega), nI_1, nI_pred, if_true, if_false, not_true_eq_false, not_false_eq_true]) S hKK
          · refine ⟨fun c13 => ?_, fun c13 => ?_⟩
            · exact lf (-2) A (by simp (decide := true) only [rf_alarm, rf_isStation, rf_isGuard, rf_in, c1, c9, c10, c12, c13, c8, w1, w4, w11, hF, y_ix_nI (show xm_n S 1 11 < 2 ^ 31 by omega), nI_1, nI_pred, if_true, if_false, not_true_eq_false, not_false_eq_true]) S hKK
            · refine ⟨fun c14 => ?_, fun c14 => ?_⟩
              · rintro k rfl S11 rfl
                refine (k_newAlarm (d := 2) hKK ((nI_ltI (b := 10) (by omega) (by decide)).mp c14) (fun z => absurd (c8.symm.trans z) (by decide)) (fun _ => ⟨_, y11k, y11j⟩) (fun z => absurd (c8.symm.trans z) (by decide)) (Or.inr (Or.inl c8))).mono (fun r S13 y => ⟨y.1, y.2.1, y.2.2.1, y.2.2.2.1, fun S17 e17 => ?_⟩)
                obtain ⟨z1, z2⟩ := y.2.2.2.2 S17 e17
                rw [z1, nI_pred]
                subst c8
                exact lf _ _ (by simp (decide := true) only [rf_alarm, rf_isStation, rf_isGuard, rf_in, c1, c9, c10, c12, c13, c14, w1, w4, w11, hF, y_ix_nI (show xm_n S 1 11 < 2 ^ 31 by omega), nI_1, nI_pred, if_true, if_false, not_true_eq_false, not_false_eq_true]) _ z2
              · exact lf (-3) A (by simp (decide := true) only [rf_alarm, rf_isStation, rf_isGuard, rf_in, c1, c9, c10, c12, c13, c14, c8, w1, w4, w11, hF, y_ix_nI (show xm_n S 1 11 < 2 ^ 31 by omega), nI_1, nI_pred, if_true, if_false, not_true_eq_false, not_false_eq_true]) S hKK
    · refine ⟨fun c15 => ?_, fun c15 => ?_⟩
      · refine ⟨fun c16 => ?_, fun c16 => ?_⟩
        · exact lf (-1) A (by simp (decide := true) only [rf_alarm, rf_isStation, rf_isGuard, rf_in, c1, c8, c16, c15, w1, w4, w11, hF, y_ix_nI (show xm_n S 1 11 < 2 ^ 31 by omega), nI_1, nI_pred, if_true, if_false, not_true_eq_false, not_false_eq_true]) S hKK
        · refine ⟨fun c17 => ?_, fun c17 => ?_⟩
          · exact lf (-1) A (by simp (decide := true) only [rf_alarm, rf_isStation, rf_isGuard, rf_in, c1, c8, c16, c17, c15, w1, w4, w11, hF, y_ix_nI (show xm_n S 1 11 < 2 ^ 31 by omega), nI_1, nI_pred, if_true, if_false, not_true_eq_false, not_false_eq_true]) S hKK
          · obtain ⟨y18i, y18j, y18k⟩ := k_at c16 c17 (by omega)
            refine ⟨y18i, y_ix a2, hl.2.1 _ y18j, ?_⟩
            refine ⟨fun c19 => ?_, fun c19 => ?_⟩
            · refine ⟨fun z => absurd z c1, fun _ => ?_⟩
              refine ⟨fun z => absurd z c8, fun _ => ?_⟩
              refine ⟨fun _ => ?_, fun z => absurd c15 z⟩
              refine ⟨fun c20 => ?_, fun c20 => ?_⟩
              · rw [(h3 _ y18j).2.1] at c19
                exact lf (-2) A (by simp (decide := true) only [rf_alarm, rf_isStation, rf_isGuard, rf_in, c1, c8, c16, c17, c19, c20, c15, w1, w4, w11, hF, y_ix_nI (show xm_n S 1 11 < 2 ^ 31 by omega), nI_1, nI_pred, if_true, if_false, not_true_eq_false, not_false_eq_true]) S hKK
              · refine ⟨fun c21 => ?_, fun c21 => ?_⟩
                · rw [(h3 _ y18j).2.1] at c19
                  exact lf (-2) A (by simp (decide := true) only [rf_alarm, rf_isStation, rf_isGuard, rf_in, c1, c8, c16, c17, c19, c20, c21, c15, w1, w4, w11, hF, y_ix_nI (show xm_n S 1 11 < 2 ^ 31 by omega), nI_1, nI_pred, if_true, if_false, not_true_eq_false, not_false_eq_true]) S hKK
                · refine ⟨fun c22 => ?_, fun c22 => ?_⟩
                  · rw [(h3 _ y18j).2.1] at c19
                    rintro k rfl S11 rfl
                    refine (k_newAlarm (d := 2) hKK ((nI_ltI (b := 10) (by omega) (by decide)).mp c22) (fun z => absurd (c15.symm.trans z) (by decide)) (fun z => absurd (c15.symm.trans z) (by decide)) (fun _ => ⟨_, y18k, y18j⟩) (Or.inr (Or.inr (Or.inl c15)))).mono (fun r S13 y => ⟨y.1, y.2.1, y.2.2.1, y.2.2.2.1, fun S17 e17 => ?_⟩)
                    obtain ⟨z1, z2⟩ := y.2.2.2.2 S17 e17
                    rw [z1, nI_pred]
                    subst c15
                    exact lf _ _ (by simp (decide := true) only [rf_alarm, rf_isStation, rf_isGuard, rf_in, c1, c8, c16, c17, c19, c20, c21, c22, w1, w4, w11, hF, y_ix_nI (show xm_n S 1 11 < 2 ^ 31 by omega), nI_1, nI_pred, if_true, if_false, not_true_eq_false, not_false_eq_true]) _ z2
                  · rw [(h3 _ y18j).2.1] at c19
                    exact lf (-3) A (by simp (decide := true) only [rf_alarm, rf_isStation, rf_isGuard, rf_in, c1, c8, c16, c17, c19, c20, c21, c22, c15, w1, w4, w11, hF, y_ix_nI (show xm_n S 1 11 < 2 ^ 31 by omega), nI_1, nI_pred, if_true, if_false, not_true_eq_false, not_false_eq_true]) S hKK
            · rw [(h3 _ y18j).2.1] at c19
              exact lf (-1) A (by simp (decide := true) only [rf_alarm, rf_isStation, rf_isGuard, rf_in, c1, c8, c16, c17, c19, c15, w1, w4, w11, hF, y_ix_nI (show xm_n S 1 11 < 2 ^ 31 by omega), nI_1, nI_pred, if_true, if_false, not_true_eq_false, not_false_eq_true]) S hKK
      · refine ⟨fun z => absurd z c1, fun _ => ?_⟩
        refine ⟨fun z => absurd z c8, fun _ => ?_⟩
        refine ⟨fun z => absurd z c15, fun _ => ?_⟩
        refine ⟨fun c23 => ?_, fun c23 => ?_⟩
        · refine ⟨fun c24 => ?_, fun c24 => ?_⟩
          · refine ⟨fun c25 => ?_, fun c25 => ?_⟩
            · exact lf (-2) A (by simp (decide := true) only [rf_alarm, rf_isStation, rf_isGuard, rf_in, c1, c8, c15, c24, c25, c23, w1, w4, w11, hF, y_ix_nI (show xm_n S 1 11 < 2 ^ 31 by omega), nI_1, nI_pred, if_true, if_false, not_true_eq_false, not_false_eq_true]) S hKK
            · refine ⟨fun c26 => ?_, fun c26 => ?_⟩
              · exact lf (-2) A (by simp (decide := true) only [rf_alarm, rf_isStation, rf_isGuard, rf_in, c1, c8, c15, c24, c25, c26, c23, w1, w4, w11, hF, y_ix_nI (show xm_n S 1 11 < 2 ^ 31 by omega), nI_1, nI_pred, if_true, if_false, not_true_eq_false, not_false_eq_true]) S hKK
              · refine ⟨fun c27 => ?_, fun c27 => ?_⟩
                · rintro k rfl S11 rfl
                  refine (k_newAlarm (d := 2) hKK ((nI_ltI (b := 10) (by omega) (by decide)).mp c27) (fun z => absurd (c23.symm.trans z) (by decide)) (fun z => absurd (c23.symm.trans z) (by decide)) (fun z => absurd (c23.symm.trans z) (by decide)) (Or.inr (Or.inr (Or.inr c23)))).mono (fun r S13 y => ⟨y.1, y.2.1, y.2.2.1, y.2.2.2.1, fun S17 e17 => ?_⟩)
                  obtain ⟨z1, z2⟩ := y.2.2.2.2 S17 e17
                  rw [z1, nI_pred]
                  subst c23
                  exact lf _ _ (by simp (decide := true) only [rf_alarm, rf_isStation, rf_isGuard, rf_in, c1, c8, c15, c24, c25, c26, c27, w1, w4, w11, hF, y_ix_nI (show xm_n S 1 11 < 2 ^ 31 by omega), nI_1, nI_pred, if_true, if_false, not_true_eq_false, not_false_eq_true]) _ z2
                · exact lf (-3) A (by simp (decide := true) only [rf_alarm, rf_isStation, rf_isGuard, rf_in, c1, c8, c15, c24, c25, c26, c27, c23, w1, w4, w11, hF, y_ix_nI (show xm_n S 1 11 < 2 ^ 31 by omega), nI_1, nI_pred, if_true, if_false, not_true_eq_false, not_false_eq_true]) S hKK
          · exact lf (-2) A (by simp (decide := true) only [rf_alarm, rf_isStation, rf_isGuard, rf_in, c1, c8, c15, c24, c23, w1, w4, w11, hF, y_ix_nI (show xm_n S 1 11 < 2 ^ 31 by omega), nI_1, nI_pred, if_true, if_false, not_true_eq_false, not_false_eq_true]) S hKK
        · exact lf (-2) A (by simp (decide := true) only [rf_alarm, rf_isStation, rf_isGuard, rf_in, c1, c8, c15, c23, w1, w4, w11, hF, y_ix_nI (show xm_n S 1 11 < 2 ^ 31 by omega), nI_1, nI_pred, if_true, if_false, not_true_eq_false, not_false_eq_true]) S hKK
theorem p_plan : kPub 63 157 7 := by
  intro as hn S A t hK _
  obtain ⟨a1, a2, a3, a4, a5, a6, a7, rfl⟩ := k_l7 hn
  have hKK := hK
  obtain ⟨⟨⟨⟨hC, hcnt, hb, hl, ht, hv, h1, h2, h3, -⟩, -⟩, -⟩, ⟨-, -, -, hO, hcap, -, -, -, -, -, -, -, -, hpln, htm, htb, -⟩⟩ := hK
  have hbb := hb
  unfold k_bnd at hbb
  have ho12 := hO.2.2.2.2.2.2.2.2.2.2.2.1
  obtain ⟨w1, w2, w3, w4, w5, w6, w7, w8, w9, w10, w11⟩ := hcnt
  have lf : ∀ v A', rf_plan a1 a2 a3 a4 a5 a6 a7 A = (v, A') → ∀ S', kK S' A' t → (some (.inl v) : Option xm_V) = some (.inl (rf_plan a1 a2 a3 a4 a5 a6 a7 A).1) ∧ kK S' (rf_plan a1 a2 a3 a4 a5 a6 a7 A).2 t := fun v A' e S' h => by
    rw [e]
    exact ⟨rfl, h⟩
  have T : ∀ {p : Prop}, p → True := fun _ => trivial
  have hF : (nI (xm_n S 1 10) = (12 : Int32)) = ¬ (nI (xm_n S 1 10) < (12 : Int32)) := k_full (m := 12) (by omega) (by decide)
  have hin : ¬ A 89 0 = 12 → y_in (A 89 0) 12 := fun z => by
    rw [w10] at z ⊢
    exact y_in_nI (Nat.lt_of_le_of_ne (by omega) (fun e => z (by rw [e]; rfl))) (by decide)
  have G : rg_plan a1 a2 a3 a4 a5 a6 a7 A := ⟨⟨T, fun _ => ⟨T, T⟩⟩, T, fun _ => ⟨⟨T, fun _ => ⟨T, T⟩⟩, T, fun _ => ⟨⟨T, fun _ => ⟨T, T⟩⟩, T, fun _ => ⟨⟨T, fun _ => ⟨fun _ => ⟨T, T⟩, fun _ => ⟨T, T⟩⟩⟩, T, fun _ => ⟨T, fun _ => ⟨T, fun _ => ⟨T, fun _ => ⟨fun _ => ⟨T, fun z => ⟨hin z, trivial⟩⟩, T⟩⟩⟩⟩⟩⟩⟩⟩
  refine ⟨(rf_plan a1 a2 a3 a4 a5 a6 a7 A).1, (rf_plan a1 a2 a3 a4 a5 a6 a7 A).2, t, by omega, ?_, ra.up (ra.mono (rh_plan (d := 20) (js := []) (by decide) G) (fun r A2 js y => y)) (Nat.le_refl _)⟩
  refine xc.up (d := 2) (show xc 2 63 [.inr (some (0, 0)), .inl a1, .inl a2, .inl a3, .inl a4, .inl a5, .inl a6, .inl a7] S _ from ?_) (by decide)
  refine cw_plan (d := 0) hC ?_
  refine ⟨fun c1 => ?_, fun c1 => ?_⟩
  · refine ⟨fun c2 => ?_, fun c2 => ?_⟩
    · exact lf (-1) A (by simp (decide := true) only [rf_plan, rf_isStation, rf_isTower, rf_isAct, rf_isAmount, c1, c2, w1, w5, w10, hF, y_ix_nI (show xm_n S 1 10 < 2 ^ 31 by omega), nI_1, nI_pred, if_true, if_false, not_true_eq_false, not_false_eq_true]) S hKK
    · refine ⟨fun c3 => ?_, fun c3 => ?_⟩
      · exact lf (-1) A (by simp (decide := true) only [rf_plan, rf_isStation, rf_isTower, rf_isAct, rf_isAmount, c1, c2, c3, w1, w5, w10, hF, y_ix_nI (show xm_n S 1 10 < 2 ^ 31 by omega), nI_1, nI_pred, if_true, if_false, not_true_eq_false, not_false_eq_true]) S hKK
      · obtain ⟨y4i, y4j, y4k⟩ := k_at c2 c3 (by omega)
        refine ⟨y4i, y_ix a2, hl.1 _ y4j, ?_⟩
        exact lf (-1) A (by simp (decide := true) only [rf_plan, rf_isStation, rf_isTower, rf_isAct, rf_isAmount, c1, c2, c3, w1, w5, w10, hF, y_ix_nI (show xm_n S 1 10 < 2 ^ 31 by omega), nI_1, nI_pred, if_true, if_false, not_true_eq_false, not_false_eq_true]) S hKK
  · refine ⟨fun c5 => ?_, fun c5 => ?_⟩
    · refine ⟨fun c6 => ?_, fun c6 => ?_⟩
      · exact lf (-1) A (by simp (decide := true) only [rf_plan, rf_isStation, rf_isTower, rf_isAct, rf_isAmount, c1, c5, c6, w1, w5, w10, hF, y_ix_nI (show xm_n S 1 10 < 2 ^ 31 by omega), nI_1, nI_pred, if_true, if_false, not_true_eq_false, not_false_eq_true]) S hKK
      · refine ⟨fun c7 => ?_, fun c7 => ?_⟩
        · exact lf (-1) A (by simp (decide := true) only [rf_plan, rf_isStation, rf_isTower, rf_isAct, rf_isAmount, c1, c5, c6, c7, w1, w5, w10, hF, y_ix_nI (show xm_n S 1 10 < 2 ^ 31 by omega), nI_1, nI_pred, if_true, if_false, not_true_eq_false, not_false_eq_true]) S hKK
        · obtain ⟨y8i, y8j, y8k⟩ := k_at c6 c7 (by omega)
          refine ⟨y8i, y_ix a2, hl.1 _ y8j, ?_⟩
          exact lf (-1) A (by simp (decide := true) only [rf_plan, rf_isStation, rf_isTower, rf_isAct, rf_isAmount, c1, c5, c6, c7, w1, w5, w10, hF, y_ix_nI (show xm_n S 1 10 < 2 ^ 31 by omega), nI_1, nI_pred, if_true, if_false, not_true_eq_false, not_false_eq_true]) S hKK
    · obtain ⟨y9i, y9j, y9k⟩ := k_at c1 c5 (by omega)
      refine ⟨y9i, y_ix a1, hl.2.2.1 _ y9j, ?_⟩
      refine ⟨fun c10 => ?_, fun c10 => ?_⟩
      · exact lf (-1) A (by simp (decide := true) only [rf_plan, rf_isStation, rf_isTower, rf_isAct, rf_isAmount, c1, c5, c10, w1, w5, w10, hF, y_ix_nI (show xm_n S 1 10 < 2 ^ 31 by omega), nI_1, nI_pred, if_true, if_false, not_true_eq_false, not_false_eq_true]) S hKK
      · refine ⟨fun c11 => ?_, fun c11 => ?_⟩
        · exact lf (-1) A (by simp (decide := true) only [rf_plan, rf_isStation, rf_isTower, rf_isAct, rf_isAmount, c1, c5, c10, c11, w1, w5, w10, hF, y_ix_nI (show xm_n S 1 10 < 2 ^ 31 by omega), nI_1, nI_pred, if_true, if_false, not_true_eq_false, not_false_eq_true]) S hKK
        · obtain ⟨y12i, y12j, y12k⟩ := k_at c10 c11 (by omega)
          refine ⟨y12i, y_ix a2, hl.1 _ y12j, ?_⟩
          refine ⟨fun c13 => ?_, fun c13 => ?_⟩
          · exact lf (-2) A (by simp (decide := true) only [rf_plan, rf_isStation, rf_isTower, rf_isAct, rf_isAmount, c1, c5, c10, c11, c13, w1, w5, w10, hF, y_ix_nI (show xm_n S 1 10 < 2 ^ 31 by omega), nI_1, nI_pred, if_true, if_false, not_true_eq_false, not_false_eq_true]) S hKK
          · refine ⟨fun c14 => ?_, fun c14 => ?_⟩
            · exact lf (-2) A (by simp (decide := true) only [rf_plan, rf_isStation, rf_isTower, rf_isAct, rf_isAmount, c1, c5, c10, c11, c13, c14, w1, w5, w10, hF, y_ix_nI (show xm_n S 1 10 < 2 ^ 31 by omega), nI_1, nI_pred, if_true, if_false, not_true_eq_false, not_false_eq_true]) S hKK
            · refine ⟨fun c15 => ?_, fun c15 => ?_⟩
              · refine ⟨fun c16 => ?_, fun c16 => ?_⟩
                · exact lf (-2) A (by simp (decide := true) only [rf_plan, rf_isStation, rf_isTower, rf_isAct, rf_isAmount, c1, c5, c10, c11, c15, c16, w1, w5, w10, hF, y_ix_nI (show xm_n S 1 10 < 2 ^ 31 by omega), nI_1, nI_pred, if_true, if_false, not_true_eq_false, not_false_eq_true]) S hKK
                · refine ⟨fun c17 => ?_, fun c17 => ?_⟩
                  · exact lf (-2) A (by simp (decide := true) only [rf_plan, rf_isStation, rf_isTower, rf_isAct, rf_isAmount, c1, c5, c10, c11, c15, c16, c17, w1, w5, w10, hF, y_ix_nI (show xm_n S 1 10 < 2 ^ 31 by omega), nI_1, nI_pred, if_true, if_false, not_true_eq_false, not_false_eq_true]) S hKK
                  · refine ⟨fun c18 => ?_, fun c18 => ?_⟩
                    · exact lf (-2) A (by simp (decide := true) only [rf_plan, rf_isStation, rf_isTower, rf_isAct, rf_isAmount, c1, c5, c10, c11, c15, c16, c17, c18, w1, w5, w10, hF, y_ix_nI (show xm_n S 1 10 < 2 ^ 31 by omega), nI_1, nI_pred, if_true, if_false, not_true_eq_false, not_false_eq_true]) S hKK
                    · refine ⟨fun c19 => ?_, fun c19 => ?_⟩
                      · exact lf (-2) A (by simp (decide := true) only [rf_plan, rf_isStation, rf_isTower, rf_isAct, rf_isAmount, c1, c5, c10, c11, c15, c16, c17, c18, c19, w1, w5, w10, hF, y_ix_nI (show xm_n S 1 10 < 2 ^ 31 by omega), nI_1, nI_pred, if_true, if_false, not_true_eq_false, not_false_eq_true]) S hKK
                      · refine ⟨fun c20 => ?_, fun c20 => ?_⟩
                        · exact lf (-2) A (by simp (decide := true) only [rf_plan, rf_isStation, rf_isTower, rf_isAct, rf_isAmount, c1, c5, c10, c11, c15, c16, c17, c18, c19, c20, w1, w5, w10, hF, y_ix_nI (show xm_n S 1 10 < 2 ^ 31 by omega), nI_1, nI_pred, if_true, if_false, not_true_eq_false, not_false_eq_true]) S hKK
                        · refine ⟨fun c21 => ?_, fun c21 => ?_⟩
                          · refine ⟨fun c22 => ?_, fun c22 => ?_⟩
                            · rintro k rfl S11 rfl
                              have h5 : ∃ E, 1 ≤ E ∧ E ≤ 1000 ∧ a5 = nI E := by
                                obtain ⟨E, hE, rfl⟩ := nI_of (x := a5) (fun z => c18 (Int32.lt_trans z (by decide)))
                                refine ⟨E, ?_, ?_, rfl⟩
                                · exact Nat.lt_of_not_le (fun z => c18 (nI_lt (a := E) (b := 1) (by omega) (by decide)))
                                · exact Nat.le_of_not_lt (fun z => c19 (nI_lt (a := 1000) (b := E) z hE))
                              refine (k_newPlan (d := 1) hKK ((nI_ltI (b := 12) (by omega) (by decide)).mp c22) y9j y12j ⟨Int32.not_lt.mp c13, Int32.not_lt.mp c14⟩ ⟨Int32.not_lt.mp c16, Int32.le_trans (Int32.not_lt.mp c17) (by decide)⟩ h5).mono (fun r S13 y => ⟨y.1, y.2.1, fun S37 e37 => ⟨(y.2.2 S37 e37).1, (y.2.2 S37 e37).2.1, fun S17 e17 => ?_⟩⟩)
                              obtain ⟨z1, z2⟩ := (y.2.2 S37 e37).2.2 S17 e17
                              rw [z1, nI_pred]
                              subst c15
                              exact lf _ _ (by simp (decide := true) only [rf_plan, rf_isStation, rf_isTower, rf_isAct, rf_isAmount, c1, c5, c10, c11, c16, c17, c18, c19, c20, c21, c22, w1, w5, w10, hF, y_ix_nI (show xm_n S 1 10 < 2 ^ 31 by omega), nI_1, nI_pred, if_true, if_false, not_true_eq_false, not_false_eq_true, ← y9k, ← y12k]) _ z2
                            · exact lf (-3) A (by simp (decide := true) only [rf_plan, rf_isStation, rf_isTower, rf_isAct, rf_isAmount, c1, c5, c10, c11, c15, c16, c17, c18, c19, c20, c21, c22, w1, w5, w10, hF, y_ix_nI (show xm_n S 1 10 < 2 ^ 31 by omega), nI_1, nI_pred, if_true, if_false, not_true_eq_false, not_false_eq_true]) S hKK
                          · exact lf (-2) A (by simp (decide := true) only [rf_plan, rf_isStation, rf_isTower, rf_isAct, rf_isAmount, c1, c5, c10, c11, c15, c16, c17, c18, c19, c20, c21, w1, w5, w10, hF, y_ix_nI (show xm_n S 1 10 < 2 ^ 31 by omega), nI_1, nI_pred, if_true, if_false, not_true_eq_false, not_false_eq_true]) S hKK
              · refine ⟨fun c23 => ?_, fun c23 => ?_⟩
                · exact lf (-2) A (by simp (decide := true) only [rf_plan, rf_isStation, rf_isTower, rf_isAct, rf_isAmount, c1, c5, c10, c11, c13, c14, c15, c23, w1, w5, w10, hF, y_ix_nI (show xm_n S 1 10 < 2 ^ 31 by omega), nI_1, nI_pred, if_true, if_false, not_true_eq_false, not_false_eq_true]) S hKK
                · refine ⟨fun c24 => ?_, fun c24 => ?_⟩
                  · exact lf (-2) A (by simp (decide := true) only [rf_plan, rf_isStation, rf_isTower, rf_isAct, rf_isAmount, c1, c5, c10, c11, c13, c14, c15, c23, c24, w1, w5, w10, hF, y_ix_nI (show xm_n S 1 10 < 2 ^ 31 by omega), nI_1, nI_pred, if_true, if_false, not_true_eq_false, not_false_eq_true]) S hKK
                  · refine ⟨fun c25 => ?_, fun c25 => ?_⟩
                    · exact lf (-2) A (by simp (decide := true) only [rf_plan, rf_isStation, rf_isTower, rf_isAct, rf_isAmount, c1, c5, c10, c11, c13, c14, c15, c23, c24, c25, w1, w5, w10, hF, y_ix_nI (show xm_n S 1 10 < 2 ^ 31 by omega), nI_1, nI_pred, if_true, if_false, not_true_eq_false, not_false_eq_true]) S hKK
                    · refine ⟨fun c26 => ?_, fun c26 => ?_⟩
                      · exact lf (-2) A (by simp (decide := true) only [rf_plan, rf_isStation, rf_isTower, rf_isAct, rf_isAmount, c1, c5, c10, c11, c13, c14, c15, c23, c24, c25, c26, w1, w5, w10, hF, y_ix_nI (show xm_n S 1 10 < 2 ^ 31 by omega), nI_1, nI_pred, if_true, if_false, not_true_eq_false, not_false_eq_true]) S hKK
                      · refine ⟨fun c27 => ?_, fun c27 => ?_⟩
                        · exact lf (-2) A (by simp (decide := true) only [rf_plan, rf_isStation, rf_isTower, rf_isAct, rf_isAmount, c1, c5, c10, c11, c13, c14, c15, c23, c24, c25, c26, c27, w1, w5, w10, hF, y_ix_nI (show xm_n S 1 10 < 2 ^ 31 by omega), nI_1, nI_pred, if_true, if_false, not_true_eq_false, not_false_eq_true]) S hKK
                        · refine ⟨fun c28 => ?_, fun c28 => ?_⟩
                          · refine ⟨fun c29 => ?_, fun c29 => ?_⟩
                            · rintro k rfl S11 rfl
                              have h5 : ∃ E, 1 ≤ E ∧ E ≤ 1000 ∧ a5 = nI E := by
                                obtain ⟨E, hE, rfl⟩ := nI_of (x := a5) (fun z => c25 (Int32.lt_trans z (by decide)))
                                refine ⟨E, ?_, ?_, rfl⟩
                                · exact Nat.lt_of_not_le (fun z => c25 (nI_lt (a := E) (b := 1) (by omega) (by decide)))
                                · exact Nat.le_of_not_lt (fun z => c26 (nI_lt (a := 1000) (b := E) z hE))
                              refine (k_newPlan (d := 1) hKK ((nI_ltI (b := 12) (by omega) (by decide)).mp c29) y9j y12j ⟨Int32.not_lt.mp c13, Int32.not_lt.mp c14⟩ ⟨Int32.not_lt.mp c23, Int32.not_lt.mp c24⟩ h5).mono (fun r S13 y => ⟨y.1, y.2.1, fun S37 e37 => ⟨(y.2.2 S37 e37).1, (y.2.2 S37 e37).2.1, fun S17 e17 => ?_⟩⟩)
                              obtain ⟨z1, z2⟩ := (y.2.2 S37 e37).2.2 S17 e17
                              rw [z1, nI_pred]
                              exact lf _ _ (by simp (decide := true) only [rf_plan, rf_isStation, rf_isTower, rf_isAct, rf_isAmount, c1, c5, c10, c11, c13, c14, c15, c23, c24, c25, c26, c27, c28, c29, w1, w5, w10, hF, y_ix_nI (show xm_n S 1 10 < 2 ^ 31 by omega), nI_1, nI_pred, if_true, if_false, not_true_eq_false, not_false_eq_true, ← y9k, ← y12k]) _ z2
                            · exact lf (-3) A (by simp (decide := true) only [rf_plan, rf_isStation, rf_isTower, rf_isAct, rf_isAmount, c1, c5, c10, c11, c13, c14, c15, c23, c24, c25, c26, c27, c28, c29, w1, w5, w10, hF, y_ix_nI (show xm_n S 1 10 < 2 ^ 31 by omega), nI_1, nI_pred, if_true, if_false, not_true_eq_false, not_false_eq_true]) S hKK
                          · exact lf (-2) A (by simp (decide := true) only [rf_plan, rf_isStation, rf_isTower, rf_isAct, rf_isAmount, c1, c5, c10, c11, c13, c14, c15, c23, c24, c25, c26, c27, c28, w1, w5, w10, hF, y_ix_nI (show xm_n S 1 10 < 2 ^ 31 by omega), nI_1, nI_pred, if_true, if_false, not_true_eq_false, not_false_eq_true]) S hKK
end
