/-! ===== STATION ===== -/
section
theorem p_station : kPub 1 113 3 := by
  intro as hn S A t hK _
  obtain ⟨lv, cp, dl, rfl⟩ := k_l3 hn
  have hKK := hK
  obtain ⟨⟨⟨⟨hC, hcnt, hb, hl, ht, hv, -⟩, -⟩, -⟩, ⟨-, -, -, hO, hcap, -, -, -, -, -, -, -, -, hpln, -⟩⟩ := hK
  have hN := hcnt.1
  have hbb := hb.1
  have ho9 := hO.1
  have ho12 := hO.2.2.2.2.2.2.2.2.2.2.2.1
  have fin : ∀ (f : Int32) (A' : y_A), rf_station lv cp dl A = (f, A') → rg_station lv cp dl A → xc 1 1 [.inr (some (0, 0)), .inl lv, .inl cp, .inl dl] S (fun r S' => r = some (.inl f) ∧ kK S' A' t) → ∃ (f : Int32) (A' : y_A) (t' : Nat), t' ≤ t + 100 ∧ xc 1000 1 (.inr (some (0, 0)) :: [lv, cp, dl].map .inl) S (fun r S' => r = some (.inl f) ∧ kK S' A' t') ∧ rc 20 113 (.inr (some (11, 0)) :: [lv, cp, dl].map .inl) A [] (fun r A2 js => r = some (.inl f) ∧ A2 = A' ∧ js = []) := fun f A' e g x => by
    refine ⟨f, A', t, by omega, xc.up x (by decide), ra.up (ra.mono (rh_station (d := 20) (js := []) (by decide) g) ?_) (Nat.le_refl _)⟩
    rintro r A2 js ⟨y1, y2, y3⟩
    rw [e] at y1 y2
    exact ⟨y1, y2, y3⟩
  unfold rf_station rg_station at fin
  have T : ∀ {p : Prop}, p → True := fun _ => trivial
  by_cases c1 : cp < 0
  · exact fin (-2) A (by rw [if_pos c1]) ⟨T, fun z => absurd c1 z⟩ (cw_station hC ⟨fun _ => ⟨rfl, hKK⟩, fun z => absurd c1 z⟩)
  by_cases c2 : (1000000 : Int32) < cp
  · exact fin (-2) A (by rw [if_neg c1, if_pos c2]) ⟨T, fun _ => ⟨T, fun z => absurd c2 z⟩⟩ (cw_station hC ⟨fun z => absurd z c1, fun _ => ⟨fun _ => ⟨rfl, hKK⟩, fun z => absurd c2 z⟩⟩)
  by_cases c3 : lv < 0
  · exact fin (-2) A (by rw [if_neg c1, if_neg c2, if_pos c3]) ⟨T, fun _ => ⟨T, fun _ => ⟨T, fun z => absurd c3 z⟩⟩⟩ (cw_station hC ⟨fun z => absurd z c1, fun _ => ⟨fun z => absurd z c2, fun _ => ⟨fun _ => ⟨rfl, hKK⟩, fun z => absurd c3 z⟩⟩⟩)
  by_cases c4 : cp < lv
  · exact fin (-2) A (by rw [if_neg c1, if_neg c2, if_neg c3, if_pos c4]) ⟨T, fun _ => ⟨T, fun _ => ⟨T, fun _ => ⟨T, fun z => absurd c4 z⟩⟩⟩⟩ (cw_station hC ⟨fun z => absurd z c1, fun _ => ⟨fun z => absurd z c2, fun _ => ⟨fun z => absurd z c3, fun _ => ⟨fun _ => ⟨rfl, hKK⟩, fun z => absurd c4 z⟩⟩⟩⟩)
  by_cases c5 : dl < 1
  · exact fin (-2) A (by rw [if_neg c1, if_neg c2, if_neg c3, if_neg c4, if_pos c5]) ⟨T, fun _ => ⟨T, fun _ => ⟨T, fun _ => ⟨T, fun _ => ⟨T, fun z => absurd c5 z⟩⟩⟩⟩⟩ (cw_station hC ⟨fun z => absurd z c1, fun _ => ⟨fun z => absurd z c2, fun _ => ⟨fun z => absurd z c3, fun _ => ⟨fun z => absurd z c4, fun _ => ⟨fun _ => ⟨rfl, hKK⟩, fun z => absurd c5 z⟩⟩⟩⟩⟩)
  by_cases c6 : dl ≤ 100
  case neg =>
    exact fin (-2) A (by rw [if_neg c1, if_neg c2, if_neg c3, if_neg c4, if_neg c5, if_neg c6]) ⟨T, fun _ => ⟨T, fun _ => ⟨T, fun _ => ⟨T, fun _ => ⟨T, fun _ => ⟨fun z => absurd z c6, T⟩⟩⟩⟩⟩⟩ (cw_station hC ⟨fun z => absurd z c1, fun _ => ⟨fun z => absurd z c2, fun _ => ⟨fun z => absurd z c3, fun _ => ⟨fun z => absurd z c4, fun _ => ⟨fun z => absurd z c5, fun _ => ⟨fun _ => ⟨rfl, hKK⟩, fun z => absurd (Int32.not_le.mp c6) z⟩⟩⟩⟩⟩⟩)
  have c6' : ¬ (100 : Int32) < dl := Int32.not_lt.mpr c6
  by_cases h8 : xm_n S 1 0 = 8
  · have d1 : A 1 0 = 8 := by rw [hN, h8]; rfl
    have d2 : ¬ nI (xm_n S 1 0) < 8 := by rw [h8]; decide
    exact fin (-3) A (by rw [if_neg c1, if_neg c2, if_neg c3, if_neg c4, if_neg c5, if_pos c6, if_pos d1]) ⟨T, fun _ => ⟨T, fun _ => ⟨T, fun _ => ⟨T, fun _ => ⟨T, fun _ => ⟨fun _ => ⟨T, fun z => absurd d1 z⟩, T⟩⟩⟩⟩⟩⟩ (cw_station hC ⟨fun z => absurd z c1, fun _ => ⟨fun z => absurd z c2, fun _ => ⟨fun z => absurd z c3, fun _ => ⟨fun z => absurd z c4, fun _ => ⟨fun z => absurd z c5, fun _ => ⟨fun z => absurd z c6', fun _ => ⟨fun z => absurd z d2, fun _ => ⟨rfl, hKK⟩⟩⟩⟩⟩⟩⟩⟩)
  · have hlt : xm_n S 1 0 < 8 := by omega
    have d1 : ¬ A 1 0 = 8 := fun z => h8 ((nI_eq (b := 8) (by omega) (by decide)).mp (hN.symm.trans z))
    have d2 : nI (xm_n S 1 0) < 8 := nI_lt (b := 8) hlt (by decide)
    have hix : y_ix (A 1 0) = xm_n S 1 0 := by rw [hN]; exact y_ix_nI (by omega)
    have hin : y_in (A 1 0) 8 := by rw [hN]; exact y_in_nI hlt (by decide)
    refine fin _ _ (by rw [if_neg c1, if_neg c2, if_neg c3, if_neg c4, if_neg c5, if_pos c6, if_neg d1]) ⟨T, fun _ => ⟨T, fun _ => ⟨T, fun _ => ⟨T, fun _ => ⟨T, fun _ => ⟨fun _ => ⟨T, fun _ => ⟨hin, trivial⟩⟩, T⟩⟩⟩⟩⟩⟩ (cw_station (d := 0) hC ⟨fun z => absurd z c1, fun _ => ⟨fun z => absurd z c2, fun _ => ⟨fun z => absurd z c3, fun _ => ⟨fun z => absurd z c4, fun _ => ⟨fun z => absurd z c5, fun _ => ⟨fun z => absurd z c6', fun _ => ⟨fun _ k8 e8 S10 e10 => ?_, fun z => absurd d2 z⟩⟩⟩⟩⟩⟩⟩)
    subst e8 e10
    refine cw_newStation (S := xm_mk 9 4 S) hC ?_
    intro S1 e1 S3 e3 S5 e5 S7 e7
    have n : kN S S7 9 4 := by
      subst e1 e3 e5 e7
      exact ((((kN.mk S 9 4).si 0 _).si 3 _).si 1 _).si 2 _
    have i0 : xm_i S7 9 (xm_n S 0 9) 0 = nI (xm_n S 1 0) := by
      subst e1 e3 e5 e7
      exact (xi_si (by decide)).trans ((xi_si (by decide)).trans ((xi_si (by decide)).trans xi_same))
    have i3 : xm_i S7 9 (xm_n S 0 9) 3 = lv := by
      subst e1 e3 e5 e7
      exact (xi_si (by decide)).trans ((xi_si (by decide)).trans xi_same)
    have i1 : xm_i S7 9 (xm_n S 0 9) 1 = cp := by
      subst e1 e3 e5 e7
      exact (xi_si (by decide)).trans xi_same
    have i2 : xm_i S7 9 (xm_n S 0 9) 2 = dl := by
      subst e1 e3 e5 e7
      exact xi_same
    have hC7 : xk_C S7 := by
      subst e1 e3 e5 e7
      exact hC
    have n1 : xm_n S7 1 0 = xm_n S 1 0 := by
      subst e1 e3 e5 e7
      rfl
    have n2 : xm_n S7 2 0 = xm_n S 2 0 := by
      subst e1 e3 e5 e7
      rfl
    have pl7 : k_pln S7 A t 5000 := by
      subst e1 e3 e5 e7
      exact hpln
    have h20 : xm_n S 2 0 ≠ 0 := hcap.1 0 (by omega)
    refine ⟨rfl, hC7, by rw [n2]; exact h20, by rw [n1]; omega, fun S16 e16 => ?_⟩
    clear e1 e3 e5 e7
    obtain ⟨c2', c100, c101, b, ep, hc2, hcp⟩ := xm_push_x S7 0 (9, xm_n S 0 9) (by rw [n2]; exact h20)
    rw [ep] at e16
    subst e16
    rw [n1, n2] at hcp
    have p1 := (n.psh (l := 0) (by decide) (9, xm_n S 0 9) c2' c100 c101 b).1
    have q0 : xm_n (xk_psh S7 0 (9, xm_n S 0 9) c2' c100 c101 b) 1 0 = xm_n S 1 0 + 1 := by rw [p1, if_pos rfl]
    refine ⟨by rw [q0, hN, nI_succ], ?_⟩
    refine kK.add (m := 8) hKK n (Or.inl ⟨rfl, rfl, rfl⟩) hlt hc2 hcp (fun x k hk => ?_) ?_ (fun _ => ?_) (fun z => absurd z (by decide)) (fun z => absurd z (by decide)) (fun z => absurd z (by decide)) (fun z => absurd z (by decide)) ?_
    · unfold kOld at hk
      rw [hix]
      unfold xm_u2
      rw [if_neg (by omega), if_neg (by omega), if_neg (by omega), if_neg (by omega)]
    · obtain ⟨w1, w2, w3, w4, w5, w6, w7, w8, w9, w10, w11⟩ := hcnt
      unfold k_cnt
      simp only [p1]
      refine ⟨?_, w2, w3, w4, w5, w6, w7, w8, w9, w10, w11⟩
      show A 1 0 + 1 = nI (xm_n S 1 0 + 1)
      rw [hN, nI_succ]
    · rw [hix]
      refine ⟨?_, ?_, ?_, ?_, ?_, ?_⟩
      · rw [← ho9]; exact i0.trans (by rw [ho9])
      · rw [← ho9]; exact i1.trans (show cp = xm_u2 (xm_u2 (xm_u2 A 2 (xm_n S 0 9) lv) 3 (xm_n S 0 9) cp) 4 (xm_n S 0 9) dl 3 (xm_n S 0 9) from (y_same _ _ _ _).symm)
      · rw [← ho9]; exact i2.trans (y_same _ _ _ _).symm
      · rw [← ho9]; exact i3.trans (show lv = xm_u2 A 2 (xm_n S 0 9) lv 2 (xm_n S 0 9) from (y_same _ _ _ _).symm)
      · rw [← ho9]
        show (1 : Int32) ≤ xm_u2 _ 4 (xm_n S 0 9) dl 4 (xm_n S 0 9)
        rw [y_same]
        exact Int32.not_lt.mp c5
      · rw [← ho9]
        show xm_u2 _ 4 (xm_n S 0 9) dl 4 (xm_n S 0 9) ≤ 100
        rw [y_same]
        exact c6
    · obtain ⟨⟨v1, v2, v3, v4, v5⟩, v6⟩ := pl7
      refine ⟨⟨fun k hk => ?_, ?_⟩, v6⟩
      · rw [p1, if_pos rfl] at hk
        rw [hix]
        by_cases e : k = xm_n S 1 0
        · subst e
          rw [show xm_u2 (xm_u2 (xm_u2 (xm_u2 A 2 (xm_n S 1 0) lv) 3 (xm_n S 1 0) cp) 4 (xm_n S 1 0) dl) 1 0 (A 1 0 + 1) 2 (xm_n S 1 0) = lv from y_same _ _ _ _, show xm_u2 (xm_u2 (xm_u2 (xm_u2 A 2 (xm_n S 1 0) lv) 3 (xm_n S 1 0) cp) 4 (xm_n S 1 0) dl) 1 0 (A 1 0 + 1) 3 (xm_n S 1 0) = cp from y_same _ _ _ _]
          exact ⟨Int32.not_lt.mp c3, Int32.not_lt.mp c4, Int32.not_lt.mp c2⟩
        · have hk' : k < xm_n S7 1 0 := by rw [n1]; omega
          have hv := v1 k hk'
          unfold xm_u2
          rw [if_neg (by omega), if_neg (by omega), if_neg (by omega), if_neg (by omega), if_neg (by omega), if_neg (by omega), if_neg (by omega), if_neg (by omega)]
          exact hv
      · exact ⟨v2, v3, v4, v5⟩
end
