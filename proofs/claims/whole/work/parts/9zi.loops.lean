/-! ===== THE LOOPS OVER ALARMS AND PLANS (printed by wip/whole/gen9zi.py) ===== -/
section
theorem kM.alarm {S S' : xm_S} {A A' : y_A} {X E B : Nat → Prop} {hb rb nb t w e1 e2 p : Nat} (h : kM S A X E B hb rb nb t w e1 e2) (hF : kF 0 0 [(1, 3), (1, 4), (1, 5)] [] [107, 108, 109] S S' A A') (hI : ∀ k j, k ≠ p → xm_i S' 1 k j = xm_i S 1 k j) (hA : ∀ x k, k ≠ p → A' x k = A x k) (e3 : xm_i S' 1 p 3 = A' 109 p) (e4 : xm_i S' 1 p 4 = A' 107 p) (e5 : xm_i S' 1 p 5 = A' 108 p) (e6 : A' 109 p = 0 ∨ A' 109 p = 1) : kM S' A' X E B hb rb nb t w e1 e2 := by
  obtain ⟨⟨hC, hcnt, hb', hl, ht, hv, h1, h2, h3, h4, h5, h6, h7, h8, h9, h10, h11, h12⟩, hS, hgr, ⟨j1, j2, j3, j4, j5, j6, j7, j8, j9, j10, j11, j12, j13, j14, j15, j16, j17, j18⟩⟩ := h
  have hN : ∀ {r k : Nat}, k < xm_n S' 1 r → k < xm_n S 1 r := fun z => by rw [hF.1] at z; exact z
  refine ⟨⟨xk_C.F hF (by decide) hC, k_cnt.F hF (by decide) (by decide) (by decide) (by decide) (by decide) (by decide) (by decide) (by decide) (by decide) (by decide) (by decide) hcnt, k_bnd.F hF hb', k_lst.F hF hl, k_top.F hF (by decide) (by decide) (by decide) ht, k_live.F hF (by decide) hv, fun k hk => ks.F hF (by decide) (by decide) (by decide) (by decide) (by decide) (by decide) (by decide) (h1 k (hN hk)), fun k hk => kc.F hF (by decide) (by decide) (by decide) (by decide) (by decide) (by decide) (by decide) (by decide) (by decide) (by decide) (by decide) (by decide) (by decide) (by decide) (by decide) (by decide) (by decide) (by decide) (by decide) (by decide) (by decide) (by decide) (by decide) (by decide) (by decide) (by decide) (by decide) (by decide) (by decide) (by decide) (by decide) (by decide) (by decide) (by decide) (h2 k (hN hk)), fun k hk => kg.F hF (by decide) (by decide) (by decide) (by decide) (by decide) (by decide) (by decide) (by decide) (by decide) (by decide) (by decide) (by decide) (by decide) (by decide) (by decide) (by decide) (by decide) (by decide) (by decide) (by decide) (by decide) (by decide) (by decide) (by decide) (by decide) (by decide) (by decide) (by decide) (by decide) (by decide) (by decide) (by decide) (by decide) (by decide) (by decide) (h3 k (hN hk)), fun k hk => kf.F hF (by decide) (by decide) (by decide) (by decide) (by decide) (by decide) (by decide) (by decide) (by decide) (by decide) (by decide) (by decide) (by decide) (h4 k (hN hk)), fun k hk => ke.F hF (by decide) (by decide) (by decide) (by decide) (by decide) (by decide) (by decide) (by decide) (by decide) (by decide) (h5 k (hN hk)), fun k hk => ko.F hF (by decide) (by decide) (by decide) (by decide) (by decide) (by decide) (by decide) (by decide) (by decide) (by decide) (by decide) (h6 k (hN hk)), fun k hk => kp.F hF (by decide) (by decide) (by decide) (by decide) (by decide) (by decide) (by decide) (by decide) (by decide) (by decide) (by decide) (by decide) (by decide) (by decide) (by decide) (by decide) (by decide) (by decide) (by decide) (by decide) (by decide) (by decide) (by decide) (by decide) (h7 k (hN hk)), ?_, by rw [hF.1]; exact kt.F hF (by decide) (by decide) (by decide) h9, fun k hk => kt.F hF (by decide) (by decide) (by decide) (h10 k (hN hk)), fun k hk => kw.F1 hF (by decide) (by decide) (by decide) (by decide) (by decide) (by decide) (by decide) (by decide) (by decide) (by decide) (h11 k (hN hk)), fun k hk => kw.F2 hF (by decide) (by decide) (by decide) (by decide) (by decide) (by decide) (by decide) (by decide) (by decide) (by decide) (h12 k (hN hk))⟩, kS.F hF (by decide) hS, fun k hk => kgr.F hF (by decide) (by decide) (by decide) (by decide) (by decide) (by decide) (hgr k (hN hk)), ⟨k_par.F hF (by decide) (by decide) (by decide) (by decide) (by decide) (by decide) (by decide) (by decide) (by decide) j1, k_dst.F hF (by decide) (by decide) j2, k_own.F hF (by decide) (by decide) j3, k_obj.F hF j4, k_cap.F hF j5, k_chn.F hF (by decide) (by decide) (by decide) (by decide) j6, k_occ.F hF (by decide) (by decide) (by decide) (by decide) (by decide) (by decide) (by decide) (by decide) (by decide) (by decide) (by decide) j7, k_tri.F hF (by decide) (by decide) (by decide) (by decide) (by decide) j8, k_que.F hF (by decide) (by decide) (by decide) (by decide) (by decide) j9, k_sts.F hF (by decide) (by decide) (by decide) (by decide) (by decide) (by decide) (by decide) (by decide) (by decide) (by decide) (by decide) j10, k_uni.F hF (by decide) (by decide) (by decide) (by decide) (by decide) (by decide) (by decide) (by decide) (by decide) (by decide) j11, k_num.F hF (by decide) (by decide) (by decide) (by decide) (by decide) (by decide) j12, k_pot.F hF (by decide) (by decide) (by decide) (by decide) (by decide) (by decide) (by decide) (by decide) j13, k_pln.F hF (by decide) (by decide) (by decide) (by decide) (by decide) (by decide) (by decide) (by decide) (by decide) (by decide) j14, (hF.2.2.2.2.1 0 (by decide) 0).trans j15, j16, fun k k1 k2 => by rw [hF.2.2.2.2.1 72 (by decide), hF.2.2.2.2.1 0 (by decide)]; exact j17 k k1 (hN k2), fun k hk => kof.F hF (by decide) (by decide) (by decide) (by decide) (by decide) (by decide) (by decide) (by decide) (by decide) (by decide) (by decide) (by decide) (j18 k (hN hk))⟩⟩
  intro k hk
  obtain ⟨a1, a2, a3, a4, a5, -⟩ := hF
  rw [a1] at hk
  obtain ⟨z1, z2, z3, z4, z5, z6, z7, z8, z9, z10, z11⟩ := h8 k hk
  unfold ka
  rw [a1, a3 1 0 (by decide), a3 1 1 (by decide), a3 1 2 (by decide), a5 104 (by decide), a5 105 (by decide), a5 106 (by decide)]
  by_cases e : k = p
  · rw [e]
    rw [e] at z1 z2 z3 z8 z9 z10 z11
    exact ⟨z1, z2, z3, e3, e4, e5, e6, z8, z9, z10, z11⟩
  · rw [hI k 3 e, hI k 4 e, hI k 5 e, hA 107 k e, hA 108 k e, hA 109 k e]
    exact ⟨z1, z2, z3, z4, z5, z6, z7, z8, z9, z10, z11⟩
theorem c_alarms {d t : Nat} : ∀ (r i N : Nat) (S : xm_S) (A : y_A), i + r = xm_n S 1 11 → r < N → kM S A (fun _ => False) (fun _ => False) (fun _ => False) 5000 5000 5000 t 0 0 0 → rg_tick_409 N (nI i) A ∧ xw (d + 4) 50 82 [some (.inr (some (0, 0))), some (.inl (nI i))] [] S (fun r S' => r = none ∧ xk_C S' ∧ kM S' (rf_tick_409 N (nI i) A).2 (fun _ => False) (fun _ => False) (fun _ => False) 5000 5000 5000 t 0 0 0 ∧ kW S S' A (rf_tick_409 N (nI i) A).2) := by
  intro r
  induction r with
  | zero =>
    intro i N S A hi hN hM
    obtain ⟨N, rfl⟩ : ∃ x, N = x + 1 := ⟨N - 1, by omega⟩
    have hbb := hM.1.2.2.1
    unfold k_bnd at hbb
    have w11 : A 103 0 = nI (xm_n S 1 11) := hM.1.2.1.2.2.2.2.2.2.2.2.2.2
    have cc : nI (xm_n S 1 11) ≤ nI i := nI_le (by omega) (by omega)
    unfold rg_tick_409 rf_tick_409
    rw [w11, if_pos cc]
    exact ⟨⟨fun _ => trivial, fun z => absurd cc z⟩, cw_passSecond_82 hM.1.1 ⟨fun _ => ⟨rfl, hM.1.1, hM, rfl⟩, fun z => absurd cc z⟩⟩
  | succ r ih =>
    intro i N S A hi hN hM
    obtain ⟨N, rfl⟩ : ∃ x, N = x + 1 := ⟨N - 1, by omega⟩
    have hbb := hM.1.2.2.1
    unfold k_bnd at hbb
    have ht := hM.1.2.2.2.2.1.1
    have w11 : A 103 0 = nI (xm_n S 1 11) := hM.1.2.1.2.2.2.2.2.2.2.2.2.2
    have cc : ¬ nI (xm_n S 1 11) ≤ nI i := nI_ge (by omega) (by omega)
    have hin : i < xm_n S 1 11 := by omega
    have ixi : y_ix (nI i) = i := y_ix_nI (by omega)
    have y10 : y_in (nI i) 10 := y_in_nI (by omega) (by decide)
    have hl := hM.1.2.2.2.1.2.2.2.2.2.2.2.2 i hin
    obtain ⟨k0, k1, k2, k3, k4, k5, k6, -⟩ := hM.1.2.2.2.2.2.2.2.2.2.2.2.2.2.1 i hin
    obtain ⟨s1, s2, s3⟩ := c_holds (d := d) hM hin
    generalize hF : rf_isSo (nI i) A = F at *
    have main : ∀ (S5 : xm_S) (A5 : y_A), kF 0 0 [(1, 3), (1, 4), (1, 5)] [] [107, 108, 109] S S5 A A5 → kM S5 A5 (fun _ => False) (fun _ => False) (fun _ => False) 5000 5000 5000 t 0 0 0 → (rf_tick_409 (N + 1) (nI i) A = rf_tick_409 N (nI (i + 1)) A5) → (rg_tick_409 N (nI (i + 1)) A5 → rg_tick_409 (N + 1) (nI i) A) → rg_tick_409 (N + 1) (nI i) A ∧ xw (d + 4) 50 82 [some (.inr (some (0, 0))), some (.inl (nI i + 1))] [] S5 (fun r S' => r = none ∧ xk_C S' ∧ kM S' (rf_tick_409 (N + 1) (nI i) A).2 (fun _ => False) (fun _ => False) (fun _ => False) 5000 5000 5000 t 0 0 0 ∧ kW S S' A (rf_tick_409 (N + 1) (nI i) A).2) := fun S5 A5 f1 m1 e1 e2 => by
      obtain ⟨i1, i2⟩ := ih (i + 1) N S5 A5 (by rw [f1.1]; omega) (by omega) m1
      rw [nI_1, e1]
      refine ⟨e2 i1, xw.mono i2 ?_⟩
      rintro r S' ⟨q1, q2, q3, q4⟩
      exact ⟨q1, q2, q3, kW.tr (f1.O (by decide) (by decide)).2.2 q4⟩
    have cls : ∀ (Q : Option xm_V → xm_S → Prop), (F = 0 → ∀ S6, S6 = xm_si S 1 i 3 F → Q none S6) → (¬ F = 0 → A 109 i = 0 → ∀ S14, S14 = xm_si (xm_si (xm_si S 1 i 4 (xm_i S 1 i 4 + 1)) 1 i 5 (xm_i S 0 0 13)) 1 i 3 F → Q none S14) → (¬ F = 0 → ¬ A 109 i = 0 → ∀ S17, S17 = xm_si S 1 i 3 F → Q none S17) → xc (d + 3) 60 [.inr (some (0, 0)), .inr (some (1, i))] S Q := fun Q h1 h2 h3 => by
      refine cw_lookAtAlarm (d := d + 2) hM.1.1 (xc.mono s3 ?_)
      rintro r S1 ⟨e1, rfl⟩
      refine ⟨F, e1, hM.1.1, fun z => ⟨s2, fun S6 e6 => h1 z S6 e6⟩, fun z => ⟨fun y S9 e9 S11 e11 => ⟨s2, fun S14 e14 => h2 z (k3.symm.trans y) S14 (by rw [e14, e11, e9])⟩, fun y => ⟨s2, fun S17 e17 => h3 z (fun q => y (k3.trans q)) S17 e17⟩⟩⟩
    have f1 : kF 0 0 [(1, 3), (1, 4), (1, 5)] [] [107, 108, 109] S (xm_si S 1 i 3 F) A (xm_u2 A 109 i F) := (((kF.rf 0 0 S A).si 1 i 3 F (fun z => absurd z (by decide)) (fun z => absurd z (by decide))).u 109 i F (fun z => absurd z.2 (by decide)) (fun z => absurd z.2 (by decide))).w (by decide) (by decide) (by decide)
    have m1 := hM.alarm (p := i) f1 (fun k j hk => xi_sk (fun z => hk z.2)) (fun x k hk => y_off (fun z => hk z.2)) (xi_same.trans (y_same _ _ _ _).symm) ((xi_si (by decide)).trans (k4.trans (y_off (by omega)).symm)) ((xi_si (by decide)).trans (k5.trans (y_off (by omega)).symm)) (by rw [y_same]; exact s2)
    have f2 : kF 0 0 [(1, 3), (1, 4), (1, 5)] [] [107, 108, 109] S (xm_si (xm_si (xm_si S 1 i 4 (xm_i S 1 i 4 + 1)) 1 i 5 (xm_i S 0 0 13)) 1 i 3 F) A (xm_u2 (xm_u2 (xm_u2 A 107 i (A 107 i + 1)) 108 i (A 0 0)) 109 i F) := (((((((kF.rf 0 0 S A).si 1 i 4 _ (fun z => absurd z (by decide)) (fun z => absurd z (by decide))).si 1 i 5 _ (fun z => absurd z (by decide)) (fun z => absurd z (by decide))).si 1 i 3 F (fun z => absurd z (by decide)) (fun z => absurd z (by decide))).u 107 i _ (fun z => absurd z.2 (by decide)) (fun z => absurd z.2 (by decide))).u 108 i _ (fun z => absurd z.2 (by decide)) (fun z => absurd z.2 (by decide))).u 109 i F (fun z => absurd z.2 (by decide)) (fun z => absurd z.2 (by decide))).w (by decide) (by decide) (by decide)
    have m2 := hM.alarm (p := i) f2 (fun k j hk => (xi_sk (fun z => hk z.2)).trans ((xi_sk (fun z => hk z.2)).trans (xi_sk (fun z => hk z.2)))) (fun x k hk => (y_off (fun z => hk z.2)).trans ((y_off (fun z => hk z.2)).trans (y_off (fun z => hk z.2)))) (xi_same.trans (y_same _ _ _ _).symm) ((xi_si (by decide)).trans ((xi_si (by decide)).trans (xi_same.trans (by rw [k4]; exact ((y_off (by omega)).trans ((y_off (by omega)).trans (y_same _ _ _ _))).symm)))) ((xi_si (by decide)).trans (xi_same.trans (by rw [ht]; exact ((y_off (by omega)).trans (y_same _ _ _ _)).symm))) (by rw [y_same]; exact s2)
    have loop : ∀ (S5 : xm_S) (A5 : y_A), kF 0 0 [(1, 3), (1, 4), (1, 5)] [] [107, 108, 109] S S5 A A5 → kM S5 A5 (fun _ => False) (fun _ => False) (fun _ => False) 5000 5000 5000 t 0 0 0 → (rf_tick_409 (N + 1) (nI i) A = rf_tick_409 N (nI (i + 1)) A5) → (rg_tick_409 N (nI (i + 1)) A5 → rg_tick_409 (N + 1) (nI i) A) → (∀ (Q : Option xm_V → xm_S → Prop), Q none S5 → xc (d + 3) 60 [.inr (some (0, 0)), .inr (some (1, i))] S Q) → rg_tick_409 (N + 1) (nI i) A ∧ xw (d + 4) 50 82 [some (.inr (some (0, 0))), some (.inl (nI i))] [] S (fun r S' => r = none ∧ xk_C S' ∧ kM S' (rf_tick_409 (N + 1) (nI i) A).2 (fun _ => False) (fun _ => False) (fun _ => False) 5000 5000 5000 t 0 0 0 ∧ kW S S' A (rf_tick_409 (N + 1) (nI i) A).2) := fun S5 A5 f1 m1 e1 e2 hq => by
      obtain ⟨a1, a2⟩ := main S5 A5 f1 m1 e1 e2
      exact ⟨a1, cw_passSecond_82 (d := d + 3) hM.1.1 ⟨fun z => absurd z cc, fun _ => ⟨y_in_nI (by omega) (by omega), i, by rw [ixi]; exact hl, hq _ ⟨rfl, m1.1.1, a2⟩⟩⟩⟩
    by_cases c0 : F = 0
    · refine loop _ _ f1 m1 ?_ (fun y => ?_) (fun Q hQ => cls Q (fun _ S6 e6 => by rw [e6]; exact hQ) (fun z => absurd c0 z) (fun z => absurd c0 z))
      · conv => lhs; unfold rf_tick_409
        rw [w11, if_neg cc, hF, if_pos c0, ixi, nI_1]
      · unfold rg_tick_409
        rw [w11, hF, ixi, nI_1]
        exact ⟨fun z => absurd z cc, fun _ => ⟨s1, fun _ => ⟨y10, s2, y⟩, fun z => absurd c0 z⟩⟩
    · by_cases c1 : A 109 i = 0
      · refine loop _ _ f2 m2 ?_ (fun y => ?_) (fun Q hQ => cls Q (fun z => absurd z c0) (fun _ _ S14 e14 => by rw [e14]; exact hQ) (fun _ z => absurd c1 z))
        · conv => lhs; unfold rf_tick_409
          rw [w11, if_neg cc, hF, if_neg c0, ixi, if_pos c1, nI_1]
        · unfold rg_tick_409
          rw [w11, hF, ixi, nI_1]
          exact ⟨fun z => absurd z cc, fun _ => ⟨s1, fun z => absurd z c0, fun _ => ⟨y10, fun _ => ⟨s2, y⟩, fun z => absurd c1 z⟩⟩⟩
      · refine loop _ _ f1 m1 ?_ (fun y => ?_) (fun Q hQ => cls Q (fun z => absurd z c0) (fun _ z => absurd z c1) (fun _ _ S17 e17 => by rw [e17]; exact hQ))
        · conv => lhs; unfold rf_tick_409
          rw [w11, if_neg cc, hF, if_neg c0, ixi, if_neg c1, nI_1]
        · unfold rg_tick_409
          rw [w11, hF, ixi, nI_1]
          exact ⟨fun z => absurd z cc, fun _ => ⟨s1, fun z => absurd z c0, fun _ => ⟨y10, fun z => absurd z c1, fun _ => ⟨s2, y⟩⟩⟩⟩
theorem c_plans {d t : Nat} (hd : 123 ≤ d) {n10 : Nat} : ∀ (r i N : Nat) (S : xm_S) (A : y_A), i + r = n10 → xm_n S 1 10 = n10 → r < N → kM S A (fun _ => False) (fun _ => False) (fun _ => False) 5000 5000 (4500 + i) t 0 0 0 → rg_tick_388 N (nI i) A [] ∧ (rf_tick_388 N (nI i) A []).2.2 = [] ∧ rg_tick_409 20000 0 (rf_tick_388 N (nI i) A []).2.1 ∧ xw (d + 1) 50 48 [some (.inr (some (0, 0))), some (.inl (nI i))] [] S (fun r S' => r = none ∧ xk_C S' ∧ kM S' (rf_tick_409 20000 0 (rf_tick_388 N (nI i) A []).2.1).2 (fun _ => False) (fun _ => False) (fun _ => False) 5000 5000 5000 t 0 0 0 ∧ kW S S' A (rf_tick_409 20000 0 (rf_tick_388 N (nI i) A []).2.1).2) := by
  intro r
  induction r with
  | zero =>
    intro i N S A hi hn hN hM
    obtain ⟨N, rfl⟩ : ∃ x, N = x + 1 := ⟨N - 1, by omega⟩
    have hbb := hM.1.2.2.1
    unfold k_bnd at hbb
    have w10 : A 89 0 = nI (xm_n S 1 10) := hM.1.2.1.2.2.2.2.2.2.2.2.2.1
    have cc : nI (xm_n S 1 10) ≤ nI i := nI_le (by omega) (by omega)
    have hM2 := hM.mono (hb' := 5000) (rb' := 5000) (nb' := 5000) (Nat.le_refl _) (Nat.le_refl _) (by omega) (fun p hp z => by omega)
    obtain ⟨a1, a2⟩ := c_alarms (d := d - 3) (t := t) (xm_n S 1 11) 0 20000 S A (by omega) (by omega) hM2
    rw [show d - 3 + 4 = d + 1 by omega, show nI 0 = (0 : Int32) from rfl] at a2
    rw [show nI 0 = (0 : Int32) from rfl] at a1
    have e1 : rf_tick_388 (N + 1) (nI i) A [] = (nI i, A, []) := by
      unfold rf_tick_388
      rw [w10, if_pos cc]
    rw [e1]
    refine ⟨?_, rfl, a1, cw_passSecond_48 hM.1.1 ⟨fun _ => a2, fun z => absurd cc z⟩⟩
    unfold rg_tick_388
    rw [w10]
    exact ⟨fun _ => trivial, fun z => absurd cc z⟩
  | succ r ih =>
    intro i N S A hi hn hN hM
    obtain ⟨N, rfl⟩ : ∃ x, N = x + 1 := ⟨N - 1, by omega⟩
    have hbb := hM.1.2.2.1
    unfold k_bnd at hbb
    have w10 : A 89 0 = nI (xm_n S 1 10) := hM.1.2.1.2.2.2.2.2.2.2.2.2.1
    have cc : ¬ nI (xm_n S 1 10) ≤ nI i := nI_ge (by omega) (by omega)
    have hin : i < xm_n S 1 10 := by omega
    have ixi : y_ix (nI i) = i := y_ix_nI (by omega)
    have hl := hM.1.2.2.2.1.2.2.2.2.2.2.2.1 i hin
    obtain ⟨A', e1, e2, e3⟩ := c_lookAtPlan (d := d - 1) (by omega) hM hin
    rw [show d - 1 + 1 = d by omega] at e3
    have ef : rf_tick_388 (N + 1) (nI i) A [] = rf_tick_388 N (nI (i + 1)) A' [] := by
      conv => lhs; unfold rf_tick_388
      rw [w10, if_neg cc, e1, nI_1]
    have key : ∀ S5, kM S5 A' (fun _ => False) (fun _ => False) (fun _ => False) 5000 5000 (4500 + (i + 1)) t 0 0 0 → kOr S S5 A A' → _ := fun S5 m1 m2 => ih (i + 1) N S5 A' (by omega) (by rw [m2.1 10 (by decide)]; exact hn) (by omega) m1
    rw [ef]
    have e4 := e3
    obtain ⟨-, r0, S5, -, -, -, b1, b2⟩ := e4
    obtain ⟨i1, i2, i3, -⟩ := key S5 b1 b2
    refine ⟨?_, i2, i3, cw_passSecond_48 hM.1.1 ⟨fun z => absurd z cc, fun _ => ⟨y_in_nI (by omega) (by omega), i, by rw [ixi]; exact hl, xc.mono e3 ?_⟩⟩⟩
    · unfold rg_tick_388
      rw [w10, e1, nI_1]
      exact ⟨fun z => absurd z cc, fun _ => ⟨e2, i1⟩⟩
    · rintro r S6 ⟨c1, c2, c3, c4⟩
      obtain ⟨-, -, -, j4⟩ := key S6 c3 c4
      refine ⟨c1, c2, ?_⟩
      rw [nI_1]
      refine xw.mono j4 ?_
      rintro r S' ⟨q1, q2, q3, q4⟩
      exact ⟨q1, q2, q3, kW.tr c4.2.2 q4⟩
end
