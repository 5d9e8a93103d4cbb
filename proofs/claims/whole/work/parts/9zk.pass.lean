/-! ===== PASSSECOND; SECOND: the 29th contract (printed by wip/whole/gen9zk.py) ===== -/
section
theorem c_tick {S : xm_S} {A : y_A} {t : Nat} (hK : kK S A t) (htt : t + 1 ≤ 60000) : rg_tick A [] ∧ (rf_tick A []).2 = [] ∧ xc 131 50 [.inr (some (0, 0))] S (fun r S' => r = none ∧ xk_C S' ∧ kK S' (rf_tick A []).1 (t + 1) ∧ kW S S' A (rf_tick A []).1) := by
  have hM := hK.M
  have hC := hM.1.1
  have hbb := hM.1.2.2.1
  unfold k_bnd at hbb
  have hM1 := hM.tick htt
  have W1 : kW S (xm_si S 0 0 13 (xm_i S 0 0 13 + 1)) A (xm_u2 A 0 0 (A 0 0 + 1)) := by
    unfold kW
    rw [xi_si (by decide), y_off (by omega)]
  have n61 : xm_n (xm_si S 0 0 13 (xm_i S 0 0 13 + 1)) 1 6 = xm_n S 1 6 := rfl
  unfold rg_tick rf_tick
  generalize hS1 : xm_si S 0 0 13 (xm_i S 0 0 13 + 1) = S1 at *
  generalize xm_u2 A 0 0 (A 0 0 + 1) = A0 at *
  obtain ⟨r1, r2⟩ := c_refill (d := 130) (xm_n S1 1 3) 0 20000 S1 A0 none (by omega) (by have := hM1.1.2.2.1; unfold k_bnd at this; omega) hM1
  rw [show nI 0 = (0 : Int32) from rfl] at r1 r2
  generalize hA1 : (rf_tick_12 20000 0 A0).2 = A1 at *
  have sw : ∀ S3, kM S3 A1 (fun _ => False) (fun _ => False) (fun _ => False) 0 0 (xm_n S 1 6) (t + 1) 0 0 0 → xc 130 52 [.inr (some (0, 0))] S3 (fun r S5 => ∃ x : Int32, r = some (.inl x) ∧ xk_C S5 ∧ kM S5 A1 (fun _ => False) (fun _ => False) (fun _ => False) 0 0 (xm_n S 1 6) (t + 1) 0 0 0 ∧ xm_i S5 = xm_i S3 ∧ xm_n S5 1 6 = xm_n S3 1 6 ∧ (x = 0 → ∀ k, k < xm_n S5 1 6 → xm_i S5 2 k 8 = 0 → xm_i S5 2 k 12 ≠ xm_i S5 0 0 13)) := fun S3 m => c_sweep m (fun S' x m1 m2 m3 m4 => ⟨x, rfl, m1.1.1, m1, m2, m3, by rw [m2, m3]; exact m4⟩)
  have fin : ∃ A2, rf_tick_88 20000 0 A1 [] = (4, A2, []) ∧ rg_tick_88 20000 0 A1 [] ∧ ∃ S17, kM S17 A2 (fun _ => False) (fun _ => False) (fun _ => False) 5000 5000 (xm_n S 1 6) (t + 1) 0 0 0 := by
    obtain ⟨-, r0, S3, -, -, -, m3, -, n63⟩ := r2
    obtain ⟨-, r5, S5, -, x, -, -, m5, i5, n5, d5⟩ := sw S3 m3
    by_cases c : x = 0
    · obtain ⟨a1, a2⟩ := k_idle m5 (d5 c)
      exact ⟨A1, a1, a2, S5, m5.mono (by omega) (by omega) (Nat.le_refl _) (fun _ _ z => z)⟩
    · obtain ⟨a1, A2, a2, a3⟩ := c_due m5 (by omega)
      obtain ⟨-, q1, T1, -, -, -, b1⟩ := a3
      obtain ⟨-, q2, T2, -, -, -, b2⟩ := b1
      obtain ⟨-, q3, T3, -, -, -, b3⟩ := b2
      obtain ⟨-, q4, T4, -, -, -, b4, -⟩ := b3
      exact ⟨A2, a2, a1, T4, b4⟩
  obtain ⟨A2, e88, g88, S17, m17⟩ := fin
  obtain ⟨⟨t1, t2, t3, t4⟩, -⟩ := c_tail m17 (by omega)
  rw [e88]
  dsimp only
  refine ⟨⟨r1, g88, t1, t2, t3, trivial⟩, t4, ?_⟩
  refine cw_passSecond (d := 130) hC (fun S1' e1 => ?_)
  rw [e1, hS1]
  refine xc.mono (cw_refillLimits hM1.1.1 r2) ?_
  rintro r S3 ⟨a1, a2, a3, a4, a5⟩
  refine ⟨a1, a2, xc.mono (sw S3 a3) ?_⟩
  rintro r S5 ⟨x, b1, b2, b3, b4, b5, b6⟩
  have W5 : kW S S5 A A1 := (W1.tr a4).tr (by unfold kW; rw [b4])
  have last : ∀ S17, kM S17 A2 (fun _ => False) (fun _ => False) (fun _ => False) 5000 5000 (xm_n S 1 6) (t + 1) 0 0 0 → kW S5 S17 A1 A2 → xc 130 58 [.inr (some (0, 0))] S17 (fun r S9 => r = none ∧ xk_C S9 ∧ (xw 131 50 48 [some (.inr (some (0, 0))), some (.inl (0 : Int32))] [] S9 (fun r S' => r = none ∧ xk_C S' ∧ kK S' ((rf_tick_409 20000 0 (rf_tick_388 20000 0 (rf_tick_256 20000 0 A2 []).2.1 (rf_tick_256 20000 0 A2 []).2.2).2.1).2) (t + 1) ∧ kW S S' A ((rf_tick_409 20000 0 (rf_tick_388 20000 0 (rf_tick_256 20000 0 A2 []).2.1 (rf_tick_256 20000 0 A2 []).2.2).2.1).2)))) := fun S17 m w => by
    refine xc.mono (c_tail m (by omega)).2 ?_
    rintro r S9 ⟨d1, d2, d3⟩
    refine ⟨d1, d2, xw.mono d3 ?_⟩
    rintro r S' ⟨f1, f2, f3, f4⟩
    exact ⟨f1, f2, f3.K, (W5.tr w).tr f4⟩
  refine ⟨x, b1, b2, fun c => ?_, fun c => ?_⟩
  · obtain ⟨i1, -⟩ := k_idle b3 (b6 c)
    obtain rfl : A1 = A2 := congrArg (fun z => z.2.1) (i1.symm.trans e88)
    exact last S5 (b3.mono (by omega) (by omega) (Nat.le_refl _) (fun _ _ z => z)) rfl
  · obtain ⟨-, A4, h1, h2⟩ := c_due b3 (by omega)
    obtain rfl : A4 = A2 := congrArg (fun z => z.2.1) (h1.symm.trans e88)
    refine xc.mono h2 ?_
    rintro r S11 ⟨y1, y2, y3⟩
    refine ⟨y1, y2, xc.mono y3 ?_⟩
    rintro r S13 ⟨y1, y2, y3⟩
    refine ⟨y1, y2, xc.mono y3 ?_⟩
    rintro r S15 ⟨y1, y2, y3⟩
    refine ⟨y1, y2, xc.mono y3 ?_⟩
    rintro r S17 ⟨y1, y2, y3, y4⟩
    exact ⟨y1, y2, last S17 y3 y4⟩
theorem kM.c60 {S S' : xm_S} {A A' : y_A} {X E B : Nat → Prop} {hb rb nb t w e1 e2 : Nat} (h : kM S A X E B hb rb nb t w e1 e2) (hF : kF 0 0 [] [] [60] S S' A A') : kM S' A' X E B hb rb nb t w e1 e2 := by
  obtain ⟨⟨hC, hcnt, hb', hl, ht, hv, h1, h2, h3, h4, h5, h6, h7, h8, h9, h10, h11, h12⟩, hS, hgr, ⟨j1, j2, j3, j4, j5, j6, j7, j8, j9, j10, j11, j12, j13, j14, j15, j16, j17, j18⟩⟩ := h
  have hN : ∀ {r k : Nat}, k < xm_n S' 1 r → k < xm_n S 1 r := fun z => by rw [hF.1] at z; exact z
  exact ⟨⟨xk_C.F hF (by decide) hC, k_cnt.F hF (by decide) (by decide) (by decide) (by decide) (by decide) (by decide) (by decide) (by decide) (by decide) (by decide) (by decide) hcnt, k_bnd.F hF hb', k_lst.F hF hl, k_top.F hF (by decide) (by decide) (by decide) ht, k_live.F hF (by decide) hv, fun k hk => ks.F hF (by decide) (by decide) (by decide) (by decide) (by decide) (by decide) (by decide) (h1 k (hN hk)), fun k hk => kc.F hF (by decide) (by decide) (by decide) (by decide) (by decide) (by decide) (by decide) (by decide) (by decide) (by decide) (by decide) (by decide) (by decide) (by decide) (by decide) (by decide) (by decide) (by decide) (by decide) (by decide) (by decide) (by decide) (by decide) (by decide) (by decide) (by decide) (by decide) (by decide) (by decide) (by decide) (by decide) (by decide) (by decide) (by decide) (h2 k (hN hk)), fun k hk => kg.F hF (by decide) (by decide) (by decide) (by decide) (by decide) (by decide) (by decide) (by decide) (by decide) (by decide) (by decide) (by decide) (by decide) (by decide) (by decide) (by decide) (by decide) (by decide) (by decide) (by decide) (by decide) (by decide) (by decide) (by decide) (by decide) (by decide) (by decide) (by decide) (by decide) (by decide) (by decide) (by decide) (by decide) (by decide) (by decide) (h3 k (hN hk)), fun k hk => kf.F hF (by decide) (by decide) (by decide) (by decide) (by decide) (by decide) (by decide) (by decide) (by decide) (by decide) (by decide) (by decide) (by decide) (h4 k (hN hk)), fun k hk => ke.F hF (by decide) (by decide) (by decide) (by decide) (by decide) (by decide) (by decide) (by decide) (by decide) (by decide) (h5 k (hN hk)), fun k hk => ko.F hF (by decide) (by decide) (by decide) (by decide) (by decide) (by decide) (by decide) (by decide) (by decide) (by decide) (by decide) (h6 k (hN hk)), fun k hk => kp.F hF (by decide) (by decide) (by decide) (by decide) (by decide) (by decide) (by decide) (by decide) (by decide) (by decide) (by decide) (by decide) (by decide) (by decide) (by decide) (by decide) (by decide) (by decide) (by decide) (by decide) (by decide) (by decide) (by decide) (by decide) (h7 k (hN hk)), fun k hk => ka.F hF (by decide) (by decide) (by decide) (by decide) (by decide) (by decide) (by decide) (by decide) (by decide) (by decide) (by decide) (by decide) (h8 k (hN hk)), by rw [hF.1]; exact kt.F hF (by decide) (by decide) (by decide) h9, fun k hk => kt.F hF (by decide) (by decide) (by decide) (h10 k (hN hk)), fun k hk => kw.F1 hF (by decide) (by decide) (by decide) (by decide) (by decide) (by decide) (by decide) (by decide) (by decide) (by decide) (h11 k (hN hk)), fun k hk => kw.F2 hF (by decide) (by decide) (by decide) (by decide) (by decide) (by decide) (by decide) (by decide) (by decide) (by decide) (h12 k (hN hk))⟩, kS.F hF (by decide) hS, fun k hk => kgr.F hF (by decide) (by decide) (by decide) (by decide) (by decide) (by decide) (hgr k (hN hk)), ⟨k_par.F hF (by decide) (by decide) (by decide) (by decide) (by decide) (by decide) (by decide) (by decide) (by decide) j1, k_dst.F hF (by decide) (by decide) j2, k_own.F hF (by decide) (by decide) j3, k_obj.F hF j4, k_cap.F hF j5, k_chn.F hF (by decide) (by decide) (by decide) (by decide) j6, k_occ.F hF (by decide) (by decide) (by decide) (by decide) (by decide) (by decide) (by decide) (by decide) (by decide) (by decide) (by decide) j7, k_tri.F hF (by decide) (by decide) (by decide) (by decide) (by decide) j8, k_que.F hF (by decide) (by decide) (by decide) (by decide) (by decide) j9, k_sts.F hF (by decide) (by decide) (by decide) (by decide) (by decide) (by decide) (by decide) (by decide) (by decide) (by decide) (by decide) j10, k_uni.F hF (by decide) (by decide) (by decide) (by decide) (by decide) (by decide) (by decide) (by decide) (by decide) (by decide) j11, k_num.F hF (by decide) (by decide) (by decide) (by decide) (by decide) (by decide) j12, k_pot.F hF (by decide) (by decide) (by decide) (by decide) (by decide) (by decide) (by decide) (by decide) j13, k_pln.F hF (by decide) (by decide) (by decide) (by decide) (by decide) (by decide) (by decide) (by decide) (by decide) (by decide) j14, (hF.2.2.2.2.1 0 (by decide) 0).trans j15, j16, fun k k1 k2 => by rw [hF.2.2.2.2.1 72 (by decide), hF.2.2.2.2.1 0 (by decide)]; exact j17 k k1 (hN k2), fun k hk => kof.F hF (by decide) (by decide) (by decide) (by decide) (by decide) (by decide) (by decide) (by decide) (by decide) (by decide) (by decide) (by decide) (j18 k (hN hk))⟩⟩
theorem c_seconds {n : Nat} (hn : n ≤ 100) : ∀ (r i N : Nat) (S : xm_S) (A : y_A) (t : Nat) (l2 : Int32), i + r = n → r < N → kK S A t → t + r ≤ 60000 → rg_second_21 N (nI n) (nI i) A [] ∧ (rf_second_21 N (nI n) (nI i) A []).2.2 = [] ∧ xw 132 49 20 [some (.inr (some (0, 0))), some (.inl (nI n)), some (.inl l2), some (.inl (nI i))] [] S (fun r' S' => r' = some (.inl (xm_i S' 0 0 14 - l2)) ∧ kK S' (rf_second_21 N (nI n) (nI i) A []).2.1 (t + r) ∧ kW S S' A (rf_second_21 N (nI n) (nI i) A []).2.1) := by
  intro r
  induction r with
  | zero =>
    intro i N S A t l2 hi hN hK htt
    obtain ⟨N, rfl⟩ : ∃ x, N = x + 1 := ⟨N - 1, by omega⟩
    have cc : nI n ≤ nI i := nI_le (by omega) (by omega)
    unfold rg_second_21 rf_second_21
    rw [if_pos cc]
    exact ⟨⟨fun _ => trivial, fun z => absurd cc z⟩, rfl, cw_second_20 (d := 131) hK.M.1.1 ⟨fun _ => ⟨rfl, hK, rfl⟩, fun z => absurd cc z⟩⟩
  | succ r ih =>
    intro i N S A t l2 hi hN hK htt
    obtain ⟨N, rfl⟩ : ∃ x, N = x + 1 := ⟨N - 1, by omega⟩
    have cc : ¬ nI n ≤ nI i := nI_ge (by omega) (by omega)
    obtain ⟨g, js, c⟩ := c_tick hK (by omega)
    have e : rf_second_21 (N + 1) (nI n) (nI i) A [] = rf_second_21 N (nI n) (nI (i + 1)) (rf_tick A []).1 [] := by
      conv => lhs; unfold rf_second_21
      rw [if_neg cc, js, nI_1]
    have c' := c
    obtain ⟨-, r0, S1, -, -, -, k1, -⟩ := c'
    obtain ⟨i1, i2, -⟩ := ih (i + 1) N S1 (rf_tick A []).1 (t + 1) l2 (by omega) (by omega) k1 (by omega)
    rw [e]
    refine ⟨?_, i2, cw_second_20 (d := 131) hK.M.1.1 ⟨fun z => absurd z cc, fun _ => xc.mono c ?_⟩⟩
    · unfold rg_second_21
      rw [js, nI_1]
      exact ⟨fun z => absurd z cc, fun _ => ⟨g, i1⟩⟩
    · rintro r' S2 ⟨a1, a2, a3, a4⟩
      obtain ⟨-, -, j3⟩ := ih (i + 1) N S2 (rf_tick A []).1 (t + 1) l2 (by omega) (by omega) a3 (by omega)
      refine ⟨a1, a2, ?_⟩
      rw [nI_1]
      refine xw.mono j3 ?_
      rintro r'' S' ⟨q1, q2, q3⟩
      rw [show t + 1 + r = t + (r + 1) by omega] at q2
      exact ⟨q1, q2, a4.tr q3⟩
theorem p_second : kPub 49 163 1 := by
  intro as hn S A t hK htt
  obtain ⟨a1, rfl⟩ := k_l1 hn
  have hC := hK.M.1.1
  have ask : rf_second a1 A [] = (-2, A, []) → rg_second a1 A [] → xc 200 49 [.inr (some (0, 0)), .inl a1] S (fun r S' => r = some (.inl (-2)) ∧ S' = S) → ∃ (f : Int32) (A' : y_A) (t' : Nat), t' ≤ t + 100 ∧ xc 1000 49 [.inr (some (0, 0)), .inl a1] S (fun r S' => r = some (.inl f) ∧ kK S' A' t') ∧ rc 20 163 [.inr (some (11, 0)), .inl a1] A [] (fun r A2 js => r = some (.inl f) ∧ A2 = A' ∧ js = []) := fun e G x => by
    refine ⟨-2, A, t, by omega, xc.up (xc.mono x ?_) (by omega), ra.mono (rh_second (d := 20) (js := []) (by decide) G) (fun r A2 js y => ?_)⟩
    · rintro r S' ⟨h1, rfl⟩
      exact ⟨h1, hK⟩
    · rw [e] at y
      exact y
  by_cases c1 : a1 < 1
  · exact ask (by unfold rf_second; rw [if_pos c1]) ⟨fun _ => trivial, fun z => absurd c1 z⟩ (cw_second (d := 199) hC ⟨fun _ => ⟨rfl, rfl⟩, fun z => absurd c1 z⟩)
  by_cases c2 : (100 : Int32) < a1
  · have c2' : ¬ a1 ≤ 100 := Int32.not_le.mpr c2
    exact ask (by unfold rf_second; rw [if_neg c1, if_neg c2']) ⟨fun z => absurd z c1, fun _ => ⟨fun z => absurd z c2', fun _ => trivial⟩⟩ (cw_second (d := 199) hC ⟨fun z => absurd z c1, fun _ => ⟨fun _ => ⟨rfl, rfl⟩, fun z => absurd c2 z⟩⟩)
  have c2' : a1 ≤ 100 := Int32.not_lt.mp c2
  obtain ⟨n, n1, n2, n3⟩ := k_rg (x := a1) (a := 1) (b := 100) (by decide) (Int32.not_lt.mp c1) c2'
  have hF : kF 0 0 [] [] [60] S S A (xm_u2 A 60 0 0) := (kF.rf 0 0 S A).u 60 0 0 (fun z => absurd z.1 (by decide)) (fun z => absurd z.2 (by decide))
  have hK0 : kK S (xm_u2 A 60 0 0) t := (hK.M.c60 hF).K
  obtain ⟨g, js, c⟩ := c_seconds n3 n 0 20000 S (xm_u2 A 60 0 0) t (xm_i S 0 0 14) (by omega) (by omega) hK0 (by omega)
  rw [show nI 0 = (0 : Int32) from rfl, ← n1] at g js c
  refine ⟨(rf_second_21 20000 a1 0 (xm_u2 A 60 0 0) []).2.1 60 0, (rf_second_21 20000 a1 0 (xm_u2 A 60 0 0) []).2.1, t + n, by omega, ?_, ?_⟩
  · refine xc.up (d := 132) (show xc 132 49 [.inr (some (0, 0)), .inl a1] S _ from cw_second (d := 131) hC ⟨fun z => absurd z c1, fun _ => ⟨fun z => absurd z c2, fun _ => xw.mono c ?_⟩⟩) (by decide)
    rintro r S' ⟨q1, q2, q3⟩
    refine ⟨?_, q2⟩
    unfold kW at q3
    rw [y_same, Int32.add_zero] at q3
    rw [q1, q3, Int32.add_comm, Int32.sub_eq_add_neg, Int32.add_assoc, Int32.add_right_neg, Int32.add_zero]
  · have G : rg_second a1 A [] := ⟨fun z => absurd z c1, fun _ => ⟨fun _ => ⟨g, trivial⟩, fun z => absurd c2' z⟩⟩
    refine ra.mono (rh_second (d := 20) (js := []) (by decide) G) (fun r A2 js' y => ?_)
    have e : rf_second a1 A [] = ((rf_second_21 20000 a1 0 (xm_u2 A 60 0 0) []).2.1 60 0, (rf_second_21 20000 a1 0 (xm_u2 A 60 0 0) []).2.1, []) := by
      unfold rf_second
      rw [if_neg c1, if_pos c2', js]
    rw [e] at y
    exact y
end
