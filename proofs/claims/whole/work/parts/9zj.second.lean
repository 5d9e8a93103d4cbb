/-! ===== A SECOND; SECOND (printed by wip/whole/gen9zj.py) ===== -/
section
theorem k_88s {A A' : y_A} {N : Nat} {l x : Int32} (hl : ¬ 4 ≤ l) (h : rf_tick_95 20000 l 0 A [] = (x, A', [])) (g : rg_tick_95 20000 l 0 A []) : rf_tick_88 (N + 1) l A [] = rf_tick_88 N (l + 1) A' [] ∧ (rg_tick_88 N (l + 1) A' [] → rg_tick_88 (N + 1) l A []) := by
  refine ⟨?_, fun y => ?_⟩
  · conv => lhs; unfold rf_tick_88
    rw [if_neg hl, h]
  · unfold rg_tick_88
    rw [h]
    exact ⟨fun z => absurd z hl, fun _ => ⟨g, y⟩⟩
theorem k_88 {A A1 A2 A3 A4 : y_A} {x0 x1 x2 x3 : Int32} (h0 : rf_tick_95 20000 0 0 A [] = (x0, A1, [])) (g0 : rg_tick_95 20000 0 0 A []) (h1 : rf_tick_95 20000 1 0 A1 [] = (x1, A2, [])) (g1 : rg_tick_95 20000 1 0 A1 []) (h2 : rf_tick_95 20000 2 0 A2 [] = (x2, A3, [])) (g2 : rg_tick_95 20000 2 0 A2 []) (h3 : rf_tick_95 20000 3 0 A3 [] = (x3, A4, [])) (g3 : rg_tick_95 20000 3 0 A3 []) (N : Nat) : rf_tick_88 (N + 5) 0 A [] = (4, A4, []) ∧ rg_tick_88 (N + 5) 0 A [] := by
  obtain ⟨a1, b1⟩ := k_88s (N := N + 4) (by decide) h0 g0
  obtain ⟨a2, b2⟩ := k_88s (N := N + 3) (by decide) h1 g1
  obtain ⟨a3, b3⟩ := k_88s (N := N + 2) (by decide) h2 g2
  obtain ⟨a4, b4⟩ := k_88s (N := N + 1) (by decide) h3 g3
  have a5 : rf_tick_88 (N + 1) 4 A4 [] = (4, A4, []) := by
    unfold rf_tick_88
    rw [if_pos (by decide)]
  have b5 : rg_tick_88 (N + 1) 4 A4 [] := by
    unfold rg_tick_88
    exact ⟨fun _ => trivial, fun z => absurd (by decide) z⟩
  rw [show (0 : Int32) + 1 = 1 from rfl] at a1 b1
  rw [show (1 : Int32) + 1 = 2 from rfl] at a2 b2
  rw [show (2 : Int32) + 1 = 3 from rfl] at a3 b3
  rw [show (3 : Int32) + 1 = 4 from rfl] at a4 b4
  exact ⟨a1.trans (a2.trans (a3.trans (a4.trans a5))), b1 (b2 (b3 (b4 b5)))⟩
theorem c_one0 {S : xm_S} {A : y_A} {nb t : Nat} (hM : kM S A (fun _ => False) (fun _ => False) (fun _ => False) 0 0 nb t 0 0 0) (hnb : nb ≤ xm_n S 1 6) : rg_tick_95 20000 0 0 A [] ∧ xc 130 53 [.inr (some (0, 0)), .inl (10 : Int32)] S (kPs 0 20000 0 S A 0 0 nb t) := by
  have hbb := hM.1.2.2.1
  unfold k_bnd at hbb
  obtain ⟨a1, a2⟩ := c_pass0 (d := 128) (by omega) hM hnb (xm_n S 1 7) 0 0 20000 S A none (by omega) (kG.z hM.1.2.2.2.2.2.1) (by omega) hM (kZ.rf _ _) (by omega)
  exact ⟨a1, cw_doWhatIsDue (d := 128) hM.1.1 a2⟩
theorem c_one1 {S : xm_S} {A : y_A} {nb t : Nat} (hM : kM S A (fun _ => False) (fun _ => False) (fun _ => False) 0 0 nb t 0 0 0) (hnb : nb ≤ xm_n S 1 6) : rg_tick_95 20000 1 0 A [] ∧ xc 130 53 [.inr (some (0, 0)), .inl (3 : Int32)] S (kPs 1 20000 0 S A 0 0 nb t) := by
  have hbb := hM.1.2.2.1
  unfold k_bnd at hbb
  obtain ⟨a1, a2⟩ := c_pass1 (d := 128) (by omega) hM hnb (xm_n S 1 7) 0 0 20000 S A none (by omega) (kG.z hM.1.2.2.2.2.2.1) (by omega) hM (kZ.rf _ _) (by omega)
  exact ⟨a1, cw_doWhatIsDue (d := 128) hM.1.1 a2⟩
theorem c_one2 {S : xm_S} {A : y_A} {nb t : Nat} (hM : kM S A (fun _ => False) (fun _ => False) (fun _ => False) 0 0 nb t 0 0 0) (hnb : nb ≤ xm_n S 1 6) : rg_tick_95 20000 2 0 A [] ∧ xc 130 53 [.inr (some (0, 0)), .inl (5 : Int32)] S (kPs 2 20000 0 S A 5000 0 nb t) := by
  have hbb := hM.1.2.2.1
  unfold k_bnd at hbb
  obtain ⟨a1, a2⟩ := c_pass2 (d := 128) (by omega) hM hnb (xm_n S 1 7) 0 0 20000 S A none (by omega) (kG.z hM.1.2.2.2.2.2.1) (by omega) hM (kZ.rf _ _) (by omega)
  exact ⟨a1, cw_doWhatIsDue (d := 128) hM.1.1 a2⟩
theorem c_one3 {S : xm_S} {A : y_A} {nb t : Nat} (hM : kM S A (fun _ => False) (fun _ => False) (fun _ => False) 5000 0 nb t 0 0 0) (hnb : nb ≤ xm_n S 1 6) : rg_tick_95 20000 3 0 A [] ∧ xc 130 53 [.inr (some (0, 0)), .inl (4 : Int32)] S (kPs 3 20000 0 S A 5000 5000 nb t) := by
  have hbb := hM.1.2.2.1
  unfold k_bnd at hbb
  obtain ⟨a1, a2⟩ := c_pass3 (d := 128) (by omega) hM hnb (xm_n S 1 7) 0 0 20000 S A none (by omega) (kG.z hM.1.2.2.2.2.2.1) (by omega) hM (kZ.rf _ _) (by omega)
  exact ⟨a1, cw_doWhatIsDue (d := 128) hM.1.1 a2⟩
theorem kPs.eq {L : Int32} {N K : Nat} {S S' : xm_S} {A A1 : y_A} {hb rb nb t : Nat} {r : Option xm_V} {x : Int32} (h : kPs L N K S A hb rb nb t r S') (e : rf_tick_95 N L (nI K) A [] = (x, A1, [])) : r = none ∧ xk_C S' ∧ kM S' A1 (fun _ => False) (fun _ => False) (fun _ => False) hb rb nb t 0 0 0 ∧ kZ S S' A A1 := by
  obtain ⟨z1, z2, y, A', z3, z4, z5⟩ := h
  obtain rfl : A' = A1 := congrArg (fun z => z.2.1) (z3.symm.trans e)
  exact ⟨z1, z2, z4, z5⟩
theorem c_due {S : xm_S} {A : y_A} {nb t : Nat} (hM : kM S A (fun _ => False) (fun _ => False) (fun _ => False) 0 0 nb t 0 0 0) (hnb : nb ≤ xm_n S 1 6) : rg_tick_88 20000 0 A [] ∧ ∃ A4, rf_tick_88 20000 0 A [] = (4, A4, []) ∧ xc 130 53 [.inr (some (0, 0)), .inl (10 : Int32)] S (fun r S11 => r = none ∧ xk_C S11 ∧ (xc 130 53 [.inr (some (0, 0)), .inl (3 : Int32)] S11 (fun r S13 => r = none ∧ xk_C S13 ∧ (xc 130 53 [.inr (some (0, 0)), .inl (5 : Int32)] S13 (fun r S15 => r = none ∧ xk_C S15 ∧ (xc 130 53 [.inr (some (0, 0)), .inl (4 : Int32)] S15 (fun r S17 => r = none ∧ xk_C S17 ∧ kM S17 A4 (fun _ => False) (fun _ => False) (fun _ => False) 5000 5000 nb t 0 0 0 ∧ kW S S17 A A4))))))) := by
  obtain ⟨g0, c0⟩ := c_one0 hM hnb
  have c0' := c0
  obtain ⟨-, r0, S1, -, -, -, x0, A1, e0, m0, z0⟩ := c0'
  obtain ⟨g1, c1⟩ := c_one1 m0 (Nat.le_trans hnb z0.1.1)
  obtain ⟨-, r1, S2, -, -, -, x1, A2, e1, m1, z1⟩ := c1
  obtain ⟨g2, c2⟩ := c_one2 m1 (Nat.le_trans hnb (z0.tr z1).1.1)
  obtain ⟨-, r2, S3, -, -, -, x2, A3, e2, m2, z2⟩ := c2
  obtain ⟨g3, c3⟩ := c_one3 m2 (Nat.le_trans hnb ((z0.tr z1).tr z2).1.1)
  obtain ⟨-, r3, S4, -, -, -, x3, A4, e3, m3, z3⟩ := c3
  obtain ⟨a1, a2⟩ := k_88 e0 g0 e1 g1 e2 g2 e3 g3 19995
  refine ⟨a2, A4, a1, xc.mono c0 ?_⟩
  intro r S11 h
  obtain ⟨b1, b2, b3, b4⟩ := h.eq e0
  refine ⟨b1, b2, xc.mono (c_one1 b3 (Nat.le_trans hnb b4.1.1)).2 ?_⟩
  intro r S13 h
  obtain ⟨d1, d2, d3, d4⟩ := h.eq e1
  refine ⟨d1, d2, xc.mono (c_one2 d3 (Nat.le_trans hnb (b4.tr d4).1.1)).2 ?_⟩
  intro r S15 h
  obtain ⟨f1, f2, f3, f4⟩ := h.eq e2
  refine ⟨f1, f2, xc.mono (c_one3 f3 (Nat.le_trans hnb ((b4.tr d4).tr f4).1.1)).2 ?_⟩
  intro r S17 h
  obtain ⟨h1, h2, h3, h4⟩ := h.eq e3
  exact ⟨h1, h2, h3, (((b4.tr d4).tr f4).tr h4).2.2.2⟩
theorem k_idle {S : xm_S} {A : y_A} {X E B : Nat → Prop} {hb rb nb t w e1 e2 : Nat} (hM : kM S A X E B hb rb nb t w e1 e2) (h : ∀ k, k < xm_n S 1 6 → xm_i S 2 k 8 = 0 → xm_i S 2 k 12 ≠ xm_i S 0 0 13) : rf_tick_88 20000 0 A [] = (4, A, []) ∧ rg_tick_88 20000 0 A [] := by
  have hbb := hM.1.2.2.1
  unfold k_bnd at hbb
  have h61 : A 61 0 = nI (xm_n S 1 6) := hM.1.2.1.2.2.2.2.2.2.1
  have hno : ∀ e, 0 ≤ e → e < xm_n S 1 6 → ¬ (A 69 e = 0 ∧ A 72 e = A 0 0) := fun e _ he z => by
    have hc := hM.1.2.2.2.2.2.2.2.1 e he
    exact h e he (hc.2.2.2.2.1.trans z.1) (by rw [hc.2.2.2.2.2.2.1, hM.1.2.2.2.2.1.1]; exact z.2)
  obtain ⟨a0, b0⟩ := k_95_e0 h61 (by omega) (k_65 hM) 0 20000 (by omega) (by omega) hno
  obtain ⟨a1, b1⟩ := k_95_e1 h61 (by omega) (k_65 hM) 0 20000 (by omega) (by omega) hno
  obtain ⟨a2, b2⟩ := k_95_e2 h61 (by omega) (k_65 hM) 0 20000 (by omega) (by omega) hno
  obtain ⟨a3, b3⟩ := k_95_e3 h61 (by omega) (k_65 hM) 0 20000 (by omega) (by omega) hno
  exact k_88 a0 b0 a1 b1 a2 b2 a3 b3 19995
theorem c_tail {S : xm_S} {A : y_A} {nb t : Nat} (hM : kM S A (fun _ => False) (fun _ => False) (fun _ => False) 5000 5000 nb t 0 0 0) (hnb : nb ≤ 4400) : (rg_tick_256 20000 0 A [] ∧ rg_tick_388 20000 0 (rf_tick_256 20000 0 A []).2.1 (rf_tick_256 20000 0 A []).2.2 ∧ rg_tick_409 20000 0 (rf_tick_388 20000 0 (rf_tick_256 20000 0 A []).2.1 (rf_tick_256 20000 0 A []).2.2).2.1 ∧ (rf_tick_388 20000 0 (rf_tick_256 20000 0 A []).2.1 (rf_tick_256 20000 0 A []).2.2).2.2 = []) ∧ xc 130 58 [.inr (some (0, 0))] S (fun r S9 => r = none ∧ xk_C S9 ∧ (xw 131 50 48 [some (.inr (some (0, 0))), some (.inl (0 : Int32))] [] S9 (fun r S' => r = none ∧ xk_C S' ∧ kM S' (rf_tick_409 20000 0 (rf_tick_388 20000 0 (rf_tick_256 20000 0 A []).2.1 (rf_tick_256 20000 0 A []).2.2).2.1).2 (fun _ => False) (fun _ => False) (fun _ => False) 5000 5000 5000 t 0 0 0 ∧ kW S S' A (rf_tick_409 20000 0 (rf_tick_388 20000 0 (rf_tick_256 20000 0 A []).2.1 (rf_tick_256 20000 0 A []).2.2).2.1).2))) := by
  have hbb := hM.1.2.2.1
  unfold k_bnd at hbb
  obtain ⟨a1, a2⟩ := c_admit (d := 128) (by omega) (S0 := S) (A0 := A) (xm_n S 1 3) 0 20000 S A none none none none (by omega) (by omega) hM rfl rfl
  rw [show nI 0 = (0 : Int32) from rfl] at a1 a2
  have a3 := a2
  obtain ⟨-, r0, S9, -, -, -, x, A3, e0, m0, w0⟩ := a3
  have pl : ∀ S9, kM S9 A3 (fun _ => False) (fun _ => False) (fun _ => False) 5000 5000 nb t 0 0 0 → _ := fun S9 m => by
    have hb9 := m.1.2.2.1
    unfold k_bnd at hb9
    exact c_plans (d := 130) (by omega) (n10 := xm_n S9 1 10) (xm_n S9 1 10) 0 20000 S9 A3 (by omega) rfl (by omega) (m.mono (nb' := 4500 + 0) (Nat.le_refl _) (Nat.le_refl _) (by omega) (fun p _ _ => by omega))
  obtain ⟨p1, p2, p3, -⟩ := pl S9 m0
  rw [show nI 0 = (0 : Int32) from rfl] at p1 p2 p3
  rw [e0]
  refine ⟨⟨a1, p1, p3, p2⟩, cw_admitWaiting (d := 128) hM.1.1 (xw.mono a2 ?_)⟩
  rintro r S10 ⟨z1, z2, y, A3', z3, z4, z5⟩
  obtain rfl : A3' = A3 := congrArg (fun z => z.2.1) (z3.symm.trans e0)
  obtain ⟨-, -, -, q⟩ := pl S10 z4
  rw [show nI 0 = (0 : Int32) from rfl] at q
  refine ⟨z1, z2, xw.mono q ?_⟩
  rintro r S' ⟨q1, q2, q3, q4⟩
  exact ⟨q1, q2, q3, kW.tr z5 q4⟩
end
