/-! ===== WHAT WAS TAKEN BACK is let go (printed by wip/whole/gen89.py) ===== -/
section
theorem kM.drop {S : xm_S} {A : y_A} {X E B : Nat → Prop} {hb rb nb t w e1 e2 k : Nat} (h : kM S A X E B hb rb nb t w e1 e2) (hk0 : xm_i S 2 k 8 ≠ 0) (htr : ∀ g, g < xm_n S 1 3 → xm_r S 5 g 9 ≠ some k) (h75 : ¬ A 75 k = 1) : kM S A (fun e => X e ∧ e ≠ k) E B hb rb nb t w e1 e2 := by
  obtain ⟨hE, hS, hgr, ⟨j1, j2, j3, j4, j5, j6, j7, j8, j9, j10, j11, j12, j13, j14, j15, j16, j17, j18⟩⟩ := h
  have act : ∀ e, k_act S (fun e => X e ∧ e ≠ k) e → e ≠ k ∧ k_act S X e := fun e z => by
    rcases z with z | z
    · exact ⟨fun y => hk0 (by rw [← y]; exact z), Or.inl z⟩
    · exact ⟨z.2, Or.inr z.1⟩
  have act2 : ∀ e, e ≠ k → k_act S X e → k_act S (fun e => X e ∧ e ≠ k) e := fun e z1 z => z.imp id (fun y => ⟨y, z1⟩)
  refine ⟨hE, hS, hgr, ⟨j1, j2, j3, j4, j5, j6, fun e he => ?_, fun g c hg hc => ?_, fun g q hg hq => ?_, j10, j11, j12, j13, j14, j15, j16, j17, j18⟩⟩
  · obtain ⟨z1, z2, z3, z4, z5, z6⟩ := j7 e he
    exact ⟨fun y => z1 (act e y).2, z2, z3, z4, z5, fun g hg y1 y2 => z6 g hg (act e y1).2 y2⟩
  · obtain ⟨y1, y2, y3⟩ := j8 g c hg hc
    exact ⟨y1, act2 c (fun z => htr g hg (by rw [← z]; exact hc)) y2, y3⟩
  · obtain ⟨z1, z2, z3⟩ := j9 g q hg hq
    refine ⟨fun i c hi hc => ?_, z2, fun c hc y1 y2 y3 => z3 c hc (act c y1).2 y2 y3⟩
    obtain ⟨y1, y2, y3, y4⟩ := z1 i c hi hc
    exact ⟨act2 c (fun z => h75 (by rw [← z]; exact y3)) y1, y2, y3, y4⟩
theorem kM.rfuse {S S' : xm_S} {A A' : y_A} {X E B : Nat → Prop} {hb rb nb t w e1 e2 k g : Nat} (h : kM S A X E B hb rb nb t w e1 e2) (hk : k < xm_n S 1 6) (hk0 : xm_i S 2 k 8 ≠ 0) (h75 : ¬ A 75 k = 1) (hg : xm_r S 2 k 4 = some g) (htr : xm_r S 5 g 9 = some k) (hF : kF 0 g [(5, 6), (5, 8)] [(5, 9)] [36, 38] S S' A A') (v6 : xm_i S' 5 g 6 = A' 36 g) (v8 : xm_i S' 5 g 8 = A' 38 g) (v9 : xm_r S' 5 g 9 = none) : kM S' A' (fun e => X e ∧ e ≠ k) E B hb rb nb t w e1 e2 := by
  obtain ⟨⟨hC, hcnt, hb', hl, ht, hv, h1, h2, h3, h4, h5, h6, h7, h8, h9, h10, h11, h12⟩, hS, hgr, ⟨j1, j2, j3, j4, j5, j6, j7, j8, j9, j10, j11, j12, j13, j14, j15, j16, j17, j18⟩⟩ := h
  have hN : ∀ {r k : Nat}, k < xm_n S' 1 r → k < xm_n S 1 r := fun z => by rw [hF.1] at z; exact z
  have hgn : g < xm_n S 1 3 := (h2 k hk).2.2.2.2.2.2.2.2.2.2.2.2.2.2.2.2.2.2.2.2.2.2.2.1 g hg
  refine ⟨⟨xk_C.F hF (by decide) hC, k_cnt.F hF (by decide) (by decide) (by decide) (by decide) (by decide) (by decide) (by decide) (by decide) (by decide) (by decide) (by decide) hcnt, k_bnd.F hF hb', k_lst.F hF hl, k_top.F hF (by decide) (by decide) (by decide) ht, k_live.F hF (by decide) hv, fun k hk => ks.F hF (by decide) (by decide) (by decide) (by decide) (by decide) (by decide) (by decide) (h1 k (hN hk)), fun k hk => kc.F hF (by decide) (by decide) (by decide) (by decide) (by decide) (by decide) (by decide) (by decide) (by decide) (by decide) (by decide) (by decide) (by decide) (by decide) (by decide) (by decide) (by decide) (by decide) (by decide) (by decide) (by decide) (by decide) (by decide) (by decide) (by decide) (by decide) (by decide) (by decide) (by decide) (by decide) (by decide) (by decide) (by decide) (by decide) (h2 k (hN hk)), ?_, fun k hk => kf.F hF (by decide) (by decide) (by decide) (by decide) (by decide) (by decide) (by decide) (by decide) (by decide) (by decide) (by decide) (by decide) (by decide) (h4 k (hN hk)), fun k hk => ke.F hF (by decide) (by decide) (by decide) (by decide) (by decide) (by decide) (by decide) (by decide) (by decide) (by decide) (h5 k (hN hk)), fun k hk => ko.F hF (by decide) (by decide) (by decide) (by decide) (by decide) (by decide) (by decide) (by decide) (by decide) (by decide) (by decide) (h6 k (hN hk)), fun k hk => kp.F hF (by decide) (by decide) (by decide) (by decide) (by decide) (by decide) (by decide) (by decide) (by decide) (by decide) (by decide) (by decide) (by decide) (by decide) (by decide) (by decide) (by decide) (by decide) (by decide) (by decide) (by decide) (by decide) (by decide) (by decide) (h7 k (hN hk)), fun k hk => ka.F hF (by decide) (by decide) (by decide) (by decide) (by decide) (by decide) (by decide) (by decide) (by decide) (by decide) (by decide) (by decide) (h8 k (hN hk)), by rw [hF.1]; exact kt.F hF (by decide) (by decide) (by decide) h9, fun k hk => kt.F hF (by decide) (by decide) (by decide) (h10 k (hN hk)), fun k hk => kw.F1 hF (by decide) (by decide) (by decide) (by decide) (by decide) (by decide) (by decide) (by decide) (by decide) (by decide) (h11 k (hN hk)), fun k hk => kw.F2 hF (by decide) (by decide) (by decide) (by decide) (by decide) (by decide) (by decide) (by decide) (by decide) (by decide) (h12 k (hN hk))⟩, kS.F hF (by decide) hS, fun k hk => kgr.F hF (by decide) (by decide) (by decide) (by decide) (by decide) (by decide) (hgr k (hN hk)), ⟨k_par.F hF (by decide) (by decide) (by decide) (by decide) (by decide) (by decide) (by decide) (by decide) (by decide) j1, k_dst.F hF (by decide) (by decide) j2, k_own.F hF (by decide) (by decide) j3, k_obj.F hF j4, k_cap.F hF j5, k_chn.F hF (by decide) (by decide) (by decide) (by decide) j6, ?_, ?_, ?_, k_sts.F hF (by decide) (by decide) (by decide) (by decide) (by decide) (by decide) (by decide) (by decide) (by decide) (by decide) (by decide) j10, k_uni.F hF (by decide) (by decide) (by decide) (by decide) (by decide) (by decide) (by decide) (by decide) (by decide) (by decide) j11, k_num.F hF (by decide) (by decide) (by decide) (by decide) (by decide) (by decide) j12, k_pot.F hF (by decide) (by decide) (by decide) (by decide) (by decide) (by decide) (by decide) (by decide) j13, k_pln.F hF (by decide) (by decide) (by decide) (by decide) (by decide) (by decide) (by decide) (by decide) (by decide) (by decide) j14, (hF.2.2.2.2.1 0 (by decide) 0).trans j15, j16, fun k k1 k2 => by rw [hF.2.2.2.2.1 72 (by decide), hF.2.2.2.2.1 0 (by decide)]; exact j17 k k1 (hN k2), fun k hk => kof.F hF (by decide) (by decide) (by decide) (by decide) (by decide) (by decide) (by decide) (by decide) (by decide) (by decide) (by decide) (by decide) (j18 k (hN hk))⟩⟩
  · intro e he
    by_cases ee : e = g
    · subst ee
      obtain ⟨z1, z2, z3, z4, z5, z6, z7, z8, z9, z10, z11, z12, z13, z14, z15, z16⟩ := h3 e hgn
      obtain ⟨a1, a2, a3, a4, a5, -⟩ := hF
      unfold kg
      rw [a3 5 0 (by decide), a3 5 1 (by decide), a3 5 2 (by decide), a3 5 3 (by decide), a3 5 4 (by decide), a3 5 5 (by decide), a3 5 7 (by decide), a3 5 10 (by decide), a3 5 11 (by decide), a3 5 13 (by decide), a4 5 12 (by decide), a4 5 14 (by decide), a5 31 (by decide), a5 32 (by decide), a5 33 (by decide), a5 34 (by decide), a5 35 (by decide), a5 37 (by decide), a5 39 (by decide), a5 40 (by decide), a5 41 (by decide), a5 42 (by decide), a1, a2]
      refine ⟨z1, z2, z3, z4, z5, z6, v6, z8, v8, z10, z11, z12, ?_, z14, z15, fun s hs => ?_⟩
      · obtain ⟨q, y1, y2, y3, y4, y5, y6⟩ := z13
        refine ⟨q, y1, y2, y3, y4, y5, fun i hi => ?_⟩
        rw [a5 43 (by decide)]
        exact y6 i hi
      · rw [a4 15 s (by simp), a5 44 (by decide), a5 45 (by decide), a5 46 (by decide)]
        simp only [a5 68 (by decide), a5 69 (by decide), a5 70 (by decide), a5 71 (by decide)]
        exact z16 s hs
    · exact kg.O hF ee (fun j hj => by simp) (by decide) (by decide) (by decide) (by decide) (by decide) (by decide) (by decide) (by decide) (h3 e (hN he))
  · intro e he
    obtain ⟨a1, a2, a3, a4, a5, a6, a7, -⟩ := hF
    have act : ∀ e, k_act S' (fun e => X e ∧ e ≠ k) e → e ≠ k ∧ k_act S X e := fun e z => by
      unfold k_act at z
      rw [a3 2 8 (by decide)] at z
      rcases z with z | z
      · exact ⟨fun y => hk0 (by rw [← y]; exact z), Or.inl z⟩
      · exact ⟨z.2, Or.inr z.1⟩
    have act2 : ∀ e, e ≠ k → k_act S X e → k_act S' (fun e => X e ∧ e ≠ k) e := fun e z1 z => by
      unfold k_act
      rw [a3 2 8 (by decide)]
      exact z.imp id (fun y => ⟨y, z1⟩)
    obtain ⟨z1, z2, z3, z4, z5, z6⟩ := j7 e (hN he)
    have rst : k_rest S' A' e ↔ k_rest S A e := by unfold k_rest; rw [a3 2 13 (by decide), a5 75 (by decide), a5 76 (by decide), a4 2 15 (by decide)]
    simp only [rst, a4 2 4 (by decide), a4 2 15 (by decide), a5 75 (by decide), a5 76 (by decide), a5 77 (by decide), a5 78 (by decide), a5 79 (by decide), a5 31 (by decide)]
    refine ⟨fun y => z1 (act e y).2, z2, z3, z4, z5, fun g' hg' y1 y2 => ?_⟩
    obtain ⟨x1, x2⟩ := z6 g' hg' (act e y1).2 y2
    refine ⟨x1, ?_⟩
    by_cases ee : g' = g
    · subst ee
      rw [v9]
      rw [htr] at x2
      exact x2.trans ⟨fun z => absurd (Option.some.inj z).symm (act e y1).1, fun z => by cases z⟩
    · rw [(a7 g' 9 ee).2]; exact x2
  · intro g' c hg' hc
    obtain ⟨a1, a2, a3, a4, a5, a6, a7, -, a9⟩ := hF
    have act : ∀ e, k_act S' (fun e => X e ∧ e ≠ k) e → e ≠ k ∧ k_act S X e := fun e z => by
      unfold k_act at z
      rw [a3 2 8 (by decide)] at z
      rcases z with z | z
      · exact ⟨fun y => hk0 (by rw [← y]; exact z), Or.inl z⟩
      · exact ⟨z.2, Or.inr z.1⟩
    have act2 : ∀ e, e ≠ k → k_act S X e → k_act S' (fun e => X e ∧ e ≠ k) e := fun e z1 z => by
      unfold k_act
      rw [a3 2 8 (by decide)]
      exact z.imp id (fun y => ⟨y, z1⟩)
    by_cases ee : g' = g
    · subst ee
      rw [v9] at hc; cases hc
    · rw [(a7 g' 9 ee).2] at hc
      obtain ⟨y1, y2, y3, y4, y5, y6⟩ := j8 g' c (hN hg') hc
      have hck : c ≠ k := fun z => ee (Option.some.inj (y4.symm.trans (by rw [z]; exact hg)))
      rw [a1, a4 2 4 (by decide), a5 79 (by decide), a9 36 g' (by decide) ee]
      exact ⟨y1, act2 c hck y2, y3, y4, y5, y6⟩
  · intro g' q hg' hq
    obtain ⟨a1, a2, a3, a4, a5, a6, a7, -, a9⟩ := hF
    have act : ∀ e, k_act S' (fun e => X e ∧ e ≠ k) e → e ≠ k ∧ k_act S X e := fun e z => by
      unfold k_act at z
      rw [a3 2 8 (by decide)] at z
      rcases z with z | z
      · exact ⟨fun y => hk0 (by rw [← y]; exact z), Or.inl z⟩
      · exact ⟨z.2, Or.inr z.1⟩
    have act2 : ∀ e, e ≠ k → k_act S X e → k_act S' (fun e => X e ∧ e ≠ k) e := fun e z1 z => by
      unfold k_act
      rw [a3 2 8 (by decide)]
      exact z.imp id (fun y => ⟨y, z1⟩)
    rw [a4 5 12 (by decide)] at hq
    obtain ⟨z1, z2, z3⟩ := j9 g' q (hN hg') hq
    rw [a1, a2]
    refine ⟨fun i c hi hc => ?_, z2, fun c hc y1 y2 y3 => ?_⟩
    · obtain ⟨y1, y2, y3, y4⟩ := z1 i c hi hc
      rw [a4 2 4 (by decide), a5 75 (by decide), a3 2 16 (by decide)]
      exact ⟨act2 c (fun z => h75 (by rw [← z]; exact y3)) y1, y2, y3, y4⟩
    · rw [a4 2 4 (by decide)] at y2
      rw [a5 75 (by decide)] at y3
      exact z3 c hc (act c y1).2 y2 y3
theorem kM.rbulk {S S' : xm_S} {A A' : y_A} {X E B : Nat → Prop} {hb rb nb t w e1 e2 k g : Nat} (h : kM S A X E B hb rb nb t w e1 e2) (hk : k < xm_n S 1 6) (hk0 : xm_i S 2 k 8 ≠ 0) (h75 : ¬ A 75 k = 1) (hg : xm_r S 2 k 4 = some g) (hsort : A 31 g = 1) (hF : kF k g [(5, 10)] [] [77, 39] S S' A A') (v10 : xm_i S' 5 g 10 = A' 39 g) (v77 : A' 77 k = 0) : kM S' A' (fun e => X e ∧ e ≠ k) E B hb rb nb t w e1 e2 := by
  obtain ⟨⟨hC, hcnt, hb', hl, ht, hv, h1, h2, h3, h4, h5, h6, h7, h8, h9, h10, h11, h12⟩, hS, hgr, ⟨j1, j2, j3, j4, j5, j6, j7, j8, j9, j10, j11, j12, j13, j14, j15, j16, j17, j18⟩⟩ := h
  have hN : ∀ {r k : Nat}, k < xm_n S' 1 r → k < xm_n S 1 r := fun z => by rw [hF.1] at z; exact z
  have hgn : g < xm_n S 1 3 := (h2 k hk).2.2.2.2.2.2.2.2.2.2.2.2.2.2.2.2.2.2.2.2.2.2.2.1 g hg
  refine ⟨⟨xk_C.F hF (by decide) hC, k_cnt.F hF (by decide) (by decide) (by decide) (by decide) (by decide) (by decide) (by decide) (by decide) (by decide) (by decide) (by decide) hcnt, k_bnd.F hF hb', k_lst.F hF hl, k_top.F hF (by decide) (by decide) (by decide) ht, k_live.F hF (by decide) hv, fun k hk => ks.F hF (by decide) (by decide) (by decide) (by decide) (by decide) (by decide) (by decide) (h1 k (hN hk)), ?_, ?_, fun k hk => kf.F hF (by decide) (by decide) (by decide) (by decide) (by decide) (by decide) (by decide) (by decide) (by decide) (by decide) (by decide) (by decide) (by decide) (h4 k (hN hk)), fun k hk => ke.F hF (by decide) (by decide) (by decide) (by decide) (by decide) (by decide) (by decide) (by decide) (by decide) (by decide) (h5 k (hN hk)), fun k hk => ko.F hF (by decide) (by decide) (by decide) (by decide) (by decide) (by decide) (by decide) (by decide) (by decide) (by decide) (by decide) (h6 k (hN hk)), fun k hk => kp.F hF (by decide) (by decide) (by decide) (by decide) (by decide) (by decide) (by decide) (by decide) (by decide) (by decide) (by decide) (by decide) (by decide) (by decide) (by decide) (by decide) (by decide) (by decide) (by decide) (by decide) (by decide) (by decide) (by decide) (by decide) (h7 k (hN hk)), fun k hk => ka.F hF (by decide) (by decide) (by decide) (by decide) (by decide) (by decide) (by decide) (by decide) (by decide) (by decide) (by decide) (by decide) (h8 k (hN hk)), by rw [hF.1]; exact kt.F hF (by decide) (by decide) (by decide) h9, fun k hk => kt.F hF (by decide) (by decide) (by decide) (h10 k (hN hk)), fun k hk => kw.F1 hF (by decide) (by decide) (by decide) (by decide) (by decide) (by decide) (by decide) (by decide) (by decide) (by decide) (h11 k (hN hk)), fun k hk => kw.F2 hF (by decide) (by decide) (by decide) (by decide) (by decide) (by decide) (by decide) (by decide) (by decide) (by decide) (h12 k (hN hk))⟩, kS.F hF (by decide) hS, fun k hk => kgr.F hF (by decide) (by decide) (by decide) (by decide) (by decide) (by decide) (hgr k (hN hk)), ⟨k_par.F hF (by decide) (by decide) (by decide) (by decide) (by decide) (by decide) (by decide) (by decide) (by decide) j1, k_dst.F hF (by decide) (by decide) j2, k_own.F hF (by decide) (by decide) j3, k_obj.F hF j4, k_cap.F hF j5, k_chn.F hF (by decide) (by decide) (by decide) (by decide) j6, ?_, ?_, ?_, k_sts.F hF (by decide) (by decide) (by decide) (by decide) (by decide) (by decide) (by decide) (by decide) (by decide) (by decide) (by decide) j10, k_uni.F hF (by decide) (by decide) (by decide) (by decide) (by decide) (by decide) (by decide) (by decide) (by decide) (by decide) j11, k_num.F hF (by decide) (by decide) (by decide) (by decide) (by decide) (by decide) j12, k_pot.F hF (by decide) (by decide) (by decide) (by decide) (by decide) (by decide) (by decide) (by decide) j13, k_pln.F hF (by decide) (by decide) (by decide) (by decide) (by decide) (by decide) (by decide) (by decide) (by decide) (by decide) j14, (hF.2.2.2.2.1 0 (by decide) 0).trans j15, j16, fun k k1 k2 => by rw [hF.2.2.2.2.1 72 (by decide), hF.2.2.2.2.1 0 (by decide)]; exact j17 k k1 (hN k2), fun k hk => kof.F hF (by decide) (by decide) (by decide) (by decide) (by decide) (by decide) (by decide) (by decide) (by decide) (by decide) (by decide) (by decide) (j18 k (hN hk))⟩⟩
  · intro e he
    by_cases ee : e = k
    · subst ee
      obtain ⟨z1, z2, z3, z4, z5, z6, z7, z8, z9, z10, z11, z12, z13, z14, z15, z16, z17, z18, z19, z20, z21, z22⟩ := h2 e hk
      obtain ⟨a1, a2, a3, a4, a5, -⟩ := hF
      unfold kc
      rw [v77]
      simp only [a1, a3 2 0 (by decide), a3 2 3 (by decide), a3 2 5 (by decide), a3 2 7 (by decide), a3 2 8 (by decide), a3 2 9 (by decide), a3 2 10 (by decide), a3 2 12 (by decide), a3 2 14 (by decide), a3 2 16 (by decide), a4 2 1 (by decide), a4 2 2 (by decide), a4 2 4 (by decide), a4 2 6 (by decide), a4 2 11 (by decide), a4 2 15 (by decide), a5 62 (by decide), a5 63 (by decide), a5 64 (by decide), a5 65 (by decide), a5 66 (by decide), a5 67 (by decide), a5 68 (by decide), a5 69 (by decide), a5 70 (by decide), a5 71 (by decide), a5 72 (by decide), a5 73 (by decide), a5 74 (by decide), a5 75 (by decide), a5 76 (by decide), a5 78 (by decide), a5 79 (by decide)]
      exact ⟨z1, z2, z3, z4, z5, z6, z7, z8, z9, z10, z11, z12, z13, z14, z15, z16, z17, z18, z19, z20, Or.inl trivial, z22⟩
    · exact kc.O hF ee (h2 e (hN he))
  · intro e he
    by_cases ee : e = g
    · subst ee
      obtain ⟨z1, z2, z3, z4, z5, z6, z7, z8, z9, z10, z11, z12, z13, z14, z15, z16⟩ := h3 e hgn
      obtain ⟨a1, a2, a3, a4, a5, -⟩ := hF
      unfold kg
      rw [a3 5 0 (by decide), a3 5 1 (by decide), a3 5 2 (by decide), a3 5 3 (by decide), a3 5 4 (by decide), a3 5 5 (by decide), a3 5 6 (by decide), a3 5 7 (by decide), a3 5 8 (by decide), a3 5 11 (by decide), a3 5 13 (by decide), a4 5 12 (by decide), a4 5 14 (by decide), a5 31 (by decide), a5 32 (by decide), a5 33 (by decide), a5 34 (by decide), a5 35 (by decide), a5 36 (by decide), a5 37 (by decide), a5 38 (by decide), a5 40 (by decide), a5 41 (by decide), a5 42 (by decide), a1, a2]
      refine ⟨z1, z2, z3, z4, z5, z6, z7, z8, z9, v10, z11, z12, ?_, z14, z15, fun s hs => ?_⟩
      · obtain ⟨q, y1, y2, y3, y4, y5, y6⟩ := z13
        refine ⟨q, y1, y2, y3, y4, y5, fun i hi => ?_⟩
        rw [a5 43 (by decide)]
        exact y6 i hi
      · rw [a4 15 s (by simp), a5 44 (by decide), a5 45 (by decide), a5 46 (by decide)]
        simp only [a5 68 (by decide), a5 69 (by decide), a5 70 (by decide), a5 71 (by decide)]
        exact z16 s hs
    · exact kg.O hF ee (fun j hj => by simp) (by decide) (by decide) (by decide) (by decide) (by decide) (by decide) (by decide) (by decide) (h3 e (hN he))
  · intro e he
    obtain ⟨a1, a2, a3, a4, a5, a6, a7, a8, a9⟩ := hF
    have act : ∀ e, k_act S' (fun e => X e ∧ e ≠ k) e → e ≠ k ∧ k_act S X e := fun e z => by
      unfold k_act at z
      rw [a3 2 8 (by decide)] at z
      rcases z with z | z
      · exact ⟨fun y => hk0 (by rw [← y]; exact z), Or.inl z⟩
      · exact ⟨z.2, Or.inr z.1⟩
    have act2 : ∀ e, e ≠ k → k_act S X e → k_act S' (fun e => X e ∧ e ≠ k) e := fun e z1 z => by
      unfold k_act
      rw [a3 2 8 (by decide)]
      exact z.imp id (fun y => ⟨y, z1⟩)
    obtain ⟨z1, z2, z3, z4, z5, z6⟩ := j7 e (hN he)
    have rst : k_rest S' A' e ↔ k_rest S A e := by unfold k_rest; rw [a3 2 13 (by decide), a5 75 (by decide), a5 76 (by decide), a4 2 15 (by decide)]
    simp only [rst, a4 2 4 (by decide), a4 2 15 (by decide), a4 5 9 (by decide), a5 75 (by decide), a5 76 (by decide), a5 78 (by decide), a5 79 (by decide), a5 31 (by decide)]
    refine ⟨fun y => z1 (act e y).2, fun y => ?_, z3, z4, z5, fun g' hg' y1 y2 => ?_⟩
    · rcases y with y | y
      · exact z2 (Or.inl y)
      · by_cases ee : e = k
        · rw [ee, v77] at y; exact absurd y (by decide)
        · rw [a8 77 e (by decide) ee] at y; exact z2 (Or.inr y)
    · rw [a8 77 e (by decide) (act e y1).1]
      exact z6 g' hg' (act e y1).2 y2
  · intro g' c hg' hc
    obtain ⟨a1, a2, a3, a4, a5, a6, a7, a8, a9⟩ := hF
    have act : ∀ e, k_act S' (fun e => X e ∧ e ≠ k) e → e ≠ k ∧ k_act S X e := fun e z => by
      unfold k_act at z
      rw [a3 2 8 (by decide)] at z
      rcases z with z | z
      · exact ⟨fun y => hk0 (by rw [← y]; exact z), Or.inl z⟩
      · exact ⟨z.2, Or.inr z.1⟩
    have act2 : ∀ e, e ≠ k → k_act S X e → k_act S' (fun e => X e ∧ e ≠ k) e := fun e z1 z => by
      unfold k_act
      rw [a3 2 8 (by decide)]
      exact z.imp id (fun y => ⟨y, z1⟩)
    rw [a4 5 9 (by decide)] at hc
    obtain ⟨y1, y2, y3, y4, y5, y6⟩ := j8 g' c (hN hg') hc
    rw [a1, a4 2 4 (by decide), a5 79 (by decide), a5 36 (by decide)]
    refine ⟨y1, act2 c (fun z => ?_) y2, y3, y4, y5, y6⟩
    obtain ⟨g2, w1, w2⟩ := (j7 c y1).2.2.2.1 y5
    rw [z, hg] at w1
    rw [← Option.some.inj w1, hsort] at w2
    exact absurd w2 (by decide)
  · intro g' q hg' hq
    obtain ⟨a1, a2, a3, a4, a5, a6, a7, -, a9⟩ := hF
    have act : ∀ e, k_act S' (fun e => X e ∧ e ≠ k) e → e ≠ k ∧ k_act S X e := fun e z => by
      unfold k_act at z
      rw [a3 2 8 (by decide)] at z
      rcases z with z | z
      · exact ⟨fun y => hk0 (by rw [← y]; exact z), Or.inl z⟩
      · exact ⟨z.2, Or.inr z.1⟩
    have act2 : ∀ e, e ≠ k → k_act S X e → k_act S' (fun e => X e ∧ e ≠ k) e := fun e z1 z => by
      unfold k_act
      rw [a3 2 8 (by decide)]
      exact z.imp id (fun y => ⟨y, z1⟩)
    rw [a4 5 12 (by decide)] at hq
    obtain ⟨z1, z2, z3⟩ := j9 g' q (hN hg') hq
    rw [a1, a2]
    refine ⟨fun i c hi hc => ?_, z2, fun c hc y1 y2 y3 => ?_⟩
    · obtain ⟨y1, y2, y3, y4⟩ := z1 i c hi hc
      rw [a4 2 4 (by decide), a5 75 (by decide), a3 2 16 (by decide)]
      exact ⟨act2 c (fun z => h75 (by rw [← z]; exact y3)) y1, y2, y3, y4⟩
    · rw [a4 2 4 (by decide)] at y2
      rw [a5 75 (by decide)] at y3
      exact z3 c hc (act c y1).2 y2 y3
end
