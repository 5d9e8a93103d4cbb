/-! ===== SMALL CHANGES: a fuse, a bulkhead, a pause, causes, what is kept (printed by wip/whole/gen80.py) ===== -/
section
/-- exempt more: only those without an inner one under way -/
theorem k_sts.E {S : xm_S} {A : y_A} {E B : Nat → Prop} {hb rb p : Nat} (h : k_sts S A E B hb rb) (hp : ∀ c, c < xm_n S 1 6 → xm_r S 2 c 2 = some p → xm_i S 2 c 8 ≠ 0) : k_sts S A (fun k => E k ∨ k = p) B hb rb := by
  obtain ⟨z1, z2⟩ := h
  refine ⟨fun k c hk hc hcp => ?_, fun k g hk h0 hg => ?_⟩
  · rcases hk with hk | rfl
    · exact z1 k c hk hc hcp
    · exact hp c hc hcp
  · obtain ⟨y1, y2⟩ := z2 k g hk h0 hg
    exact ⟨fun x => y1 (fun z => x (Or.inl z)), y2⟩
theorem k_occ.E {S : xm_S} {A : y_A} {X E E' : Nat → Prop} (h : k_occ S A X E) (hp : ∀ k, E k → E' k) : k_occ S A X E' := fun k hk => by
  obtain ⟨z1, z2, z3, z4, z5, z6⟩ := h k hk
  exact ⟨z1, z2, z3, z4, z5, fun g hg y1 y2 => z6 g hg y1 (fun z => y2 (hp k z))⟩
theorem kM.fuse {S S' : xm_S} {A A' : y_A} {X E : Nat → Prop} {hb rb nb t w e1 e2 p g : Nat} (h : kM S A X E (fun _ => False) hb rb nb t w e1 e2) (hp : p < xm_n S 1 6) (hg : xm_r S 2 p 4 = some g) (hch : ∀ c, c < xm_n S 1 6 → xm_r S 2 c 2 = some p → xm_i S 2 c 8 ≠ 0) (hF : kF 0 g [(5, 6), (5, 7), (5, 8)] [(5, 9)] [36, 37, 38] S S' A A') (v6 : xm_i S' 5 g 6 = A' 36 g) (v7 : xm_i S' 5 g 7 = A' 37 g) (v8 : xm_i S' 5 g 8 = A' 38 g) (htr : (xm_r S' 5 g 9 = none ∧ xm_r S 5 g 9 = some p) ∨ (xm_r S' 5 g 9 = xm_r S 5 g 9 ∧ xm_r S 5 g 9 ≠ some p ∧ ∀ c, xm_r S 5 g 9 = some c → A' 36 g = 2)) : kM S' A' X (fun k => E k ∨ k = p) (fun _ => False) hb rb nb t w e1 e2 := by
  obtain ⟨⟨hC, hcnt, hb', hl, ht, hv, h1, h2, h3, h4, h5, h6, h7, h8, h9, h10, h11, h12⟩, hS, hgr, ⟨j1, j2, j3, j4, j5, j6, j7, j8, j9, j10, j11, j12, j13, j14, j15, j16, j17, j18⟩⟩ := h
  have hN : ∀ {r k : Nat}, k < xm_n S' 1 r → k < xm_n S 1 r := fun z => by rw [hF.1] at z; exact z
  have hgn : g < xm_n S 1 3 := (h2 p hp).2.2.2.2.2.2.2.2.2.2.2.2.2.2.2.2.2.2.2.2.2.2.2.1 g hg
  refine ⟨⟨xk_C.F hF (by decide) hC, k_cnt.F hF (by decide) (by decide) (by decide) (by decide) (by decide) (by decide) (by decide) (by decide) (by decide) (by decide) (by decide) hcnt, k_bnd.F hF hb', k_lst.F hF hl, k_top.F hF (by decide) (by decide) (by decide) ht, k_live.F hF (by decide) hv, fun k hk => ks.F hF (by decide) (by decide) (by decide) (by decide) (by decide) (by decide) (by decide) (h1 k (hN hk)), fun k hk => kc.F hF (by decide) (by decide) (by decide) (by decide) (by decide) (by decide) (by decide) (by decide) (by decide) (by decide) (by decide) (by decide) (by decide) (by decide) (by decide) (by decide) (by decide) (by decide) (by decide) (by decide) (by decide) (by decide) (by decide) (by decide) (by decide) (by decide) (by decide) (by decide) (by decide) (by decide) (by decide) (by decide) (by decide) (by decide) (h2 k (hN hk)), ?_, fun k hk => kf.F hF (by decide) (by decide) (by decide) (by decide) (by decide) (by decide) (by decide) (by decide) (by decide) (by decide) (by decide) (by decide) (by decide) (h4 k (hN hk)), fun k hk => ke.F hF (by decide) (by decide) (by decide) (by decide) (by decide) (by decide) (by decide) (by decide) (by decide) (by decide) (h5 k (hN hk)), fun k hk => ko.F hF (by decide) (by decide) (by decide) (by decide) (by decide) (by decide) (by decide) (by decide) (by decide) (by decide) (by decide) (h6 k (hN hk)), fun k hk => kp.F hF (by decide) (by decide) (by decide) (by decide) (by decide) (by decide) (by decide) (by decide) (by decide) (by decide) (by decide) (by decide) (by decide) (by decide) (by decide) (by decide) (by decide) (by decide) (by decide) (by decide) (by decide) (by decide) (by decide) (by decide) (h7 k (hN hk)), fun k hk => ka.F hF (by decide) (by decide) (by decide) (by decide) (by decide) (by decide) (by decide) (by decide) (by decide) (by decide) (by decide) (by decide) (h8 k (hN hk)), by rw [hF.1]; exact kt.F hF (by decide) (by decide) (by decide) h9, fun k hk => kt.F hF (by decide) (by decide) (by decide) (h10 k (hN hk)), fun k hk => kw.F1 hF (by decide) (by decide) (by decide) (by decide) (by decide) (by decide) (by decide) (by decide) (by decide) (by decide) (h11 k (hN hk)), fun k hk => kw.F2 hF (by decide) (by decide) (by decide) (by decide) (by decide) (by decide) (by decide) (by decide) (by decide) (by decide) (h12 k (hN hk))⟩, kS.F hF (by decide) hS, fun k hk => kgr.F hF (by decide) (by decide) (by decide) (by decide) (by decide) (by decide) (hgr k (hN hk)), ⟨k_par.F hF (by decide) (by decide) (by decide) (by decide) (by decide) (by decide) (by decide) (by decide) (by decide) j1, k_dst.F hF (by decide) (by decide) j2, k_own.F hF (by decide) (by decide) j3, k_obj.F hF j4, k_cap.F hF j5, k_chn.F hF (by decide) (by decide) (by decide) (by decide) j6, ?_, ?_, k_que.F hF (by decide) (by decide) (by decide) (by decide) (by decide) j9, ?_, k_uni.F hF (by decide) (by decide) (by decide) (by decide) (by decide) (by decide) (by decide) (by decide) (by decide) (by decide) j11, k_num.F hF (by decide) (by decide) (by decide) (by decide) (by decide) (by decide) j12, k_pot.F hF (by decide) (by decide) (by decide) (by decide) (by decide) (by decide) (by decide) (by decide) j13, k_pln.F hF (by decide) (by decide) (by decide) (by decide) (by decide) (by decide) (by decide) (by decide) (by decide) (by decide) j14, (hF.2.2.2.2.1 0 (by decide) 0).trans j15, j16, fun k k1 k2 => by rw [hF.2.2.2.2.1 72 (by decide), hF.2.2.2.2.1 0 (by decide)]; exact j17 k k1 (hN k2), fun k hk => kof.F hF (by decide) (by decide) (by decide) (by decide) (by decide) (by decide) (by decide) (by decide) (by decide) (by decide) (by decide) (by decide) (j18 k (hN hk))⟩⟩
  · intro k hk
    by_cases e : k = g
    · subst e
      obtain ⟨z1, z2, z3, z4, z5, z6, z7, z8, z9, z10, z11, z12, z13, z14, z15, z16⟩ := h3 k hgn
      obtain ⟨a1, a2, a3, a4, a5, -⟩ := hF
      unfold kg
      rw [a3 5 0 (by decide), a3 5 1 (by decide), a3 5 2 (by decide), a3 5 3 (by decide), a3 5 4 (by decide), a3 5 5 (by decide), a3 5 10 (by decide), a3 5 11 (by decide), a3 5 13 (by decide), a4 5 12 (by decide), a4 5 14 (by decide), a5 31 (by decide), a5 32 (by decide), a5 33 (by decide), a5 34 (by decide), a5 35 (by decide), a5 39 (by decide), a5 40 (by decide), a5 41 (by decide), a5 42 (by decide), a1, a2]
      refine ⟨z1, z2, z3, z4, z5, z6, v6, v7, v8, z10, z11, z12, ?_, z14, z15, fun s hs => ?_⟩
      · obtain ⟨q, y1, y2, y3, y4, y5, y6⟩ := z13
        refine ⟨q, y1, y2, y3, y4, y5, fun i hi => ?_⟩
        rw [a5 43 (by decide)]
        exact y6 i hi
      · rw [a4 15 s (by simp), a5 44 (by decide), a5 45 (by decide), a5 46 (by decide)]
        simp only [a5 68 (by decide), a5 69 (by decide), a5 70 (by decide), a5 71 (by decide)]
        exact z16 s hs
    · exact kg.O hF e (fun j hj => by simp) (by decide) (by decide) (by decide) (by decide) (by decide) (by decide) (by decide) (by decide) (h3 k (hN hk))
  · intro k hk
    have hk' := hN hk
    obtain ⟨a1, a2, a3, a4, a5, a6, a7, -⟩ := hF
    obtain ⟨z1, z2, z3, z4, z5, z6⟩ := j7 k hk'
    have act : k_act S' X k ↔ k_act S X k := by unfold k_act; rw [a3 2 8 (by decide)]
    have rst : k_rest S' A' k ↔ k_rest S A k := by unfold k_rest; rw [a3 2 13 (by decide), a5 75 (by decide), a5 76 (by decide), a4 2 15 (by decide)]
    simp only [act, rst, a4 2 4 (by decide), a4 2 15 (by decide), a5 75 (by decide), a5 76 (by decide), a5 77 (by decide), a5 78 (by decide), a5 79 (by decide), a5 31 (by decide)]
    refine ⟨z1, z2, z3, z4, z5, fun g' hg' y1 y2 => ?_⟩
    obtain ⟨x1, x2⟩ := z6 g' hg' y1 (fun z => y2 (Or.inl z))
    refine ⟨x1, ?_⟩
    by_cases e : g' = g
    · subst e
      rcases htr with ⟨t1, t2⟩ | ⟨t1, t2, t3⟩
      · rw [t1]
        rw [t2] at x2
        exact x2.trans ⟨fun z => absurd (Option.some.inj z).symm (fun y => y2 (Or.inr y)), fun z => by cases z⟩
      · rw [t1]; exact x2
    · rw [(a7 g' 9 e).2]; exact x2
  · intro g' c hg' hc
    have hg2 := hN hg'
    obtain ⟨a1, a2, a3, a4, a5, a6, a7, -, a9⟩ := hF
    by_cases e : g' = g
    · subst e
      rcases htr with ⟨t1, t2⟩ | ⟨t1, t2, t3⟩
      · rw [t1] at hc; cases hc
      · rw [t1] at hc
        obtain ⟨y1, y2, y3, y4, y5, y6⟩ := j8 g' c hg2 hc
        unfold k_act
        rw [a1, a3 2 8 (by decide), a4 2 4 (by decide), a5 79 (by decide)]
        refine ⟨y1, y2, fun z => ?_, y4, y5, t3 c hc⟩
        rcases z with z | z
        · exact y3 z
        · rw [z] at hc; exact t2 hc
    · rw [(a7 g' 9 e).2] at hc
      obtain ⟨y1, y2, y3, y4, y5, y6⟩ := j8 g' c hg2 hc
      unfold k_act
      rw [a1, a3 2 8 (by decide), a4 2 4 (by decide), a5 79 (by decide), a9 36 g' (by decide) e]
      refine ⟨y1, y2, fun z => ?_, y4, y5, y6⟩
      rcases z with z | z
      · exact y3 z
      · rw [z, hg] at y4; exact e (Option.some.inj y4).symm
  · refine k_sts.E (k_sts.F hF (by decide) (by decide) (by decide) (by decide) (by decide) (by decide) (by decide) (by decide) (by decide) (by decide) (by decide) j10) (fun c hc hcp => ?_)
    rw [hF.2.2.2.1 2 2 (by decide)] at hcp
    rw [hF.2.2.1 2 8 (by decide)]
    exact hch c (hN hc) hcp
theorem kM.bulk {S S' : xm_S} {A A' : y_A} {X E : Nat → Prop} {hb rb nb t w e1 e2 p g : Nat} (h : kM S A X E (fun _ => False) hb rb nb t w e1 e2) (hp : p < xm_n S 1 6) (hg : xm_r S 2 p 4 = some g) (hch : ∀ c, c < xm_n S 1 6 → xm_r S 2 c 2 = some p → xm_i S 2 c 8 ≠ 0) (hF : kF p g [(5, 10)] [] [77, 39] S S' A A') (v10 : xm_i S' 5 g 10 = A' 39 g) (v77 : A' 77 p = 0) (hsort : A 31 g = 1) : kM S' A' X (fun k => E k ∨ k = p) (fun _ => False) hb rb nb t w e1 e2 := by
  obtain ⟨⟨hC, hcnt, hb', hl, ht, hv, h1, h2, h3, h4, h5, h6, h7, h8, h9, h10, h11, h12⟩, hS, hgr, ⟨j1, j2, j3, j4, j5, j6, j7, j8, j9, j10, j11, j12, j13, j14, j15, j16, j17, j18⟩⟩ := h
  have hN : ∀ {r k : Nat}, k < xm_n S' 1 r → k < xm_n S 1 r := fun z => by rw [hF.1] at z; exact z
  have hgn : g < xm_n S 1 3 := (h2 p hp).2.2.2.2.2.2.2.2.2.2.2.2.2.2.2.2.2.2.2.2.2.2.2.1 g hg
  refine ⟨⟨xk_C.F hF (by decide) hC, k_cnt.F hF (by decide) (by decide) (by decide) (by decide) (by decide) (by decide) (by decide) (by decide) (by decide) (by decide) (by decide) hcnt, k_bnd.F hF hb', k_lst.F hF hl, k_top.F hF (by decide) (by decide) (by decide) ht, k_live.F hF (by decide) hv, fun k hk => ks.F hF (by decide) (by decide) (by decide) (by decide) (by decide) (by decide) (by decide) (h1 k (hN hk)), ?_, ?_, fun k hk => kf.F hF (by decide) (by decide) (by decide) (by decide) (by decide) (by decide) (by decide) (by decide) (by decide) (by decide) (by decide) (by decide) (by decide) (h4 k (hN hk)), fun k hk => ke.F hF (by decide) (by decide) (by decide) (by decide) (by decide) (by decide) (by decide) (by decide) (by decide) (by decide) (h5 k (hN hk)), fun k hk => ko.F hF (by decide) (by decide) (by decide) (by decide) (by decide) (by decide) (by decide) (by decide) (by decide) (by decide) (by decide) (h6 k (hN hk)), fun k hk => kp.F hF (by decide) (by decide) (by decide) (by decide) (by decide) (by decide) (by decide) (by decide) (by decide) (by decide) (by decide) (by decide) (by decide) (by decide) (by decide) (by decide) (by decide) (by decide) (by decide) (by decide) (by decide) (by decide) (by decide) (by decide) (h7 k (hN hk)), fun k hk => ka.F hF (by decide) (by decide) (by decide) (by decide) (by decide) (by decide) (by decide) (by decide) (by decide) (by decide) (by decide) (by decide) (h8 k (hN hk)), by rw [hF.1]; exact kt.F hF (by decide) (by decide) (by decide) h9, fun k hk => kt.F hF (by decide) (by decide) (by decide) (h10 k (hN hk)), fun k hk => kw.F1 hF (by decide) (by decide) (by decide) (by decide) (by decide) (by decide) (by decide) (by decide) (by decide) (by decide) (h11 k (hN hk)), fun k hk => kw.F2 hF (by decide) (by decide) (by decide) (by decide) (by decide) (by decide) (by decide) (by decide) (by decide) (by decide) (h12 k (hN hk))⟩, kS.F hF (by decide) hS, fun k hk => kgr.F hF (by decide) (by decide) (by decide) (by decide) (by decide) (by decide) (hgr k (hN hk)), ⟨k_par.F hF (by decide) (by decide) (by decide) (by decide) (by decide) (by decide) (by decide) (by decide) (by decide) j1, k_dst.F hF (by decide) (by decide) j2, k_own.F hF (by decide) (by decide) j3, k_obj.F hF j4, k_cap.F hF j5, k_chn.F hF (by decide) (by decide) (by decide) (by decide) j6, ?_, ?_, k_que.F hF (by decide) (by decide) (by decide) (by decide) (by decide) j9, ?_, k_uni.F hF (by decide) (by decide) (by decide) (by decide) (by decide) (by decide) (by decide) (by decide) (by decide) (by decide) j11, k_num.F hF (by decide) (by decide) (by decide) (by decide) (by decide) (by decide) j12, k_pot.F hF (by decide) (by decide) (by decide) (by decide) (by decide) (by decide) (by decide) (by decide) j13, k_pln.F hF (by decide) (by decide) (by decide) (by decide) (by decide) (by decide) (by decide) (by decide) (by decide) (by decide) j14, (hF.2.2.2.2.1 0 (by decide) 0).trans j15, j16, fun k k1 k2 => by rw [hF.2.2.2.2.1 72 (by decide), hF.2.2.2.2.1 0 (by decide)]; exact j17 k k1 (hN k2), fun k hk => kof.F hF (by decide) (by decide) (by decide) (by decide) (by decide) (by decide) (by decide) (by decide) (by decide) (by decide) (by decide) (by decide) (j18 k (hN hk))⟩⟩
  · intro k hk
    by_cases e : k = p
    · subst e
      obtain ⟨z1, z2, z3, z4, z5, z6, z7, z8, z9, z10, z11, z12, z13, z14, z15, z16, z17, z18, z19, z20, z21, z22⟩ := h2 k hp
      obtain ⟨a1, a2, a3, a4, a5, -⟩ := hF
      unfold kc
      rw [v77]
      simp only [a1, a3 2 0 (by decide), a3 2 3 (by decide), a3 2 5 (by decide), a3 2 7 (by decide), a3 2 8 (by decide), a3 2 9 (by decide), a3 2 10 (by decide), a3 2 12 (by decide), a3 2 14 (by decide), a3 2 16 (by decide), a4 2 1 (by decide), a4 2 2 (by decide), a4 2 4 (by decide), a4 2 6 (by decide), a4 2 11 (by decide), a4 2 15 (by decide), a5 62 (by decide), a5 63 (by decide), a5 64 (by decide), a5 65 (by decide), a5 66 (by decide), a5 67 (by decide), a5 68 (by decide), a5 69 (by decide), a5 70 (by decide), a5 71 (by decide), a5 72 (by decide), a5 73 (by decide), a5 74 (by decide), a5 75 (by decide), a5 76 (by decide), a5 78 (by decide), a5 79 (by decide)]
      exact ⟨z1, z2, z3, z4, z5, z6, z7, z8, z9, z10, z11, z12, z13, z14, z15, z16, z17, z18, z19, z20, Or.inl trivial, z22⟩
    · exact kc.O hF e (h2 k (hN hk))
  · intro k hk
    by_cases e : k = g
    · subst e
      obtain ⟨z1, z2, z3, z4, z5, z6, z7, z8, z9, z10, z11, z12, z13, z14, z15, z16⟩ := h3 k hgn
      obtain ⟨a1, a2, a3, a4, a5, -⟩ := hF
      unfold kg
      rw [a3 5 0 (by decide), a3 5 1 (by decide), a3 5 2 (by decide), a3 5 3 (by decide), a3 5 4 (by decide), a3 5 5 (by decide), a3 5 6 (by decide), a3 5 7 (by decide), a3 5 8 (by decide), a3 5 11 (by decide), a3 5 13 (by decide), a4 5 12 (by decide), a4 5 14 (by decide), a5 31 (by decide), a5 32 (by decide), a5 33 (by decide), a5 34 (by decide), a5 35 (by decide), a5 36 (by decide), a5 37 (by decide), a5 38 (by decide), a5 40 (by decide), a5 41 (by decide), a5 42 (by decide), a1, a2]
      refine ⟨z1, z2, z3, z4, z5, z6, z7, z8, z9, v10, z11, z12, ?_, z14, z15, fun s hs => ?_⟩
      · obtain ⟨q, y1, y2, y3, y4, y5, y6⟩ := z13
        refine ⟨q, y1, y2, y3, y4, y5, fun i hi => ?_⟩
        rw [a5 43 (by decide)]
        exact y6 i hi
      · rw [a4 15 s (by simp), a5 44 (by decide), a5 45 (by decide), a5 46 (by decide)]
        simp only [a5 68 (by decide), a5 69 (by decide), a5 70 (by decide), a5 71 (by decide)]
        exact z16 s hs
    · exact kg.O hF e (fun j hj => by simp) (by decide) (by decide) (by decide) (by decide) (by decide) (by decide) (by decide) (by decide) (h3 k (hN hk))
  · intro k hk
    have hk' := hN hk
    obtain ⟨a1, a2, a3, a4, a5, a6, a7, a8, a9⟩ := hF
    obtain ⟨z1, z2, z3, z4, z5, z6⟩ := j7 k hk'
    have act : k_act S' X k ↔ k_act S X k := by unfold k_act; rw [a3 2 8 (by decide)]
    have rst : k_rest S' A' k ↔ k_rest S A k := by unfold k_rest; rw [a3 2 13 (by decide), a5 75 (by decide), a5 76 (by decide), a4 2 15 (by decide)]
    simp only [act, rst, a4 2 4 (by decide), a4 2 15 (by decide), a4 5 9 (by decide), a5 75 (by decide), a5 76 (by decide), a5 78 (by decide), a5 79 (by decide), a5 31 (by decide)]
    refine ⟨z1, fun y => ?_, z3, z4, z5, fun g' hg' y1 y2 => ?_⟩
    · rcases y with y | y
      · exact z2 (Or.inl y)
      · by_cases e : k = p
        · rw [e, v77] at y; exact absurd y (by decide)
        · rw [a8 77 k (by decide) e] at y; exact z2 (Or.inr y)
    · rw [a8 77 k (by decide) (fun z => y2 (Or.inr z))]
      exact z6 g' hg' y1 (fun z => y2 (Or.inl z))
  · intro g' c hg' hc
    rw [hF.2.2.2.1 5 9 (by decide)] at hc
    obtain ⟨y1, y2, y3, y4, y5, y6⟩ := j8 g' c (hN hg') hc
    obtain ⟨a1, a2, a3, a4, a5, a6, a7, a8, a9⟩ := hF
    unfold k_act
    rw [a1, a3 2 8 (by decide), a4 2 4 (by decide), a5 79 (by decide), a5 36 (by decide)]
    refine ⟨y1, y2, fun z => ?_, y4, y5, y6⟩
    rcases z with z | z
    · exact y3 z
    · obtain ⟨g2, w1, w2⟩ := (j7 c y1).2.2.2.1 y5
      rw [z, hg] at w1
      rw [← Option.some.inj w1, hsort] at w2
      exact absurd w2 (by decide)
  · refine k_sts.E (k_sts.F hF (by decide) (by decide) (by decide) (by decide) (by decide) (by decide) (by decide) (by decide) (by decide) (by decide) (by decide) j10) (fun c hc hcp => ?_)
    rw [hF.2.2.2.1 2 2 (by decide)] at hcp
    rw [hF.2.2.1 2 8 (by decide)]
    exact hch c (hN hc) hcp
theorem kM.exm {S : xm_S} {A : y_A} {X E : Nat → Prop} {hb rb nb t w e1 e2 p : Nat} (h : kM S A X E (fun _ => False) hb rb nb t w e1 e2) (hp : p < xm_n S 1 6) (hch : ∀ c, c < xm_n S 1 6 → xm_r S 2 c 2 = some p → xm_i S 2 c 8 ≠ 0) (hns : ∀ g, xm_r S 2 p 4 = some g → A 31 g ≠ 0) : kM S A X (fun k => E k ∨ k = p) (fun _ => False) hb rb nb t w e1 e2 := by
  obtain ⟨hE, hS, hgr, ⟨j1, j2, j3, j4, j5, j6, j7, j8, j9, j10, j11, j12, j13, j14, j15, j16, j17, j18⟩⟩ := h
  refine ⟨hE, hS, hgr, ⟨j1, j2, j3, j4, j5, j6, k_occ.E j7 (fun k z => Or.inl z), fun g c hg hc => ?_, j9, k_sts.E j10 hch, j11, j12, j13, j14, j15, j16, j17, j18⟩⟩
  obtain ⟨y1, y2, y3, y4, y5, y6⟩ := j8 g c hg hc
  refine ⟨y1, y2, fun z => ?_, y4, y5, y6⟩
  rcases z with z | z
  · exact y3 z
  · obtain ⟨g2, w1, w2⟩ := (j7 c y1).2.2.2.1 y5
    rw [z] at w1
    exact hns g2 w1 w2
theorem kM.pause {S S' : xm_S} {A A' : y_A} {X E : Nat → Prop} {hb rb nb t w e1 e2 p g : Nat} (h : kM S A X E (fun _ => False) hb rb nb t w e1 e2) (hp : p < xm_n S 1 6) (hp0 : xm_i S 2 p 8 = 0) (hg : xm_r S 2 p 4 = some g) (hsort : A 31 g = 4) (hin : A 73 p < A 32 g) (hch : ∀ c, c < xm_n S 1 6 → xm_r S 2 c 2 = some p → xm_i S 2 c 8 = 2) (hF : kF p 0 [(2, 13), (2, 12)] [] [76, 72] S S' A A') (v13 : xm_i S' 2 p 13 = 2) (v12 : xm_i S' 2 p 12 = A' 72 p) (v76 : A' 76 p = 1) (v72 : A' 72 p ≠ A 0 0) : kM S' A' X E (fun _ => False) hb rb nb t w e1 e2 := by
  obtain ⟨⟨hC, hcnt, hb', hl, ht, hv, h1, h2, h3, h4, h5, h6, h7, h8, h9, h10, h11, h12⟩, hS, hgr, ⟨j1, j2, j3, j4, j5, j6, j7, j8, j9, j10, j11, j12, j13, j14, j15, j16, j17, j18⟩⟩ := h
  have hN : ∀ {r k : Nat}, k < xm_n S' 1 r → k < xm_n S 1 r := fun z => by rw [hF.1] at z; exact z
  refine ⟨⟨xk_C.F hF (by decide) hC, k_cnt.F hF (by decide) (by decide) (by decide) (by decide) (by decide) (by decide) (by decide) (by decide) (by decide) (by decide) (by decide) hcnt, k_bnd.F hF hb', k_lst.F hF hl, k_top.F hF (by decide) (by decide) (by decide) ht, k_live.F hF (by decide) hv, fun k hk => ks.F hF (by decide) (by decide) (by decide) (by decide) (by decide) (by decide) (by decide) (h1 k (hN hk)), ?_, fun k hk => kg.F hF (by decide) (by decide) (by decide) (by decide) (by decide) (by decide) (by decide) (by decide) (by decide) (by decide) (by decide) (by decide) (by decide) (by decide) (by decide) (by decide) (by decide) (by decide) (by decide) (by decide) (by decide) (by decide) (by decide) (by decide) (by decide) (by decide) (by decide) (by decide) (by decide) (by decide) (by decide) (by decide) (by decide) (by decide) (by decide) (h3 k (hN hk)), fun k hk => kf.F hF (by decide) (by decide) (by decide) (by decide) (by decide) (by decide) (by decide) (by decide) (by decide) (by decide) (by decide) (by decide) (by decide) (h4 k (hN hk)), fun k hk => ke.F hF (by decide) (by decide) (by decide) (by decide) (by decide) (by decide) (by decide) (by decide) (by decide) (by decide) (h5 k (hN hk)), fun k hk => ko.F hF (by decide) (by decide) (by decide) (by decide) (by decide) (by decide) (by decide) (by decide) (by decide) (by decide) (by decide) (h6 k (hN hk)), fun k hk => kp.F hF (by decide) (by decide) (by decide) (by decide) (by decide) (by decide) (by decide) (by decide) (by decide) (by decide) (by decide) (by decide) (by decide) (by decide) (by decide) (by decide) (by decide) (by decide) (by decide) (by decide) (by decide) (by decide) (by decide) (by decide) (h7 k (hN hk)), fun k hk => ka.F hF (by decide) (by decide) (by decide) (by decide) (by decide) (by decide) (by decide) (by decide) (by decide) (by decide) (by decide) (by decide) (h8 k (hN hk)), by rw [hF.1]; exact kt.F hF (by decide) (by decide) (by decide) h9, fun k hk => kt.F hF (by decide) (by decide) (by decide) (h10 k (hN hk)), fun k hk => kw.F1 hF (by decide) (by decide) (by decide) (by decide) (by decide) (by decide) (by decide) (by decide) (by decide) (by decide) (h11 k (hN hk)), fun k hk => kw.F2 hF (by decide) (by decide) (by decide) (by decide) (by decide) (by decide) (by decide) (by decide) (by decide) (by decide) (h12 k (hN hk))⟩, kS.F hF (by decide) hS, fun k hk => kgr.F hF (by decide) (by decide) (by decide) (by decide) (by decide) (by decide) (hgr k (hN hk)), ⟨k_par.F hF (by decide) (by decide) (by decide) (by decide) (by decide) (by decide) (by decide) (by decide) (by decide) j1, k_dst.F hF (by decide) (by decide) j2, k_own.F hF (by decide) (by decide) j3, k_obj.F hF j4, k_cap.F hF j5, k_chn.F hF (by decide) (by decide) (by decide) (by decide) j6, ?_, k_tri.F hF (by decide) (by decide) (by decide) (by decide) (by decide) j8, k_que.F hF (by decide) (by decide) (by decide) (by decide) (by decide) j9, ?_, k_uni.F hF (by decide) (by decide) (by decide) (by decide) (by decide) (by decide) (by decide) (by decide) (by decide) (by decide) j11, k_num.F hF (by decide) (by decide) (by decide) (by decide) (by decide) (by decide) j12, k_pot.F hF (by decide) (by decide) (by decide) (by decide) (by decide) (by decide) (by decide) (by decide) j13, k_pln.F hF (by decide) (by decide) (by decide) (by decide) (by decide) (by decide) (by decide) (by decide) (by decide) (by decide) j14, (hF.2.2.2.2.1 0 (by decide) 0).trans j15, j16, ?_, fun k hk => kof.F hF (by decide) (by decide) (by decide) (by decide) (by decide) (by decide) (by decide) (by decide) (by decide) (by decide) (by decide) (by decide) (j18 k (hN hk))⟩⟩
  · intro k hk
    by_cases e : k = p
    · subst e
      obtain ⟨z1, z2, z3, z4, z5, z6, z7, z8, z9, z10, z11, z12, z13, z14, z15, z16, z17, z18, z19, z20, z21, z22⟩ := h2 k hp
      obtain ⟨a1, a2, a3, a4, a5, -⟩ := hF
      unfold kc
      rw [v76]
      simp only [a1, a3 2 0 (by decide), a3 2 3 (by decide), a3 2 5 (by decide), a3 2 7 (by decide), a3 2 8 (by decide), a3 2 9 (by decide), a3 2 10 (by decide), a3 2 14 (by decide), a3 2 16 (by decide), a4 2 1 (by decide), a4 2 2 (by decide), a4 2 4 (by decide), a4 2 6 (by decide), a4 2 11 (by decide), a4 2 15 (by decide), a5 62 (by decide), a5 63 (by decide), a5 64 (by decide), a5 65 (by decide), a5 66 (by decide), a5 67 (by decide), a5 68 (by decide), a5 69 (by decide), a5 70 (by decide), a5 71 (by decide), a5 73 (by decide), a5 74 (by decide), a5 75 (by decide), a5 77 (by decide), a5 78 (by decide), a5 79 (by decide)]
      exact ⟨z1, z2, z3, z4, z5, z6, v12, z8, z9, z10, z11, z12, z13, z14, z15, z16, z17, z18, z19, Or.inr trivial, z21, z22⟩
    · exact kc.O hF e (h2 k (hN hk))
  · intro k hk
    have hk' := hN hk
    obtain ⟨a1, a2, a3, a4, a5, a6, a7, a8, a9⟩ := hF
    obtain ⟨z1, z2, z3, z4, z5, z6⟩ := j7 k hk'
    have act : k_act S' X k ↔ k_act S X k := by unfold k_act; rw [a3 2 8 (by decide)]
    simp only [act, a4 2 4 (by decide), a4 2 15 (by decide), a4 5 9 (by decide), a5 75 (by decide), a5 77 (by decide), a5 78 (by decide), a5 79 (by decide), a5 31 (by decide)]
    refine ⟨fun y => ?_, z2, fun y => ?_, z4, z5, z6⟩
    · by_cases e : k = p
      · unfold k_rest
        rw [e, v13, v76, a5 75 (by decide), if_neg (fun z => ?_), if_pos rfl]
        obtain ⟨g2, w1, w2⟩ := z2 (Or.inl (by rw [e]; exact z))
        rw [e, hg] at w1
        rw [← Option.some.inj w1, hsort] at w2
        exact absurd w2 (by decide)
      · have := z1 y
        unfold k_rest at this ⊢
        rw [(a6 k 13 e).1, a8 76 k (by decide) e, a5 75 (by decide), a4 2 15 (by decide)]
        exact this
    · by_cases e : k = p
      · rw [e]; exact ⟨g, hg, hsort⟩
      · rw [a8 76 k (by decide) e] at y; exact z3 y
  · obtain ⟨z1, z2⟩ := j10
    obtain ⟨a1, a2, a3, a4, a5, a6, a7, a8, a9⟩ := hF
    unfold k_sts
    simp only [a1, a3 2 8 (by decide), a3 2 16 (by decide), a4 2 2 (by decide), a4 2 4 (by decide), a4 2 17 (by decide), a5 31 (by decide), a5 73 (by decide), a5 32 (by decide), a5 0 (by decide)]
    refine ⟨z1, fun k g' hk h0 hg' => ?_⟩
    obtain ⟨y1, y6, y2, y3, y4, y5⟩ := z2 k g' hk h0 hg'
    by_cases e : k = p
    · subst e
      obtain rfl : g' = g := Option.some.inj (hg'.symm.trans hg)
      refine ⟨y1, y6, fun x => ⟨fun _ => ⟨hin, fun c hc => ?_⟩, Or.inl v76⟩, fun x => ?_, y4, y5⟩
      · obtain ⟨x1, x2, -⟩ := (j6.1 k hk).2.1 c hc
        exact hch c x1 x2
      · rw [hsort] at x; exact absurd x (by decide)
    · rw [a8 76 k (by decide) e, a8 72 k (by decide) e]
      exact ⟨y1, y6, y2, y3, y4, y5⟩
  · intro k k1 k2
    obtain ⟨a1, a2, a3, a4, a5, a6, a7, a8, a9⟩ := hF
    rw [a5 0 (by decide)]
    by_cases e : k = p
    · rw [e]; exact v72
    · rw [a8 72 k (by decide) e]; exact j17 k k1 (hN k2)
theorem kM.cause {S : xm_S} {A : y_A} {X E B : Nat → Prop} {hb rb nb t w e1 e2 f m : Nat} (h : kM S A X E B hb rb nb t w e1 e2) (hf : f < xm_n S 1 8) (hm : m < xm_n S 1 8) : kM (xm_sr S 4 f 5 (some m)) (xm_u2 A 28 f (nI m)) X E B hb rb nb t w e1 e2 := by
  have hF : kF 0 0 [] [(4, 5)] [28] S (xm_sr S 4 f 5 (some m)) A (xm_u2 A 28 f (nI m)) := ((kF.rf 0 0 S A).sr 4 f 5 (some m) (fun z => absurd z (by decide)) (fun z => absurd z (by decide))).u 28 f (nI m) (fun z => absurd z.1 (by decide)) (fun z => absurd z.1 (by decide))
  obtain ⟨⟨hC, hcnt, hb', hl, ht, hv, h1, h2, h3, h4, h5, h6, h7, h8, h9, h10, h11, h12⟩, hS, hgr, ⟨j1, j2, j3, j4, j5, j6, j7, j8, j9, j10, j11, j12, j13, j14, j15, j16, j17, j18⟩⟩ := h
  have hN : ∀ {r k : Nat}, k < xm_n (xm_sr S 4 f 5 (some m)) 1 r → k < xm_n S 1 r := fun z => by rw [hF.1] at z; exact z
  refine ⟨⟨xk_C.F hF (by decide) hC, k_cnt.F hF (by decide) (by decide) (by decide) (by decide) (by decide) (by decide) (by decide) (by decide) (by decide) (by decide) (by decide) hcnt, k_bnd.F hF hb', k_lst.F hF hl, k_top.F hF (by decide) (by decide) (by decide) ht, k_live.F hF (by decide) hv, fun k hk => ks.F hF (by decide) (by decide) (by decide) (by decide) (by decide) (by decide) (by decide) (h1 k (hN hk)), fun k hk => kc.F hF (by decide) (by decide) (by decide) (by decide) (by decide) (by decide) (by decide) (by decide) (by decide) (by decide) (by decide) (by decide) (by decide) (by decide) (by decide) (by decide) (by decide) (by decide) (by decide) (by decide) (by decide) (by decide) (by decide) (by decide) (by decide) (by decide) (by decide) (by decide) (by decide) (by decide) (by decide) (by decide) (by decide) (by decide) (h2 k (hN hk)), fun k hk => kg.F hF (by decide) (by decide) (by decide) (by decide) (by decide) (by decide) (by decide) (by decide) (by decide) (by decide) (by decide) (by decide) (by decide) (by decide) (by decide) (by decide) (by decide) (by decide) (by decide) (by decide) (by decide) (by decide) (by decide) (by decide) (by decide) (by decide) (by decide) (by decide) (by decide) (by decide) (by decide) (by decide) (by decide) (by decide) (by decide) (h3 k (hN hk)), ?_, fun k hk => ke.F hF (by decide) (by decide) (by decide) (by decide) (by decide) (by decide) (by decide) (by decide) (by decide) (by decide) (h5 k (hN hk)), fun k hk => ko.F hF (by decide) (by decide) (by decide) (by decide) (by decide) (by decide) (by decide) (by decide) (by decide) (by decide) (by decide) (h6 k (hN hk)), fun k hk => kp.F hF (by decide) (by decide) (by decide) (by decide) (by decide) (by decide) (by decide) (by decide) (by decide) (by decide) (by decide) (by decide) (by decide) (by decide) (by decide) (by decide) (by decide) (by decide) (by decide) (by decide) (by decide) (by decide) (by decide) (by decide) (h7 k (hN hk)), fun k hk => ka.F hF (by decide) (by decide) (by decide) (by decide) (by decide) (by decide) (by decide) (by decide) (by decide) (by decide) (by decide) (by decide) (h8 k (hN hk)), by rw [hF.1]; exact kt.F hF (by decide) (by decide) (by decide) h9, fun k hk => kt.F hF (by decide) (by decide) (by decide) (h10 k (hN hk)), fun k hk => kw.F1 hF (by decide) (by decide) (by decide) (by decide) (by decide) (by decide) (by decide) (by decide) (by decide) (by decide) (h11 k (hN hk)), fun k hk => kw.F2 hF (by decide) (by decide) (by decide) (by decide) (by decide) (by decide) (by decide) (by decide) (by decide) (by decide) (h12 k (hN hk))⟩, kS.F hF (by decide) hS, fun k hk => kgr.F hF (by decide) (by decide) (by decide) (by decide) (by decide) (by decide) (hgr k (hN hk)), ⟨k_par.F hF (by decide) (by decide) (by decide) (by decide) (by decide) (by decide) (by decide) (by decide) (by decide) j1, k_dst.F hF (by decide) (by decide) j2, k_own.F hF (by decide) (by decide) j3, k_obj.F hF j4, k_cap.F hF j5, k_chn.F hF (by decide) (by decide) (by decide) (by decide) j6, k_occ.F hF (by decide) (by decide) (by decide) (by decide) (by decide) (by decide) (by decide) (by decide) (by decide) (by decide) (by decide) j7, k_tri.F hF (by decide) (by decide) (by decide) (by decide) (by decide) j8, k_que.F hF (by decide) (by decide) (by decide) (by decide) (by decide) j9, k_sts.F hF (by decide) (by decide) (by decide) (by decide) (by decide) (by decide) (by decide) (by decide) (by decide) (by decide) (by decide) j10, k_uni.F hF (by decide) (by decide) (by decide) (by decide) (by decide) (by decide) (by decide) (by decide) (by decide) (by decide) j11, k_num.F hF (by decide) (by decide) (by decide) (by decide) (by decide) (by decide) j12, k_pot.F hF (by decide) (by decide) (by decide) (by decide) (by decide) (by decide) (by decide) (by decide) j13, k_pln.F hF (by decide) (by decide) (by decide) (by decide) (by decide) (by decide) (by decide) (by decide) (by decide) (by decide) j14, (hF.2.2.2.2.1 0 (by decide) 0).trans j15, j16, fun k k1 k2 => by rw [hF.2.2.2.2.1 72 (by decide), hF.2.2.2.2.1 0 (by decide)]; exact j17 k k1 (hN k2), fun k hk => kof.F hF (by decide) (by decide) (by decide) (by decide) (by decide) (by decide) (by decide) (by decide) (by decide) (by decide) (by decide) (by decide) (j18 k (hN hk))⟩⟩
  · intro k hk
    by_cases e : k = f
    · subst e
      obtain ⟨z1, z2, z3, z4, z5, z6, z7, z8, z9, z10, z11, z12⟩ := h4 k hf
      refine ⟨z1, z2, z3, ?_, ?_, ?_, ?_, ?_, ?_, ?_, ?_, z12⟩
      · rw [(xr_sr (S := S) (c := 4) (k := k) (j := 5) (x := some m) (p := 4) (q := k) (r := 3) (by decide))]; exact z4
      · rw [(xr_sr (S := S) (c := 4) (k := k) (j := 5) (x := some m) (p := 4) (q := k) (r := 4) (by decide))]; exact z5
      · rw [xr_same, y_same]; rfl
      · rw [(xr_sr (S := S) (c := 4) (k := k) (j := 5) (x := some m) (p := 4) (q := k) (r := 6) (by decide))]; exact z7
      · rw [(xr_sr (S := S) (c := 4) (k := k) (j := 5) (x := some m) (p := 4) (q := k) (r := 3) (by decide))]; exact z8
      · rw [(xr_sr (S := S) (c := 4) (k := k) (j := 5) (x := some m) (p := 4) (q := k) (r := 4) (by decide))]; exact z9
      · rw [xr_same]; intro x hx; rw [← Option.some.inj hx]; exact hm
      · rw [(xr_sr (S := S) (c := 4) (k := k) (j := 5) (x := some m) (p := 4) (q := k) (r := 6) (by decide))]; exact z11
    · have z := h4 k hk
      have e1 : ∀ j, xm_r (xm_sr S 4 f 5 (some m)) 4 k j = xm_r S 4 k j := fun j => xr_sk (fun y => e y.2)
      have e2 : xm_u2 A 28 f (nI m) 28 k = A 28 k := if_neg (fun y => e y.2)
      unfold kf at z ⊢
      simp only [e1, e2]
      exact z
theorem kM.under {S : xm_S} {A : y_A} {X E B : Nat → Prop} {hb rb nb t w e1 e2 f m : Nat} (h : kM S A X E B hb rb nb t w e1 e2) (hf : f < xm_n S 1 8) (hm : m < xm_n S 1 8) : kM (xm_sr S 4 f 6 (some m)) (xm_u2 A 29 f (nI m)) X E B hb rb nb t w e1 e2 := by
  have hF : kF 0 0 [] [(4, 6)] [29] S (xm_sr S 4 f 6 (some m)) A (xm_u2 A 29 f (nI m)) := ((kF.rf 0 0 S A).sr 4 f 6 (some m) (fun z => absurd z (by decide)) (fun z => absurd z (by decide))).u 29 f (nI m) (fun z => absurd z.1 (by decide)) (fun z => absurd z.1 (by decide))
  obtain ⟨⟨hC, hcnt, hb', hl, ht, hv, h1, h2, h3, h4, h5, h6, h7, h8, h9, h10, h11, h12⟩, hS, hgr, ⟨j1, j2, j3, j4, j5, j6, j7, j8, j9, j10, j11, j12, j13, j14, j15, j16, j17, j18⟩⟩ := h
  have hN : ∀ {r k : Nat}, k < xm_n (xm_sr S 4 f 6 (some m)) 1 r → k < xm_n S 1 r := fun z => by rw [hF.1] at z; exact z
  refine ⟨⟨xk_C.F hF (by decide) hC, k_cnt.F hF (by decide) (by decide) (by decide) (by decide) (by decide) (by decide) (by decide) (by decide) (by decide) (by decide) (by decide) hcnt, k_bnd.F hF hb', k_lst.F hF hl, k_top.F hF (by decide) (by decide) (by decide) ht, k_live.F hF (by decide) hv, fun k hk => ks.F hF (by decide) (by decide) (by decide) (by decide) (by decide) (by decide) (by decide) (h1 k (hN hk)), fun k hk => kc.F hF (by decide) (by decide) (by decide) (by decide) (by decide) (by decide) (by decide) (by decide) (by decide) (by decide) (by decide) (by decide) (by decide) (by decide) (by decide) (by decide) (by decide) (by decide) (by decide) (by decide) (by decide) (by decide) (by decide) (by decide) (by decide) (by decide) (by decide) (by decide) (by decide) (by decide) (by decide) (by decide) (by decide) (by decide) (h2 k (hN hk)), fun k hk => kg.F hF (by decide) (by decide) (by decide) (by decide) (by decide) (by decide) (by decide) (by decide) (by decide) (by decide) (by decide) (by decide) (by decide) (by decide) (by decide) (by decide) (by decide) (by decide) (by decide) (by decide) (by decide) (by decide) (by decide) (by decide) (by decide) (by decide) (by decide) (by decide) (by decide) (by decide) (by decide) (by decide) (by decide) (by decide) (by decide) (h3 k (hN hk)), ?_, fun k hk => ke.F hF (by decide) (by decide) (by decide) (by decide) (by decide) (by decide) (by decide) (by decide) (by decide) (by decide) (h5 k (hN hk)), fun k hk => ko.F hF (by decide) (by decide) (by decide) (by decide) (by decide) (by decide) (by decide) (by decide) (by decide) (by decide) (by decide) (h6 k (hN hk)), fun k hk => kp.F hF (by decide) (by decide) (by decide) (by decide) (by decide) (by decide) (by decide) (by decide) (by decide) (by decide) (by decide) (by decide) (by decide) (by decide) (by decide) (by decide) (by decide) (by decide) (by decide) (by decide) (by decide) (by decide) (by decide) (by decide) (h7 k (hN hk)), fun k hk => ka.F hF (by decide) (by decide) (by decide) (by decide) (by decide) (by decide) (by decide) (by decide) (by decide) (by decide) (by decide) (by decide) (h8 k (hN hk)), by rw [hF.1]; exact kt.F hF (by decide) (by decide) (by decide) h9, fun k hk => kt.F hF (by decide) (by decide) (by decide) (h10 k (hN hk)), fun k hk => kw.F1 hF (by decide) (by decide) (by decide) (by decide) (by decide) (by decide) (by decide) (by decide) (by decide) (by decide) (h11 k (hN hk)), fun k hk => kw.F2 hF (by decide) (by decide) (by decide) (by decide) (by decide) (by decide) (by decide) (by decide) (by decide) (by decide) (h12 k (hN hk))⟩, kS.F hF (by decide) hS, fun k hk => kgr.F hF (by decide) (by decide) (by decide) (by decide) (by decide) (by decide) (hgr k (hN hk)), ⟨k_par.F hF (by decide) (by decide) (by decide) (by decide) (by decide) (by decide) (by decide) (by decide) (by decide) j1, k_dst.F hF (by decide) (by decide) j2, k_own.F hF (by decide) (by decide) j3, k_obj.F hF j4, k_cap.F hF j5, k_chn.F hF (by decide) (by decide) (by decide) (by decide) j6, k_occ.F hF (by decide) (by decide) (by decide) (by decide) (by decide) (by decide) (by decide) (by decide) (by decide) (by decide) (by decide) j7, k_tri.F hF (by decide) (by decide) (by decide) (by decide) (by decide) j8, k_que.F hF (by decide) (by decide) (by decide) (by decide) (by decide) j9, k_sts.F hF (by decide) (by decide) (by decide) (by decide) (by decide) (by decide) (by decide) (by decide) (by decide) (by decide) (by decide) j10, k_uni.F hF (by decide) (by decide) (by decide) (by decide) (by decide) (by decide) (by decide) (by decide) (by decide) (by decide) j11, k_num.F hF (by decide) (by decide) (by decide) (by decide) (by decide) (by decide) j12, k_pot.F hF (by decide) (by decide) (by decide) (by decide) (by decide) (by decide) (by decide) (by decide) j13, k_pln.F hF (by decide) (by decide) (by decide) (by decide) (by decide) (by decide) (by decide) (by decide) (by decide) (by decide) j14, (hF.2.2.2.2.1 0 (by decide) 0).trans j15, j16, fun k k1 k2 => by rw [hF.2.2.2.2.1 72 (by decide), hF.2.2.2.2.1 0 (by decide)]; exact j17 k k1 (hN k2), fun k hk => kof.F hF (by decide) (by decide) (by decide) (by decide) (by decide) (by decide) (by decide) (by decide) (by decide) (by decide) (by decide) (by decide) (j18 k (hN hk))⟩⟩
  · intro k hk
    by_cases e : k = f
    · subst e
      obtain ⟨z1, z2, z3, z4, z5, z6, z7, z8, z9, z10, z11, z12⟩ := h4 k hf
      refine ⟨z1, z2, z3, ?_, ?_, ?_, ?_, ?_, ?_, ?_, ?_, z12⟩
      · rw [(xr_sr (S := S) (c := 4) (k := k) (j := 6) (x := some m) (p := 4) (q := k) (r := 3) (by decide))]; exact z4
      · rw [(xr_sr (S := S) (c := 4) (k := k) (j := 6) (x := some m) (p := 4) (q := k) (r := 4) (by decide))]; exact z5
      · rw [(xr_sr (S := S) (c := 4) (k := k) (j := 6) (x := some m) (p := 4) (q := k) (r := 5) (by decide))]; exact z6
      · rw [xr_same, y_same]; rfl
      · rw [(xr_sr (S := S) (c := 4) (k := k) (j := 6) (x := some m) (p := 4) (q := k) (r := 3) (by decide))]; exact z8
      · rw [(xr_sr (S := S) (c := 4) (k := k) (j := 6) (x := some m) (p := 4) (q := k) (r := 4) (by decide))]; exact z9
      · rw [(xr_sr (S := S) (c := 4) (k := k) (j := 6) (x := some m) (p := 4) (q := k) (r := 5) (by decide))]; exact z10
      · rw [xr_same]; intro x hx; rw [← Option.some.inj hx]; exact hm
    · have z := h4 k hk
      have e1 : ∀ j, xm_r (xm_sr S 4 f 6 (some m)) 4 k j = xm_r S 4 k j := fun j => xr_sk (fun y => e y.2)
      have e2 : xm_u2 A 29 f (nI m) 29 k = A 29 k := if_neg (fun y => e y.2)
      unfold kf at z ⊢
      simp only [e1, e2]
      exact z
end
