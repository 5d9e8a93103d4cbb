/-! ===== A CALL ENTERS ITS GUARD: what changes (printed by wip/whole/gen9n.py) ===== -/
section
theorem k_sts.un {S : xm_S} {A : y_A} {E B : Nat → Prop} {hb rb p : Nat} (h : k_sts S A (fun k => E k ∨ k = p) B hb rb) (hp : ∀ g, xm_r S 2 p 4 = some g → A 31 g = 3 → B p) : k_sts S A E B hb rb := by
  obtain ⟨z1, z2⟩ := h
  refine ⟨fun k c hk hc hcp => z1 k c (Or.inl hk) hc hcp, fun k g hk h0 hg => ?_⟩
  obtain ⟨y1, y2⟩ := z2 k g hk h0 hg
  refine ⟨fun x1 x2 x3 => ?_, y2⟩
  by_cases e : k = p
  · rw [e] at hg x2
    exact absurd (hp g hg x3) x2
  · exact y1 (fun z => z.elim x1 e) x2 x3
/-- it is no longer exempt -/
theorem kM.un {S : xm_S} {A : y_A} {X E B : Nat → Prop} {hb rb nb t w e1 e2 p g : Nat} (h : kM S A X (fun k => E k ∨ k = p) B hb rb nb t w e1 e2) (hg : xm_r S 2 p 4 = some g) (o1 : A 31 g = 1 → (A 77 p = 1 ↔ ¬ A 75 p = 1)) (o2 : ¬ A 79 p = 1) (o3 : A 31 g = 3 → B p) : kM S A X E B hb rb nb t w e1 e2 := by
  obtain ⟨hE, hS, hgr, ⟨j1, j2, j3, j4, j5, j6, j7, j8, j9, j10, j11, j12, j13, j14, j15, j16, j17, j18⟩⟩ := h
  refine ⟨hE, hS, hgr, ⟨j1, j2, j3, j4, j5, j6, fun k hk => ?_, fun g' c hg' hc => ?_, j9, k_sts.un j10 (fun g' hg' z => by rw [← Option.some.inj (hg.symm.trans hg')] at z; exact o3 z), j11, j12, j13, j14, j15, j16, j17, j18⟩⟩
  · obtain ⟨z1, z2, z3, z4, z5, z6⟩ := j7 k hk
    refine ⟨z1, z2, z3, z4, z5, fun g' hg' y1 y2 => ?_⟩
    by_cases e : k = p
    · rw [e] at hg' ⊢
      obtain rfl : g = g' := Option.some.inj (hg.symm.trans hg')
      refine ⟨o1, fun z => absurd z o2, fun z => ?_⟩
      have hgn : g < xm_n S 1 3 := (hE.2.2.2.2.2.2.2.1 p (by rw [← e]; exact hk)).2.2.2.2.2.2.2.2.2.2.2.2.2.2.2.2.2.2.2.2.2.2.2.1 g hg
      exact (j8 g p hgn z).2.2.2.2.1
    · exact z6 g' hg' y1 (fun z => z.elim y2 e)
  · obtain ⟨y1, y2, y3, y4⟩ := j8 g' c hg' hc
    exact ⟨y1, y2, fun z => y3 (Or.inl z), y4⟩
theorem kM.ref {S S' : xm_S} {A A' : y_A} {X E B : Nat → Prop} {hb rb nb t w e1 e2 p g : Nat} (h : kM S A X E B hb rb nb t w e1 e2) (hgn : g < xm_n S 1 3) (hF : kF p g [(5, 11)] [] [41] S S' A A') (v : xm_i S' 5 g 11 = A' 41 g) : kM S' A' X E B hb rb nb t w e1 e2 := by
  obtain ⟨⟨hC, hcnt, hb', hl, ht, hv, h1, h2, h3, h4, h5, h6, h7, h8, h9, h10, h11, h12⟩, hS, hgr, ⟨j1, j2, j3, j4, j5, j6, j7, j8, j9, j10, j11, j12, j13, j14, j15, j16, j17, j18⟩⟩ := h
  have hN : ∀ {r k : Nat}, k < xm_n S' 1 r → k < xm_n S 1 r := fun z => by rw [hF.1] at z; exact z
  refine ⟨⟨xk_C.F hF (by decide) hC, k_cnt.F hF (by decide) (by decide) (by decide) (by decide) (by decide) (by decide) (by decide) (by decide) (by decide) (by decide) (by decide) hcnt, k_bnd.F hF hb', k_lst.F hF hl, k_top.F hF (by decide) (by decide) (by decide) ht, k_live.F hF (by decide) hv, fun k hk => ks.F hF (by decide) (by decide) (by decide) (by decide) (by decide) (by decide) (by decide) (h1 k (hN hk)), fun k hk => kc.F hF (by decide) (by decide) (by decide) (by decide) (by decide) (by decide) (by decide) (by decide) (by decide) (by decide) (by decide) (by decide) (by decide) (by decide) (by decide) (by decide) (by decide) (by decide) (by decide) (by decide) (by decide) (by decide) (by decide) (by decide) (by decide) (by decide) (by decide) (by decide) (by decide) (by decide) (by decide) (by decide) (by decide) (by decide) (h2 k (hN hk)), ?_, fun k hk => kf.F hF (by decide) (by decide) (by decide) (by decide) (by decide) (by decide) (by decide) (by decide) (by decide) (by decide) (by decide) (by decide) (by decide) (h4 k (hN hk)), fun k hk => ke.F hF (by decide) (by decide) (by decide) (by decide) (by decide) (by decide) (by decide) (by decide) (by decide) (by decide) (h5 k (hN hk)), fun k hk => ko.F hF (by decide) (by decide) (by decide) (by decide) (by decide) (by decide) (by decide) (by decide) (by decide) (by decide) (by decide) (h6 k (hN hk)), fun k hk => kp.F hF (by decide) (by decide) (by decide) (by decide) (by decide) (by decide) (by decide) (by decide) (by decide) (by decide) (by decide) (by decide) (by decide) (by decide) (by decide) (by decide) (by decide) (by decide) (by decide) (by decide) (by decide) (by decide) (by decide) (by decide) (h7 k (hN hk)), fun k hk => ka.F hF (by decide) (by decide) (by decide) (by decide) (by decide) (by decide) (by decide) (by decide) (by decide) (by decide) (by decide) (by decide) (h8 k (hN hk)), by rw [hF.1]; exact kt.F hF (by decide) (by decide) (by decide) h9, fun k hk => kt.F hF (by decide) (by decide) (by decide) (h10 k (hN hk)), fun k hk => kw.F1 hF (by decide) (by decide) (by decide) (by decide) (by decide) (by decide) (by decide) (by decide) (by decide) (by decide) (h11 k (hN hk)), fun k hk => kw.F2 hF (by decide) (by decide) (by decide) (by decide) (by decide) (by decide) (by decide) (by decide) (by decide) (by decide) (h12 k (hN hk))⟩, kS.F hF (by decide) hS, fun k hk => kgr.F hF (by decide) (by decide) (by decide) (by decide) (by decide) (by decide) (hgr k (hN hk)), ⟨k_par.F hF (by decide) (by decide) (by decide) (by decide) (by decide) (by decide) (by decide) (by decide) (by decide) j1, k_dst.F hF (by decide) (by decide) j2, k_own.F hF (by decide) (by decide) j3, k_obj.F hF j4, k_cap.F hF j5, k_chn.F hF (by decide) (by decide) (by decide) (by decide) j6, k_occ.F hF (by decide) (by decide) (by decide) (by decide) (by decide) (by decide) (by decide) (by decide) (by decide) (by decide) (by decide) j7, k_tri.F hF (by decide) (by decide) (by decide) (by decide) (by decide) j8, k_que.F hF (by decide) (by decide) (by decide) (by decide) (by decide) j9, k_sts.F hF (by decide) (by decide) (by decide) (by decide) (by decide) (by decide) (by decide) (by decide) (by decide) (by decide) (by decide) j10, k_uni.F hF (by decide) (by decide) (by decide) (by decide) (by decide) (by decide) (by decide) (by decide) (by decide) (by decide) j11, k_num.F hF (by decide) (by decide) (by decide) (by decide) (by decide) (by decide) j12, k_pot.F hF (by decide) (by decide) (by decide) (by decide) (by decide) (by decide) (by decide) (by decide) j13, k_pln.F hF (by decide) (by decide) (by decide) (by decide) (by decide) (by decide) (by decide) (by decide) (by decide) (by decide) j14, (hF.2.2.2.2.1 0 (by decide) 0).trans j15, j16, fun k k1 k2 => by rw [hF.2.2.2.2.1 72 (by decide), hF.2.2.2.2.1 0 (by decide)]; exact j17 k k1 (hN k2), fun k hk => kof.F hF (by decide) (by decide) (by decide) (by decide) (by decide) (by decide) (by decide) (by decide) (by decide) (by decide) (by decide) (by decide) (j18 k (hN hk))⟩⟩
  · intro k hk
    by_cases e : k = g
    · subst e
      obtain ⟨z1, z2, z3, z4, z5, z6, z7, z8, z9, z10, z11, z12, z13, z14, z15, z16⟩ := h3 k hgn
      obtain ⟨a1, a2, a3, a4, a5, -⟩ := hF
      unfold kg
      rw [a3 5 0 (by decide), a3 5 1 (by decide), a3 5 2 (by decide), a3 5 3 (by decide), a3 5 4 (by decide), a3 5 5 (by decide), a3 5 6 (by decide), a3 5 7 (by decide), a3 5 8 (by decide), a3 5 10 (by decide), a3 5 13 (by decide), a4 5 12 (by decide), a4 5 14 (by decide), a5 31 (by decide), a5 32 (by decide), a5 33 (by decide), a5 34 (by decide), a5 35 (by decide), a5 36 (by decide), a5 37 (by decide), a5 38 (by decide), a5 39 (by decide), a5 40 (by decide), a5 42 (by decide), a1, a2]
      refine ⟨z1, z2, z3, z4, z5, z6, z7, z8, z9, z10, v, z12, ?_, z14, z15, fun s hs => ?_⟩
      · obtain ⟨q, y1, y2, y3, y4, y5, y6⟩ := z13
        refine ⟨q, y1, y2, y3, y4, y5, fun i hi => ?_⟩
        rw [a5 43 (by decide)]
        exact y6 i hi
      · rw [a4 15 s (by simp), a5 44 (by decide), a5 45 (by decide), a5 46 (by decide)]
        simp only [a5 68 (by decide), a5 69 (by decide), a5 70 (by decide), a5 71 (by decide)]
        exact z16 s hs
    · exact kg.O hF e (fun j hj => by simp) (by decide) (by decide) (by decide) (by decide) (by decide) (by decide) (by decide) (by decide) (h3 k (hN hk))
theorem kM.left {S S' : xm_S} {A A' : y_A} {X E B : Nat → Prop} {hb rb nb t w e1 e2 p g : Nat} (h : kM S A X E B hb rb nb t w e1 e2) (hgn : g < xm_n S 1 3) (hF : kF p g [(5, 13)] [] [42] S S' A A') (v : xm_i S' 5 g 13 = A' 42 g) (vr : A 31 g = 2 → 0 ≤ A' 42 g ∧ A' 42 g ≤ A 32 g) : kM S' A' X E B hb rb nb t w e1 e2 := by
  obtain ⟨⟨hC, hcnt, hb', hl, ht, hv, h1, h2, h3, h4, h5, h6, h7, h8, h9, h10, h11, h12⟩, hS, hgr, ⟨j1, j2, j3, j4, j5, j6, j7, j8, j9, j10, j11, j12, j13, j14, j15, j16, j17, j18⟩⟩ := h
  have hN : ∀ {r k : Nat}, k < xm_n S' 1 r → k < xm_n S 1 r := fun z => by rw [hF.1] at z; exact z
  refine ⟨⟨xk_C.F hF (by decide) hC, k_cnt.F hF (by decide) (by decide) (by decide) (by decide) (by decide) (by decide) (by decide) (by decide) (by decide) (by decide) (by decide) hcnt, k_bnd.F hF hb', k_lst.F hF hl, k_top.F hF (by decide) (by decide) (by decide) ht, k_live.F hF (by decide) hv, fun k hk => ks.F hF (by decide) (by decide) (by decide) (by decide) (by decide) (by decide) (by decide) (h1 k (hN hk)), fun k hk => kc.F hF (by decide) (by decide) (by decide) (by decide) (by decide) (by decide) (by decide) (by decide) (by decide) (by decide) (by decide) (by decide) (by decide) (by decide) (by decide) (by decide) (by decide) (by decide) (by decide) (by decide) (by decide) (by decide) (by decide) (by decide) (by decide) (by decide) (by decide) (by decide) (by decide) (by decide) (by decide) (by decide) (by decide) (by decide) (h2 k (hN hk)), ?_, fun k hk => kf.F hF (by decide) (by decide) (by decide) (by decide) (by decide) (by decide) (by decide) (by decide) (by decide) (by decide) (by decide) (by decide) (by decide) (h4 k (hN hk)), fun k hk => ke.F hF (by decide) (by decide) (by decide) (by decide) (by decide) (by decide) (by decide) (by decide) (by decide) (by decide) (h5 k (hN hk)), fun k hk => ko.F hF (by decide) (by decide) (by decide) (by decide) (by decide) (by decide) (by decide) (by decide) (by decide) (by decide) (by decide) (h6 k (hN hk)), fun k hk => kp.F hF (by decide) (by decide) (by decide) (by decide) (by decide) (by decide) (by decide) (by decide) (by decide) (by decide) (by decide) (by decide) (by decide) (by decide) (by decide) (by decide) (by decide) (by decide) (by decide) (by decide) (by decide) (by decide) (by decide) (by decide) (h7 k (hN hk)), fun k hk => ka.F hF (by decide) (by decide) (by decide) (by decide) (by decide) (by decide) (by decide) (by decide) (by decide) (by decide) (by decide) (by decide) (h8 k (hN hk)), by rw [hF.1]; exact kt.F hF (by decide) (by decide) (by decide) h9, fun k hk => kt.F hF (by decide) (by decide) (by decide) (h10 k (hN hk)), fun k hk => kw.F1 hF (by decide) (by decide) (by decide) (by decide) (by decide) (by decide) (by decide) (by decide) (by decide) (by decide) (h11 k (hN hk)), fun k hk => kw.F2 hF (by decide) (by decide) (by decide) (by decide) (by decide) (by decide) (by decide) (by decide) (by decide) (by decide) (h12 k (hN hk))⟩, kS.F hF (by decide) hS, ?_, ⟨k_par.F hF (by decide) (by decide) (by decide) (by decide) (by decide) (by decide) (by decide) (by decide) (by decide) j1, k_dst.F hF (by decide) (by decide) j2, k_own.F hF (by decide) (by decide) j3, k_obj.F hF j4, k_cap.F hF j5, k_chn.F hF (by decide) (by decide) (by decide) (by decide) j6, k_occ.F hF (by decide) (by decide) (by decide) (by decide) (by decide) (by decide) (by decide) (by decide) (by decide) (by decide) (by decide) j7, k_tri.F hF (by decide) (by decide) (by decide) (by decide) (by decide) j8, k_que.F hF (by decide) (by decide) (by decide) (by decide) (by decide) j9, k_sts.F hF (by decide) (by decide) (by decide) (by decide) (by decide) (by decide) (by decide) (by decide) (by decide) (by decide) (by decide) j10, k_uni.F hF (by decide) (by decide) (by decide) (by decide) (by decide) (by decide) (by decide) (by decide) (by decide) (by decide) j11, k_num.F hF (by decide) (by decide) (by decide) (by decide) (by decide) (by decide) j12, k_pot.F hF (by decide) (by decide) (by decide) (by decide) (by decide) (by decide) (by decide) (by decide) j13, k_pln.F hF (by decide) (by decide) (by decide) (by decide) (by decide) (by decide) (by decide) (by decide) (by decide) (by decide) j14, (hF.2.2.2.2.1 0 (by decide) 0).trans j15, j16, fun k k1 k2 => by rw [hF.2.2.2.2.1 72 (by decide), hF.2.2.2.2.1 0 (by decide)]; exact j17 k k1 (hN k2), fun k hk => kof.F hF (by decide) (by decide) (by decide) (by decide) (by decide) (by decide) (by decide) (by decide) (by decide) (by decide) (by decide) (by decide) (j18 k (hN hk))⟩⟩
  · intro k hk
    by_cases e : k = g
    · subst e
      obtain ⟨z1, z2, z3, z4, z5, z6, z7, z8, z9, z10, z11, z12, z13, z14, z15, z16⟩ := h3 k hgn
      obtain ⟨a1, a2, a3, a4, a5, -⟩ := hF
      unfold kg
      rw [a3 5 0 (by decide), a3 5 1 (by decide), a3 5 2 (by decide), a3 5 3 (by decide), a3 5 4 (by decide), a3 5 5 (by decide), a3 5 6 (by decide), a3 5 7 (by decide), a3 5 8 (by decide), a3 5 10 (by decide), a3 5 11 (by decide), a4 5 12 (by decide), a4 5 14 (by decide), a5 31 (by decide), a5 32 (by decide), a5 33 (by decide), a5 34 (by decide), a5 35 (by decide), a5 36 (by decide), a5 37 (by decide), a5 38 (by decide), a5 39 (by decide), a5 40 (by decide), a5 41 (by decide), a1, a2]
      refine ⟨z1, z2, z3, z4, z5, z6, z7, z8, z9, z10, z11, fun _ => v, ?_, z14, z15, fun s hs => ?_⟩
      · obtain ⟨q, y1, y2, y3, y4, y5, y6⟩ := z13
        refine ⟨q, y1, y2, y3, y4, y5, fun i hi => ?_⟩
        rw [a5 43 (by decide)]
        exact y6 i hi
      · rw [a4 15 s (by simp), a5 44 (by decide), a5 45 (by decide), a5 46 (by decide)]
        simp only [a5 68 (by decide), a5 69 (by decide), a5 70 (by decide), a5 71 (by decide)]
        exact z16 s hs
    · exact kg.O hF e (fun j hj => by simp) (by decide) (by decide) (by decide) (by decide) (by decide) (by decide) (by decide) (by decide) (h3 k (hN hk))
  · intro k hk
    obtain ⟨a1, a2, a3, a4, a5, a6, a7, a8, a9⟩ := hF
    have hk' : k < xm_n S 1 3 := by rw [a1] at hk; exact hk
    obtain ⟨q1, q2, q3, q4, q5, q6, q7, q8, q9, q10, q11, q12⟩ := hgr k hk'
    unfold kgr
    rw [a1, a5 31 (by decide), a5 32 (by decide), a5 33 (by decide), a5 34 (by decide), a5 35 (by decide)]
    refine ⟨q1, q2, q3, q4, q5, q6, q7, q8, q9, q10, q11, ?_⟩
    by_cases e : k = g
    · rw [e]; exact vr
    · rw [a9 42 k (by decide) e]; exact q12
theorem kM.trial {S S' : xm_S} {A A' : y_A} {X E B : Nat → Prop} {hb rb nb t w e1 e2 p g : Nat} (h : kM S A X (fun k => E k ∨ k = p) B hb rb nb t w e1 e2) (hp : p < xm_n S 1 6) (hEp : ¬ E p) (hp0 : xm_i S 2 p 8 = 0) (hg : xm_r S 2 p 4 = some g) (hsort : A 31 g = 0) (h36 : A 36 g ≠ 2) (hF : kF p g [(5, 6)] [(5, 9)] [36, 79] S S' A A') (v6 : xm_i S' 5 g 6 = A' 36 g) (v9 : xm_r S' 5 g 9 = some p) (v36 : A' 36 g = 2) (v79 : A' 79 p = 1) : kM S' A' X E B hb rb nb t w e1 e2 := by
  obtain ⟨⟨hC, hcnt, hb', hl, ht, hv, h1, h2, h3, h4, h5, h6, h7, h8, h9, h10, h11, h12⟩, hS, hgr, ⟨j1, j2, j3, j4, j5, j6, j7, j8, j9, j10, j11, j12, j13, j14, j15, j16, j17, j18⟩⟩ := h
  have hN : ∀ {r k : Nat}, k < xm_n S' 1 r → k < xm_n S 1 r := fun z => by rw [hF.1] at z; exact z
  have hgn : g < xm_n S 1 3 := (h2 p hp).2.2.2.2.2.2.2.2.2.2.2.2.2.2.2.2.2.2.2.2.2.2.2.1 g hg
  have ntr : ∀ c, xm_r S 5 g 9 ≠ some c := fun c z => h36 (j8 g c hgn z).2.2.2.2.2
  refine ⟨⟨xk_C.F hF (by decide) hC, k_cnt.F hF (by decide) (by decide) (by decide) (by decide) (by decide) (by decide) (by decide) (by decide) (by decide) (by decide) (by decide) hcnt, k_bnd.F hF hb', k_lst.F hF hl, k_top.F hF (by decide) (by decide) (by decide) ht, k_live.F hF (by decide) hv, fun k hk => ks.F hF (by decide) (by decide) (by decide) (by decide) (by decide) (by decide) (by decide) (h1 k (hN hk)), ?_, ?_, fun k hk => kf.F hF (by decide) (by decide) (by decide) (by decide) (by decide) (by decide) (by decide) (by decide) (by decide) (by decide) (by decide) (by decide) (by decide) (h4 k (hN hk)), fun k hk => ke.F hF (by decide) (by decide) (by decide) (by decide) (by decide) (by decide) (by decide) (by decide) (by decide) (by decide) (h5 k (hN hk)), fun k hk => ko.F hF (by decide) (by decide) (by decide) (by decide) (by decide) (by decide) (by decide) (by decide) (by decide) (by decide) (by decide) (h6 k (hN hk)), fun k hk => kp.F hF (by decide) (by decide) (by decide) (by decide) (by decide) (by decide) (by decide) (by decide) (by decide) (by decide) (by decide) (by decide) (by decide) (by decide) (by decide) (by decide) (by decide) (by decide) (by decide) (by decide) (by decide) (by decide) (by decide) (by decide) (h7 k (hN hk)), fun k hk => ka.F hF (by decide) (by decide) (by decide) (by decide) (by decide) (by decide) (by decide) (by decide) (by decide) (by decide) (by decide) (by decide) (h8 k (hN hk)), by rw [hF.1]; exact kt.F hF (by decide) (by decide) (by decide) h9, fun k hk => kt.F hF (by decide) (by decide) (by decide) (h10 k (hN hk)), fun k hk => kw.F1 hF (by decide) (by decide) (by decide) (by decide) (by decide) (by decide) (by decide) (by decide) (by decide) (by decide) (h11 k (hN hk)), fun k hk => kw.F2 hF (by decide) (by decide) (by decide) (by decide) (by decide) (by decide) (by decide) (by decide) (by decide) (by decide) (h12 k (hN hk))⟩, kS.F hF (by decide) hS, fun k hk => kgr.F hF (by decide) (by decide) (by decide) (by decide) (by decide) (by decide) (hgr k (hN hk)), ⟨k_par.F hF (by decide) (by decide) (by decide) (by decide) (by decide) (by decide) (by decide) (by decide) (by decide) j1, k_dst.F hF (by decide) (by decide) j2, k_own.F hF (by decide) (by decide) j3, k_obj.F hF j4, k_cap.F hF j5, k_chn.F hF (by decide) (by decide) (by decide) (by decide) j6, ?_, ?_, k_que.F hF (by decide) (by decide) (by decide) (by decide) (by decide) j9, k_sts.un (k_sts.F hF (by decide) (by decide) (by decide) (by decide) (by decide) (by decide) (by decide) (by decide) (by decide) (by decide) (by decide) j10) (fun g' hg' z => absurd z (by rw [hF.2.2.2.1 2 4 (by decide)] at hg'; rw [← Option.some.inj (hg.symm.trans hg'), hF.2.2.2.2.1 31 (by decide), hsort]; decide)), k_uni.F hF (by decide) (by decide) (by decide) (by decide) (by decide) (by decide) (by decide) (by decide) (by decide) (by decide) j11, k_num.F hF (by decide) (by decide) (by decide) (by decide) (by decide) (by decide) j12, k_pot.F hF (by decide) (by decide) (by decide) (by decide) (by decide) (by decide) (by decide) (by decide) j13, k_pln.F hF (by decide) (by decide) (by decide) (by decide) (by decide) (by decide) (by decide) (by decide) (by decide) (by decide) j14, (hF.2.2.2.2.1 0 (by decide) 0).trans j15, j16, fun k k1 k2 => by rw [hF.2.2.2.2.1 72 (by decide), hF.2.2.2.2.1 0 (by decide)]; exact j17 k k1 (hN k2), fun k hk => kof.F hF (by decide) (by decide) (by decide) (by decide) (by decide) (by decide) (by decide) (by decide) (by decide) (by decide) (by decide) (by decide) (j18 k (hN hk))⟩⟩
  · intro k hk
    by_cases e : k = p
    · subst e
      obtain ⟨z1, z2, z3, z4, z5, z6, z7, z8, z9, z10, z11, z12, z13, z14, z15, z16, z17, z18, z19, z20, z21, z22, z23⟩ := h2 k hp
      obtain ⟨a1, a2, a3, a4, a5, -⟩ := hF
      unfold kc
      rw [v79]
      simp only [a1, a3 2 0 (by decide), a3 2 3 (by decide), a3 2 5 (by decide), a3 2 7 (by decide), a3 2 8 (by decide), a3 2 9 (by decide), a3 2 10 (by decide), a3 2 12 (by decide), a3 2 14 (by decide), a3 2 16 (by decide), a4 2 1 (by decide), a4 2 2 (by decide), a4 2 4 (by decide), a4 2 6 (by decide), a4 2 11 (by decide), a4 2 15 (by decide), a5 62 (by decide), a5 63 (by decide), a5 64 (by decide), a5 65 (by decide), a5 66 (by decide), a5 67 (by decide), a5 68 (by decide), a5 69 (by decide), a5 70 (by decide), a5 71 (by decide), a5 72 (by decide), a5 73 (by decide), a5 74 (by decide), a5 75 (by decide), a5 76 (by decide), a5 77 (by decide), a5 78 (by decide)]
      exact ⟨z1, z2, z3, z4, z5, z6, z7, z8, z9, z10, z11, z12, z13, z14, z15, z16, z17, z18, z19, z20, z21, Or.inr trivial, z23⟩
    · exact kc.O hF e (h2 k (hN hk))
  · intro k hk
    by_cases e : k = g
    · subst e
      obtain ⟨z1, z2, z3, z4, z5, z6, z7, z8, z9, z10, z11, z12, z13, z14, z15, z16⟩ := h3 k hgn
      obtain ⟨a1, a2, a3, a4, a5, -⟩ := hF
      unfold kg
      rw [a3 5 0 (by decide), a3 5 1 (by decide), a3 5 2 (by decide), a3 5 3 (by decide), a3 5 4 (by decide), a3 5 5 (by decide), a3 5 7 (by decide), a3 5 8 (by decide), a3 5 10 (by decide), a3 5 11 (by decide), a3 5 13 (by decide), a4 5 12 (by decide), a4 5 14 (by decide), a5 31 (by decide), a5 32 (by decide), a5 33 (by decide), a5 34 (by decide), a5 35 (by decide), a5 37 (by decide), a5 38 (by decide), a5 39 (by decide), a5 40 (by decide), a5 41 (by decide), a5 42 (by decide), a1, a2]
      refine ⟨z1, z2, z3, z4, z5, z6, v6, z8, z9, z10, z11, z12, ?_, z14, z15, fun s hs => ?_⟩
      · obtain ⟨q, y1, y2, y3, y4, y5, y6⟩ := z13
        refine ⟨q, y1, y2, y3, y4, y5, fun i hi => ?_⟩
        rw [a5 43 (by decide)]
        exact y6 i hi
      · rw [a4 15 s (by simp), a5 44 (by decide), a5 45 (by decide), a5 46 (by decide)]
        simp only [a5 68 (by decide), a5 69 (by decide), a5 70 (by decide), a5 71 (by decide)]
        exact z16 s hs
    · exact kg.O hF e (fun j hj => by simp) (by decide) (by decide) (by decide) (by decide) (by decide) (by decide) (by decide) (by decide) (h3 k (hN hk))
  · intro k hk
    have hk' := hN hk
    obtain ⟨a1, a2, a3, a4, a5, a6, a7, a8, a9⟩ := hF
    obtain ⟨z1, z2, z3, z4, z5, z6⟩ := j7 k hk'
    have act : k_act S' X k ↔ k_act S X k := by unfold k_act; rw [a3 2 8 (by decide)]
    have rst : k_rest S' A' k ↔ k_rest S A k := by unfold k_rest; rw [a3 2 13 (by decide), a5 75 (by decide), a5 76 (by decide), a4 2 15 (by decide)]
    simp only [act, rst, a4 2 4 (by decide), a4 2 15 (by decide), a5 75 (by decide), a5 76 (by decide), a5 77 (by decide), a5 78 (by decide), a5 31 (by decide)]
    refine ⟨z1, z2, z3, fun y => ?_, z5, fun g' hg' y1 y2 => ?_⟩
    · by_cases e : k = p
      · rw [e]; exact ⟨g, hg, hsort⟩
      · rw [a8 79 k (by decide) e] at y; exact z4 y
    · by_cases e : k = p
      · rw [e] at hg' ⊢
        obtain rfl : g = g' := Option.some.inj (hg.symm.trans hg')
        exact ⟨fun z => absurd (hsort.symm.trans z) (by decide), fun _ => v9, fun _ => v79⟩
      · obtain ⟨x1, x2⟩ := z6 g' hg' y1 (fun z => z.elim y2 e)
        refine ⟨x1, ?_⟩
        rw [a8 79 k (by decide) e]
        by_cases e2 : g' = g
        · rw [e2, v9]
          rw [e2] at x2
          exact x2.trans ⟨fun z => absurd z (ntr k), fun z => absurd (Option.some.inj z).symm e⟩
        · rw [(a7 g' 9 e2).2]; exact x2
  · intro g' c hg' hc
    obtain ⟨a1, a2, a3, a4, a5, a6, a7, a8, a9⟩ := hF
    unfold k_act
    rw [a1, a3 2 8 (by decide), a4 2 4 (by decide)]
    by_cases e2 : g' = g
    · rw [e2, v9] at hc
      rw [← Option.some.inj hc, e2]
      exact ⟨hp, Or.inl hp0, hEp, hg, v79, v36⟩
    · rw [(a7 g' 9 e2).2] at hc
      rw [a1] at hg'
      obtain ⟨y1, y2, y3, y4, y5, y6⟩ := j8 g' c hg' hc
      have e : c ≠ p := fun z => y3 (Or.inr z)
      rw [a8 79 c (by decide) e, a9 36 g' (by decide) e2]
      exact ⟨y1, y2, fun z => y3 (Or.inl z), y4, y5, y6⟩
theorem kM.work {S S' : xm_S} {A A' : y_A} {X E B : Nat → Prop} {hb rb nb t w e1 e2 p g : Nat} (h : kM S A X (fun k => E k ∨ k = p) B hb rb nb t w e1 e2) (hp : p < xm_n S 1 6) (hg : xm_r S 2 p 4 = some g) (hsort : A 31 g = 1) (hF : kF p g [(5, 10)] [] [77, 39] S S' A A') (v10 : xm_i S' 5 g 10 = A' 39 g) (v77 : A' 77 p = 1) : kM S' A' X (fun k => E k ∨ k = p) B hb rb nb t w e1 e2 := by
  obtain ⟨⟨hC, hcnt, hb', hl, ht, hv, h1, h2, h3, h4, h5, h6, h7, h8, h9, h10, h11, h12⟩, hS, hgr, ⟨j1, j2, j3, j4, j5, j6, j7, j8, j9, j10, j11, j12, j13, j14, j15, j16, j17, j18⟩⟩ := h
  have hN : ∀ {r k : Nat}, k < xm_n S' 1 r → k < xm_n S 1 r := fun z => by rw [hF.1] at z; exact z
  have hgn : g < xm_n S 1 3 := (h2 p hp).2.2.2.2.2.2.2.2.2.2.2.2.2.2.2.2.2.2.2.2.2.2.2.1 g hg
  refine ⟨⟨xk_C.F hF (by decide) hC, k_cnt.F hF (by decide) (by decide) (by decide) (by decide) (by decide) (by decide) (by decide) (by decide) (by decide) (by decide) (by decide) hcnt, k_bnd.F hF hb', k_lst.F hF hl, k_top.F hF (by decide) (by decide) (by decide) ht, k_live.F hF (by decide) hv, fun k hk => ks.F hF (by decide) (by decide) (by decide) (by decide) (by decide) (by decide) (by decide) (h1 k (hN hk)), ?_, ?_, fun k hk => kf.F hF (by decide) (by decide) (by decide) (by decide) (by decide) (by decide) (by decide) (by decide) (by decide) (by decide) (by decide) (by decide) (by decide) (h4 k (hN hk)), fun k hk => ke.F hF (by decide) (by decide) (by decide) (by decide) (by decide) (by decide) (by decide) (by decide) (by decide) (by decide) (h5 k (hN hk)), fun k hk => ko.F hF (by decide) (by decide) (by decide) (by decide) (by decide) (by decide) (by decide) (by decide) (by decide) (by decide) (by decide) (h6 k (hN hk)), fun k hk => kp.F hF (by decide) (by decide) (by decide) (by decide) (by decide) (by decide) (by decide) (by decide) (by decide) (by decide) (by decide) (by decide) (by decide) (by decide) (by decide) (by decide) (by decide) (by decide) (by decide) (by decide) (by decide) (by decide) (by decide) (by decide) (h7 k (hN hk)), fun k hk => ka.F hF (by decide) (by decide) (by decide) (by decide) (by decide) (by decide) (by decide) (by decide) (by decide) (by decide) (by decide) (by decide) (h8 k (hN hk)), by rw [hF.1]; exact kt.F hF (by decide) (by decide) (by decide) h9, fun k hk => kt.F hF (by decide) (by decide) (by decide) (h10 k (hN hk)), fun k hk => kw.F1 hF (by decide) (by decide) (by decide) (by decide) (by decide) (by decide) (by decide) (by decide) (by decide) (by decide) (h11 k (hN hk)), fun k hk => kw.F2 hF (by decide) (by decide) (by decide) (by decide) (by decide) (by decide) (by decide) (by decide) (by decide) (by decide) (h12 k (hN hk))⟩, kS.F hF (by decide) hS, fun k hk => kgr.F hF (by decide) (by decide) (by decide) (by decide) (by decide) (by decide) (hgr k (hN hk)), ⟨k_par.F hF (by decide) (by decide) (by decide) (by decide) (by decide) (by decide) (by decide) (by decide) (by decide) j1, k_dst.F hF (by decide) (by decide) j2, k_own.F hF (by decide) (by decide) j3, k_obj.F hF j4, k_cap.F hF j5, k_chn.F hF (by decide) (by decide) (by decide) (by decide) j6, ?_, k_tri.F hF (by decide) (by decide) (by decide) (by decide) (by decide) j8, k_que.F hF (by decide) (by decide) (by decide) (by decide) (by decide) j9, k_sts.F hF (by decide) (by decide) (by decide) (by decide) (by decide) (by decide) (by decide) (by decide) (by decide) (by decide) (by decide) j10, k_uni.F hF (by decide) (by decide) (by decide) (by decide) (by decide) (by decide) (by decide) (by decide) (by decide) (by decide) j11, k_num.F hF (by decide) (by decide) (by decide) (by decide) (by decide) (by decide) j12, k_pot.F hF (by decide) (by decide) (by decide) (by decide) (by decide) (by decide) (by decide) (by decide) j13, k_pln.F hF (by decide) (by decide) (by decide) (by decide) (by decide) (by decide) (by decide) (by decide) (by decide) (by decide) j14, (hF.2.2.2.2.1 0 (by decide) 0).trans j15, j16, fun k k1 k2 => by rw [hF.2.2.2.2.1 72 (by decide), hF.2.2.2.2.1 0 (by decide)]; exact j17 k k1 (hN k2), fun k hk => kof.F hF (by decide) (by decide) (by decide) (by decide) (by decide) (by decide) (by decide) (by decide) (by decide) (by decide) (by decide) (by decide) (j18 k (hN hk))⟩⟩
  · intro k hk
    by_cases e : k = p
    · subst e
      obtain ⟨z1, z2, z3, z4, z5, z6, z7, z8, z9, z10, z11, z12, z13, z14, z15, z16, z17, z18, z19, z20, z21, z22, z23⟩ := h2 k hp
      obtain ⟨a1, a2, a3, a4, a5, -⟩ := hF
      unfold kc
      rw [v77]
      simp only [a1, a3 2 0 (by decide), a3 2 3 (by decide), a3 2 5 (by decide), a3 2 7 (by decide), a3 2 8 (by decide), a3 2 9 (by decide), a3 2 10 (by decide), a3 2 12 (by decide), a3 2 14 (by decide), a3 2 16 (by decide), a4 2 1 (by decide), a4 2 2 (by decide), a4 2 4 (by decide), a4 2 6 (by decide), a4 2 11 (by decide), a4 2 15 (by decide), a5 62 (by decide), a5 63 (by decide), a5 64 (by decide), a5 65 (by decide), a5 66 (by decide), a5 67 (by decide), a5 68 (by decide), a5 69 (by decide), a5 70 (by decide), a5 71 (by decide), a5 72 (by decide), a5 73 (by decide), a5 74 (by decide), a5 75 (by decide), a5 76 (by decide), a5 78 (by decide), a5 79 (by decide)]
      exact ⟨z1, z2, z3, z4, z5, z6, z7, z8, z9, z10, z11, z12, z13, z14, z15, z16, z17, z18, z19, z20, Or.inr trivial, z22, z23⟩
    · exact kc.O hF e (h2 k (hN hk))
  · intro k hk
    by_cases e : k = g
    · subst e
      obtain ⟨z1, z2, z3, z4, z5, z6, z7, z8, z9, z10, z11, z12, z13, z14, z15, z16⟩ := h3 k hgn
      obtain ⟨a1, a2, a3, a4, a5, -⟩ := hF
      unfold kg
      rw [a3 5 0 (by decide), a3 5 1 (by decide), a3 5 2 (by decide), a3 5 3 (by decide), a3 5 4 (by decide), a3 5 5 (by decide), a3 5 6 (by decide), a3 5 7 (by decide), a3 5 8 (by decide), a3 5 11 (by decide), a3 5 13 (by decide), a4 5 12 (by decide), a4 5 14 (by decide), a5 31 (by decide), a5 32 (by decide), a5 33 (by decide), a5 34 (by decide), a5 35 (by decide), a5 36 (by decide), a5 37 (by decide), a5 38 (by decide), a5 40 (by decide), a5 41 (by decide), a5 42 (by decide), a1, a2]
      refine ⟨z1, z2, z3, z4, z5, z6, z7, z8, z9, v10, z11, z12, ?_, z14, z15, fun s hs => ?_⟩
      · obtain ⟨q, y1, y2, y3, y4, y5, y6⟩ := z13
        refine ⟨q, y1, y2, y3, y4, y5, fun i hi => ?_⟩
        rw [a5 43 (by decide)]
        exact y6 i hi
      · rw [a4 15 s (by simp), a5 44 (by decide), a5 45 (by decide), a5 46 (by decide)]
        simp only [a5 68 (by decide), a5 69 (by decide), a5 70 (by decide), a5 71 (by decide)]
        exact z16 s hs
    · exact kg.O hF e (fun j hj => by simp) (by decide) (by decide) (by decide) (by decide) (by decide) (by decide) (by decide) (by decide) (h3 k (hN hk))
  · intro k hk
    have hk' := hN hk
    obtain ⟨a1, a2, a3, a4, a5, a6, a7, a8, a9⟩ := hF
    obtain ⟨z1, z2, z3, z4, z5, z6⟩ := j7 k hk'
    have act : k_act S' X k ↔ k_act S X k := by unfold k_act; rw [a3 2 8 (by decide)]
    have rst : k_rest S' A' k ↔ k_rest S A k := by unfold k_rest; rw [a3 2 13 (by decide), a5 75 (by decide), a5 76 (by decide), a4 2 15 (by decide)]
    simp only [act, rst, a4 2 4 (by decide), a4 2 15 (by decide), a4 5 9 (by decide), a5 75 (by decide), a5 76 (by decide), a5 78 (by decide), a5 79 (by decide), a5 31 (by decide)]
    refine ⟨z1, fun y => ?_, z3, z4, z5, fun g' hg' y1 y2 => ?_⟩
    · by_cases e : k = p
      · rw [e]; exact ⟨g, hg, hsort⟩
      · rw [a8 77 k (by decide) e] at y; exact z2 y
    · rw [a8 77 k (by decide) (fun z => y2 (Or.inr z))]
      exact z6 g' hg' y1 y2
theorem kM.due {S S' : xm_S} {A A' : y_A} {X E B : Nat → Prop} {hb rb nb t w e1 e2 p g : Nat} (h : kM S A X E B hb rb nb t w e1 e2) (hp : p < xm_n S 1 6) (hg : xm_r S 2 p 4 = some g) (h4 : A 31 g ≠ 4) (h5' : A 31 g = 5 → xm_i S 2 p 16 = 0 ∧ B p) (hF : kF p 0 [(2, 12)] [] [72] S S' A A') (v12 : xm_i S' 2 p 12 = A' 72 p) (v72 : A' 72 p ≠ A 0 0) : kM S' A' X E B hb rb nb t w e1 e2 := by
  obtain ⟨⟨hC, hcnt, hb', hl, ht, hv, h1, h2, h3, h4, h5, h6, h7, h8, h9, h10, h11, h12⟩, hS, hgr, ⟨j1, j2, j3, j4, j5, j6, j7, j8, j9, j10, j11, j12, j13, j14, j15, j16, j17, j18⟩⟩ := h
  have hN : ∀ {r k : Nat}, k < xm_n S' 1 r → k < xm_n S 1 r := fun z => by rw [hF.1] at z; exact z
  refine ⟨⟨xk_C.F hF (by decide) hC, k_cnt.F hF (by decide) (by decide) (by decide) (by decide) (by decide) (by decide) (by decide) (by decide) (by decide) (by decide) (by decide) hcnt, k_bnd.F hF hb', k_lst.F hF hl, k_top.F hF (by decide) (by decide) (by decide) ht, k_live.F hF (by decide) hv, fun k hk => ks.F hF (by decide) (by decide) (by decide) (by decide) (by decide) (by decide) (by decide) (h1 k (hN hk)), ?_, fun k hk => kg.F hF (by decide) (by decide) (by decide) (by decide) (by decide) (by decide) (by decide) (by decide) (by decide) (by decide) (by decide) (by decide) (by decide) (by decide) (by decide) (by decide) (by decide) (by decide) (by decide) (by decide) (by decide) (by decide) (by decide) (by decide) (by decide) (by decide) (by decide) (by decide) (by decide) (by decide) (by decide) (by decide) (by decide) (by decide) (by decide) (h3 k (hN hk)), fun k hk => kf.F hF (by decide) (by decide) (by decide) (by decide) (by decide) (by decide) (by decide) (by decide) (by decide) (by decide) (by decide) (by decide) (by decide) (h4 k (hN hk)), fun k hk => ke.F hF (by decide) (by decide) (by decide) (by decide) (by decide) (by decide) (by decide) (by decide) (by decide) (by decide) (h5 k (hN hk)), fun k hk => ko.F hF (by decide) (by decide) (by decide) (by decide) (by decide) (by decide) (by decide) (by decide) (by decide) (by decide) (by decide) (h6 k (hN hk)), fun k hk => kp.F hF (by decide) (by decide) (by decide) (by decide) (by decide) (by decide) (by decide) (by decide) (by decide) (by decide) (by decide) (by decide) (by decide) (by decide) (by decide) (by decide) (by decide) (by decide) (by decide) (by decide) (by decide) (by decide) (by decide) (by decide) (h7 k (hN hk)), fun k hk => ka.F hF (by decide) (by decide) (by decide) (by decide) (by decide) (by decide) (by decide) (by decide) (by decide) (by decide) (by decide) (by decide) (h8 k (hN hk)), by rw [hF.1]; exact kt.F hF (by decide) (by decide) (by decide) h9, fun k hk => kt.F hF (by decide) (by decide) (by decide) (h10 k (hN hk)), fun k hk => kw.F1 hF (by decide) (by decide) (by decide) (by decide) (by decide) (by decide) (by decide) (by decide) (by decide) (by decide) (h11 k (hN hk)), fun k hk => kw.F2 hF (by decide) (by decide) (by decide) (by decide) (by decide) (by decide) (by decide) (by decide) (by decide) (by decide) (h12 k (hN hk))⟩, kS.F hF (by decide) hS, fun k hk => kgr.F hF (by decide) (by decide) (by decide) (by decide) (by decide) (by decide) (hgr k (hN hk)), ⟨k_par.F hF (by decide) (by decide) (by decide) (by decide) (by decide) (by decide) (by decide) (by decide) (by decide) j1, k_dst.F hF (by decide) (by decide) j2, k_own.F hF (by decide) (by decide) j3, k_obj.F hF j4, k_cap.F hF j5, k_chn.F hF (by decide) (by decide) (by decide) (by decide) j6, k_occ.F hF (by decide) (by decide) (by decide) (by decide) (by decide) (by decide) (by decide) (by decide) (by decide) (by decide) (by decide) j7, k_tri.F hF (by decide) (by decide) (by decide) (by decide) (by decide) j8, k_que.F hF (by decide) (by decide) (by decide) (by decide) (by decide) j9, ?_, k_uni.F hF (by decide) (by decide) (by decide) (by decide) (by decide) (by decide) (by decide) (by decide) (by decide) (by decide) j11, k_num.F hF (by decide) (by decide) (by decide) (by decide) (by decide) (by decide) j12, k_pot.F hF (by decide) (by decide) (by decide) (by decide) (by decide) (by decide) (by decide) (by decide) j13, k_pln.F hF (by decide) (by decide) (by decide) (by decide) (by decide) (by decide) (by decide) (by decide) (by decide) (by decide) j14, (hF.2.2.2.2.1 0 (by decide) 0).trans j15, j16, ?_, fun k hk => kof.F hF (by decide) (by decide) (by decide) (by decide) (by decide) (by decide) (by decide) (by decide) (by decide) (by decide) (by decide) (by decide) (j18 k (hN hk))⟩⟩
  · intro k hk
    by_cases e : k = p
    · subst e
      obtain ⟨z1, z2, z3, z4, z5, z6, z7, z8, z9, z10, z11, z12, z13, z14, z15, z16, z17, z18, z19, z20, z21, z22, z23⟩ := h2 k hp
      obtain ⟨a1, a2, a3, a4, a5, -⟩ := hF
      unfold kc
      skip
      simp only [a1, a3 2 0 (by decide), a3 2 3 (by decide), a3 2 5 (by decide), a3 2 7 (by decide), a3 2 8 (by decide), a3 2 9 (by decide), a3 2 10 (by decide), a3 2 14 (by decide), a3 2 16 (by decide), a4 2 1 (by decide), a4 2 2 (by decide), a4 2 4 (by decide), a4 2 6 (by decide), a4 2 11 (by decide), a4 2 15 (by decide), a5 62 (by decide), a5 63 (by decide), a5 64 (by decide), a5 65 (by decide), a5 66 (by decide), a5 67 (by decide), a5 68 (by decide), a5 69 (by decide), a5 70 (by decide), a5 71 (by decide), a5 73 (by decide), a5 74 (by decide), a5 75 (by decide), a5 76 (by decide), a5 77 (by decide), a5 78 (by decide), a5 79 (by decide)]
      exact ⟨z1, z2, z3, z4, z5, z6, v12, z8, z9, z10, z11, z12, z13, z14, z15, z16, z17, z18, z19, z20, z21, z22, z23⟩
    · exact kc.O hF e (h2 k (hN hk))
  · obtain ⟨z1, z2⟩ := j10
    obtain ⟨a1, a2, a3, a4, a5, a6, a7, a8, a9⟩ := hF
    unfold k_sts
    simp only [a1, a3 2 8 (by decide), a3 2 16 (by decide), a4 2 2 (by decide), a4 2 4 (by decide), a4 2 17 (by decide), a5 31 (by decide), a5 73 (by decide), a5 32 (by decide), a5 76 (by decide), a5 0 (by decide)]
    refine ⟨z1, fun k g' hk h0 hg' => ?_⟩
    obtain ⟨y1, y6, y2, y3, y4, y5⟩ := z2 k g' hk h0 hg'
    by_cases e : k = p
    · subst e
      obtain rfl : g' = g := Option.some.inj (hg'.symm.trans hg)
      exact ⟨y1, y6, fun x => absurd x h4, fun x => Or.inl (h5' x), y4, y5⟩
    · rw [a8 72 k (by decide) e]
      exact ⟨y1, y6, y2, y3, y4, y5⟩
  · intro k k1 k2
    obtain ⟨a1, a2, a3, a4, a5, a6, a7, a8, a9⟩ := hF
    rw [a5 0 (by decide)]
    by_cases e : k = p
    · rw [e]; exact v72
    · rw [a8 72 k (by decide) e]; exact j17 k k1 (hN k2)
theorem kM.leads {S S' : xm_S} {A A' : y_A} {X E B : Nat → Prop} {hb rb nb t w e1 e2 p g : Nat} (h : kM S A X E B hb rb nb t w e1 e2) (hp : p < xm_n S 1 6) (hg : xm_r S 2 p 4 = some g) (hsort : A 31 g = 8) (h15 : xm_r S 2 p 15 = none) (hno : ∀ k, k < xm_n S 1 6 → xm_i S 2 k 8 = 0 → xm_i S 2 k 14 = 1 → xm_r S 2 k 4 = some g → ¬ k_lik S k p) (hF : kF p 0 [(2, 14)] [] [78] S S' A A') (v14 : xm_i S' 2 p 14 = 1) (v78 : A' 78 p = 1) : kM S' A' X E B hb rb nb t w e1 e2 := by
  obtain ⟨⟨hC, hcnt, hb', hl, ht, hv, h1, h2, h3, h4, h5, h6, h7, h8, h9, h10, h11, h12⟩, hS, hgr, ⟨j1, j2, j3, j4, j5, j6, j7, j8, j9, j10, j11, j12, j13, j14, j15, j16, j17, j18⟩⟩ := h
  have hN : ∀ {r k : Nat}, k < xm_n S' 1 r → k < xm_n S 1 r := fun z => by rw [hF.1] at z; exact z
  refine ⟨⟨xk_C.F hF (by decide) hC, k_cnt.F hF (by decide) (by decide) (by decide) (by decide) (by decide) (by decide) (by decide) (by decide) (by decide) (by decide) (by decide) hcnt, k_bnd.F hF hb', k_lst.F hF hl, k_top.F hF (by decide) (by decide) (by decide) ht, k_live.F hF (by decide) hv, fun k hk => ks.F hF (by decide) (by decide) (by decide) (by decide) (by decide) (by decide) (by decide) (h1 k (hN hk)), ?_, fun k hk => kg.F hF (by decide) (by decide) (by decide) (by decide) (by decide) (by decide) (by decide) (by decide) (by decide) (by decide) (by decide) (by decide) (by decide) (by decide) (by decide) (by decide) (by decide) (by decide) (by decide) (by decide) (by decide) (by decide) (by decide) (by decide) (by decide) (by decide) (by decide) (by decide) (by decide) (by decide) (by decide) (by decide) (by decide) (by decide) (by decide) (h3 k (hN hk)), fun k hk => kf.F hF (by decide) (by decide) (by decide) (by decide) (by decide) (by decide) (by decide) (by decide) (by decide) (by decide) (by decide) (by decide) (by decide) (h4 k (hN hk)), fun k hk => ke.F hF (by decide) (by decide) (by decide) (by decide) (by decide) (by decide) (by decide) (by decide) (by decide) (by decide) (h5 k (hN hk)), fun k hk => ko.F hF (by decide) (by decide) (by decide) (by decide) (by decide) (by decide) (by decide) (by decide) (by decide) (by decide) (by decide) (h6 k (hN hk)), fun k hk => kp.F hF (by decide) (by decide) (by decide) (by decide) (by decide) (by decide) (by decide) (by decide) (by decide) (by decide) (by decide) (by decide) (by decide) (by decide) (by decide) (by decide) (by decide) (by decide) (by decide) (by decide) (by decide) (by decide) (by decide) (by decide) (h7 k (hN hk)), fun k hk => ka.F hF (by decide) (by decide) (by decide) (by decide) (by decide) (by decide) (by decide) (by decide) (by decide) (by decide) (by decide) (by decide) (h8 k (hN hk)), by rw [hF.1]; exact kt.F hF (by decide) (by decide) (by decide) h9, fun k hk => kt.F hF (by decide) (by decide) (by decide) (h10 k (hN hk)), fun k hk => kw.F1 hF (by decide) (by decide) (by decide) (by decide) (by decide) (by decide) (by decide) (by decide) (by decide) (by decide) (h11 k (hN hk)), fun k hk => kw.F2 hF (by decide) (by decide) (by decide) (by decide) (by decide) (by decide) (by decide) (by decide) (by decide) (by decide) (h12 k (hN hk))⟩, kS.F hF (by decide) hS, fun k hk => kgr.F hF (by decide) (by decide) (by decide) (by decide) (by decide) (by decide) (hgr k (hN hk)), ⟨k_par.F hF (by decide) (by decide) (by decide) (by decide) (by decide) (by decide) (by decide) (by decide) (by decide) j1, k_dst.F hF (by decide) (by decide) j2, k_own.F hF (by decide) (by decide) j3, k_obj.F hF j4, k_cap.F hF j5, k_chn.F hF (by decide) (by decide) (by decide) (by decide) j6, ?_, k_tri.F hF (by decide) (by decide) (by decide) (by decide) (by decide) j8, k_que.F hF (by decide) (by decide) (by decide) (by decide) (by decide) j9, k_sts.F hF (by decide) (by decide) (by decide) (by decide) (by decide) (by decide) (by decide) (by decide) (by decide) (by decide) (by decide) j10, ?_, k_num.F hF (by decide) (by decide) (by decide) (by decide) (by decide) (by decide) j12, k_pot.F hF (by decide) (by decide) (by decide) (by decide) (by decide) (by decide) (by decide) (by decide) j13, k_pln.F hF (by decide) (by decide) (by decide) (by decide) (by decide) (by decide) (by decide) (by decide) (by decide) (by decide) j14, (hF.2.2.2.2.1 0 (by decide) 0).trans j15, j16, fun k k1 k2 => by rw [hF.2.2.2.2.1 72 (by decide), hF.2.2.2.2.1 0 (by decide)]; exact j17 k k1 (hN k2), fun k hk => kof.F hF (by decide) (by decide) (by decide) (by decide) (by decide) (by decide) (by decide) (by decide) (by decide) (by decide) (by decide) (by decide) (j18 k (hN hk))⟩⟩
  · intro k hk
    by_cases e : k = p
    · subst e
      obtain ⟨z1, z2, z3, z4, z5, z6, z7, z8, z9, z10, z11, z12, z13, z14, z15, z16, z17, z18, z19, z20, z21, z22, z23⟩ := h2 k hp
      obtain ⟨a1, a2, a3, a4, a5, -⟩ := hF
      unfold kc
      rw [v78, v14]
      simp only [a1, a3 2 0 (by decide), a3 2 3 (by decide), a3 2 5 (by decide), a3 2 7 (by decide), a3 2 8 (by decide), a3 2 9 (by decide), a3 2 10 (by decide), a3 2 12 (by decide), a3 2 16 (by decide), a4 2 1 (by decide), a4 2 2 (by decide), a4 2 4 (by decide), a4 2 6 (by decide), a4 2 11 (by decide), a4 2 15 (by decide), a5 62 (by decide), a5 63 (by decide), a5 64 (by decide), a5 65 (by decide), a5 66 (by decide), a5 67 (by decide), a5 68 (by decide), a5 69 (by decide), a5 70 (by decide), a5 71 (by decide), a5 72 (by decide), a5 73 (by decide), a5 74 (by decide), a5 75 (by decide), a5 76 (by decide), a5 77 (by decide), a5 79 (by decide)]
      exact ⟨z1, z2, z3, z4, z5, z6, z7, trivial, z9, z10, z11, z12, z13, z14, z15, z16, z17, Or.inr trivial, z19, z20, z21, z22, z23⟩
    · exact kc.O hF e (h2 k (hN hk))
  · intro k hk
    have hk' := hN hk
    obtain ⟨a1, a2, a3, a4, a5, a6, a7, a8, a9⟩ := hF
    obtain ⟨z1, z2, z3, z4, z5, z6⟩ := j7 k hk'
    have act : k_act S' X k ↔ k_act S X k := by unfold k_act; rw [a3 2 8 (by decide)]
    have rst : k_rest S' A' k ↔ k_rest S A k := by unfold k_rest; rw [a3 2 13 (by decide), a5 75 (by decide), a5 76 (by decide), a4 2 15 (by decide)]
    simp only [act, rst, a4 2 4 (by decide), a4 2 15 (by decide), a4 5 9 (by decide), a5 75 (by decide), a5 76 (by decide), a5 77 (by decide), a5 79 (by decide), a5 31 (by decide)]
    refine ⟨z1, z2, z3, z4, fun y => ?_, z6⟩
    by_cases e : k = p
    · rw [e]; exact ⟨g, hg, hsort⟩
    · rw [a8 78 k (by decide) e] at y; exact z5 y
  · obtain ⟨z1, z2, z3⟩ := j11
    obtain ⟨a1, a2, a3, a4, a5, a6, a7, a8, a9⟩ := hF
    have lik : ∀ k e, k_lik S' k e ↔ k_lik S k e := fun k e => by unfold k_lik; simp only [a4 2 1 (by decide), a4 6 2 (by decide), a3 6 3 (by decide), a3 6 4 (by decide)]
    unfold k_uni
    simp only [a1, lik, a3 2 8 (by decide), a3 2 16 (by decide), a3 5 1 (by decide), a4 2 4 (by decide), a4 2 15 (by decide)]
    refine ⟨fun k e hk he k0 e0 k14 e14 h4 hl => ?_, fun k g' hk hg' h8 => ?_, fun k l hk hkl => ?_⟩
    · by_cases c1 : k = p
      · by_cases c2 : e = p
        · rw [c1, c2]
        · rw [(a6 e 14 c2).1] at e14
          rw [c1, hg] at h4
          obtain ⟨o, u, q1, q2, q3, q4, q5⟩ := hl
          exact absurd ⟨u, o, q2, by rw [← c1]; exact q1, q3.symm, q4.symm, q5.symm⟩ (hno e he e0 e14 h4.symm)
      · rw [(a6 k 14 c1).1] at k14
        by_cases c2 : e = p
        · rw [c2, hg] at h4
          rw [c2] at hl
          exact absurd hl (hno k hk k0 k14 h4)
        · rw [(a6 e 14 c2).1] at e14
          exact z1 k e hk he k0 e0 k14 e14 h4 hl
    · by_cases c1 : k = p
      · rw [c1]; exact Or.inr v14
      · rw [(a6 k 14 c1).1]; exact z2 k g' hk hg' h8
    · obtain ⟨q1, q2, q3, q4, q5⟩ := z3 k l hk hkl
      have c1 : k ≠ p := fun z => by rw [z, h15] at hkl; cases hkl
      refine ⟨q1, q2, ?_, by rw [(a6 k 14 c1).1]; exact q4, q5⟩
      by_cases c2 : l = p
      · rw [c2]; exact v14
      · rw [(a6 l 14 c2).1]; exact q3
theorem kM.join {S S' : xm_S} {A A' : y_A} {X E B : Nat → Prop} {hb rb nb t w e1 e2 p g : Nat} {l : Nat} (h : kM S A X E B hb rb nb t w e1 e2) (hp : p < xm_n S 1 6) (hg : xm_r S 2 p 4 = some g) (hsort : A 31 g = 8) (h75 : ¬ A 75 p = 1) (h76 : ¬ A 76 p = 1) (hlp : l < p) (hlg : xm_r S 2 l 4 = some g) (hlik : k_lik S p l) (hl14 : xm_i S 2 l 14 = 1) (hp14 : xm_i S 2 p 14 = 0) (hp16 : xm_i S 2 p 16 = 0) (hF : kF p 0 [(2, 13)] [(2, 15)] [74] S S' A A') (v13 : xm_i S' 2 p 13 = 3) (v15 : xm_r S' 2 p 15 = some l) (v74 : A' 74 p = nI l) : kM S' A' X E B hb rb nb t w e1 e2 := by
  obtain ⟨⟨hC, hcnt, hb', hl, ht, hv, h1, h2, h3, h4, h5, h6, h7, h8, h9, h10, h11, h12⟩, hS, hgr, ⟨j1, j2, j3, j4, j5, j6, j7, j8, j9, j10, j11, j12, j13, j14, j15, j16, j17, j18⟩⟩ := h
  have hN : ∀ {r k : Nat}, k < xm_n S' 1 r → k < xm_n S 1 r := fun z => by rw [hF.1] at z; exact z
  refine ⟨⟨xk_C.F hF (by decide) hC, k_cnt.F hF (by decide) (by decide) (by decide) (by decide) (by decide) (by decide) (by decide) (by decide) (by decide) (by decide) (by decide) hcnt, k_bnd.F hF hb', k_lst.F hF hl, k_top.F hF (by decide) (by decide) (by decide) ht, k_live.F hF (by decide) hv, fun k hk => ks.F hF (by decide) (by decide) (by decide) (by decide) (by decide) (by decide) (by decide) (h1 k (hN hk)), ?_, fun k hk => kg.F hF (by decide) (by decide) (by decide) (by decide) (by decide) (by decide) (by decide) (by decide) (by decide) (by decide) (by decide) (by decide) (by decide) (by decide) (by decide) (by decide) (by decide) (by decide) (by decide) (by decide) (by decide) (by decide) (by decide) (by decide) (by decide) (by decide) (by decide) (by decide) (by decide) (by decide) (by decide) (by decide) (by decide) (by decide) (by decide) (h3 k (hN hk)), fun k hk => kf.F hF (by decide) (by decide) (by decide) (by decide) (by decide) (by decide) (by decide) (by decide) (by decide) (by decide) (by decide) (by decide) (by decide) (h4 k (hN hk)), fun k hk => ke.F hF (by decide) (by decide) (by decide) (by decide) (by decide) (by decide) (by decide) (by decide) (by decide) (by decide) (h5 k (hN hk)), fun k hk => ko.F hF (by decide) (by decide) (by decide) (by decide) (by decide) (by decide) (by decide) (by decide) (by decide) (by decide) (by decide) (h6 k (hN hk)), fun k hk => kp.F hF (by decide) (by decide) (by decide) (by decide) (by decide) (by decide) (by decide) (by decide) (by decide) (by decide) (by decide) (by decide) (by decide) (by decide) (by decide) (by decide) (by decide) (by decide) (by decide) (by decide) (by decide) (by decide) (by decide) (by decide) (h7 k (hN hk)), fun k hk => ka.F hF (by decide) (by decide) (by decide) (by decide) (by decide) (by decide) (by decide) (by decide) (by decide) (by decide) (by decide) (by decide) (h8 k (hN hk)), by rw [hF.1]; exact kt.F hF (by decide) (by decide) (by decide) h9, fun k hk => kt.F hF (by decide) (by decide) (by decide) (h10 k (hN hk)), fun k hk => kw.F1 hF (by decide) (by decide) (by decide) (by decide) (by decide) (by decide) (by decide) (by decide) (by decide) (by decide) (h11 k (hN hk)), fun k hk => kw.F2 hF (by decide) (by decide) (by decide) (by decide) (by decide) (by decide) (by decide) (by decide) (by decide) (by decide) (h12 k (hN hk))⟩, kS.F hF (by decide) hS, fun k hk => kgr.F hF (by decide) (by decide) (by decide) (by decide) (by decide) (by decide) (hgr k (hN hk)), ⟨k_par.F hF (by decide) (by decide) (by decide) (by decide) (by decide) (by decide) (by decide) (by decide) (by decide) j1, k_dst.F hF (by decide) (by decide) j2, k_own.F hF (by decide) (by decide) j3, k_obj.F hF j4, k_cap.F hF j5, k_chn.F hF (by decide) (by decide) (by decide) (by decide) j6, ?_, k_tri.F hF (by decide) (by decide) (by decide) (by decide) (by decide) j8, k_que.F hF (by decide) (by decide) (by decide) (by decide) (by decide) j9, k_sts.F hF (by decide) (by decide) (by decide) (by decide) (by decide) (by decide) (by decide) (by decide) (by decide) (by decide) (by decide) j10, ?_, k_num.F hF (by decide) (by decide) (by decide) (by decide) (by decide) (by decide) j12, k_pot.F hF (by decide) (by decide) (by decide) (by decide) (by decide) (by decide) (by decide) (by decide) j13, k_pln.F hF (by decide) (by decide) (by decide) (by decide) (by decide) (by decide) (by decide) (by decide) (by decide) (by decide) j14, (hF.2.2.2.2.1 0 (by decide) 0).trans j15, j16, fun k k1 k2 => by rw [hF.2.2.2.2.1 72 (by decide), hF.2.2.2.2.1 0 (by decide)]; exact j17 k k1 (hN k2), fun k hk => kof.F hF (by decide) (by decide) (by decide) (by decide) (by decide) (by decide) (by decide) (by decide) (by decide) (by decide) (by decide) (by decide) (j18 k (hN hk))⟩⟩
  · intro k hk
    by_cases e : k = p
    · subst e
      obtain ⟨z1, z2, z3, z4, z5, z6, z7, z8, z9, z10, z11, z12, z13, z14, z15, z16, z17, z18, z19, z20, z21, z22, z23⟩ := h2 k hp
      obtain ⟨a1, a2, a3, a4, a5, -⟩ := hF
      unfold kc
      rw [v15, v74]
      simp only [a1, a3 2 0 (by decide), a3 2 3 (by decide), a3 2 5 (by decide), a3 2 7 (by decide), a3 2 8 (by decide), a3 2 9 (by decide), a3 2 10 (by decide), a3 2 12 (by decide), a3 2 14 (by decide), a3 2 16 (by decide), a4 2 1 (by decide), a4 2 2 (by decide), a4 2 4 (by decide), a4 2 6 (by decide), a4 2 11 (by decide), a5 62 (by decide), a5 63 (by decide), a5 64 (by decide), a5 65 (by decide), a5 66 (by decide), a5 67 (by decide), a5 68 (by decide), a5 69 (by decide), a5 70 (by decide), a5 71 (by decide), a5 72 (by decide), a5 73 (by decide), a5 75 (by decide), a5 76 (by decide), a5 77 (by decide), a5 78 (by decide), a5 79 (by decide)]
      exact ⟨z1, z2, z3, z4, z5, z6, z7, z8, z9, z10, z11, z12, z13, rfl, z15, z16, z17, z18, z19, z20, z21, z22, z23.1, z23.2.1, z23.2.2.1, z23.2.2.2.1, (fun x y => by rw [← Option.some.inj y]; exact hlp), z23.2.2.2.2.2⟩
    · exact kc.O hF e (h2 k (hN hk))
  · intro k hk
    have hk' := hN hk
    obtain ⟨a1, a2, a3, a4, a5, a6, a7, a8, a9⟩ := hF
    obtain ⟨z1, z2, z3, z4, z5, z6⟩ := j7 k hk'
    have act : k_act S' X k ↔ k_act S X k := by unfold k_act; rw [a3 2 8 (by decide)]
    simp only [act, a4 2 4 (by decide), a4 5 9 (by decide), a5 75 (by decide), a5 76 (by decide), a5 77 (by decide), a5 78 (by decide), a5 79 (by decide), a5 31 (by decide)]
    refine ⟨fun y => ?_, z2, z3, z4, fun y => ?_, z6⟩
    · by_cases e : k = p
      · unfold k_rest
        rw [e, v13, a5 75 (by decide), a5 76 (by decide), if_neg h75, if_neg h76, v15, if_neg (by intro q; cases q)]
      · have := z1 y
        unfold k_rest at this ⊢
        rw [(a6 k 13 e).1, (a6 k 15 e).2, a5 75 (by decide), a5 76 (by decide)]
        exact this
    · by_cases e : k = p
      · rw [e]; exact ⟨g, hg, hsort⟩
      · rw [(a6 k 15 e).2] at y; exact z5 y
  · obtain ⟨z1, z2, z3⟩ := j11
    obtain ⟨a1, a2, a3, a4, a5, a6, a7, a8, a9⟩ := hF
    have lik : ∀ k e, k_lik S' k e ↔ k_lik S k e := fun k e => by unfold k_lik; simp only [a4 2 1 (by decide), a4 6 2 (by decide), a3 6 3 (by decide), a3 6 4 (by decide)]
    unfold k_uni
    simp only [a1, lik, a3 2 8 (by decide), a3 2 14 (by decide), a3 2 16 (by decide), a3 5 1 (by decide), a4 2 4 (by decide)]
    refine ⟨z1, z2, fun k l' hk hkl => ?_⟩
    by_cases c1 : k = p
    · rw [c1, v15] at hkl
      rw [c1, ← Option.some.inj hkl]
      exact ⟨hg.trans hlg.symm, hlik, hl14, hp14, hp16⟩
    · rw [(a6 k 15 c1).2] at hkl
      exact z3 k l' hk hkl
end
