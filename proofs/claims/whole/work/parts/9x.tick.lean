/-! ===== A SECOND BEGINS: time, limits, the row of the live (printed by wip/whole/gen9x.py) ===== -/
section
/-- orders ended, on both sides -/
def kW (S S' : xm_S) (A A' : y_A) : Prop := xm_i S' 0 0 14 + A 60 0 = xm_i S 0 0 14 + A' 60 0
theorem kW.tr {S S' S'' : xm_S} {A A' A'' : y_A} (a11 : kW S S' A A') (b11 : kW S' S'' A' A'') : kW S S'' A A'' := by
  unfold kW at *
  have e : xm_i S'' 0 0 14 + A 60 0 + A' 60 0 = xm_i S 0 0 14 + A'' 60 0 + A' 60 0 := by
    rw [Int32.add_assoc, Int32.add_comm (A 60 0), ← Int32.add_assoc, b11, Int32.add_assoc, Int32.add_comm (A'' 60 0), ← Int32.add_assoc, a11, Int32.add_assoc, Int32.add_comm (A' 60 0), ← Int32.add_assoc]
  exact (Int32.add_left_inj _).mp e
theorem kL.W {S S' : xm_S} {A A' : y_A} (h : kL S S' A A') : kW S S' A A' := h.2.2.2.2.2.2.2.1
theorem kB.W {N : Nat} {gs : List Nat} {S S' : xm_S} {A A' : y_A} (h : kB N gs S S' A A') : kW S S' A A' := h.2.2.2.2.2
theorem k_pln.mono {S : xm_S} {A : y_A} {t nb nb' : Nat} (h : k_pln S A t nb) (h3 : nb ≤ nb') (hn : ∀ p, p < xm_n S 1 10 → nb ≤ 4500 + p → nb' ≤ 4500 + p) : k_pln S A t nb' := by
  refine ⟨h.1, fun p hp => ?_⟩
  obtain ⟨m, a, e, z1, z2, z3, z4, z5, z6⟩ := h.2 p hp
  refine ⟨m, a, e, z1, z2, z3, z4, z5, fun y => ?_⟩
  obtain ⟨y1, y2, y3⟩ := z6 y
  exact ⟨y1, y2.imp id (fun x => ⟨x.1, hn p hp x.2⟩), y3.1, fun z => y3.2 (by omega)⟩
theorem kM.mono {S : xm_S} {A : y_A} {X E B : Nat → Prop} {hb rb nb hb' rb' nb' t w e1 e2 : Nat} (h : kM S A X E B hb rb nb t w e1 e2) (h1 : hb ≤ hb') (h2 : rb ≤ rb') (h3 : nb ≤ nb') (hn : ∀ p, p < xm_n S 1 10 → nb ≤ 4500 + p → nb' ≤ 4500 + p) : kM S A X E B hb' rb' nb' t w e1 e2 := by
  obtain ⟨hE, hS, hgr, ⟨j1, j2, j3, j4, j5, j6, j7, j8, j9, j10, j11, j12, j13, j14, j15, j16, j17, j18⟩⟩ := h
  refine ⟨hE, hS, hgr, ⟨j1, j2, j3, j4, j5, j6, j7, j8, j9, ⟨j10.1, fun k g hk h0 hg => ?_⟩, j11, j12, j13, j14.mono h3 hn, j15, j16, fun k hk => j17 k (by omega), j18⟩⟩
  obtain ⟨y1, y6, y2, y3, y4, y5⟩ := j10.2 k g hk h0 hg
  refine ⟨y1, y6, fun x => ⟨(y2 x).1, (y2 x).2.imp id (fun z => z.imp id (fun z => ⟨z.1, by omega⟩))⟩, fun x => (y3 x).imp id (fun z => z.imp id (fun z => ⟨z.1, z.2.imp id (fun z => ⟨z.1, by omega⟩)⟩)), y4, y5⟩

theorem kM.tick {S : xm_S} {A : y_A} {t : Nat} (h : kM S A (fun _ => False) (fun _ => False) (fun _ => False) 5000 5000 5000 t 0 0 0) (htt : t + 1 ≤ 60000) : kM (xm_si S 0 0 13 (xm_i S 0 0 13 + 1)) (xm_u2 A 0 0 (A 0 0 + 1)) (fun _ => False) (fun _ => False) (fun _ => False) 0 0 (xm_n S 1 6) (t + 1) 0 0 0 := by
  have hF : kF 0 0 [(0, 13)] [] [0] S (xm_si S 0 0 13 (xm_i S 0 0 13 + 1)) A (xm_u2 A 0 0 (A 0 0 + 1)) := ((kF.rf 0 0 S A).si 0 0 13 _ (fun z => absurd z (by decide)) (fun z => absurd z (by decide))).u 0 0 _ (fun z => absurd z.1 (by decide)) (fun z => absurd z.1 (by decide))
  have v0 : xm_u2 A 0 0 (A 0 0 + 1) 0 0 = A 0 0 + 1 := y_same _ _ _ _
  have v13 : xm_i (xm_si S 0 0 13 (xm_i S 0 0 13 + 1)) 0 0 13 = xm_i S 0 0 13 + 1 := xi_same
  generalize xm_si S 0 0 13 (xm_i S 0 0 13 + 1) = S' at *
  generalize xm_u2 A 0 0 (A 0 0 + 1) = A' at *
  obtain ⟨⟨hC, hcnt, hb', hl, ht, hv, h1, h2, h3, h4, h5, h6, h7, h8, h9, h10, h11, h12⟩, hS, hgr, ⟨j1, j2, j3, j4, j5, j6, j7, j8, j9, j10, j11, j12, j13, j14, j15, j16, j17, j18⟩⟩ := h
  have hN : ∀ {r k : Nat}, k < xm_n S' 1 r → k < xm_n S 1 r := fun z => by rw [hF.1] at z; exact z
  have e0 : A' 0 0 = nI (t + 1) := by rw [v0, j15, nI_1]
  have lt : ∀ k, A 72 k < A 0 0 ∨ (A 72 k = A 0 0 ∧ k < 5000) → A 72 k < A' 0 0 := fun k z => by
    have h1 : A 0 0 < A' 0 0 := by rw [e0, j15]; exact nI_lt (by omega) (by omega)
    rcases z with z | z
    · exact Int32.lt_trans z h1
    · rw [z.1]; exact h1
  refine ⟨⟨xk_C.F hF (by decide) hC, k_cnt.F hF (by decide) (by decide) (by decide) (by decide) (by decide) (by decide) (by decide) (by decide) (by decide) (by decide) (by decide) hcnt, k_bnd.F hF hb', k_lst.F hF hl, ?_, k_live.F hF (by decide) hv, fun k hk => ks.F hF (by decide) (by decide) (by decide) (by decide) (by decide) (by decide) (by decide) (h1 k (hN hk)), fun k hk => kc.F hF (by decide) (by decide) (by decide) (by decide) (by decide) (by decide) (by decide) (by decide) (by decide) (by decide) (by decide) (by decide) (by decide) (by decide) (by decide) (by decide) (by decide) (by decide) (by decide) (by decide) (by decide) (by decide) (by decide) (by decide) (by decide) (by decide) (by decide) (by decide) (by decide) (by decide) (by decide) (by decide) (by decide) (by decide) (h2 k (hN hk)), fun k hk => kg.F hF (by decide) (by decide) (by decide) (by decide) (by decide) (by decide) (by decide) (by decide) (by decide) (by decide) (by decide) (by decide) (by decide) (by decide) (by decide) (by decide) (by decide) (by decide) (by decide) (by decide) (by decide) (by decide) (by decide) (by decide) (by decide) (by decide) (by decide) (by decide) (by decide) (by decide) (by decide) (by decide) (by decide) (by decide) (by decide) (h3 k (hN hk)), fun k hk => kf.F hF (by decide) (by decide) (by decide) (by decide) (by decide) (by decide) (by decide) (by decide) (by decide) (by decide) (by decide) (by decide) (by decide) (h4 k (hN hk)), fun k hk => ke.F hF (by decide) (by decide) (by decide) (by decide) (by decide) (by decide) (by decide) (by decide) (by decide) (by decide) (h5 k (hN hk)), fun k hk => ko.F hF (by decide) (by decide) (by decide) (by decide) (by decide) (by decide) (by decide) (by decide) (by decide) (by decide) (by decide) (h6 k (hN hk)), fun k hk => kp.F hF (by decide) (by decide) (by decide) (by decide) (by decide) (by decide) (by decide) (by decide) (by decide) (by decide) (by decide) (by decide) (by decide) (by decide) (by decide) (by decide) (by decide) (by decide) (by decide) (by decide) (by decide) (by decide) (by decide) (by decide) (h7 k (hN hk)), fun k hk => ka.F hF (by decide) (by decide) (by decide) (by decide) (by decide) (by decide) (by decide) (by decide) (by decide) (by decide) (by decide) (by decide) (h8 k (hN hk)), by rw [hF.1]; exact kt.F hF (by decide) (by decide) (by decide) h9, fun k hk => kt.F hF (by decide) (by decide) (by decide) (h10 k (hN hk)), fun k hk => kw.F1 hF (by decide) (by decide) (by decide) (by decide) (by decide) (by decide) (by decide) (by decide) (by decide) (by decide) (h11 k (hN hk)), fun k hk => kw.F2 hF (by decide) (by decide) (by decide) (by decide) (by decide) (by decide) (by decide) (by decide) (by decide) (by decide) (h12 k (hN hk))⟩, kS.F hF (by decide) hS, fun k hk => kgr.F hF (by decide) (by decide) (by decide) (by decide) (by decide) (by decide) (hgr k (hN hk)), ⟨k_par.F hF (by decide) (by decide) (by decide) (by decide) (by decide) (by decide) (by decide) (by decide) (by decide) j1, k_dst.F hF (by decide) (by decide) j2, k_own.F hF (by decide) (by decide) j3, k_obj.F hF j4, k_cap.F hF j5, k_chn.F hF (by decide) (by decide) (by decide) (by decide) j6, k_occ.F hF (by decide) (by decide) (by decide) (by decide) (by decide) (by decide) (by decide) (by decide) (by decide) (by decide) (by decide) j7, k_tri.F hF (by decide) (by decide) (by decide) (by decide) (by decide) j8, k_que.F hF (by decide) (by decide) (by decide) (by decide) (by decide) j9, ?_, k_uni.F hF (by decide) (by decide) (by decide) (by decide) (by decide) (by decide) (by decide) (by decide) (by decide) (by decide) j11, k_num.F hF (by decide) (by decide) (by decide) (by decide) (by decide) (by decide) j12, k_pot.F hF (by decide) (by decide) (by decide) (by decide) (by decide) (by decide) (by decide) (by decide) j13, ?_, ?_, ?_, ?_, fun k hk => kof.F hF (by decide) (by decide) (by decide) (by decide) (by decide) (by decide) (by decide) (by decide) (by decide) (by decide) (by decide) (by decide) (j18 k (hN hk))⟩⟩
  · refine ⟨?_, ?_, (hF.2.2.2.1 0 12 (by decide) 0).trans (by rw [hF.1]; exact ht.2.2)⟩
    · rw [v13, v0, ht.1]
    · rw [e0]; exact nI_pos' (by omega)
  · obtain ⟨z1, z2⟩ := j10
    obtain ⟨a1, a2, a3, a4, a5, a6, a7, a8, a9⟩ := hF
    unfold k_sts
    simp only [a1, a3 2 8 (by decide), a3 2 16 (by decide), a4 2 2 (by decide), a4 2 4 (by decide), a4 2 17 (by decide), a5 31 (by decide), a5 73 (by decide), a5 32 (by decide), a5 76 (by decide), a5 72 (by decide)]
    refine ⟨z1, fun k g' hk h0 hg' => ?_⟩
    obtain ⟨y1, y6, y2, y3, y4, y5⟩ := z2 k g' hk h0 hg'
    refine ⟨y1, y6, fun x => ⟨(y2 x).1, (y2 x).2.imp id (fun z => Or.inl (lt k z))⟩, fun x => (y3 x).imp id (fun z => z.imp id (fun z => ⟨z.1, Or.inl (lt k z.2)⟩)), y4, y5⟩
  · obtain ⟨a1, a2, a3, a4, a5, -⟩ := hF
    have hb6 := hb'
    unfold k_bnd at hb6
    refine ⟨?_, fun p hp => ?_⟩
    · have z := j14.1
      unfold k_spn at z ⊢
      simp only [a1, a5 2 (by decide), a5 3 (by decide), a5 10 (by decide), a5 16 (by decide), a5 54 (by decide), a5 93 (by decide)]
      exact z
    · rw [a1] at hp
      obtain ⟨m, a, e, z1, z2, z3, z4, z5, z6⟩ := j14.2 p hp
      refine ⟨m, a, e, z1, z2, by omega, by rw [a5 97 (by decide)]; exact z4, by rw [a5 94 (by decide)]; exact z5, fun y => ?_⟩
      rw [a3 7 12 (by decide)] at y
      rw [a3 7 7 (by decide)]
      obtain ⟨y1, y2, y3⟩ := z6 y
      exact ⟨y1, by omega, by omega⟩
  · exact e0
  · exact htt
  · intro k k1 k2
    rw [hF.1] at k2
    exact absurd k2 (by omega)
/-- the row of the live alone has changed -/
theorem kM.live {S S' : xm_S} {A : y_A} {X E B : Nat → Prop} {hb rb nb t w e1 e2 : Nat} (h : kM S A X E B hb rb nb t w e1 e2) (hi : xm_i S' = xm_i S) (hr : xm_r S' = xm_r S) (hn : ∀ p r, ¬ (p = 1 ∧ r = 7) → xm_n S' p r = xm_n S p r) (ll : ∀ r i, r ≠ 7 → xm_l S' r i = xm_l S r i) (h7 : xm_n S' 1 7 ≤ xm_n S 1 6) (hv' : k_live S') : kM S' A X E B hb rb nb t w e1 e2 := by
  obtain ⟨⟨hC, hcnt, hb', hl, ht, hv, h1, h2, h3, h4, h5, h6, h7', h8, h9, h10, h11, h12⟩, hS, hgr, ⟨j1, j2, j3, j4, j5, j6, j7, j8, j9, j10, j11, j12, j13, j14, j15, j16, j17, j18⟩⟩ := h
  have n1 : ∀ r, r ≠ 7 → xm_n S' 1 r = xm_n S 1 r := fun r z => hn 1 r (fun y => z y.2)
  have n0 : ∀ r, xm_n S' 0 r = xm_n S 0 r := fun r => hn 0 r (fun y => by omega)
  have n2 : ∀ r, xm_n S' 2 r = xm_n S 2 r := fun r => hn 2 r (fun y => by omega)
  have n3 : ∀ p r, 25 ≤ p → xm_n S' p r = xm_n S p r := fun p r z => hn p r (fun y => by omega)
  have tq : ∀ u q', u ≤ xm_n S 1 4 → xm_r S 10 u 0 = some q' → q' ≠ 7 := fun u q' hu hq' => by
    by_cases eu : u = xm_n S 1 4
    · obtain ⟨q2, y1, y2, -⟩ := h9
      rw [← eu, hq'] at y1
      have := Option.some.inj y1
      omega
    · obtain ⟨q2, y1, y2, -⟩ := h10 u (by omega)
      rw [hq'] at y1
      have := Option.some.inj y1
      omega
  have gq : ∀ g' q', g' < xm_n S 1 3 → xm_r S 5 g' 12 = some q' → q' ≠ 7 := fun g' q' hg' hq' => by
    obtain ⟨q2, y1, y2, -⟩ := (h3 g' hg').2.2.2.2.2.2.2.2.2.2.2.2.1
    rw [hq'] at y1
    have := Option.some.inj y1
    omega
  have ktt : ∀ u a b, u ≤ xm_n S 1 4 → kt S A u a b → kt S' A u a b := fun u a b hu z => by
    obtain ⟨q', y1, y2, y3, y4, y5, y6⟩ := z
    have b1 := tq u q' hu y1
    refine ⟨q', by rw [hr]; exact y1, y2, by rw [n0]; exact y3, by rw [n1 q' b1]; exact y4, by rw [n1 q' b1]; exact y5, fun i hi' => ?_⟩
    rw [n1 q' b1] at hi'
    rw [ll q' i b1, n1 3 (by decide)]
    exact y6 i hi'
  refine ⟨⟨fun j hj => by rw [hr]; exact hC j hj, ?_, ?_, ?_, ?_, hv', fun k hk => ?_, fun k hk => ?_, fun k hk => ?_, fun k hk => ?_, fun k hk => ?_, fun k hk => ?_, fun k hk => ?_, fun k hk => ?_, ?_, fun k hk => ?_, fun k hk => ?_, fun k hk => ?_⟩, fun k hk => ⟨(n3 26 k (by decide)).trans (hS k hk).1, fun j hj => by rw [hi]; exact (hS k hk).2 j hj⟩, fun k hk => ?_, ⟨?_, ?_, ?_, ?_, ?_, ?_, ?_, ?_, ?_, ?_, ?_, ?_, ?_, ?_, j15, j16, ?_, fun o ho => ?_⟩⟩
  · unfold k_cnt
    rw [n1 0 (by decide), n1 1 (by decide), n1 2 (by decide), n1 3 (by decide), n1 4 (by decide), n1 5 (by decide), n1 6 (by decide), n1 8 (by decide), n1 9 (by decide), n1 10 (by decide), n1 11 (by decide)]
    exact hcnt
  · unfold k_bnd at hb' ⊢
    rw [n1 0 (by decide), n1 1 (by decide), n1 2 (by decide), n1 3 (by decide), n1 4 (by decide), n1 5 (by decide), n1 6 (by decide), n1 8 (by decide), n1 9 (by decide), n1 10 (by decide), n1 11 (by decide)]
    omega
  · unfold k_lst
    simp only [n1 0 (by decide), n1 3 (by decide), n1 4 (by decide), n1 5 (by decide), n1 6 (by decide), n1 8 (by decide), n1 9 (by decide), n1 10 (by decide), n1 11 (by decide), ll 0 _ (by decide), ll 3 _ (by decide), ll 4 _ (by decide), ll 5 _ (by decide), ll 6 _ (by decide), ll 8 _ (by decide), ll 9 _ (by decide), ll 10 _ (by decide), ll 11 _ (by decide)]
    exact hl
  · unfold k_top
    rw [hi, hr, n1 4 (by decide)]
    exact ht
  · rw [n1 0 (by decide)] at hk
    have z := h1 k hk
    unfold ks at z ⊢
    rw [hi]
    exact z
  · rw [n1 6 (by decide)] at hk
    have z := h2 k hk
    unfold kc at z ⊢
    simp only [hi, hr, n1 5 (by decide), n1 3 (by decide), n1 0 (by decide), n1 8 (by decide)]
    exact z
  · rw [n1 3 (by decide)] at hk
    obtain ⟨z1, z2, z3, z4, z5, z6, z7, z8, z9, z10, z11, z12, z13, z14, z15, z16⟩ := h3 k hk
    unfold kg
    simp only [hi, hr, n1 6 (by decide), n0 12, n3 25 k (by decide)]
    refine ⟨z1, z2, z3, z4, z5, z6, z7, z8, z9, z10, z11, z12, ?_, z14, z15, z16⟩
    obtain ⟨q', y1, y2, y3, y4, y5, y6⟩ := z13
    refine ⟨q', y1, y2, y3, by rw [n1 q' (by omega)]; exact y4, by rw [n1 q' (by omega)]; exact y5, fun i hi' => ?_⟩
    rw [n1 q' (by omega)] at hi'
    rw [ll q' i (by omega)]
    exact y6 i hi'
  · rw [n1 8 (by decide)] at hk
    have z := h4 k hk
    unfold kf at z ⊢
    simp only [hi, hr, n1 8 (by decide), n1 3 (by decide), n1 0 (by decide)]
    exact z
  · rw [n1 9 (by decide)] at hk
    have z := h5 k hk
    unfold ke at z ⊢
    simp only [hi, hr, n1 5 (by decide), n1 0 (by decide)]
    exact z
  · rw [n1 5 (by decide)] at hk
    have z := h6 k hk
    unfold ko at z ⊢
    simp only [hi, hr, n1 4 (by decide), n1 0 (by decide)]
    exact z
  · rw [n1 10 (by decide)] at hk
    have z := h7' k hk
    unfold kp at z ⊢
    simp only [hi, hr, n1 4 (by decide), n1 0 (by decide)]
    exact z
  · rw [n1 11 (by decide)] at hk
    have z := h8 k hk
    unfold ka at z ⊢
    simp only [hi, n1 3 (by decide), n1 0 (by decide)]
    exact z
  · rw [n1 4 (by decide)]; exact ktt _ _ _ (Nat.le_refl _) h9
  · rw [n1 4 (by decide)] at hk
    exact ktt _ _ _ (by omega) (h10 k hk)
  · rw [n1 1 (by decide)] at hk
    have z := h11 k hk
    unfold kw at z ⊢
    simp only [hi, hr, ll 1 _ (by decide), n0 8, n1 0 (by decide)]
    exact z
  · rw [n1 2 (by decide)] at hk
    have z := h12 k hk
    unfold kw at z ⊢
    simp only [hi, hr, ll 2 _ (by decide), n0 8, n1 0 (by decide)]
    exact z
  · rw [n1 3 (by decide)] at hk
    have z := hgr k hk
    unfold kgr at z ⊢
    simp only [n1 0 (by decide)]
    exact z
  · intro k hk
    rw [n1 6 (by decide)] at hk
    obtain ⟨z1, z0, z2, e, z3, z4, z5⟩ := j1 k hk
    simp only [hi, hr]
    refine ⟨z1, z0, z2, e, z3, z4, fun g' o hg' ho => ?_⟩
    obtain ⟨t', q', y1, y2, y3, y4⟩ := z5 g' o hg' ho
    have hon : o < xm_n S 1 5 := by
      obtain ⟨o', w1, w2, -⟩ := (h2 k hk).2.2.2.2.2.2.2.2.2.1
      rw [ho] at w1
      have := Option.some.inj w1
      omega
    have htn : t' < xm_n S 1 4 := by
      obtain ⟨t2, w1, w2, -⟩ := (h6 o hon).2.1
      rw [y1] at w1
      have := Option.some.inj w1
      omega
    have b1 := tq t' q' (by omega) y2
    exact ⟨t', q', by rw [hr]; exact y1, by rw [hr]; exact y2, by rw [n1 q' b1]; exact y3, by rw [ll q' e b1]; exact y4⟩
  · intro u q' hu hq' i k g' e' hik hk w1 w2
    rw [n1 4 (by decide)] at hu
    rw [hr] at hq'
    have b1 := tq u q' hu hq'
    rw [n1 q' b1] at hk
    rw [ll q' _ b1] at w1 w2
    rw [hi]
    exact j2 u q' hu hq' i k g' e' hik hk w1 w2
  · unfold k_own
    simp only [hr, n1 3 (by decide), n1 4 (by decide)]
    exact j3
  · unfold k_obj
    rw [n1 0 (by decide), n1 1 (by decide), n1 2 (by decide), n1 3 (by decide), n1 4 (by decide), n1 5 (by decide), n1 6 (by decide), n1 8 (by decide), n1 9 (by decide), n1 10 (by decide), n1 11 (by decide)]
    simp only [n0]
    exact j4
  · obtain ⟨v1, v2, v3⟩ := j5
    unfold k_cap
    simp only [n0 12, n1 6 (by decide), n2]
    exact ⟨v1, v2, fun i hi1 hi2 => by rw [n1 i (by omega)]; exact v3 i hi1 hi2⟩
  · unfold k_chn
    simp only [n1 6 (by decide), hr, hi]
    exact j6
  · unfold k_occ k_act k_rest at j7 ⊢
    simp only [n1 6 (by decide), hr, hi]
    exact j7
  · unfold k_tri k_act at j8 ⊢
    simp only [n1 6 (by decide), n1 3 (by decide), hr, hi]
    exact j8
  · intro g' q' hg' hq'
    rw [n1 3 (by decide)] at hg'
    rw [hr] at hq'
    have b1 := gq g' q' hg' hq'
    have z := j9 g' q' hg' hq'
    unfold k_act at z ⊢
    rw [n1 q' b1, n1 6 (by decide)]
    simp only [ll q' _ b1, hr, hi]
    exact z
  · unfold k_sts at j10 ⊢
    simp only [n1 6 (by decide), hr, hi]
    exact j10
  · unfold k_uni k_lik at j11 ⊢
    simp only [n1 6 (by decide), hr, hi]
    exact j11
  · unfold k_num k_hows at j12 ⊢
    simp only [n1 6 (by decide), n1 8 (by decide), n1 9 (by decide), hr, hi]
    exact j12
  · have e2 : ∀ k, k < xm_n S 1 6 → k_po S' k = k_po S k := fun k hk => by
      obtain ⟨o, w1, w2, -⟩ := (h2 k hk).2.2.2.2.2.2.2.2.2.1
      obtain ⟨t', u1, u2, -⟩ := (h6 o w2).2.1
      obtain ⟨q', y1, y2, y3, y4, y5, y6⟩ := h10 t' u2
      have b1 := tq t' q' (by omega) y1
      have ec : ∀ m i, k_cp S' q' i m = k_cp S q' i m := fun m i => k_cp_rng q' m i (fun j _ _ => ⟨ll q' j b1, by rw [hi], by rw [hi]⟩)
      unfold k_po
      simp only [hr, w1]
      rcases hg2 : xm_r S 2 k 4 with _ | g2
      · rfl
      · have hm : k_mul S' g2 = k_mul S g2 := by
          unfold k_mul
          rw [hi]
        simp only [u1, y1, n1 q' b1, hi, ec, hm]
    unfold k_pot at j13 ⊢
    rw [n1 6 (by decide), n1 5 (by decide), xs_congr e2]
    exact j13
  · unfold k_pln k_spn at j14 ⊢
    simp only [n1 0 (by decide), n1 1 (by decide), n1 2 (by decide), n1 5 (by decide), n1 10 (by decide), hi]
    exact j14
  · intro k k1 k2
    rw [n1 6 (by decide)] at k2
    exact j17 k k1 k2
  · rw [n1 5 (by decide)] at ho
    have z := j18 o ho
    unfold kof at z ⊢
    simp only [n1 6 (by decide), hr]
    exact z
end
