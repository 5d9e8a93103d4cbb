/-! ===== A QUEUE IS CHANGED, with a call of its bulkhead ===== -/
section
theorem kM.que {S S' : xm_S} {A A' : y_A} {X X' E B : Nat → Prop} {hb rb nb t w e1 e2 c g q : Nat} (h : kM S A X E B hb rb nb t w e1 e2) (hc : c < xm_n S 1 6) (hg : xm_r S 2 c 4 = some g) (hq : xm_r S 5 g 12 = some q)
    (hi : ∀ p e j, ¬ (p = 2 ∧ e = c ∧ j = 13) → ¬ (p = 5 ∧ e = g ∧ j = 10) → xm_i S' p e j = xm_i S p e j) (hr : xm_r S' = xm_r S) (n1 : ∀ r, r ≠ q → xm_n S' 1 r = xm_n S 1 r) (n0 : ∀ r, r < 100 → xm_n S' 0 r = xm_n S 0 r) (n2 : ∀ r, r ≠ q → xm_n S' 2 r = xm_n S 2 r) (n3 : ∀ p r, 25 ≤ p → xm_n S' p r = xm_n S p r) (ll : ∀ r i, r ≠ q → xm_l S' r i = xm_l S r i) (cap : (xm_n S' 2 q = 1 ∧ xm_n S' 1 q = 0) ∨ xm_n S' 2 q = 10)
    (hA : ∀ x k, ¬ (x = 75 ∧ k = c) → ¬ (x = 77 ∧ k = c) → ¬ (x = 40 ∧ k = g) → ¬ (x = 39 ∧ k = g) → ¬ (x = 43 ∧ 10 * g ≤ k ∧ k < 10 * g + 10) → A' x k = A x k) (h75 : A' 75 c = 0 ∨ A' 75 c = 1) (h77 : A' 77 c = 0 ∨ A' 77 c = 1) (v10 : xm_i S' 5 g 10 = A' 39 g) (v40 : A' 40 g = nI (xm_n S' 1 q)) (vn : xm_n S' 1 q ≤ 10) (v43 : ∀ i, i < xm_n S' 1 q → ∃ e, xm_l S' q i = (2, e) ∧ e < xm_n S 1 6 ∧ A' 43 (10 * g + i) = nI e)
    (occ : k_occ S' A' X' E) (tri : k_tri S' A' X' E) (que : (∀ i e, i < xm_n S' 1 q → xm_l S' q i = (2, e) → k_act S' X' e ∧ xm_r S 2 e 4 = some g ∧ A' 75 e = 1 ∧ xm_i S 2 e 16 = 0) ∧ (∀ i j, i < j → j < xm_n S' 1 q → xm_l S' q i ≠ xm_l S' q j) ∧ ∀ e, e < xm_n S 1 6 → k_act S' X' e → xm_r S 2 e 4 = some g → A' 75 e = 1 → ∃ i, i < xm_n S' 1 q ∧ xm_l S' q i = (2, e)) (actX : ∀ e, xm_r S 2 e 4 ≠ some g → (k_act S' X' e ↔ k_act S X e)) : kM S' A' X' E B hb rb nb t w e1 e2 := by
  obtain ⟨⟨hC, hcnt, hb', hl, ht, hv, h1, h2, h3, h4, h5, h6, h7, h8, h9, h10, h11, h12⟩, hS, hgr, ⟨j1, j2, j3, j4, j5, j6, j7, j8, j9, j10, j11, j12, j13, j14, j15, j16, j17, j18⟩⟩ := h
  have hgn : g < xm_n S 1 3 := (h2 c hc).2.2.2.2.2.2.2.2.2.2.2.2.2.2.2.2.2.2.2.2.2.2.2.1 g hg
  obtain ⟨qb1, qb2⟩ : 12 ≤ q ∧ q < xm_n S 0 12 := by
    obtain ⟨q', y1, y2, y3, -⟩ := (h3 g hgn).2.2.2.2.2.2.2.2.2.2.2.2.1
    rw [hq] at y1
    cases y1
    exact ⟨y2, y3⟩
  have n : ∀ r, r < 12 → xm_n S' 1 r = xm_n S 1 r := fun r hr' => n1 r (by omega)
  have l : ∀ r i, r < 12 → xm_l S' r i = xm_l S r i := fun r i hr' => ll r i (by omega)
  have r : ∀ p e j, xm_r S' p e j = xm_r S p e j := fun p e j => by rw [hr]
  have I : ∀ p e j, p ≠ 2 → p ≠ 5 → xm_i S' p e j = xm_i S p e j := fun p e j z1 z2 => hi p e j (fun z => z1 z.1) (fun z => z2 z.1)
  have I2 : ∀ e j, j ≠ 13 → xm_i S' 2 e j = xm_i S 2 e j := fun e j z => hi 2 e j (fun y => z y.2.2) (fun y => by omega)
  have I5 : ∀ e j, j ≠ 10 → xm_i S' 5 e j = xm_i S 5 e j := fun e j z => hi 5 e j (fun y => by omega) (fun y => z y.2.2)
  have J : ∀ x, x ≠ 75 → x ≠ 77 → x ≠ 40 → x ≠ 39 → x ≠ 43 → ∀ k, A' x k = A x k := fun x z1 z2 z3 z4 z5 k => hA x k (fun z => z1 z.1) (fun z => z2 z.1) (fun z => z3 z.1) (fun z => z4 z.1) (fun z => z5 z.1)
  have tq : ∀ u q', u ≤ xm_n S 1 4 → xm_r S 10 u 0 = some q' → q' ≠ q ∧ 12 ≤ q' := fun u q' hu hq' => by
    refine ⟨fun z => j3.2.2 g u q hgn hu hq (by rw [← z]; exact hq'), ?_⟩
    by_cases eu : u = xm_n S 1 4
    · obtain ⟨q2, y1, y2, -⟩ := h9
      rw [← eu, hq'] at y1
      have := Option.some.inj y1
      omega
    · obtain ⟨q2, y1, y2, -⟩ := h10 u (by omega)
      rw [hq'] at y1
      have := Option.some.inj y1
      omega
  have gq : ∀ g' q', g' < xm_n S 1 3 → g' ≠ g → xm_r S 5 g' 12 = some q' → q' ≠ q := fun g' q' hg' hne hq' z => hne (j3.1 g' g q hg' hgn (by rw [← z]; exact hq') hq)
  have ktt : ∀ u a b, u ≤ xm_n S 1 4 → kt S A u a b → kt S' A' u a b := fun u a b hu z => by
    obtain ⟨q', y1, y2, y3, y4, y5, y6⟩ := z
    obtain ⟨b1, b2⟩ := tq u q' hu y1
    refine ⟨q', (r _ _ _).trans y1, y2, by rw [n0 12 (by decide)]; exact y3, by rw [n1 q' b1]; exact y4, by rw [n1 q' b1, J 48 (by decide) (by decide) (by decide) (by decide) (by decide)]; exact y5, fun i hi' => ?_⟩
    rw [n1 q' b1] at hi'
    rw [ll q' i b1, n 3 (by decide), J 49 (by decide) (by decide) (by decide) (by decide) (by decide)]
    exact y6 i hi'
  refine ⟨⟨fun j hj => (r 0 0 j).trans (hC j hj), ?_, ?_, ?_, ?_, ?_, fun k hk => ?_, fun k hk => ?_, fun k hk => ?_, fun k hk => ?_, fun k hk => ?_, fun k hk => ?_, fun k hk => ?_, fun k hk => ?_, ?_, fun k hk => ?_, fun k hk => ?_, fun k hk => ?_⟩, fun k hk => ⟨(n3 26 k (by decide)).trans (hS k hk).1, fun j hj => (I 16 k j (by decide) (by decide)).trans ((hS k hk).2 j hj)⟩, fun k hk => ?_, ⟨?_, ?_, ?_, ?_, ?_, ?_, occ, tri, ?_, ?_, ?_, ?_, ?_, ?_, (J 0 (by decide) (by decide) (by decide) (by decide) (by decide) 0).trans j15, j16, ?_, fun o ho => ?_⟩⟩
  · unfold k_cnt
    rw [n 0 (by decide), n 1 (by decide), n 2 (by decide), n 3 (by decide), n 4 (by decide), n 5 (by decide), n 6 (by decide), n 8 (by decide), n 9 (by decide), n 10 (by decide), n 11 (by decide), J 1 (by decide) (by decide) (by decide) (by decide) (by decide), J 5 (by decide) (by decide) (by decide) (by decide) (by decide), J 11 (by decide) (by decide) (by decide) (by decide) (by decide), J 30 (by decide) (by decide) (by decide) (by decide) (by decide), J 47 (by decide) (by decide) (by decide) (by decide) (by decide), J 50 (by decide) (by decide) (by decide) (by decide) (by decide), J 61 (by decide) (by decide) (by decide) (by decide) (by decide), J 23 (by decide) (by decide) (by decide) (by decide) (by decide), J 17 (by decide) (by decide) (by decide) (by decide) (by decide), J 89 (by decide) (by decide) (by decide) (by decide) (by decide), J 103 (by decide) (by decide) (by decide) (by decide) (by decide)]
    exact hcnt
  · unfold k_bnd
    rw [n 0 (by decide), n 1 (by decide), n 2 (by decide), n 3 (by decide), n 4 (by decide), n 5 (by decide), n 6 (by decide), n 7 (by decide), n 8 (by decide), n 9 (by decide), n 10 (by decide), n 11 (by decide)]
    exact hb'
  · unfold k_lst
    simp only [n 0 (by decide), n 3 (by decide), n 4 (by decide), n 5 (by decide), n 6 (by decide), n 8 (by decide), n 9 (by decide), n 10 (by decide), n 11 (by decide), l 0 _ (by decide), l 3 _ (by decide), l 4 _ (by decide), l 5 _ (by decide), l 6 _ (by decide), l 8 _ (by decide), l 9 _ (by decide), l 10 _ (by decide), l 11 _ (by decide)]
    exact hl
  · unfold k_top
    rw [I 0 _ _ (by decide) (by decide), J 0 (by decide) (by decide) (by decide) (by decide) (by decide), r, n 4 (by decide)]
    exact ht
  · unfold k_live
    simp only [n 6 (by decide), n 7 (by decide), l 7 _ (by decide), I2 _ 8 (by decide)]
    exact hv
  · rw [n 0 (by decide)] at hk
    have z := h1 k hk
    unfold ks at z ⊢
    simp only [I 9 _ _ (by decide) (by decide), J 2 (by decide) (by decide) (by decide) (by decide) (by decide), J 3 (by decide) (by decide) (by decide) (by decide) (by decide), J 4 (by decide) (by decide) (by decide) (by decide) (by decide)]
    exact z
  · rw [n 6 (by decide)] at hk
    have z := h2 k hk
    unfold kc at z ⊢
    simp only [r, n 5 (by decide), n 3 (by decide), n 0 (by decide), n 8 (by decide), I2 k 0 (by decide), I2 k 3 (by decide), I2 k 5 (by decide), I2 k 7 (by decide), I2 k 8 (by decide), I2 k 9 (by decide), I2 k 10 (by decide), I2 k 12 (by decide), I2 k 14 (by decide), I2 k 16 (by decide), J 62 (by decide) (by decide) (by decide) (by decide) (by decide), J 63 (by decide) (by decide) (by decide) (by decide) (by decide), J 64 (by decide) (by decide) (by decide) (by decide) (by decide), J 65 (by decide) (by decide) (by decide) (by decide) (by decide), J 66 (by decide) (by decide) (by decide) (by decide) (by decide), J 67 (by decide) (by decide) (by decide) (by decide) (by decide), J 68 (by decide) (by decide) (by decide) (by decide) (by decide), J 69 (by decide) (by decide) (by decide) (by decide) (by decide), J 70 (by decide) (by decide) (by decide) (by decide) (by decide), J 71 (by decide) (by decide) (by decide) (by decide) (by decide), J 72 (by decide) (by decide) (by decide) (by decide) (by decide), J 73 (by decide) (by decide) (by decide) (by decide) (by decide), J 74 (by decide) (by decide) (by decide) (by decide) (by decide), J 76 (by decide) (by decide) (by decide) (by decide) (by decide), J 78 (by decide) (by decide) (by decide) (by decide) (by decide), J 79 (by decide) (by decide) (by decide) (by decide) (by decide)]
    obtain ⟨z1, z2, z3, z4, z5, z6, z7, z8, z9, z10, z11, z12, z13, z14, z15, z16, z17, z18, z19, z20, z21, z22⟩ := z
    refine ⟨z1, z2, z3, z4, z5, z6, z7, z8, z9, z10, z11, z12, z13, z14, z15, z16, z17, z18, ?_, z20, ?_, z22⟩
    · by_cases e : k = c
      · rw [e]; exact h75
      · rw [hA 75 k (by omega) (by omega) (by omega) (by omega) (by omega)]; exact z19
    · by_cases e : k = c
      · rw [e]; exact h77
      · rw [hA 77 k (by omega) (by omega) (by omega) (by omega) (by omega)]; exact z21
  · rw [n 3 (by decide)] at hk
    obtain ⟨z1, z2, z3, z4, z5, z6, z7, z8, z9, z10, z11, z12, z13, z14, z15, z16⟩ := h3 k hk
    unfold kg
    simp only [r, n 6 (by decide), n0 12 (by decide), n3 25 k (by decide), I5 k 0 (by decide), I5 k 1 (by decide), I5 k 2 (by decide), I5 k 3 (by decide), I5 k 4 (by decide), I5 k 5 (by decide), I5 k 6 (by decide), I5 k 7 (by decide), I5 k 8 (by decide), I5 k 11 (by decide), I5 k 13 (by decide), J 31 (by decide) (by decide) (by decide) (by decide) (by decide), J 32 (by decide) (by decide) (by decide) (by decide) (by decide), J 33 (by decide) (by decide) (by decide) (by decide) (by decide), J 34 (by decide) (by decide) (by decide) (by decide) (by decide), J 35 (by decide) (by decide) (by decide) (by decide) (by decide), J 36 (by decide) (by decide) (by decide) (by decide) (by decide), J 37 (by decide) (by decide) (by decide) (by decide) (by decide), J 38 (by decide) (by decide) (by decide) (by decide) (by decide), J 41 (by decide) (by decide) (by decide) (by decide) (by decide), J 42 (by decide) (by decide) (by decide) (by decide) (by decide), J 44 (by decide) (by decide) (by decide) (by decide) (by decide), J 45 (by decide) (by decide) (by decide) (by decide) (by decide), J 46 (by decide) (by decide) (by decide) (by decide) (by decide), J 68 (by decide) (by decide) (by decide) (by decide) (by decide), J 69 (by decide) (by decide) (by decide) (by decide) (by decide), J 70 (by decide) (by decide) (by decide) (by decide) (by decide), J 71 (by decide) (by decide) (by decide) (by decide) (by decide)]
    refine ⟨z1, z2, z3, z4, z5, z6, z7, z8, z9, ?_, z11, z12, ?_, z14, z15, z16⟩
    · by_cases e : k = g
      · rw [e]; exact v10
      · rw [hi 5 k 10 (by omega) (by omega), hA 39 k (by omega) (by omega) (by omega) (by omega) (by omega)]; exact z10
    · by_cases e : k = g
      · rw [e]
        exact ⟨q, hq, qb1, qb2, v40, vn, v43⟩
      · obtain ⟨q', y1, y2, y3, y4, y5, y6⟩ := z13
        have b1 := gq k q' hk e y1
        refine ⟨q', y1, y2, y3, ?_, ?_, fun i hi' => ?_⟩
        · rw [n1 q' b1, hA 40 k (by omega) (by omega) (by omega) (by omega) (by omega)]; exact y4
        · rw [n1 q' b1]; exact y5
        · rw [n1 q' b1] at hi'
          rw [ll q' i b1, hA 43 (10 * k + i) (by omega) (by omega) (by omega) (by omega) (by omega)]
          exact y6 i hi'
  · rw [n 8 (by decide)] at hk
    have z := h4 k hk
    unfold kf at z ⊢
    simp only [r, n 8 (by decide), n 3 (by decide), n 0 (by decide), I 4 _ _ (by decide) (by decide), J 24 (by decide) (by decide) (by decide) (by decide) (by decide), J 25 (by decide) (by decide) (by decide) (by decide) (by decide), J 26 (by decide) (by decide) (by decide) (by decide) (by decide), J 27 (by decide) (by decide) (by decide) (by decide) (by decide), J 28 (by decide) (by decide) (by decide) (by decide) (by decide), J 29 (by decide) (by decide) (by decide) (by decide) (by decide)]
    exact z
  · rw [n 9 (by decide)] at hk
    have z := h5 k hk
    unfold ke at z ⊢
    simp only [r, n 5 (by decide), n 0 (by decide), I 3 _ _ (by decide) (by decide), I 6 _ _ (by decide) (by decide), J 18 (by decide) (by decide) (by decide) (by decide) (by decide), J 19 (by decide) (by decide) (by decide) (by decide) (by decide), J 20 (by decide) (by decide) (by decide) (by decide) (by decide), J 21 (by decide) (by decide) (by decide) (by decide) (by decide), J 22 (by decide) (by decide) (by decide) (by decide) (by decide)]
    exact z
  · rw [n 5 (by decide)] at hk
    have z := h6 k hk
    unfold ko at z ⊢
    simp only [r, n 4 (by decide), n 0 (by decide), I 6 _ _ (by decide) (by decide), J 51 (by decide) (by decide) (by decide) (by decide) (by decide), J 52 (by decide) (by decide) (by decide) (by decide) (by decide), J 53 (by decide) (by decide) (by decide) (by decide) (by decide), J 54 (by decide) (by decide) (by decide) (by decide) (by decide), J 55 (by decide) (by decide) (by decide) (by decide) (by decide)]
    exact z
  · rw [n 10 (by decide)] at hk
    have z := h7 k hk
    unfold kp at z ⊢
    simp only [r, n 4 (by decide), n 0 (by decide), I 7 _ _ (by decide) (by decide), J 90 (by decide) (by decide) (by decide) (by decide) (by decide), J 91 (by decide) (by decide) (by decide) (by decide) (by decide), J 92 (by decide) (by decide) (by decide) (by decide) (by decide), J 93 (by decide) (by decide) (by decide) (by decide) (by decide), J 94 (by decide) (by decide) (by decide) (by decide) (by decide), J 95 (by decide) (by decide) (by decide) (by decide) (by decide), J 96 (by decide) (by decide) (by decide) (by decide) (by decide), J 98 (by decide) (by decide) (by decide) (by decide) (by decide), J 99 (by decide) (by decide) (by decide) (by decide) (by decide), J 100 (by decide) (by decide) (by decide) (by decide) (by decide), J 101 (by decide) (by decide) (by decide) (by decide) (by decide), J 102 (by decide) (by decide) (by decide) (by decide) (by decide)]
    exact z
  · rw [n 11 (by decide)] at hk
    have z := h8 k hk
    unfold ka at z ⊢
    simp only [n 3 (by decide), n 0 (by decide), I 1 _ _ (by decide) (by decide), J 104 (by decide) (by decide) (by decide) (by decide) (by decide), J 105 (by decide) (by decide) (by decide) (by decide) (by decide), J 106 (by decide) (by decide) (by decide) (by decide) (by decide), J 107 (by decide) (by decide) (by decide) (by decide) (by decide), J 108 (by decide) (by decide) (by decide) (by decide) (by decide), J 109 (by decide) (by decide) (by decide) (by decide) (by decide)]
    exact z
  · rw [n 4 (by decide)]; exact ktt _ _ _ (Nat.le_refl _) h9
  · rw [n 4 (by decide)] at hk
    exact ktt _ _ _ (by omega) (h10 k hk)
  · rw [n 1 (by decide)] at hk
    have z := h11 k hk
    unfold kw at z ⊢
    simp only [r, l 1 _ (by decide), n0 8 (by decide), n 0 (by decide), I 8 _ _ (by decide) (by decide), Nat.reduceAdd, J 6 (by decide) (by decide) (by decide) (by decide) (by decide), J 7 (by decide) (by decide) (by decide) (by decide) (by decide), J 8 (by decide) (by decide) (by decide) (by decide) (by decide), J 9 (by decide) (by decide) (by decide) (by decide) (by decide), J 10 (by decide) (by decide) (by decide) (by decide) (by decide)] at z ⊢
    exact z
  · rw [n 2 (by decide)] at hk
    have z := h12 k hk
    unfold kw at z ⊢
    simp only [r, l 2 _ (by decide), n0 8 (by decide), n 0 (by decide), I 8 _ _ (by decide) (by decide), Nat.reduceAdd, J 12 (by decide) (by decide) (by decide) (by decide) (by decide), J 13 (by decide) (by decide) (by decide) (by decide) (by decide), J 14 (by decide) (by decide) (by decide) (by decide) (by decide), J 15 (by decide) (by decide) (by decide) (by decide) (by decide), J 16 (by decide) (by decide) (by decide) (by decide) (by decide)] at z ⊢
    exact z
  · rw [n 3 (by decide)] at hk
    have z := hgr k hk
    unfold kgr at z ⊢
    simp only [n 0 (by decide), J 31 (by decide) (by decide) (by decide) (by decide) (by decide), J 32 (by decide) (by decide) (by decide) (by decide) (by decide), J 33 (by decide) (by decide) (by decide) (by decide) (by decide), J 34 (by decide) (by decide) (by decide) (by decide) (by decide), J 35 (by decide) (by decide) (by decide) (by decide) (by decide), J 42 (by decide) (by decide) (by decide) (by decide) (by decide)]
    exact z
  · intro k hk
    rw [n 6 (by decide)] at hk
    obtain ⟨z1, z0, z2, e, z3, z4, z5⟩ := j1 k hk
    simp only [r, I2 _ 3 (by decide), I2 _ 8 (by decide)]
    refine ⟨z1, z0, z2, e, z3, z4, fun g' o hg' ho => ?_⟩
    obtain ⟨t', q', y1, y2, y3, y4⟩ := z5 g' o hg' ho
    have hon : o < xm_n S 1 5 := by
      obtain ⟨o', w1, w2, -⟩ := (h2 k hk).2.2.2.2.2.2.2.2.2.1
      rw [ho] at w1
      have := Option.some.inj w1
      omega
    have htn : t' < xm_n S 1 4 := by
      obtain ⟨t2, w1, w2, -⟩ := (h6 o hon).2.1
      rw [y1] at w1
      have := Option.some.inj w1
      omega
    obtain ⟨b1, -⟩ := tq t' q' (by omega) y2
    exact ⟨t', q', (r _ _ _).trans y1, (r _ _ _).trans y2, by rw [n1 q' b1]; exact y3, by rw [ll q' e b1]; exact y4⟩
  · intro u q' hu hq' i k g' e' hik hk w1 w2
    rw [n 4 (by decide)] at hu
    rw [r] at hq'
    obtain ⟨b1, -⟩ := tq u q' hu hq'
    rw [n1 q' b1] at hk
    rw [ll q' _ b1] at w1 w2
    rw [I5 _ 1 (by decide), I5 _ 1 (by decide)]
    exact j2 u q' hu hq' i k g' e' hik hk w1 w2
  · unfold k_own
    simp only [r, n 3 (by decide), n 4 (by decide)]
    exact j3
  · unfold k_obj
    rw [n 0 (by decide), n 1 (by decide), n 2 (by decide), n 3 (by decide), n 4 (by decide), n 5 (by decide), n 6 (by decide), n 8 (by decide), n 9 (by decide), n 10 (by decide), n 11 (by decide), n0 0 (by decide), n0 1 (by decide), n0 2 (by decide), n0 3 (by decide), n0 4 (by decide), n0 5 (by decide), n0 6 (by decide), n0 7 (by decide), n0 8 (by decide), n0 9 (by decide), n0 10 (by decide), n0 11 (by decide), n0 12 (by decide), n0 13 (by decide), n0 14 (by decide), n0 15 (by decide)]
    exact j4
  · obtain ⟨v1, v2, v3⟩ := j5
    unfold k_cap
    rw [n0 12 (by decide), n 6 (by decide)]
    refine ⟨fun i hi' => ?_, fun i hi' => ?_, fun i hi1 hi2 => ?_⟩
    · by_cases e : i = q
      · rw [e]
        rcases cap with z | z
        · rw [z.1]; decide
        · rw [z]; decide
      · rw [n2 i e]; exact v1 i hi'
    · rw [n2 i (by omega)]; exact v2 i hi'
    · by_cases e : i = q
      · rw [e]; exact cap
      · rw [n2 i e, n1 i e]; exact v3 i hi1 hi2
  · unfold k_chn
    simp only [n 6 (by decide), r, I2 _ 16 (by decide)]
    exact j6
  · intro g' q' hg' hq'
    rw [n 3 (by decide)] at hg'
    rw [r] at hq'
    by_cases e : g' = g
    · rw [e, hq] at hq'
      cases hq'
      rw [e, n 6 (by decide)]
      simp only [r, I2 _ 16 (by decide)]
      exact que
    · have b1 := gq g' q' hg' e hq'
      obtain ⟨z1, z2, z3⟩ := j9 g' q' hg' hq'
      rw [n1 q' b1, n 6 (by decide)]
      simp only [ll q' _ b1, r, I2 _ 16 (by decide)]
      refine ⟨fun i k hi' hk => ?_, z2, fun k hk x1 x2 x3 => ?_⟩
      · obtain ⟨y1, y2, y3, y4⟩ := z1 i k hi' hk
        have hkc : k ≠ c := fun z => e (Option.some.inj (y2.symm.trans (by rw [z]; exact hg)))
        rw [hA 75 k (by omega) (by omega) (by omega) (by omega) (by omega)]
        exact ⟨(actX k (fun z => e (Option.some.inj (y2.symm.trans z)))).mpr y1, y2, y3, y4⟩
      · have hkc : k ≠ c := fun z => e (Option.some.inj (x2.symm.trans (by rw [z]; exact hg)))
        rw [hA 75 k (by omega) (by omega) (by omega) (by omega) (by omega)] at x3
        exact z3 k hk ((actX k (fun z => e (Option.some.inj (x2.symm.trans z)))).mp x1) x2 x3
  · unfold k_sts at j10 ⊢
    simp only [n 6 (by decide), r, I2 _ 8 (by decide), I2 _ 16 (by decide), J 31 (by decide) (by decide) (by decide) (by decide) (by decide), J 76 (by decide) (by decide) (by decide) (by decide) (by decide), J 73 (by decide) (by decide) (by decide) (by decide) (by decide), J 32 (by decide) (by decide) (by decide) (by decide) (by decide), J 72 (by decide) (by decide) (by decide) (by decide) (by decide), J 0 (by decide) (by decide) (by decide) (by decide) (by decide)]
    exact j10
  · unfold k_uni k_lik at j11 ⊢
    simp only [n 6 (by decide), r, I2 _ 8 (by decide), I2 _ 16 (by decide), I2 _ 14 (by decide), I 6 _ _ (by decide) (by decide), I5 _ 1 (by decide)]
    exact j11
  · unfold k_num k_hows at j12 ⊢
    simp only [n 6 (by decide), n 8 (by decide), n 9 (by decide), r, I2 _ 8 (by decide), I2 _ 19 (by decide), I2 _ 10 (by decide), I 0 _ _ (by decide) (by decide), J 82 (by decide) (by decide) (by decide) (by decide) (by decide)]
    exact j12
  · have e2 : ∀ k, k < xm_n S 1 6 → k_po S' k = k_po S k := fun k hk => by
      obtain ⟨o, w1, w2, -⟩ := (h2 k hk).2.2.2.2.2.2.2.2.2.1
      obtain ⟨t', u1, u2, -⟩ := (h6 o w2).2.1
      obtain ⟨q', y1, y2, y3, y4, y5, y6⟩ := h10 t' u2
      obtain ⟨b1, -⟩ := tq t' q' (by omega) y1
      have ec : ∀ m i, k_cp S' q' i m = k_cp S q' i m := fun m i => k_cp_rng q' m i (fun j _ _ => ⟨ll q' j b1, I5 _ 1 (by decide), I5 _ 2 (by decide)⟩)
      unfold k_po
      simp only [r, w1]
      rcases hg2 : xm_r S 2 k 4 with _ | g2
      · rfl
      · have hm : k_mul S' g2 = k_mul S g2 := by
          unfold k_mul
          rw [I5 _ 1 (by decide), I5 _ 2 (by decide)]
        simp only [u1, y1, n1 q' b1, I5 _ 1 (by decide), I2 _ 16 (by decide), I2 _ 3 (by decide), ec, hm]
    unfold k_pot at j13 ⊢
    rw [n 6 (by decide), n 5 (by decide), xs_congr e2]
    exact j13
  · unfold k_pln k_spn at j14 ⊢
    simp only [n 0 (by decide), n 1 (by decide), n 2 (by decide), n 5 (by decide), n 10 (by decide), I 7 _ _ (by decide) (by decide), J 2 (by decide) (by decide) (by decide) (by decide) (by decide), J 3 (by decide) (by decide) (by decide) (by decide) (by decide), J 10 (by decide) (by decide) (by decide) (by decide) (by decide), J 16 (by decide) (by decide) (by decide) (by decide) (by decide), J 54 (by decide) (by decide) (by decide) (by decide) (by decide), J 93 (by decide) (by decide) (by decide) (by decide) (by decide), J 94 (by decide) (by decide) (by decide) (by decide) (by decide), J 97 (by decide) (by decide) (by decide) (by decide) (by decide)]
    exact j14
  · intro k k1 k2
    rw [n 6 (by decide)] at k2
    rw [J 72 (by decide) (by decide) (by decide) (by decide) (by decide), J 0 (by decide) (by decide) (by decide) (by decide) (by decide)]
    exact j17 k k1 k2
  · rw [n 5 (by decide)] at ho
    have z := j18 o ho
    unfold kof at z ⊢
    simp only [n 6 (by decide), r, J 58 (by decide) (by decide) (by decide) (by decide) (by decide), J 69 (by decide) (by decide) (by decide) (by decide) (by decide), J 71 (by decide) (by decide) (by decide) (by decide) (by decide), J 59 (by decide) (by decide) (by decide) (by decide) (by decide), J 70 (by decide) (by decide) (by decide) (by decide) (by decide), J 56 (by decide) (by decide) (by decide) (by decide) (by decide), J 67 (by decide) (by decide) (by decide) (by decide) (by decide), J 57 (by decide) (by decide) (by decide) (by decide) (by decide), J 68 (by decide) (by decide) (by decide) (by decide) (by decide)]
    exact z
end
