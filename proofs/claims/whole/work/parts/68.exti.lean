/-! ===== SOMETHING IS ADDED that no call knows: the invariants ===== -/
section
theorem k_cp_rng {S S' : xm_S} (q : Nat) : ∀ (m n : Nat), (∀ i, n ≤ i → i < n + m → xm_l S' q i = xm_l S q i ∧ xm_i S' 5 (xm_l S q i).2 1 = xm_i S 5 (xm_l S q i).2 1 ∧ xm_i S' 5 (xm_l S q i).2 2 = xm_i S 5 (xm_l S q i).2 2) → k_cp S' q n m = k_cp S q n m
  | 0, _, _ => rfl
  | m + 1, n, h => by
    obtain ⟨e1, e2, e3⟩ := h n (Nat.le_refl _) (by omega)
    unfold k_cp k_mul
    rw [k_cp_rng q m (n + 1) (fun i h1 h2 => h i (by omega) (by omega)), e1, e2, e3]
theorem k_po.ext {S S' : xm_S} {A : y_A} (hE : kExt S S') (hO : k_obj S) (h : kE S A) {k : Nat} (hk : k < xm_n S 1 6) : k_po S' k = k_po S k := by
  obtain ⟨E1, -, ⟨n4, n5, n6, -⟩, Lq, -⟩ := hE
  obtain ⟨hC, hcnt, hb, hl, ht, hv, h1, h2, h3, h4, h5, h6, h7, h8, h9, h10, h11, h12⟩ := h
  obtain ⟨o9, o5, o10, o6, o2, o4, o3, o7, o1, o15, o8, o12, -⟩ := hO
  obtain ⟨o, w1, w2, -⟩ := (h2 k hk).2.2.2.2.2.2.2.2.2.1
  have wg := (h2 k hk).2.2.2.2.2.2.2.2.2.2.2.2.2.2.2.2.2.2.2.2.2.2.2.1
  obtain ⟨t, u1, u2, -⟩ := (h6 o w2).2.1
  obtain ⟨q, y1, y2, y3, y4, y5, y6⟩ := h10 t u2
  have I2 := fun j => (E1 2 k j (by decide) (by omega)).1
  have R2 := fun j => (E1 2 k j (by decide) (by omega)).2
  have R6 := (E1 6 o 1 (by decide) (by omega)).2
  have R10 := (E1 10 t 0 (by decide) (by omega)).2
  unfold k_po
  simp only [R2, I2, w1]
  rcases hg : xm_r S 2 k 4 with _ | g
  · rfl
  · have hgn := wg g hg
    have I5 := fun j => (E1 5 g j (by decide) (by omega)).1
    simp only [R6, u1, R10, y1, (Lq q y2 y3).1]
    have hm : k_mul S' g = k_mul S g := by
      unfold k_mul
      rw [I5, I5]
    rw [hm, I5]
    rw [k_cp_rng (S := S) (S' := S') q _ _ (fun i hi1 hi2 => by
      obtain ⟨e, f1, f2, -⟩ := y6 i (by omega)
      rw [f1]
      exact ⟨((Lq q y2 y3).2 i).trans f1, (E1 5 e 1 (by decide) (by omega)).1, (E1 5 e 2 (by decide) (by omega)).1⟩)]
theorem kI.ext {S S' : xm_S} {A A' : y_A} {X E B : Nat → Prop} {hb' rb nb t w e1 e2 : Nat} (hE : kExt S S') (a : ∀ x k, kOld S x k → A' x k = A x k) (h : kE S A) (i : kI S A X E B hb' rb nb t w e1 e2) (own : k_own S') (obj : k_obj S') (cap : k_cap S') (pln : k_pln S' A' t nb) (hi0 : xm_i S' 0 0 15 = xm_i S 0 0 15)
    (ng : ∀ g, xm_n S 1 3 ≤ g → g < xm_n S' 1 3 → xm_r S' 5 g 9 = none ∧ ∀ q, xm_r S' 5 g 12 = some q → xm_n S' 1 q = 0) : kI S' A' X E B hb' rb nb t w e1 e2 := by
  have hEE := hE
  have hh := h
  obtain ⟨j1, j2, j3, j4, j5, j6, j7, j8, j9, j10, j11, j12, j13, j14, j15, j16, j17, j18⟩ := i
  have hO := j4
  obtain ⟨E1, ⟨m0, m1, m2, m3, m10, m11⟩, ⟨n4, n5, n6, n7, n8, n9⟩, Lq, Ll, n25, n12, -, -, nn8⟩ := hE
  obtain ⟨hC, hcnt, hb, hl, ht, hv, h1, h2, h3, h4, h5, h6, h7, h8, h9, h10, h11, h12⟩ := h
  obtain ⟨o9, o5, o10, o6, o2, o4, o3, o7, o1, o15, o8, o12, -⟩ := j4
  have I2 : ∀ k, k < xm_n S 1 6 → ∀ j, xm_i S' 2 k j = xm_i S 2 k j := fun k hk j => (E1 2 k j (by decide) (by omega)).1
  have R2 : ∀ k, k < xm_n S 1 6 → ∀ j, xm_r S' 2 k j = xm_r S 2 k j := fun k hk j => (E1 2 k j (by decide) (by omega)).2
  have I5 : ∀ k, k < xm_n S 1 3 → ∀ j, xm_i S' 5 k j = xm_i S 5 k j := fun k hk j => (E1 5 k j (by decide) (by omega)).1
  have R5 : ∀ k, k < xm_n S 1 3 → ∀ j, xm_r S' 5 k j = xm_r S 5 k j := fun k hk j => (E1 5 k j (by decide) (by omega)).2
  have I6 : ∀ k, k < xm_n S 1 5 → ∀ j, xm_i S' 6 k j = xm_i S 6 k j := fun k hk j => (E1 6 k j (by decide) (by omega)).1
  have R6 : ∀ k, k < xm_n S 1 5 → ∀ j, xm_r S' 6 k j = xm_r S 6 k j := fun k hk j => (E1 6 k j (by decide) (by omega)).2
  have R10 : ∀ k, k ≤ xm_n S 1 4 → xm_r S' 10 k 0 = xm_r S 10 k 0 := fun k hk => (E1 10 k 0 (by decide) (by omega)).2
  have gb : ∀ k, k < xm_n S 1 6 → ∀ g, xm_r S 2 k 4 = some g → g < xm_n S 1 3 := fun k hk => (h2 k hk).2.2.2.2.2.2.2.2.2.2.2.2.2.2.2.2.2.2.2.2.2.2.2.1
  have pb : ∀ k, k < xm_n S 1 6 → ∀ p, xm_r S 2 k 2 = some p → p < k := fun k hk => (h2 k hk).2.2.2.2.2.2.2.2.2.2.2.2.2.2.2.2.2.2.2.2.2.2.2.2.2.1
  have lb : ∀ k, k < xm_n S 1 6 → ∀ l, xm_r S 2 k 15 = some l → l < k := fun k hk => (h2 k hk).2.2.2.2.2.2.2.2.2.2.2.2.2.2.2.2.2.2.2.2.2.2.2.2.2.2.1
  have ob : ∀ k, k < xm_n S 1 6 → ∀ o, xm_r S 2 k 1 = some o → o < xm_n S 1 5 := fun k hk o ho => by
    obtain ⟨o', w1, w2, -⟩ := (h2 k hk).2.2.2.2.2.2.2.2.2.1
    rw [ho] at w1
    cases w1
    exact w2
  have tb : ∀ t, t ≤ xm_n S 1 4 → ∀ q, xm_r S 10 t 0 = some q → 12 ≤ q ∧ q < xm_n S 0 12 ∧ ∀ i, i < xm_n S 1 q → ∃ g, xm_l S q i = (5, g) ∧ g < xm_n S 1 3 := fun t ht q hq => by
    have : ∃ a b, kt S A t a b := by
      by_cases e : t = xm_n S 1 4
      · exact ⟨10, 50, e ▸ h9⟩
      · exact ⟨t, 5 * t, h10 t (by omega)⟩
    obtain ⟨x, b, q', y1, y2, y3, y4, y5, y6⟩ := this
    rw [hq] at y1
    cases y1
    exact ⟨y2, y3, fun i hi => ⟨_, (y6 i hi).choose_spec.1, (y6 i hi).choose_spec.2.1⟩⟩
  have ob1 : ∀ o, o < xm_n S 1 5 → ∀ t, xm_r S 6 o 1 = some t → t ≤ xm_n S 1 4 := fun o ho t ht2 => by
    obtain ⟨t', u1, u2, -⟩ := (h6 o ho).2.1
    rw [ht2] at u1
    cases u1
    omega
  have act : ∀ k, k < xm_n S 1 6 → (k_act S' X k ↔ k_act S X k) := fun k hk => by
    unfold k_act
    rw [I2 k hk]
  have a0 : A' 0 0 = A 0 0 := a 0 0 (by unfold kOld; omega)
  have lik : ∀ k e, k < xm_n S 1 6 → e < xm_n S 1 6 → (k_lik S' k e → k_lik S k e) ∧ (k_lik S k e → k_lik S' k e) := fun k e hk he => by
    constructor
    · rintro ⟨o, u, w1, w2, w3, w4, w5⟩
      rw [R2 k hk] at w1
      rw [R2 e he] at w2
      have ho := ob k hk o w1
      have hu := ob e he u w2
      rw [R6 o ho, R6 u hu] at w3
      rw [I6 o ho, I6 u hu] at w4 w5
      exact ⟨o, u, w1, w2, w3, w4, w5⟩
    · rintro ⟨o, u, w1, w2, w3, w4, w5⟩
      have ho := ob k hk o w1
      have hu := ob e he u w2
      refine ⟨o, u, (R2 k hk 1).trans w1, (R2 e he 1).trans w2, ?_, ?_, ?_⟩
      · rw [R6 o ho, R6 u hu]; exact w3
      · rw [I6 o ho, I6 u hu]; exact w4
      · rw [I6 o ho, I6 u hu]; exact w5
  have how : ∀ v, k_hows S' v = k_hows S v := fun v => by
    unfold k_hows
    rw [n6]
    exact xs_congr (fun i hi => by rw [I2 i hi])
  refine ⟨?_, ?_, own, obj, cap, ?_, ?_, ?_, ?_, ?_, ?_, ?_, ?_, pln, ?_, j16, ?_, ?_⟩
  · intro k hk
    rw [n6] at hk
    obtain ⟨z1, z0, z2, e, z3, z4, z5⟩ := j1 k hk
    simp only [R2 k hk, I2 k hk]
    refine ⟨fun y => ⟨(z1 y).1, fun o ho => ?_⟩, z0, fun p hp => ?_, e, z3, z4, fun g o hg ho => ?_⟩
    · rw [R6 o (ob k hk o ho)]
      exact (z1 y).2 o ho
    · have hpk := pb k hk p hp
      rw [R2 p (by omega), R2 p (by omega), I2 p (by omega), I2 p (by omega)]
      exact z2 p hp
    · obtain ⟨t, q, y1, y2, y3, y4⟩ := z5 g o hg ho
      have hon := ob k hk o ho
      have htn := ob1 o hon t y1
      obtain ⟨q1, q2, -⟩ := tb t htn q y2
      exact ⟨t, q, (R6 o hon 1).trans y1, (R10 t htn).trans y2, by rw [(Lq q q1 q2).1]; exact y3, by rw [(Lq q q1 q2).2]; exact y4⟩
  · intro t q ht2 hq i j g e hij hj w1 w2
    rw [n4] at ht2
    rw [R10 t ht2] at hq
    obtain ⟨q1, q2, q3⟩ := tb t ht2 q hq
    rw [(Lq q q1 q2).1] at hj
    rw [(Lq q q1 q2).2] at w1 w2
    obtain ⟨g', f1, f2⟩ := q3 i (by omega)
    rw [w1] at f1
    cases f1
    obtain ⟨e', f3, f4⟩ := q3 j hj
    rw [w2] at f3
    cases f3
    rw [I5 _ f2, I5 _ f4]
    exact j2 t q ht2 hq i j _ _ hij hj w1 w2
  · obtain ⟨z1, z2⟩ := j6
    refine ⟨fun p hp => ?_, fun c p hc hp => ?_⟩
    · rw [n6] at hp
      obtain ⟨y1, y2, n, y3, y4, y5, y6⟩ := z1 p hp
      simp only [R2 p hp, I2 p hp, n6]
      refine ⟨fun w c hc => ?_, fun c hc => ?_, n, y3, y4, y5, fun c hc => ?_⟩
      · rw [R2 c hc]; exact y1 w c hc
      · obtain ⟨x1, x2, x3⟩ := y2 c hc
        refine ⟨x1, by rw [R2 c x1]; exact x2, fun e he w => ?_⟩
        rw [R2 e he] at w
        exact x3 e he w
      · obtain ⟨x1, -, -⟩ := y2 c hc
        obtain ⟨v1, v2⟩ := y6 c hc
        rw [R2 c x1]
        refine ⟨v1, fun b hb2 => ?_⟩
        have hbc := ((z2 c p x1 (y2 c hc).2.1).2 b hb2).1
        rw [R2 b (by omega)]
        exact v2 b hb2
    · rw [n6] at hc
      rw [R2 c hc] at hp
      obtain ⟨y1, y2⟩ := z2 c p hc hp
      simp only [R2 c hc, n6]
      refine ⟨fun w e he x => ?_, fun b hb2 => ?_⟩
      · rw [R2 e he] at x
        exact y1 w e he x
      · obtain ⟨x1, x2, x3⟩ := y2 b hb2
        refine ⟨x1, by rw [R2 b (by omega)]; exact x2, fun e he x => ?_⟩
        rw [R2 e he] at x
        exact x3 e he x
  · intro k hk
    rw [n6] at hk
    obtain ⟨z1, z2, z3, z4, z5, z6⟩ := j7 k hk
    have s31 : ∀ g, xm_r S 2 k 4 = some g → A' 31 g = A 31 g := fun g hg => a 31 g (by have := gb k hk g hg; unfold kOld; omega)
    simp only [R2 k hk, act k hk, a 75 k (by unfold kOld; omega), a 76 k (by unfold kOld; omega), a 77 k (by unfold kOld; omega), a 78 k (by unfold kOld; omega), a 79 k (by unfold kOld; omega)]
    refine ⟨fun y => ?_, fun y => ?_, fun y => ?_, fun y => ?_, fun y => ?_, fun g hg y ye => ?_⟩
    · have q := z1 y
      unfold k_rest at q ⊢
      rw [I2 k hk, R2 k hk, a 75 k (by unfold kOld; omega), a 76 k (by unfold kOld; omega)]
      exact q
    · obtain ⟨g, x1, x2⟩ := z2 y
      exact ⟨g, x1, (s31 g x1).trans x2⟩
    · obtain ⟨g, x1, x2⟩ := z3 y
      exact ⟨g, x1, (s31 g x1).trans x2⟩
    · obtain ⟨g, x1, x2⟩ := z4 y
      exact ⟨g, x1, (s31 g x1).trans x2⟩
    · obtain ⟨g, x1, x2⟩ := z5 y
      exact ⟨g, x1, (s31 g x1).trans x2⟩
    · rw [s31 g hg, R5 g (gb k hk g hg)]
      exact z6 g hg y ye
  · intro g c hg hc
    by_cases hgo : g < xm_n S 1 3
    · rw [R5 g hgo] at hc
      obtain ⟨y1, y2, y3, y4, y5⟩ := j8 g c hgo hc
      rw [n6, act c y1, R2 c y1, a 79 c (by unfold kOld; omega), a 36 g (by unfold kOld; omega)]
      exact ⟨y1, y2, y3, y4, y5⟩
    · rw [(ng g (by omega) hg).1] at hc
      cases hc
  · intro g q hg hq
    by_cases hgo : g < xm_n S 1 3
    · rw [R5 g hgo] at hq
      obtain ⟨q', y1, y2, y3, -, -, yq⟩ := (h3 g hgo).2.2.2.2.2.2.2.2.2.2.2.2.1
      rw [hq] at y1
      cases y1
      obtain ⟨z1, z2, z3⟩ := j9 g q hgo hq
      simp only [(Lq q y2 y3).1, (Lq q y2 y3).2, n6]
      refine ⟨fun i c hi hc => ?_, z2, fun c hc x1 x2 x3 => ?_⟩
      · obtain ⟨x1, x2, x3, x4⟩ := z1 i c hi hc
        have hcn : c < xm_n S 1 6 := by
          obtain ⟨c', v1, v2, -⟩ := yq i hi
          rw [hc] at v1
          cases v1
          exact v2
        rw [act c hcn, R2 c hcn, I2 c hcn, a 75 c (by unfold kOld; omega)]
        exact ⟨x1, x2, x3, x4⟩
      · rw [act c hc] at x1
        rw [R2 c hc] at x2
        rw [a 75 c (by unfold kOld; omega)] at x3
        exact z3 c hc x1 x2 x3
    · have hz := (ng g (by omega) hg).2 q hq
      rw [hz, n6]
      refine ⟨fun i c hi => absurd hi (by omega), fun i j _ hj => absurd hj (by omega), fun c hc _ x2 _ => ?_⟩
      rw [R2 c hc] at x2
      have := gb c hc g x2
      omega
  · obtain ⟨z1, z2⟩ := j10
    refine ⟨fun k c hk hc hp => ?_, fun k g hk h0 hg => ?_⟩
    · rw [n6] at hc
      rw [R2 c hc] at hp
      rw [I2 c hc]
      exact z1 k c hk hc hp
    · rw [n6] at hk
      rw [I2 k hk] at h0
      rw [R2 k hk] at hg
      have hgn := gb k hk g hg
      obtain ⟨y1, y6, y2, y3, y4, y5⟩ := z2 k g hk h0 hg
      simp only [I2 k hk, R2 k hk, n6, a0, a 31 g (by unfold kOld; omega), a 32 g (by unfold kOld; omega), a 72 k (by unfold kOld; omega), a 73 k (by unfold kOld; omega), a 76 k (by unfold kOld; omega)]
      refine ⟨fun x1 x0 x2 => ?_, fun x c hc hp hl2 => ?_, fun x => ?_, y3, y4, y5⟩
      · obtain ⟨v1, c, v2, v3⟩ := y1 x1 x0 x2
        have hcn := ((j6.1 k hk).2.1 c v2).1
        exact ⟨v1, c, v2, by rw [I2 c hcn]; exact v3⟩
      · rw [R2 c hc] at hp
        rw [I2 c hc]
        exact y6 x c hc hp hl2
      · obtain ⟨v2, v3⟩ := y2 x
        refine ⟨fun y => ⟨(v2 y).1, fun c hc => ?_⟩, v3⟩
        rw [I2 c ((j6.1 k hk).2.1 c hc).1]
        exact (v2 y).2 c hc
  · obtain ⟨z1, z0, z2⟩ := j11
    refine ⟨fun k e hk he x1 x2 x3 x4 x5 x6 => ?_, fun k g hk hg h8 => ?_, fun k l hk hl2 => ?_⟩
    · rw [n6] at hk he
      rw [I2 k hk] at x1 x3
      rw [I2 e he] at x2 x4
      rw [R2 k hk, R2 e he] at x5
      exact z1 k e hk he x1 x2 x3 x4 x5 ((lik k e hk he).1 x6)
    · rw [n6] at hk
      rw [R2 k hk] at hg
      rw [I5 g (gb k hk g hg)] at h8
      rw [I2 k hk, I2 k hk]
      exact z0 k g hk hg h8
    · rw [n6] at hk
      rw [R2 k hk] at hl2
      have hlk := lb k hk l hl2
      obtain ⟨y1, y2, y3, y4⟩ := z2 k l hk hl2
      rw [R2 k hk, R2 l (by omega), I2 l (by omega), I2 k hk, I2 k hk]
      exact ⟨y1, (lik k l hk (by omega)).2 y2, y3, y4⟩
  · obtain ⟨z1, z2, T, z3, z4, z5, z6⟩ := j12
    refine ⟨by rw [n8, how]; exact z1, by rw [n9, how]; exact z2, T, hi0.trans z3, by rw [how]; exact z4, by rw [how, a 82 0 (by unfold kOld; omega)]; exact z5, fun k hk => ?_⟩
    rw [n6] at hk
    simp only [I2 k hk, R2 k hk]
    exact z6 k hk
  · unfold k_pot at j13 ⊢
    rw [n6, n5, xs_congr (fun i hi => k_po.ext hEE hO hh hi)]
    exact j13
  · rw [a0]; exact j15
  · intro k hk1 hk2
    rw [n6] at hk2
    rw [a0, a 72 k (by unfold kOld; omega)]
    exact j17 k hk1 hk2
  · intro o ho
    rw [n5] at ho
    obtain ⟨f, y1, y2, y3, y4, y5, y6, y7, y8⟩ := j18 o ho
    refine ⟨f, (R6 o (by omega) 6).trans y1, by rw [n6]; exact y2, (R2 f y2 1).trans y3, (R2 f y2 2).trans y4, ?_, ?_, ?_, ?_⟩
    · rw [a 58 o (by unfold kOld; omega), a 69 f (by unfold kOld; omega), a 71 f (by unfold kOld; omega)]; exact y5
    · rw [a 59 o (by unfold kOld; omega), a 69 f (by unfold kOld; omega), a 70 f (by unfold kOld; omega)]; exact y6
    · rw [a 56 o (by unfold kOld; omega), a 67 f (by unfold kOld; omega)]; exact y7
    · rw [a 57 o (by unfold kOld; omega), a 68 f (by unfold kOld; omega)]; exact y8
end
