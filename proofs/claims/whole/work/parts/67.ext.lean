/-! ===== SOMETHING IS ADDED that no call knows: all old things stay (printed by wip/whole/gen67.py) ===== -/
section
/-- a place of the reference's state that is in use -/
def kOld (S : xm_S) (x k : Nat) : Prop := (2 ≤ x ∧ x ≤ 4 → k < xm_n S 1 0) ∧ (6 ≤ x ∧ x ≤ 10 → k < xm_n S 1 1) ∧ (12 ≤ x ∧ x ≤ 16 → k < xm_n S 1 2) ∧ (31 ≤ x ∧ x ≤ 42 → k < xm_n S 1 3) ∧ (x = 45 → k < 8 * xm_n S 1 3) ∧ (90 ≤ x ∧ x ≤ 102 → k < xm_n S 1 10) ∧ (104 ≤ x ∧ x ≤ 109 → k < xm_n S 1 11) ∧ x ≠ 1 ∧ x ≠ 5 ∧ x ≠ 11 ∧ x ≠ 30 ∧ x ≠ 89 ∧ x ≠ 103
/-- old objects and lists stay; towers, orders, calls, failures, effects are as many as before -/
def kExt (S S' : xm_S) : Prop := (∀ p q j, p ≤ 15 → q < xm_n S 0 p → xm_i S' p q j = xm_i S p q j ∧ xm_r S' p q j = xm_r S p q j) ∧ (xm_n S 1 0 ≤ xm_n S' 1 0 ∧ xm_n S 1 1 ≤ xm_n S' 1 1 ∧ xm_n S 1 2 ≤ xm_n S' 1 2 ∧ xm_n S 1 3 ≤ xm_n S' 1 3 ∧ xm_n S 1 10 ≤ xm_n S' 1 10 ∧ xm_n S 1 11 ≤ xm_n S' 1 11) ∧ (xm_n S' 1 4 = xm_n S 1 4 ∧ xm_n S' 1 5 = xm_n S 1 5 ∧ xm_n S' 1 6 = xm_n S 1 6 ∧ xm_n S' 1 7 = xm_n S 1 7 ∧ xm_n S' 1 8 = xm_n S 1 8 ∧ xm_n S' 1 9 = xm_n S 1 9) ∧ (∀ q, 12 ≤ q → q < xm_n S 0 12 → xm_n S' 1 q = xm_n S 1 q ∧ ∀ i, xm_l S' q i = xm_l S q i) ∧ (∀ q i, q < 12 → i < xm_n S 1 q → xm_l S' q i = xm_l S q i) ∧ (∀ g, g < xm_n S 1 3 → xm_n S' 25 g = xm_n S 25 g) ∧ xm_n S 0 12 ≤ xm_n S' 0 12 ∧ (∀ k j, xm_i S' 16 k j = xm_i S 16 k j) ∧ (∀ k, xm_n S' 26 k = xm_n S 26 k) ∧ xm_n S 0 8 ≤ xm_n S' 0 8
theorem kc.ext {S S' : xm_S} {A A' : y_A} (hE : kExt S S') (hO : k_obj S) (a : ∀ x k, kOld S x k → A' x k = A x k) {k : Nat} (hk : k < xm_n S 1 6) (z : kc S A k) : kc S' A' k := by
  obtain ⟨E1, ⟨m0, m1, m2, m3, m10, m11⟩, ⟨n4, n5, n6, n7, n8, n9⟩, -⟩ := hE
  have I := fun j => (E1 2 k j (by decide) (by rw [hO.2.2.2.2.1]; exact hk)).1
  have R := fun j => (E1 2 k j (by decide) (by rw [hO.2.2.2.2.1]; exact hk)).2
  unfold kc at z ⊢
  simp only [I, R, n5, n8, a 62 k (by unfold kOld; omega), a 63 k (by unfold kOld; omega), a 64 k (by unfold kOld; omega), a 65 k (by unfold kOld; omega), a 66 k (by unfold kOld; omega), a 67 k (by unfold kOld; omega), a 68 k (by unfold kOld; omega), a 69 k (by unfold kOld; omega), a 70 k (by unfold kOld; omega), a 71 k (by unfold kOld; omega), a 72 k (by unfold kOld; omega), a 73 k (by unfold kOld; omega), a 74 k (by unfold kOld; omega), a 75 k (by unfold kOld; omega), a 76 k (by unfold kOld; omega), a 77 k (by unfold kOld; omega), a 78 k (by unfold kOld; omega), a 79 k (by unfold kOld; omega)]
  obtain ⟨z1, z2, z3, z4, z5, z6, z7, z8, z9, z10, z11, z12, z13, z14, z15, z16, z17, z18, z19, z20, z21, z22, z23, z24, z25, z26, z27, z28⟩ := z
  exact ⟨z1, z2, z3, z4, z5, z6, z7, z8, z9, z10, z11, z12, z13, z14, z15, z16, z17, z18, z19, z20, z21, z22, z23, fun g hg => Nat.lt_of_lt_of_le (z24 g hg) m3, fun s hs => Nat.lt_of_lt_of_le (z25 s hs) m0, z26, z27, z28⟩
theorem kg.ext {S S' : xm_S} {A A' : y_A} (hE : kExt S S') (hO : k_obj S) (a : ∀ x k, kOld S x k → A' x k = A x k) {k : Nat} (hk : k < xm_n S 1 3) (z : kg S A k) : kg S' A' k := by
  obtain ⟨E1, ⟨m0, m1, m2, m3, m10, m11⟩, ⟨n4, n5, n6, n7, n8, n9⟩, Lq, Ll, n25, n12, -⟩ := hE
  have I := fun j => (E1 5 k j (by decide) (by rw [hO.2.1]; exact hk)).1
  have R := fun j => (E1 5 k j (by decide) (by rw [hO.2.1]; exact hk)).2
  have R15 := fun j => (E1 15 k j (by decide) (by rw [hO.2.2.2.2.2.2.2.2.2.1]; exact hk)).2
  unfold kg at z ⊢
  simp only [I, R, R15, n6, n25 k hk, a 31 k (by unfold kOld; omega), a 32 k (by unfold kOld; omega), a 33 k (by unfold kOld; omega), a 34 k (by unfold kOld; omega), a 35 k (by unfold kOld; omega), a 36 k (by unfold kOld; omega), a 37 k (by unfold kOld; omega), a 38 k (by unfold kOld; omega), a 39 k (by unfold kOld; omega), a 40 k (by unfold kOld; omega), a 41 k (by unfold kOld; omega), a 42 k (by unfold kOld; omega)]
  obtain ⟨z1, z2, z3, z4, z5, z6, z7, z8, z9, z10, z11, z12, ⟨q, y1, y2, y3, y4, y5, y6⟩, z14, z15, z16⟩ := z
  refine ⟨z1, z2, z3, z4, z5, z6, z7, z8, z9, z10, z11, z12, ⟨q, y1, y2, by omega, ?_, ?_, ?_⟩, z14, z15, ?_⟩
  · rw [(Lq q y2 y3).1]; exact y4
  · rw [(Lq q y2 y3).1]; exact y5
  · intro i hi
    rw [(Lq q y2 y3).1] at hi
    obtain ⟨c, w1, w2, w3⟩ := y6 i hi
    exact ⟨c, by rw [(Lq q y2 y3).2]; exact w1, w2, by rw [a 43 (10 * k + i) (by unfold kOld; omega)]; exact w3⟩
  · intro s hs
    rw [a 45 (8 * k + s) (by unfold kOld; omega), a 44 (8 * k + s) (by unfold kOld; omega), a 46 (8 * k + s) (by unfold kOld; omega)]
    rcases z16 s hs with w | ⟨c, w1, w2, w3, w4⟩
    · exact Or.inl w
    · refine Or.inr ⟨c, w1, w2, ?_⟩
      rw [a 69 c (by unfold kOld; omega), a 70 c (by unfold kOld; omega), a 68 c (by unfold kOld; omega), a 71 c (by unfold kOld; omega)]
      exact ⟨w3, w4⟩
/-- what no call knows is added: the calls' and guards' equations, orders, failures, effects, towers stay -/
theorem kE.ext {S S' : xm_S} {A A' : y_A} (hE : kExt S S') (hO : k_obj S) (a : ∀ x k, kOld S x k → A' x k = A x k) (h : kE S A) (hC' : xk_C S') (hcnt' : k_cnt S' A') (hb' : k_bnd S') (hl' : k_lst S') (ht' : k_top S' A')
    (s1 : ∀ k, xm_n S 1 0 ≤ k → k < xm_n S' 1 0 → ks S' A' k) (s3 : ∀ k, xm_n S 1 3 ≤ k → k < xm_n S' 1 3 → kg S' A' k) (s7 : ∀ k, xm_n S 1 10 ≤ k → k < xm_n S' 1 10 → kp S' A' k) (s8 : ∀ k, xm_n S 1 11 ≤ k → k < xm_n S' 1 11 → ka S' A' k) (s11 : ∀ k, xm_n S 1 1 ≤ k → k < xm_n S' 1 1 → kw S' A' 1 6 k) (s12 : ∀ k, xm_n S 1 2 ≤ k → k < xm_n S' 1 2 → kw S' A' 2 12 k) : kE S' A' := by
  have hEE := hE
  obtain ⟨E1, ⟨m0, m1, m2, m3, m10, m11⟩, ⟨n4, n5, n6, n7, n8, n9⟩, Lq, Ll, n25, n12, -, -, nn8⟩ := hE
  obtain ⟨hC, hcnt, hb, hl, ht, hv, h1, h2, h3, h4, h5, h6, h7, h8, h9, h10, h11, h12⟩ := h
  have hOO := hO
  obtain ⟨o9, o5, o10, o6, o2, o4, o3, o7, o1, o15, o8, o12, -⟩ := hO
  have old : ∀ {n m k : Nat}, k < m → ¬ k < n → n ≤ k := fun _ h => Nat.le_of_not_lt h
  refine ⟨hC', hcnt', hb', hl', ht', ?_, ?_, ?_, ?_, ?_, ?_, ?_, ?_, ?_, ?_, ?_, ?_, ?_⟩
  · unfold k_live at hv ⊢
    rw [n6, n7]
    have hb7 := hb
    unfold k_bnd at hb7
    refine ⟨fun i hi => ?_, fun i j c e hij hj w1 w2 => ?_, fun c hc w => ?_⟩
    · rw [Ll 7 i (by decide) hi]; exact hv.1 i hi
    · rw [Ll 7 i (by decide) (by omega)] at w1; rw [Ll 7 j (by decide) hj] at w2; exact hv.2.1 i j c e hij hj w1 w2
    · rw [(E1 2 c 8 (by decide) (by omega)).1] at w
      obtain ⟨i, w1, w2⟩ := hv.2.2 c hc w
      exact ⟨i, w1, by rw [Ll 7 i (by decide) w1]; exact w2⟩
  · intro k hk
    by_cases hko : k < xm_n S 1 0
    · have z := h1 k hko
      unfold ks at z ⊢
      simp only [(E1 9 k _ (by decide) (by omega)).1, a 2 k (by unfold kOld; omega), a 3 k (by unfold kOld; omega), a 4 k (by unfold kOld; omega)]
      exact z
    · exact s1 k (by omega) hk
  · intro k hk
    rw [n6] at hk
    exact (h2 k hk).ext hEE hOO a hk
  · intro k hk
    by_cases hko : k < xm_n S 1 3
    · exact (h3 k hko).ext hEE hOO a hko
    · exact s3 k (by omega) hk
  · intro k hk
    rw [n8] at hk
    have z := h4 k hk
    unfold kf at z ⊢
    simp only [(E1 4 k _ (by decide) (by omega)).1, (E1 4 k _ (by decide) (by omega)).2, n8, a 24 k (by unfold kOld; omega), a 25 k (by unfold kOld; omega), a 26 k (by unfold kOld; omega), a 27 k (by unfold kOld; omega), a 28 k (by unfold kOld; omega), a 29 k (by unfold kOld; omega)]
    obtain ⟨z1, z2, z3, z4, z5, z6, z7, z8, z9, z10, z11, z12⟩ := z
    exact ⟨z1, z2, z3, z4, z5, z6, z7, fun g hg => Nat.lt_of_lt_of_le (z8 g hg) m3, fun s hs => Nat.lt_of_lt_of_le (z9 s hs) m0, z10, z11, z12⟩
  · intro k hk
    rw [n9] at hk
    have z := h5 k hk
    unfold ke at z ⊢
    simp only [(E1 3 k _ (by decide) (by omega)).1, (E1 3 k _ (by decide) (by omega)).2, n5, a 18 k (by unfold kOld; omega), a 19 k (by unfold kOld; omega), a 20 k (by unfold kOld; omega), a 21 k (by unfold kOld; omega), a 22 k (by unfold kOld; omega)]
    obtain ⟨⟨s, y1, y2, y3⟩, ⟨o, y4, y5, y6, y7⟩, z3, z4⟩ := z
    exact ⟨⟨s, y1, Nat.lt_of_lt_of_le y2 m0, y3⟩, ⟨o, y4, y5, y6, by rw [(E1 6 o 5 (by decide) (by omega)).1]; exact y7⟩, z3, z4⟩
  · intro k hk
    rw [n5] at hk
    have z := h6 k hk
    unfold ko at z ⊢
    simp only [(E1 6 k _ (by decide) (by omega)).1, (E1 6 k _ (by decide) (by omega)).2, n4, a 51 k (by unfold kOld; omega), a 52 k (by unfold kOld; omega), a 53 k (by unfold kOld; omega), a 54 k (by unfold kOld; omega), a 55 k (by unfold kOld; omega)]
    obtain ⟨z1, z2, ⟨s, y1, y2, y3⟩, z4⟩ := z
    exact ⟨z1, z2, ⟨s, y1, Nat.lt_of_lt_of_le y2 m0, y3⟩, z4⟩
  · intro k hk
    by_cases hko : k < xm_n S 1 10
    · have z := h7 k hko
      unfold kp at z ⊢
      simp only [(E1 7 k _ (by decide) (by omega)).1, (E1 7 k _ (by decide) (by omega)).2, n4, a 90 k (by unfold kOld; omega), a 91 k (by unfold kOld; omega), a 92 k (by unfold kOld; omega), a 93 k (by unfold kOld; omega), a 94 k (by unfold kOld; omega), a 95 k (by unfold kOld; omega), a 96 k (by unfold kOld; omega), a 98 k (by unfold kOld; omega), a 99 k (by unfold kOld; omega), a 100 k (by unfold kOld; omega), a 101 k (by unfold kOld; omega), a 102 k (by unfold kOld; omega)]
      obtain ⟨z1, ⟨s, y1, y2, y3⟩, z3⟩ := z
      exact ⟨z1, ⟨s, y1, Nat.lt_of_lt_of_le y2 m0, y3⟩, z3⟩
    · exact s7 k (by omega) hk
  · intro k hk
    by_cases hko : k < xm_n S 1 11
    · have z := h8 k hko
      unfold ka at z ⊢
      simp only [(E1 1 k _ (by decide) (by omega)).1, a 104 k (by unfold kOld; omega), a 105 k (by unfold kOld; omega), a 106 k (by unfold kOld; omega), a 107 k (by unfold kOld; omega), a 108 k (by unfold kOld; omega), a 109 k (by unfold kOld; omega)]
      obtain ⟨z1, z2, z3, z4, z5, z6, z7, z8, z9, z10, z11⟩ := z
      exact ⟨z1, z2, z3, z4, z5, z6, z7, fun w => ⟨_, (z8 w).choose_spec.1, Nat.lt_of_lt_of_le (z8 w).choose_spec.2 m3⟩, fun w => ⟨_, (z9 w).choose_spec.1, Nat.lt_of_lt_of_le (z9 w).choose_spec.2 m0⟩, fun w => ⟨_, (z10 w).choose_spec.1, Nat.lt_of_lt_of_le (z10 w).choose_spec.2 m3⟩, z11⟩
    · exact s8 k (by omega) hk
  · obtain ⟨q, y1, y2, y3, y4, y5, y6⟩ := h9
    have e1 := (Lq q y2 y3).1
    refine ⟨q, ?_, y2, by omega, by rw [e1]; exact y4, ?_, fun i hi => ?_⟩
    · rw [n4, (E1 10 (xm_n S 1 4) 0 (by decide) (by omega)).2]; exact y1
    · rw [e1, a 48 10 (by unfold kOld; omega)]; exact y5
    · rw [e1] at hi
      obtain ⟨g, w1, w2, w3⟩ := y6 i hi
      exact ⟨g, by rw [(Lq q y2 y3).2]; exact w1, by omega, by rw [a 49 (50 + i) (by unfold kOld; omega)]; exact w3⟩
  · intro k hk
    rw [n4] at hk
    obtain ⟨q, y1, y2, y3, y4, y5, y6⟩ := h10 k hk
    have e1 := (Lq q y2 y3).1
    refine ⟨q, ?_, y2, by omega, by rw [e1]; exact y4, ?_, fun i hi => ?_⟩
    · rw [(E1 10 k 0 (by decide) (by omega)).2]; exact y1
    · rw [e1, a 48 k (by unfold kOld; omega)]; exact y5
    · rw [e1] at hi
      obtain ⟨g, w1, w2, w3⟩ := y6 i hi
      exact ⟨g, by rw [(Lq q y2 y3).2]; exact w1, by omega, by rw [a 49 (5 * k + i) (by unfold kOld; omega)]; exact w3⟩
  · intro k hk
    by_cases hko : k < xm_n S 1 1
    · obtain ⟨e, y1, y2, ⟨s, y3, y4, y5⟩, y6, y7, y8, y9⟩ := h11 k hko
      refine ⟨e, by rw [Ll 1 k (by decide) hko]; exact y1, by omega, ⟨s, ?_, Nat.lt_of_lt_of_le y4 m0, ?_⟩, ?_, ?_, ?_, ?_⟩
      · rw [(E1 8 e 0 (by decide) y2).2]; exact y3
      · rw [a 6 k (by unfold kOld; omega)]; exact y5
      · rw [(E1 8 e 1 (by decide) y2).1, a 7 k (by unfold kOld; omega)]; exact y6
      · rw [(E1 8 e 2 (by decide) y2).1, a 8 k (by unfold kOld; omega)]; exact y7
      · rw [(E1 8 e 3 (by decide) y2).1, a 9 k (by unfold kOld; omega)]; exact y8
      · rw [(E1 8 e 4 (by decide) y2).1, a 10 k (by unfold kOld; omega)]; exact y9
    · exact s11 k (by omega) hk
  · intro k hk
    by_cases hko : k < xm_n S 1 2
    · obtain ⟨e, y1, y2, ⟨s, y3, y4, y5⟩, y6, y7, y8, y9⟩ := h12 k hko
      refine ⟨e, by rw [Ll 2 k (by decide) hko]; exact y1, by omega, ⟨s, ?_, Nat.lt_of_lt_of_le y4 m0, ?_⟩, ?_, ?_, ?_, ?_⟩
      · rw [(E1 8 e 0 (by decide) y2).2]; exact y3
      · rw [a 12 k (by unfold kOld; omega)]; exact y5
      · rw [(E1 8 e 1 (by decide) y2).1, a 13 k (by unfold kOld; omega)]; exact y6
      · rw [(E1 8 e 2 (by decide) y2).1, a 14 k (by unfold kOld; omega)]; exact y7
      · rw [(E1 8 e 3 (by decide) y2).1, a 15 k (by unfold kOld; omega)]; exact y8
      · rw [(E1 8 e 4 (by decide) y2).1, a 16 k (by unfold kOld; omega)]; exact y9
    · exact s12 k (by omega) hk
end
