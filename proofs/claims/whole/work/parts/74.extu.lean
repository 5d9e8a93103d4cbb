/-! ===== THE ROW OF GUARDS CHANGES: all else stays (printed by wip/whole/gen74.py out of 67-69) ===== -/
/-! ===== SOMETHING IS ADDED that no call knows: all old things stay (printed by wip/whole/gen67.py) ===== -/
section
/-- a place of the reference's state that is in use -/
def kOlu (S : xm_S) (x k : Nat) : Prop := (2 ≤ x ∧ x ≤ 4 → k < xm_n S 1 0) ∧ (6 ≤ x ∧ x ≤ 10 → k < xm_n S 1 1) ∧ (12 ≤ x ∧ x ≤ 16 → k < xm_n S 1 2) ∧ (31 ≤ x ∧ x ≤ 42 → k < xm_n S 1 3) ∧ (x = 45 → k < 8 * xm_n S 1 3) ∧ (90 ≤ x ∧ x ≤ 102 → k < xm_n S 1 10) ∧ (104 ≤ x ∧ x ≤ 109 → k < xm_n S 1 11) ∧ x ≠ 47 ∧ (x = 48 → k < xm_n S 1 4) ∧ (x = 49 → k < 5 * xm_n S 1 4) ∧ x ≠ 1 ∧ x ≠ 5 ∧ x ≠ 11 ∧ x ≠ 30 ∧ x ≠ 89 ∧ x ≠ 103
/-- old objects and lists stay; towers, orders, calls, failures, effects are as many as before -/
def kExu (S S' : xm_S) : Prop := (∀ p q j, 1 ≤ p ∧ p ≤ 15 → q < xm_n S 0 p → xm_i S' p q j = xm_i S p q j ∧ xm_r S' p q j = xm_r S p q j) ∧ (xm_n S 1 0 ≤ xm_n S' 1 0 ∧ xm_n S 1 1 ≤ xm_n S' 1 1 ∧ xm_n S 1 2 ≤ xm_n S' 1 2 ∧ xm_n S 1 3 ≤ xm_n S' 1 3 ∧ xm_n S 1 10 ≤ xm_n S' 1 10 ∧ xm_n S 1 11 ≤ xm_n S' 1 11) ∧ (xm_n S 1 4 ≤ xm_n S' 1 4 ∧ xm_n S' 1 5 = xm_n S 1 5 ∧ xm_n S' 1 6 = xm_n S 1 6 ∧ xm_n S' 1 7 = xm_n S 1 7 ∧ xm_n S' 1 8 = xm_n S 1 8 ∧ xm_n S' 1 9 = xm_n S 1 9) ∧ (∀ q, 12 ≤ q → q < xm_n S 0 12 → xm_r S 10 (xm_n S 1 4) 0 ≠ some q → xm_n S' 1 q = xm_n S 1 q ∧ ∀ i, xm_l S' q i = xm_l S q i) ∧ (∀ q i, q < 12 → i < xm_n S 1 q → xm_l S' q i = xm_l S q i) ∧ (∀ g, g < xm_n S 1 3 → xm_n S' 25 g = xm_n S 25 g) ∧ xm_n S 0 12 ≤ xm_n S' 0 12 ∧ (∀ k j, xm_i S' 16 k j = xm_i S 16 k j) ∧ (∀ k, xm_n S' 26 k = xm_n S 26 k) ∧ xm_n S 0 8 ≤ xm_n S' 0 8
theorem kc.exu {S S' : xm_S} {A A' : y_A} (hE : kExu S S') (hO : k_obj S) (a : ∀ x k, kOlu S x k → A' x k = A x k) {k : Nat} (hk : k < xm_n S 1 6) (z : kc S A k) : kc S' A' k := by
  obtain ⟨E1, ⟨m0, m1, m2, m3, m10, m11⟩, ⟨n4, n5, n6, n7, n8, n9⟩, -⟩ := hE
  have I := fun j => (E1 2 k j (by decide) (by rw [hO.2.2.2.2.1]; exact hk)).1
  have R := fun j => (E1 2 k j (by decide) (by rw [hO.2.2.2.2.1]; exact hk)).2
  unfold kc at z ⊢
  simp only [I, R, n5, n8, a 62 k (by unfold kOlu; omega), a 63 k (by unfold kOlu; omega), a 64 k (by unfold kOlu; omega), a 65 k (by unfold kOlu; omega), a 66 k (by unfold kOlu; omega), a 67 k (by unfold kOlu; omega), a 68 k (by unfold kOlu; omega), a 69 k (by unfold kOlu; omega), a 70 k (by unfold kOlu; omega), a 71 k (by unfold kOlu; omega), a 72 k (by unfold kOlu; omega), a 73 k (by unfold kOlu; omega), a 74 k (by unfold kOlu; omega), a 75 k (by unfold kOlu; omega), a 76 k (by unfold kOlu; omega), a 77 k (by unfold kOlu; omega), a 78 k (by unfold kOlu; omega), a 79 k (by unfold kOlu; omega)]
  obtain ⟨z1, z2, z3, z4, z5, z6, z7, z8, z9, z10, z11, z12, z13, z14, z15, z16, z17, z18, z19, z20, z21, z22, z23, z24, z25, z26, z27, z28⟩ := z
  exact ⟨z1, z2, z3, z4, z5, z6, z7, z8, z9, z10, z11, z12, z13, z14, z15, z16, z17, z18, z19, z20, z21, z22, z23, fun g hg => Nat.lt_of_lt_of_le (z24 g hg) m3, fun s hs => Nat.lt_of_lt_of_le (z25 s hs) m0, z26, z27, z28⟩
theorem kg.exu {S S' : xm_S} {A A' : y_A} (hE : kExu S S') (hO : k_obj S) (hw : k_own S) (a : ∀ x k, kOlu S x k → A' x k = A x k) {k : Nat} (hk : k < xm_n S 1 3) (z : kg S A k) : kg S' A' k := by
  obtain ⟨E1, ⟨m0, m1, m2, m3, m10, m11⟩, ⟨n4, n5, n6, n7, n8, n9⟩, Lq, Ll, n25, n12, -⟩ := hE
  have I := fun j => (E1 5 k j (by decide) (by rw [hO.2.1]; exact hk)).1
  have R := fun j => (E1 5 k j (by decide) (by rw [hO.2.1]; exact hk)).2
  have R15 := fun j => (E1 15 k j (by decide) (by rw [hO.2.2.2.2.2.2.2.2.2.1]; exact hk)).2
  unfold kg at z ⊢
  simp only [I, R, R15, n6, n25 k hk, a 31 k (by unfold kOlu; omega), a 32 k (by unfold kOlu; omega), a 33 k (by unfold kOlu; omega), a 34 k (by unfold kOlu; omega), a 35 k (by unfold kOlu; omega), a 36 k (by unfold kOlu; omega), a 37 k (by unfold kOlu; omega), a 38 k (by unfold kOlu; omega), a 39 k (by unfold kOlu; omega), a 40 k (by unfold kOlu; omega), a 41 k (by unfold kOlu; omega), a 42 k (by unfold kOlu; omega)]
  obtain ⟨z1, z2, z3, z4, z5, z6, z7, z8, z9, z10, z11, z12, ⟨q, y1, y2, y3, y4, y5, y6⟩, z14, z15, z16⟩ := z
  have hne : xm_r S 10 (xm_n S 1 4) 0 ≠ some q := fun z => hw.2.2 k (xm_n S 1 4) q hk (Nat.le_refl _) y1 z
  refine ⟨z1, z2, z3, z4, z5, z6, z7, z8, z9, z10, z11, z12, ⟨q, y1, y2, by omega, ?_, ?_, ?_⟩, z14, z15, ?_⟩
  · rw [(Lq q y2 y3 hne).1]; exact y4
  · rw [(Lq q y2 y3 hne).1]; exact y5
  · intro i hi
    rw [(Lq q y2 y3 hne).1] at hi
    obtain ⟨c, w1, w2, w3⟩ := y6 i hi
    exact ⟨c, by rw [(Lq q y2 y3 hne).2]; exact w1, w2, by rw [a 43 (10 * k + i) (by unfold kOlu; omega)]; exact w3⟩
  · intro s hs
    rw [a 45 (8 * k + s) (by unfold kOlu; omega), a 44 (8 * k + s) (by unfold kOlu; omega), a 46 (8 * k + s) (by unfold kOlu; omega)]
    rcases z16 s hs with w | ⟨c, w1, w2, w3, w4⟩
    · exact Or.inl w
    · refine Or.inr ⟨c, w1, w2, ?_⟩
      rw [a 69 c (by unfold kOlu; omega), a 70 c (by unfold kOlu; omega), a 68 c (by unfold kOlu; omega), a 71 c (by unfold kOlu; omega)]
      exact ⟨w3, w4⟩
/-- what no call knows is added: the calls' and guards' equations, orders, failures, effects, towers stay -/
theorem kE.exu {S S' : xm_S} {A A' : y_A} (hE : kExu S S') (hO : k_obj S) (hw : k_own S) (a : ∀ x k, kOlu S x k → A' x k = A x k) (h : kE S A) (hC' : xk_C S') (hcnt' : k_cnt S' A') (hb' : k_bnd S') (hl' : k_lst S') (ht' : k_top S' A')
    (s1 : ∀ k, xm_n S 1 0 ≤ k → k < xm_n S' 1 0 → ks S' A' k) (s3 : ∀ k, xm_n S 1 3 ≤ k → k < xm_n S' 1 3 → kg S' A' k) (s7 : ∀ k, xm_n S 1 10 ≤ k → k < xm_n S' 1 10 → kp S' A' k) (s8 : ∀ k, xm_n S 1 11 ≤ k → k < xm_n S' 1 11 → ka S' A' k) (s11 : ∀ k, xm_n S 1 1 ≤ k → k < xm_n S' 1 1 → kw S' A' 1 6 k) (s12 : ∀ k, xm_n S 1 2 ≤ k → k < xm_n S' 1 2 → kw S' A' 2 12 k) (s9 : kt S' A' (xm_n S' 1 4) 10 50) (s10 : ∀ t, xm_n S 1 4 ≤ t → t < xm_n S' 1 4 → kt S' A' t t (5 * t)) : kE S' A' := by
  have hEE := hE
  obtain ⟨E1, ⟨m0, m1, m2, m3, m10, m11⟩, ⟨n4, n5, n6, n7, n8, n9⟩, Lq, Ll, n25, n12, -, -, nn8⟩ := hE
  obtain ⟨hC, hcnt, hb, hl, ht, hv, h1, h2, h3, h4, h5, h6, h7, h8, h9, h10, h11, h12⟩ := h
  have hOO := hO
  obtain ⟨o9, o5, o10, o6, o2, o4, o3, o7, o1, o15, o8, o12, -⟩ := hO
  have old : ∀ {n m k : Nat}, k < m → ¬ k < n → n ≤ k := fun _ h => Nat.le_of_not_lt h
  refine ⟨hC', hcnt', hb', hl', ht', ?_, ?_, ?_, ?_, ?_, ?_, ?_, ?_, ?_, ?_, ?_, ?_, ?_⟩
  · unfold k_live at hv ⊢
    rw [n6, n7]
    have hb7 := hb
    unfold k_bnd at hb7
    refine ⟨fun i hi => ?_, fun i j c e hij hj w1 w2 => ?_, fun c hc w => ?_⟩
    · rw [Ll 7 i (by decide) hi]; exact hv.1 i hi
    · rw [Ll 7 i (by decide) (by omega)] at w1; rw [Ll 7 j (by decide) hj] at w2; exact hv.2.1 i j c e hij hj w1 w2
    · rw [(E1 2 c 8 (by decide) (by omega)).1] at w
      obtain ⟨i, w1, w2⟩ := hv.2.2 c hc w
      exact ⟨i, w1, by rw [Ll 7 i (by decide) w1]; exact w2⟩
  · intro k hk
    by_cases hko : k < xm_n S 1 0
    · have z := h1 k hko
      unfold ks at z ⊢
      simp only [(E1 9 k _ (by decide) (by omega)).1, a 2 k (by unfold kOlu; omega), a 3 k (by unfold kOlu; omega), a 4 k (by unfold kOlu; omega)]
      exact z
    · exact s1 k (by omega) hk
  · intro k hk
    rw [n6] at hk
    exact (h2 k hk).exu hEE hOO a hk
  · intro k hk
    by_cases hko : k < xm_n S 1 3
    · exact (h3 k hko).exu hEE hOO hw a hko
    · exact s3 k (by omega) hk
  · intro k hk
    rw [n8] at hk
    have z := h4 k hk
    unfold kf at z ⊢
    simp only [(E1 4 k _ (by decide) (by omega)).1, (E1 4 k _ (by decide) (by omega)).2, n8, a 24 k (by unfold kOlu; omega), a 25 k (by unfold kOlu; omega), a 26 k (by unfold kOlu; omega), a 27 k (by unfold kOlu; omega), a 28 k (by unfold kOlu; omega), a 29 k (by unfold kOlu; omega)]
    obtain ⟨z1, z2, z3, z4, z5, z6, z7, z8, z9, z10, z11, z12⟩ := z
    exact ⟨z1, z2, z3, z4, z5, z6, z7, fun g hg => Nat.lt_of_lt_of_le (z8 g hg) m3, fun s hs => Nat.lt_of_lt_of_le (z9 s hs) m0, z10, z11, z12⟩
  · intro k hk
    rw [n9] at hk
    have z := h5 k hk
    unfold ke at z ⊢
    simp only [(E1 3 k _ (by decide) (by omega)).1, (E1 3 k _ (by decide) (by omega)).2, n5, a 18 k (by unfold kOlu; omega), a 19 k (by unfold kOlu; omega), a 20 k (by unfold kOlu; omega), a 21 k (by unfold kOlu; omega), a 22 k (by unfold kOlu; omega)]
    obtain ⟨⟨s, y1, y2, y3⟩, ⟨o, y4, y5, y6, y7⟩, z3, z4⟩ := z
    exact ⟨⟨s, y1, Nat.lt_of_lt_of_le y2 m0, y3⟩, ⟨o, y4, y5, y6, by rw [(E1 6 o 5 (by decide) (by omega)).1]; exact y7⟩, z3, z4⟩
  · intro k hk
    rw [n5] at hk
    have z := h6 k hk
    unfold ko at z ⊢
    simp only [(E1 6 k _ (by decide) (by omega)).1, (E1 6 k _ (by decide) (by omega)).2, a 51 k (by unfold kOlu; omega), a 52 k (by unfold kOlu; omega), a 53 k (by unfold kOlu; omega), a 54 k (by unfold kOlu; omega), a 55 k (by unfold kOlu; omega)]
    obtain ⟨z1, ⟨t, u1, u2, u3⟩, ⟨s, y1, y2, y3⟩, z4⟩ := z
    exact ⟨z1, ⟨t, u1, Nat.lt_of_lt_of_le u2 n4, u3⟩, ⟨s, y1, Nat.lt_of_lt_of_le y2 m0, y3⟩, z4⟩
  · intro k hk
    by_cases hko : k < xm_n S 1 10
    · have z := h7 k hko
      unfold kp at z ⊢
      simp only [(E1 7 k _ (by decide) (by omega)).1, (E1 7 k _ (by decide) (by omega)).2, a 90 k (by unfold kOlu; omega), a 91 k (by unfold kOlu; omega), a 92 k (by unfold kOlu; omega), a 93 k (by unfold kOlu; omega), a 94 k (by unfold kOlu; omega), a 95 k (by unfold kOlu; omega), a 96 k (by unfold kOlu; omega), a 98 k (by unfold kOlu; omega), a 99 k (by unfold kOlu; omega), a 100 k (by unfold kOlu; omega), a 101 k (by unfold kOlu; omega), a 102 k (by unfold kOlu; omega)]
      obtain ⟨⟨t, u1, u2, u3⟩, ⟨s, y1, y2, y3⟩, z3⟩ := z
      exact ⟨⟨t, u1, Nat.lt_of_lt_of_le u2 n4, u3⟩, ⟨s, y1, Nat.lt_of_lt_of_le y2 m0, y3⟩, z3⟩
    · exact s7 k (by omega) hk
  · intro k hk
    by_cases hko : k < xm_n S 1 11
    · have z := h8 k hko
      unfold ka at z ⊢
      simp only [(E1 1 k _ (by decide) (by omega)).1, a 104 k (by unfold kOlu; omega), a 105 k (by unfold kOlu; omega), a 106 k (by unfold kOlu; omega), a 107 k (by unfold kOlu; omega), a 108 k (by unfold kOlu; omega), a 109 k (by unfold kOlu; omega)]
      obtain ⟨z1, z2, z3, z4, z5, z6, z7, z8, z9, z10, z11⟩ := z
      exact ⟨z1, z2, z3, z4, z5, z6, z7, fun w => ⟨_, (z8 w).choose_spec.1, Nat.lt_of_lt_of_le (z8 w).choose_spec.2 m3⟩, fun w => ⟨_, (z9 w).choose_spec.1, Nat.lt_of_lt_of_le (z9 w).choose_spec.2 m0⟩, fun w => ⟨_, (z10 w).choose_spec.1, Nat.lt_of_lt_of_le (z10 w).choose_spec.2 m3⟩, z11⟩
    · exact s8 k (by omega) hk
  · exact s9
  · intro k hk
    by_cases hko : k < xm_n S 1 4
    case neg => exact s10 k (by omega) hk
    obtain ⟨q, y1, y2, y3, y4, y5, y6⟩ := h10 k hko
    have hne : xm_r S 10 (xm_n S 1 4) 0 ≠ some q := fun z => absurd (hw.2.1 k (xm_n S 1 4) q (by omega) (Nat.le_refl _) y1 z) (by omega)
    have e1 := (Lq q y2 y3 hne).1
    refine ⟨q, ?_, y2, by omega, by rw [e1]; exact y4, ?_, fun i hi => ?_⟩
    · rw [(E1 10 k 0 (by decide) (by omega)).2]; exact y1
    · rw [e1, a 48 k (by unfold kOlu; omega)]; exact y5
    · rw [e1] at hi
      obtain ⟨g, w1, w2, w3⟩ := y6 i hi
      exact ⟨g, by rw [(Lq q y2 y3 hne).2]; exact w1, by omega, by rw [a 49 (5 * k + i) (by unfold kOlu; omega)]; exact w3⟩
  · intro k hk
    by_cases hko : k < xm_n S 1 1
    · obtain ⟨e, y1, y2, ⟨s, y3, y4, y5⟩, y6, y7, y8, y9⟩ := h11 k hko
      refine ⟨e, by rw [Ll 1 k (by decide) hko]; exact y1, by omega, ⟨s, ?_, Nat.lt_of_lt_of_le y4 m0, ?_⟩, ?_, ?_, ?_, ?_⟩
      · rw [(E1 8 e 0 (by decide) y2).2]; exact y3
      · rw [a 6 k (by unfold kOlu; omega)]; exact y5
      · rw [(E1 8 e 1 (by decide) y2).1, a 7 k (by unfold kOlu; omega)]; exact y6
      · rw [(E1 8 e 2 (by decide) y2).1, a 8 k (by unfold kOlu; omega)]; exact y7
      · rw [(E1 8 e 3 (by decide) y2).1, a 9 k (by unfold kOlu; omega)]; exact y8
      · rw [(E1 8 e 4 (by decide) y2).1, a 10 k (by unfold kOlu; omega)]; exact y9
    · exact s11 k (by omega) hk
  · intro k hk
    by_cases hko : k < xm_n S 1 2
    · obtain ⟨e, y1, y2, ⟨s, y3, y4, y5⟩, y6, y7, y8, y9⟩ := h12 k hko
      refine ⟨e, by rw [Ll 2 k (by decide) hko]; exact y1, by omega, ⟨s, ?_, Nat.lt_of_lt_of_le y4 m0, ?_⟩, ?_, ?_, ?_, ?_⟩
      · rw [(E1 8 e 0 (by decide) y2).2]; exact y3
      · rw [a 12 k (by unfold kOlu; omega)]; exact y5
      · rw [(E1 8 e 1 (by decide) y2).1, a 13 k (by unfold kOlu; omega)]; exact y6
      · rw [(E1 8 e 2 (by decide) y2).1, a 14 k (by unfold kOlu; omega)]; exact y7
      · rw [(E1 8 e 3 (by decide) y2).1, a 15 k (by unfold kOlu; omega)]; exact y8
      · rw [(E1 8 e 4 (by decide) y2).1, a 16 k (by unfold kOlu; omega)]; exact y9
    · exact s12 k (by omega) hk
end
section
theorem k_po.exu {S S' : xm_S} {A : y_A} (hE : kExu S S') (hO : k_obj S) (hw : k_own S) (h : kE S A) {k : Nat} (hk : k < xm_n S 1 6) : k_po S' k = k_po S k := by
  obtain ⟨E1, -, ⟨n4, n5, n6, -⟩, Lq, -⟩ := hE
  obtain ⟨hC, hcnt, hb, hl, ht, hv, h1, h2, h3, h4, h5, h6, h7, h8, h9, h10, h11, h12⟩ := h
  obtain ⟨o9, o5, o10, o6, o2, o4, o3, o7, o1, o15, o8, o12, -⟩ := hO
  obtain ⟨o, w1, w2, -⟩ := (h2 k hk).2.2.2.2.2.2.2.2.2.1
  have wg := (h2 k hk).2.2.2.2.2.2.2.2.2.2.2.2.2.2.2.2.2.2.2.2.2.2.2.1
  obtain ⟨t, u1, u2, -⟩ := (h6 o w2).2.1
  obtain ⟨q, y1, y2, y3, y4, y5, y6⟩ := h10 t u2
  have I2 := fun j => (E1 2 k j (by decide) (by omega)).1
  have R2 := fun j => (E1 2 k j (by decide) (by omega)).2
  have R6 := (E1 6 o 1 (by decide) (by omega)).2
  have R10 := (E1 10 t 0 (by decide) (by omega)).2
  have hne : xm_r S 10 (xm_n S 1 4) 0 ≠ some q := fun z => absurd (hw.2.1 t (xm_n S 1 4) q (by omega) (Nat.le_refl _) y1 z) (by omega)
  unfold k_po
  simp only [R2, I2, w1]
  rcases hg : xm_r S 2 k 4 with _ | g
  · rfl
  · have hgn := wg g hg
    have I5 := fun j => (E1 5 g j (by decide) (by omega)).1
    simp only [R6, u1, R10, y1, (Lq q y2 y3 hne).1]
    have hm : k_mul S' g = k_mul S g := by
      unfold k_mul
      rw [I5, I5]
    rw [hm, I5]
    rw [k_cp_rng (S := S) (S' := S') q _ _ (fun i hi1 hi2 => by
      obtain ⟨e, f1, f2, -⟩ := y6 i (by omega)
      rw [f1]
      exact ⟨((Lq q y2 y3 hne).2 i).trans f1, (E1 5 e 1 (by decide) (by omega)).1, (E1 5 e 2 (by decide) (by omega)).1⟩)]
theorem kI.exu {S S' : xm_S} {A A' : y_A} {X E B : Nat → Prop} {hb' rb nb t w e1 e2 : Nat} (hE : kExu S S') (a : ∀ x k, kOlu S x k → A' x k = A x k) (h : kE S A) (i : kI S A X E B hb' rb nb t w e1 e2) (dst : k_dst S') (own : k_own S') (obj : k_obj S') (cap : k_cap S') (pln : k_pln S' A' t nb) (hi0 : xm_i S' 0 0 15 = xm_i S 0 0 15)
    (ng : ∀ g, xm_n S 1 3 ≤ g → g < xm_n S' 1 3 → xm_r S' 5 g 9 = none ∧ ∀ q, xm_r S' 5 g 12 = some q → xm_n S' 1 q = 0) : kI S' A' X E B hb' rb nb t w e1 e2 := by
  have hEE := hE
  have hh := h
  obtain ⟨j1, j2, j3, j4, j5, j6, j7, j8, j9, j10, j11, j12, j13, j14, j15, j16, j17, j18⟩ := i
  have hO := j4
  have hw := j3
  obtain ⟨E1, ⟨m0, m1, m2, m3, m10, m11⟩, ⟨n4, n5, n6, n7, n8, n9⟩, Lq, Ll, n25, n12, -, -, nn8⟩ := hE
  obtain ⟨hC, hcnt, hb, hl, ht, hv, h1, h2, h3, h4, h5, h6, h7, h8, h9, h10, h11, h12⟩ := h
  obtain ⟨o9, o5, o10, o6, o2, o4, o3, o7, o1, o15, o8, o12, -⟩ := j4
  have I2 : ∀ k, k < xm_n S 1 6 → ∀ j, xm_i S' 2 k j = xm_i S 2 k j := fun k hk j => (E1 2 k j (by decide) (by omega)).1
  have R2 : ∀ k, k < xm_n S 1 6 → ∀ j, xm_r S' 2 k j = xm_r S 2 k j := fun k hk j => (E1 2 k j (by decide) (by omega)).2
  have I5 : ∀ k, k < xm_n S 1 3 → ∀ j, xm_i S' 5 k j = xm_i S 5 k j := fun k hk j => (E1 5 k j (by decide) (by omega)).1
  have R5 : ∀ k, k < xm_n S 1 3 → ∀ j, xm_r S' 5 k j = xm_r S 5 k j := fun k hk j => (E1 5 k j (by decide) (by omega)).2
  have I6 : ∀ k, k < xm_n S 1 5 → ∀ j, xm_i S' 6 k j = xm_i S 6 k j := fun k hk j => (E1 6 k j (by decide) (by omega)).1
  have R6 : ∀ k, k < xm_n S 1 5 → ∀ j, xm_r S' 6 k j = xm_r S 6 k j := fun k hk j => (E1 6 k j (by decide) (by omega)).2
  have R10 : ∀ k, k ≤ xm_n S 1 4 → xm_r S' 10 k 0 = xm_r S 10 k 0 := fun k hk => (E1 10 k 0 (by decide) (by omega)).2
  have gb : ∀ k, k < xm_n S 1 6 → ∀ g, xm_r S 2 k 4 = some g → g < xm_n S 1 3 := fun k hk => (h2 k hk).2.2.2.2.2.2.2.2.2.2.2.2.2.2.2.2.2.2.2.2.2.2.2.1
  have pb : ∀ k, k < xm_n S 1 6 → ∀ p, xm_r S 2 k 2 = some p → p < k := fun k hk => (h2 k hk).2.2.2.2.2.2.2.2.2.2.2.2.2.2.2.2.2.2.2.2.2.2.2.2.2.1
  have lb : ∀ k, k < xm_n S 1 6 → ∀ l, xm_r S 2 k 15 = some l → l < k := fun k hk => (h2 k hk).2.2.2.2.2.2.2.2.2.2.2.2.2.2.2.2.2.2.2.2.2.2.2.2.2.2.1
  have ob : ∀ k, k < xm_n S 1 6 → ∀ o, xm_r S 2 k 1 = some o → o < xm_n S 1 5 := fun k hk o ho => by
    obtain ⟨o', w1, w2, -⟩ := (h2 k hk).2.2.2.2.2.2.2.2.2.1
    rw [ho] at w1
    cases w1
    exact w2
  have tb : ∀ t, t < xm_n S 1 4 → ∀ q, xm_r S 10 t 0 = some q → 12 ≤ q ∧ q < xm_n S 0 12 ∧ xm_r S 10 (xm_n S 1 4) 0 ≠ some q := fun t ht q hq => by
    obtain ⟨q', y1, y2, y3, y4, y5, y6⟩ := h10 t ht
    rw [hq] at y1
    cases y1
    exact ⟨y2, y3, fun z => absurd (hw.2.1 t (xm_n S 1 4) q (by omega) (Nat.le_refl _) hq z) (by omega)⟩
  have ob1 : ∀ o, o < xm_n S 1 5 → ∀ t, xm_r S 6 o 1 = some t → t < xm_n S 1 4 := fun o ho t ht2 => by
    obtain ⟨t', u1, u2, -⟩ := (h6 o ho).2.1
    rw [ht2] at u1
    cases u1
    omega
  have act : ∀ k, k < xm_n S 1 6 → (k_act S' X k ↔ k_act S X k) := fun k hk => by
    unfold k_act
    rw [I2 k hk]
  have a0 : A' 0 0 = A 0 0 := a 0 0 (by unfold kOlu; omega)
  have lik : ∀ k e, k < xm_n S 1 6 → e < xm_n S 1 6 → (k_lik S' k e → k_lik S k e) ∧ (k_lik S k e → k_lik S' k e) := fun k e hk he => by
    constructor
    · rintro ⟨o, u, w1, w2, w3, w4, w5⟩
      rw [R2 k hk] at w1
      rw [R2 e he] at w2
      have ho := ob k hk o w1
      have hu := ob e he u w2
      rw [R6 o ho, R6 u hu] at w3
      rw [I6 o ho, I6 u hu] at w4 w5
      exact ⟨o, u, w1, w2, w3, w4, w5⟩
    · rintro ⟨o, u, w1, w2, w3, w4, w5⟩
      have ho := ob k hk o w1
      have hu := ob e he u w2
      refine ⟨o, u, (R2 k hk 1).trans w1, (R2 e he 1).trans w2, ?_, ?_, ?_⟩
      · rw [R6 o ho, R6 u hu]; exact w3
      · rw [I6 o ho, I6 u hu]; exact w4
      · rw [I6 o ho, I6 u hu]; exact w5
  have how : ∀ v, k_hows S' v = k_hows S v := fun v => by
    unfold k_hows
    rw [n6]
    exact xs_congr (fun i hi => by rw [I2 i hi])
  refine ⟨?_, dst, own, obj, cap, ?_, ?_, ?_, ?_, ?_, ?_, ?_, ?_, pln, ?_, j16, ?_, ?_⟩
  · intro k hk
    rw [n6] at hk
    obtain ⟨z1, z0, z2, e, z3, z4, z5⟩ := j1 k hk
    simp only [R2 k hk, I2 k hk]
    refine ⟨fun y => ⟨(z1 y).1, fun o ho => ?_⟩, z0, fun p hp => ?_, e, z3, z4, fun g o hg ho => ?_⟩
    · rw [R6 o (ob k hk o ho)]
      exact (z1 y).2 o ho
    · have hpk := pb k hk p hp
      rw [R2 p (by omega), R2 p (by omega), I2 p (by omega), I2 p (by omega)]
      exact z2 p hp
    · obtain ⟨t, q, y1, y2, y3, y4⟩ := z5 g o hg ho
      have hon := ob k hk o ho
      have htn := ob1 o hon t y1
      obtain ⟨q1, q2, q3⟩ := tb t htn q y2
      exact ⟨t, q, (R6 o hon 1).trans y1, (R10 t (by omega)).trans y2, by rw [(Lq q q1 q2 q3).1]; exact y3, by rw [(Lq q q1 q2 q3).2]; exact y4⟩
  · obtain ⟨z1, z2⟩ := j6
    refine ⟨fun p hp => ?_, fun c p hc hp => ?_⟩
    · rw [n6] at hp
      obtain ⟨y1, y2, n, y3, y4, y5, y6⟩ := z1 p hp
      simp only [R2 p hp, I2 p hp, n6]
      refine ⟨fun w c hc => ?_, fun c hc => ?_, n, y3, y4, y5, fun c hc => ?_⟩
      · rw [R2 c hc]; exact y1 w c hc
      · obtain ⟨x1, x2, x3⟩ := y2 c hc
        refine ⟨x1, by rw [R2 c x1]; exact x2, fun e he w => ?_⟩
        rw [R2 e he] at w
        exact x3 e he w
      · obtain ⟨x1, -, -⟩ := y2 c hc
        obtain ⟨v1, v2⟩ := y6 c hc
        rw [R2 c x1]
        refine ⟨v1, fun b hb2 => ?_⟩
        have hbc := ((z2 c p x1 (y2 c hc).2.1).2 b hb2).1
        rw [R2 b (by omega)]
        exact v2 b hb2
    · rw [n6] at hc
      rw [R2 c hc] at hp
      obtain ⟨y1, y2⟩ := z2 c p hc hp
      simp only [R2 c hc, n6]
      refine ⟨fun w e he x => ?_, fun b hb2 => ?_⟩
      · rw [R2 e he] at x
        exact y1 w e he x
      · obtain ⟨x1, x2, x3⟩ := y2 b hb2
        refine ⟨x1, by rw [R2 b (by omega)]; exact x2, fun e he x => ?_⟩
        rw [R2 e he] at x
        exact x3 e he x
  · intro k hk
    rw [n6] at hk
    obtain ⟨z1, z2, z3, z4, z5, z6⟩ := j7 k hk
    have s31 : ∀ g, xm_r S 2 k 4 = some g → A' 31 g = A 31 g := fun g hg => a 31 g (by have := gb k hk g hg; unfold kOlu; omega)
    simp only [R2 k hk, act k hk, a 75 k (by unfold kOlu; omega), a 76 k (by unfold kOlu; omega), a 77 k (by unfold kOlu; omega), a 78 k (by unfold kOlu; omega), a 79 k (by unfold kOlu; omega)]
    refine ⟨fun y => ?_, fun y => ?_, fun y => ?_, fun y => ?_, fun y => ?_, fun g hg y ye => ?_⟩
    · have q := z1 y
      unfold k_rest at q ⊢
      rw [I2 k hk, R2 k hk, a 75 k (by unfold kOlu; omega), a 76 k (by unfold kOlu; omega)]
      exact q
    · obtain ⟨g, x1, x2⟩ := z2 y
      exact ⟨g, x1, (s31 g x1).trans x2⟩
    · obtain ⟨g, x1, x2⟩ := z3 y
      exact ⟨g, x1, (s31 g x1).trans x2⟩
    · obtain ⟨g, x1, x2⟩ := z4 y
      exact ⟨g, x1, (s31 g x1).trans x2⟩
    · obtain ⟨g, x1, x2⟩ := z5 y
      exact ⟨g, x1, (s31 g x1).trans x2⟩
    · rw [s31 g hg, R5 g (gb k hk g hg)]
      exact z6 g hg y ye
  · intro g c hg hc
    by_cases hgo : g < xm_n S 1 3
    · rw [R5 g hgo] at hc
      obtain ⟨y1, y2, y3, y4, y5⟩ := j8 g c hgo hc
      rw [n6, act c y1, R2 c y1, a 79 c (by unfold kOlu; omega), a 36 g (by unfold kOlu; omega)]
      exact ⟨y1, y2, y3, y4, y5⟩
    · rw [(ng g (by omega) hg).1] at hc
      cases hc
  · intro g q hg hq
    by_cases hgo : g < xm_n S 1 3
    · rw [R5 g hgo] at hq
      obtain ⟨q', y1, y2, y3, -, -, yq⟩ := (h3 g hgo).2.2.2.2.2.2.2.2.2.2.2.2.1
      rw [hq] at y1
      cases y1
      have hne : xm_r S 10 (xm_n S 1 4) 0 ≠ some q := fun z => hw.2.2 g (xm_n S 1 4) q hgo (Nat.le_refl _) hq z
      obtain ⟨z1, z2, z3⟩ := j9 g q hgo hq
      simp only [(Lq q y2 y3 hne).1, (Lq q y2 y3 hne).2, n6]
      refine ⟨fun i c hi hc => ?_, z2, fun c hc x1 x2 x3 => ?_⟩
      · obtain ⟨x1, x2, x3, x4⟩ := z1 i c hi hc
        have hcn : c < xm_n S 1 6 := by
          obtain ⟨c', v1, v2, -⟩ := yq i hi
          rw [hc] at v1
          cases v1
          exact v2
        rw [act c hcn, R2 c hcn, I2 c hcn, a 75 c (by unfold kOlu; omega)]
        exact ⟨x1, x2, x3, x4⟩
      · rw [act c hc] at x1
        rw [R2 c hc] at x2
        rw [a 75 c (by unfold kOlu; omega)] at x3
        exact z3 c hc x1 x2 x3
    · have hz := (ng g (by omega) hg).2 q hq
      rw [hz, n6]
      refine ⟨fun i c hi => absurd hi (by omega), fun i j _ hj => absurd hj (by omega), fun c hc _ x2 _ => ?_⟩
      rw [R2 c hc] at x2
      have := gb c hc g x2
      omega
  · obtain ⟨z1, z2⟩ := j10
    refine ⟨fun k c hk hc hp => ?_, fun k g hk h0 hg => ?_⟩
    · rw [n6] at hc
      rw [R2 c hc] at hp
      rw [I2 c hc]
      exact z1 k c hk hc hp
    · rw [n6] at hk
      rw [I2 k hk] at h0
      rw [R2 k hk] at hg
      have hgn := gb k hk g hg
      obtain ⟨y1, y6, y2, y3, y4, y5⟩ := z2 k g hk h0 hg
      simp only [I2 k hk, R2 k hk, n6, a0, a 31 g (by unfold kOlu; omega), a 32 g (by unfold kOlu; omega), a 72 k (by unfold kOlu; omega), a 73 k (by unfold kOlu; omega), a 76 k (by unfold kOlu; omega)]
      refine ⟨fun x1 x0 x2 => ?_, fun x c hc hp hl2 => ?_, fun x => ?_, y3, y4, y5⟩
      · obtain ⟨v1, c, v2, v3⟩ := y1 x1 x0 x2
        have hcn := ((j6.1 k hk).2.1 c v2).1
        exact ⟨v1, c, v2, by rw [I2 c hcn]; exact v3⟩
      · rw [R2 c hc] at hp
        rw [I2 c hc]
        exact y6 x c hc hp hl2
      · obtain ⟨v2, v3⟩ := y2 x
        refine ⟨fun y => ⟨(v2 y).1, fun c hc => ?_⟩, v3⟩
        rw [I2 c ((j6.1 k hk).2.1 c hc).1]
        exact (v2 y).2 c hc
  · obtain ⟨z1, z0, z2⟩ := j11
    refine ⟨fun k e hk he x1 x2 x3 x4 x5 x6 => ?_, fun k g hk hg h8 => ?_, fun k l hk hl2 => ?_⟩
    · rw [n6] at hk he
      rw [I2 k hk] at x1 x3
      rw [I2 e he] at x2 x4
      rw [R2 k hk, R2 e he] at x5
      exact z1 k e hk he x1 x2 x3 x4 x5 ((lik k e hk he).1 x6)
    · rw [n6] at hk
      rw [R2 k hk] at hg
      rw [I5 g (gb k hk g hg)] at h8
      rw [I2 k hk, I2 k hk]
      exact z0 k g hk hg h8
    · rw [n6] at hk
      rw [R2 k hk] at hl2
      have hlk := lb k hk l hl2
      obtain ⟨y1, y2, y3, y4⟩ := z2 k l hk hl2
      rw [R2 k hk, R2 l (by omega), I2 l (by omega), I2 k hk, I2 k hk]
      exact ⟨y1, (lik k l hk (by omega)).2 y2, y3, y4⟩
  · obtain ⟨z1, z2, T, z3, z4, z5, z6⟩ := j12
    refine ⟨by rw [n8, how]; exact z1, by rw [n9, how]; exact z2, T, hi0.trans z3, by rw [how]; exact z4, by rw [how, a 82 0 (by unfold kOlu; omega)]; exact z5, fun k hk => ?_⟩
    rw [n6] at hk
    simp only [I2 k hk, R2 k hk]
    exact z6 k hk
  · unfold k_pot at j13 ⊢
    rw [n6, n5, xs_congr (fun i hi => k_po.exu hEE hO hw hh hi)]
    exact j13
  · rw [a0]; exact j15
  · intro k hk1 hk2
    rw [n6] at hk2
    rw [a0, a 72 k (by unfold kOlu; omega)]
    exact j17 k hk1 hk2
  · intro o ho
    rw [n5] at ho
    obtain ⟨f, y1, y2, y3, y4, y5, y6, y7, y8⟩ := j18 o ho
    refine ⟨f, (R6 o (by omega) 6).trans y1, by rw [n6]; exact y2, (R2 f y2 1).trans y3, (R2 f y2 2).trans y4, ?_, ?_, ?_, ?_⟩
    · rw [a 58 o (by unfold kOlu; omega), a 69 f (by unfold kOlu; omega), a 71 f (by unfold kOlu; omega)]; exact y5
    · rw [a 59 o (by unfold kOlu; omega), a 69 f (by unfold kOlu; omega), a 70 f (by unfold kOlu; omega)]; exact y6
    · rw [a 56 o (by unfold kOlu; omega), a 67 f (by unfold kOlu; omega)]; exact y7
    · rw [a 57 o (by unfold kOlu; omega), a 68 f (by unfold kOlu; omega)]; exact y8
end
section
theorem kK.exu {S S' : xm_S} {A A' : y_A} {t : Nat} (hE : kExu S S') (a : ∀ x k, kOlu S x k → A' x k = A x k) (h : kK S A t) (hC' : xk_C S') (hcnt' : k_cnt S' A') (hb' : k_bnd S') (hl' : k_lst S') (ht' : k_top S' A')
    (s1 : ∀ k, xm_n S 1 0 ≤ k → k < xm_n S' 1 0 → ks S' A' k) (s3 : ∀ k, xm_n S 1 3 ≤ k → k < xm_n S' 1 3 → kg S' A' k) (s7 : ∀ k, xm_n S 1 10 ≤ k → k < xm_n S' 1 10 → kp S' A' k) (s8 : ∀ k, xm_n S 1 11 ≤ k → k < xm_n S' 1 11 → ka S' A' k) (s11 : ∀ k, xm_n S 1 1 ≤ k → k < xm_n S' 1 1 → kw S' A' 1 6 k) (s12 : ∀ k, xm_n S 1 2 ≤ k → k < xm_n S' 1 2 → kw S' A' 2 12 k)
    (s9 : kt S' A' (xm_n S' 1 4) 10 50) (s10 : ∀ t, xm_n S 1 4 ≤ t → t < xm_n S' 1 4 → kt S' A' t t (5 * t)) (dst : k_dst S') (own : k_own S') (obj : k_obj S') (cap : k_cap S') (pln : k_pln S' A' t 5000) (hi0 : xm_i S' 0 0 15 = xm_i S 0 0 15)
    (ng : ∀ g, xm_n S 1 3 ≤ g → g < xm_n S' 1 3 → xm_r S' 5 g 9 = none ∧ ∀ q, xm_r S' 5 g 12 = some q → xm_n S' 1 q = 0) (gr : ∀ g, xm_n S 1 3 ≤ g → g < xm_n S' 1 3 → kgr S' A' g) : kK S' A' t := by
  obtain ⟨⟨⟨hK, ho, hr⟩, hS, hgr⟩, hI⟩ := h
  have hO := hI.2.2.2.1
  have e1 := hK.exu hE hO hI.2.2.1 a hC' hcnt' hb' hl' ht' s1 s3 s7 s8 s11 s12 s9 s10
  have e2 := hI.exu hE a hK dst own obj cap pln hi0 ng
  obtain ⟨-, ⟨m0, m1, m2, m3, m10, m11⟩, -, -, -, -, -, st16, st26, -⟩ := hE
  refine ⟨⟨⟨e1, fun o hoo => ?_, fun k hk h0 => ?_⟩, fun k hk => ⟨(st26 k).trans (hS k hk).1, fun j hj => (st16 k j).trans ((hS k hk).2 j hj)⟩, fun g hg => ?_⟩, e2⟩
  · exact e2.2.2.2.2.2.2.2.2.2.2.2.2.2.2.2.2.2 o (by omega)
  · refine (e2.2.2.2.2.2.2.1 k hk).1 (Or.inl ?_)
    rw [(e1.2.2.2.2.2.2.2.1 k hk).2.2.2.2.1]
    exact h0
  · by_cases hgo : g < xm_n S 1 3
    · have z := hgr g hgo
      unfold kgr at z ⊢
      simp only [a 31 g (by unfold kOlu; omega), a 32 g (by unfold kOlu; omega), a 33 g (by unfold kOlu; omega), a 34 g (by unfold kOlu; omega), a 35 g (by unfold kOlu; omega), a 42 g (by unfold kOlu; omega)]
      obtain ⟨z1, z2, z3, z4, z5⟩ := z
      refine ⟨z1, z2, z3, fun y => ?_, z5⟩
      rcases z4 y with w | ⟨w1, s, w2, w3⟩
      · exact Or.inl w
      · exact Or.inr ⟨w1, s, by omega, w3⟩
    · exact gr g (by omega) hg
end
