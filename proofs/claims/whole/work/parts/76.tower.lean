/-! ===== TOWER ===== -/
section
theorem k_tw30 {n L : Nat} (hn : n < 10) (hL : L ≤ 5) : ∀ (f i : Nat) (A : y_A), A 48 10 = nI L → A 47 0 = nI n → i ≤ L → L - i < f → rg_tower_30 f (nI i) A ∧ ∀ x k, (rf_tower_30 f (nI i) A).2 x k = if x = 49 ∧ 5 * n + i ≤ k ∧ k < 5 * n + L then A 49 (50 + (k - 5 * n)) else A x k
  | 0, i, A, h1, h2, h3, h4 => by omega
  | f + 1, i, A, h1, h2, h3, h4 => by
    have ix10 : y_ix (10 : Int32) = 10 := by decide
    unfold rg_tower_30 rf_tower_30
    rw [ix10, h1, h2]
    by_cases e : i = L
    · have c : nI L ≤ nI i := nI_le (by omega) (by omega)
      rw [if_pos c]
      refine ⟨⟨fun _ => trivial, fun z => absurd c z⟩, fun x k => ?_⟩
      rw [if_neg (by omega)]
    · have c : ¬ nI L ≤ nI i := nI_ge (by omega) (by omega)
      have e1 : (50 : Int32) + nI i = nI (50 + i) := by rw [show (50 : Int32) = nI 50 from rfl, nI_add]
      have e2 : (5 : Int32) * nI n + nI i = nI (5 * n + i) := by rw [show (5 : Int32) = nI 5 from rfl, nI_mulc, nI_add]
      rw [if_neg c, e1, e2, y_ix_nI (by omega), y_ix_nI (by omega), nI_1]
      obtain ⟨i1, i2⟩ := k_tw30 hn hL f (i + 1) (xm_u2 A 49 (5 * n + i) (A 49 (50 + i))) h1 h2 (by omega) (by omega)
      refine ⟨⟨fun z => absurd z c, fun _ => ⟨y_in_nI (by omega) (by decide), y_in_nI (by omega) (by decide), i1⟩⟩, fun x k => ?_⟩
      rw [i2]
      unfold xm_u2
      by_cases e3 : x = 49 ∧ 5 * n + (i + 1) ≤ k ∧ k < 5 * n + L
      · rw [if_pos e3, if_neg (by omega), if_pos ⟨e3.1, by omega, e3.2.2⟩]
      · rw [if_neg e3]
        by_cases e4 : x = 49 ∧ k = 5 * n + i
        · rw [if_pos e4, if_pos ⟨e4.1, by omega, by omega⟩]
          congr 1
          omega
        · rw [if_neg e4, if_neg (fun z => by
            by_cases e5 : k = 5 * n + i
            · exact e4 ⟨z.1, e5⟩
            · exact e3 ⟨z.1, by omega, z.2.2⟩)]
theorem k_own.tow {S S' : xm_S} {n m q : Nat} (hn : xm_n S 1 4 = n) (n3 : xm_n S' 1 3 = m) (hm : xm_n S 1 3 = m) (n4 : xm_n S' 1 4 = n + 1) (R5 : ∀ g, xm_r S' 5 g 12 = xm_r S 5 g 12) (R10 : ∀ u, u ≤ n → xm_r S' 10 u 0 = xm_r S 10 u 0) (Rn : xm_r S' 10 (n + 1) 0 = some q) (hq5 : ∀ g q', g < m → xm_r S 5 g 12 = some q' → q' < q) (hq10 : ∀ u q', u ≤ n → xm_r S 10 u 0 = some q' → q' < q) (h : k_own S) : k_own S' := by
  obtain ⟨v1, v2, v3⟩ := h
  rw [hm] at v1 v3
  rw [hn] at v2 v3
  refine ⟨fun g e q' hg he w1 w2 => ?_, fun u x q' hu hx w1 w2 => ?_, fun g u q' hg hu w1 w2 => ?_⟩
  · rw [n3] at hg he
    rw [R5] at w1 w2
    exact v1 g e q' hg he w1 w2
  · rw [n4] at hu hx
    by_cases eu : u = n + 1
    · rw [eu, Rn] at w1
      cases w1
      by_cases ex : x = n + 1
      · rw [eu, ex]
      · rw [R10 x (by omega)] at w2
        exact absurd (hq10 x _ (by omega) w2) (Nat.lt_irrefl _)
    · rw [R10 u (by omega)] at w1
      by_cases ex : x = n + 1
      · rw [ex, Rn] at w2
        cases w2
        exact absurd (hq10 u _ (by omega) w1) (Nat.lt_irrefl _)
      · rw [R10 x (by omega)] at w2
        exact v2 u x q' (by omega) (by omega) w1 w2
  · rw [n3] at hg
    rw [n4] at hu
    rw [R5] at w1
    by_cases eu : u = n + 1
    · rw [eu, Rn] at w2
      cases w2
      exact absurd (hq5 g _ hg w1) (Nat.lt_irrefl _)
    · rw [R10 u (by omega)] at w2
      exact v3 g u q' hg (by omega) w1 w2
set_option maxHeartbeats 8000000 in
theorem kK.tow {S S' : xm_S} {A A' : y_A} {t n c2 : Nat} (h : kK S A t) (hn : xm_n S 1 4 = n) (hlt : n < 10)
    (hi : ∀ p r j, ¬ (p = 10 ∧ r = n + 1) → ¬ (p = 12 ∧ r = xm_n S 0 12) → xm_i S' p r j = xm_i S p r j) (hr : ∀ p r j, ¬ (p = 10 ∧ r = n + 1) → ¬ (p = 12 ∧ r = xm_n S 0 12) → ¬ (p = 0 ∧ j = 12) → xm_r S' p r j = xm_r S p r j) (h0 : xm_r S' 0 0 12 = some (n + 1)) (h10' : xm_r S' 10 (n + 1) 0 = some (xm_n S 0 12))
    (n1 : ∀ r, xm_n S' 1 r = if r = xm_n S 0 12 then 0 else if r = 4 then n + 1 else xm_n S 1 r) (n2 : ∀ r, xm_n S' 2 r = if r = xm_n S 0 12 then 1 else if r = 4 then c2 else xm_n S 2 r) (n0 : ∀ r, r < 100 → r ≠ 10 → r ≠ 12 → xm_n S' 0 r = xm_n S 0 r) (n010 : xm_n S' 0 10 = xm_n S 0 10 + 1) (n012 : xm_n S' 0 12 = xm_n S 0 12 + 1) (n3 : ∀ p r, 25 ≤ p → xm_n S' p r = xm_n S p r) (ll : ∀ r i, xm_l S' r i = if r = 4 ∧ i = n then (10, n) else xm_l S r i) (hc2 : c2 ≠ 0)
    (hcp : (xm_n S 2 4 = 1 ∧ c2 = 10) ∨ (xm_n S 1 4 = xm_n S 2 4 ∧ c2 ≤ 2 * xm_n S 1 4) ∨ (xm_n S 2 4 ≠ 1 ∧ xm_n S 1 4 ≠ xm_n S 2 4 ∧ c2 = xm_n S 2 4))
    (hA : ∀ x k, x ≠ 47 → x ≠ 48 → x ≠ 49 → A' x k = A x k) (a47 : A' 47 0 = nI (n + 1)) (a48 : ∀ k, k < n → A' 48 k = A 48 k) (a48n : A' 48 n = A 48 10) (a4810 : A' 48 10 = 0) (a49 : ∀ k, k < 5 * n → A' 49 k = A 49 k) (a49n : ∀ i, nI i < A 48 10 → i < 5 → A' 49 (5 * n + i) = A 49 (50 + i)) : kK S' A' t := by
  have hKK := h
  obtain ⟨⟨⟨⟨hC, hcnt, hb, hl, ht, hv, h1, h2, h3, h4, h5, h6, h7, h8, h9, h10, h11, h12⟩, -⟩, -⟩, ⟨-, jdst, jown, jobj, jcap, -, -, -, -, -, -, -, -, jpln, -⟩⟩ := h
  obtain ⟨q, y1, y2, y3, y4, y5, y6⟩ := h9
  rw [hn] at y1
  have hOO := jobj
  obtain ⟨o9, o5, o10, o6, o2, o4, o3, o7, o1, o15, o8, o12, o0, o11, o13, o14⟩ := jobj
  have hbb := hb
  unfold k_bnd at hbb
  have e : ∀ r, r < 12 → r ≠ 4 → xm_n S' 1 r = xm_n S 1 r := fun r hr h4 => by rw [n1, if_neg (by omega), if_neg h4]
  have e4 : xm_n S' 1 4 = n + 1 := by rw [n1, if_neg (by omega), if_pos rfl]
  have R : ∀ p r j, p ≠ 10 → p ≠ 12 → p ≠ 0 → xm_r S' p r j = xm_r S p r j := fun p r j z1 z2 z3 => hr p r j (fun z => z1 z.1) (fun z => z2 z.1) (fun z => z3 z.1)
  have I : ∀ p r j, p ≠ 10 → p ≠ 12 → xm_i S' p r j = xm_i S p r j := fun p r j z1 z2 => hi p r j (fun z => z1 z.1) (fun z => z2 z.1)
  have R10 : ∀ u, u ≤ n → xm_r S' 10 u 0 = xm_r S 10 u 0 := fun u hu => hr 10 u 0 (fun z => by omega) (fun z => by omega) (fun z => by omega)
  have nq : ∀ k, 12 ≤ k → k < xm_n S 0 12 → xm_n S' 1 k = xm_n S 1 k := fun k k1 k2 => by rw [n1, if_neg (by omega), if_neg (by omega)]
  have lq : ∀ k i, k ≠ 4 → xm_l S' k i = xm_l S k i := fun k i h => by rw [ll, if_neg (fun z => h z.1)]
  have tb : ∀ u q', u ≤ n → xm_r S 10 u 0 = some q' → 12 ≤ q' ∧ q' < xm_n S 0 12 := fun u q' hu hq => by
    by_cases eu : u = n
    · rw [eu, y1] at hq
      cases hq
      exact ⟨y2, y3⟩
    · obtain ⟨q2, z1, z2, z3, -⟩ := h10 u (by omega)
      rw [hq] at z1
      cases z1
      exact ⟨z2, z3⟩
  have hE : kExu S S' := by
    refine ⟨fun p r j hp hr' => ⟨hi p r j (fun z => ?_) (fun z => ?_), hr p r j (fun z => ?_) (fun z => ?_) (fun z => ?_)⟩, ⟨?_, ?_, ?_, ?_, ?_, ?_⟩, ⟨?_, ?_, ?_, ?_, ?_, ?_⟩, fun k k1 k2 k3 => ⟨?_, fun i => ?_⟩, fun k i k1 k2 => ?_, fun g _ => n3 25 g (by decide), ?_, fun k j => I 16 k j (by decide) (by decide), fun k => n3 26 k (by decide), ?_⟩
    · have := z.1; subst this; omega
    · have := z.1; subst this; omega
    · have := z.1; subst this; omega
    · have := z.1; subst this; omega
    · have := z.1; omega
    · rw [e 0 (by decide) (by decide)]; exact Nat.le_refl _
    · rw [e 1 (by decide) (by decide)]; exact Nat.le_refl _
    · rw [e 2 (by decide) (by decide)]; exact Nat.le_refl _
    · rw [e 3 (by decide) (by decide)]; exact Nat.le_refl _
    · rw [e 10 (by decide) (by decide)]; exact Nat.le_refl _
    · rw [e 11 (by decide) (by decide)]; exact Nat.le_refl _
    · rw [e4, hn]; omega
    · exact e 5 (by decide) (by decide)
    · exact e 6 (by decide) (by decide)
    · exact e 7 (by decide) (by decide)
    · exact e 8 (by decide) (by decide)
    · exact e 9 (by decide) (by decide)
    · exact nq k k1 k2
    · exact lq k i (by omega)
    · rw [ll]
      by_cases ek : k = 4 ∧ i = n
      · rw [ek.1] at k2; omega
      · rw [if_neg ek]
    · rw [n012]; omega
    · rw [n0 8 (by decide) (by decide) (by decide)]; exact Nat.le_refl _
  have aold : ∀ x k, kOlu S x k → A' x k = A x k := fun x k hk => by
    unfold kOlu at hk
    by_cases e48 : x = 48
    · rw [e48]; exact a48 k (by omega)
    · by_cases e49 : x = 49
      · rw [e49]; exact a49 k (by omega)
      · exact hA x k (by omega) e48 e49
  refine hKK.exu hE aold (fun j hj => (hr 0 0 j (by omega) (by omega) (by omega)).trans (hC j hj)) ?_ ?_ ?_ ⟨?_, ?_, ?_⟩ (fun k z1 z2 => absurd z2 (by rw [e 0 (by decide) (by decide)]; omega)) (fun k z1 z2 => absurd z2 (by rw [e 3 (by decide) (by decide)]; omega)) (fun k z1 z2 => absurd z2 (by rw [e 10 (by decide) (by decide)]; omega)) (fun k z1 z2 => absurd z2 (by rw [e 11 (by decide) (by decide)]; omega)) (fun k z1 z2 => absurd z2 (by rw [e 1 (by decide) (by decide)]; omega)) (fun k z1 z2 => absurd z2 (by rw [e 2 (by decide) (by decide)]; omega)) ?_ ?_ ?_ ?_ ?_ ?_ ?_ (I 0 0 15 (by decide) (by decide)) (fun k z1 z2 => absurd z2 (by rw [e 3 (by decide) (by decide)]; omega)) (fun k z1 z2 => absurd z2 (by rw [e 3 (by decide) (by decide)]; omega))
  · unfold k_cnt at hcnt ⊢
    obtain ⟨w1, w2, w3, w4, w5, w6, w7, w8, w9, w10, w11⟩ := hcnt
    rw [e 0 (by decide) (by decide), e 1 (by decide) (by decide), e 2 (by decide) (by decide), e 3 (by decide) (by decide), e4, e 5 (by decide) (by decide), e 6 (by decide) (by decide), e 8 (by decide) (by decide), e 9 (by decide) (by decide), e 10 (by decide) (by decide), e 11 (by decide) (by decide), hA 1 0 (by decide) (by decide) (by decide), hA 5 0 (by decide) (by decide) (by decide), hA 11 0 (by decide) (by decide) (by decide), hA 30 0 (by decide) (by decide) (by decide), a47, hA 50 0 (by decide) (by decide) (by decide), hA 61 0 (by decide) (by decide) (by decide), hA 23 0 (by decide) (by decide) (by decide), hA 17 0 (by decide) (by decide) (by decide), hA 89 0 (by decide) (by decide) (by decide), hA 103 0 (by decide) (by decide) (by decide)]
    exact ⟨w1, w2, w3, w4, rfl, w6, w7, w8, w9, w10, w11⟩
  · unfold k_bnd
    rw [e 0 (by decide) (by decide), e 1 (by decide) (by decide), e 2 (by decide) (by decide), e 3 (by decide) (by decide), e4, e 5 (by decide) (by decide), e 6 (by decide) (by decide), e 7 (by decide) (by decide), e 8 (by decide) (by decide), e 9 (by decide) (by decide), e 10 (by decide) (by decide), e 11 (by decide) (by decide)]
    omega
  · have kl : ∀ r cj, r < 12 → r ≠ 4 → (∀ k, k < xm_n S 1 r → xm_l S r k = (cj, k)) → ∀ k, k < xm_n S' 1 r → xm_l S' r k = (cj, k) := fun r cj z1 z2 z3 k hk => by
      rw [e r z1 z2] at hk
      rw [lq r k z2]
      exact z3 k hk
    refine ⟨kl 0 9 (by decide) (by decide) hl.1, kl 3 5 (by decide) (by decide) hl.2.1, fun k hk => ?_, kl 5 6 (by decide) (by decide) hl.2.2.2.1, kl 6 2 (by decide) (by decide) hl.2.2.2.2.1, kl 8 4 (by decide) (by decide) hl.2.2.2.2.2.1, kl 9 3 (by decide) (by decide) hl.2.2.2.2.2.2.1, kl 10 7 (by decide) (by decide) hl.2.2.2.2.2.2.2.1, kl 11 1 (by decide) (by decide) hl.2.2.2.2.2.2.2.2⟩
    rw [e4] at hk
    rw [ll]
    by_cases ek : k = n
    · rw [if_pos ⟨rfl, ek⟩, ek]
    · rw [if_neg (fun z => ek z.2)]
      exact hl.2.2.1 k (by omega)
  · rw [I 0 0 13 (by decide) (by decide), hA 0 0 (by decide) (by decide) (by decide)]; exact ht.1
  · rw [hA 0 0 (by decide) (by decide) (by decide)]; exact ht.2.1
  · rw [e4]; exact h0
  · rw [e4]
    refine ⟨xm_n S 0 12, h10', by omega, by rw [n012]; omega, ?_, ?_, fun i hii => ?_⟩
    · rw [n1, if_pos rfl]; omega
    · rw [n1, if_pos rfl, a4810]; rfl
    · rw [n1, if_pos rfl] at hii; omega
  · intro u z1 z2
    obtain rfl : u = n := by omega
    refine ⟨q, (R10 u (by omega)).trans y1, y2, by rw [n012]; omega, ?_, ?_, fun i hii => ?_⟩
    · rw [nq q y2 y3]; exact y4
    · rw [nq q y2 y3, a48n]; exact y5
    · rw [nq q y2 y3] at hii
      obtain ⟨g, g1, g2, g3⟩ := y6 i hii
      refine ⟨g, by rw [lq q i (by omega)]; exact g1, by rw [e 3 (by decide) (by decide)]; exact g2, ?_⟩
      rw [a49n i (by rw [y5]; exact nI_lt hii (by omega)) (by omega)]
      exact g3
  · intro u q' hu hq i k g f hik hk w1 w2
    rw [e4] at hu
    by_cases eu : u = n + 1
    · rw [eu, h10'] at hq
      cases hq
      rw [n1, if_pos rfl] at hk
      omega
    · rw [R10 u (by omega)] at hq
      obtain ⟨b1, b2⟩ := tb u q' (by omega) hq
      rw [nq q' b1 b2] at hk
      rw [lq q' _ (by omega)] at w1 w2
      rw [I 5 _ _ (by decide) (by decide), I 5 _ _ (by decide) (by decide)]
      exact jdst u q' (by omega) hq i k g f hik hk w1 w2
  · refine k_own.tow (n := n) (m := xm_n S 1 3) (q := xm_n S 0 12) hn (e 3 (by decide) (by decide)) rfl e4 (fun g => R 5 g 12 (by decide) (by decide) (by decide)) R10 h10' (fun g q' hg hq => ?_) (fun u q' hu hq => (tb u q' hu hq).2) jown
    obtain ⟨q2, z1, z2, z3, -⟩ := (h3 g hg).2.2.2.2.2.2.2.2.2.2.2.2.1
    rw [hq] at z1
    cases z1
    exact z3
  · unfold k_obj
    rw [e 0 (by decide) (by decide), e 1 (by decide) (by decide), e 2 (by decide) (by decide), e 3 (by decide) (by decide), e4, e 5 (by decide) (by decide), e 6 (by decide) (by decide), e 8 (by decide) (by decide), e 9 (by decide) (by decide), e 10 (by decide) (by decide), e 11 (by decide) (by decide), n0 9 (by decide) (by decide) (by decide), n0 5 (by decide) (by decide) (by decide), n010, n0 6 (by decide) (by decide) (by decide), n0 2 (by decide) (by decide) (by decide), n0 4 (by decide) (by decide) (by decide), n0 3 (by decide) (by decide) (by decide), n0 7 (by decide) (by decide) (by decide), n0 1 (by decide) (by decide) (by decide), n0 15 (by decide) (by decide) (by decide), n0 8 (by decide) (by decide) (by decide), n012, n0 0 (by decide) (by decide) (by decide), n0 11 (by decide) (by decide) (by decide), n0 13 (by decide) (by decide) (by decide), n0 14 (by decide) (by decide) (by decide)]
    omega
  · obtain ⟨v1, v2, v3⟩ := jcap
    unfold k_cap
    rw [n012, e 6 (by decide) (by decide)]
    refine ⟨fun i hii => ?_, fun i hii => ?_, fun i hi1 hi2 => ?_⟩
    · rw [n2]
      by_cases ei : i = xm_n S 0 12
      · rw [if_pos ei]; decide
      · rw [if_neg ei]
        by_cases e5 : i = 4
        · rw [if_pos e5]; exact hc2
        · rw [if_neg e5]; exact v1 i (by omega)
    · rw [n2, if_neg (by omega)]
      by_cases e5 : i = 4
      · rw [if_pos e5]
        have := v2 4 (by decide)
        rcases hcp with z | z | z <;> omega
      · rw [if_neg e5]; exact v2 i hii
    · rw [n2, n1]
      by_cases ei : i = xm_n S 0 12
      · rw [if_pos ei, if_pos ei]; exact Or.inl ⟨rfl, rfl⟩
      · have e5 : ¬ i = 4 := by omega
        rw [if_neg ei, if_neg ei, if_neg e5, if_neg e5]; exact v3 i hi1 (by omega)
  · unfold k_pln k_spn at jpln ⊢
    simp only [I 7 _ _ (by decide) (by decide), e 0 (by decide) (by decide), e 1 (by decide) (by decide), e 2 (by decide) (by decide), e 5 (by decide) (by decide), e 10 (by decide) (by decide), hA 2 _ (by decide) (by decide) (by decide), hA 3 _ (by decide) (by decide) (by decide), hA 10 _ (by decide) (by decide) (by decide), hA 16 _ (by decide) (by decide) (by decide), hA 54 _ (by decide) (by decide) (by decide), hA 93 _ (by decide) (by decide) (by decide), hA 94 _ (by decide) (by decide) (by decide), hA 97 _ (by decide) (by decide) (by decide)]
    exact jpln
theorem p_tower : kPub 11 126 0 := by
  intro as hn0 S A t hK _
  obtain rfl : as = [] := List.length_eq_zero_iff.mp hn0
  have hKK := hK
  obtain ⟨⟨⟨hE, -⟩, -⟩, ⟨-, -, -, jobj, jcap, -⟩⟩ := hK
  obtain ⟨hC, hcnt, hb, hl, ht, hv, h1, h2, h3, h4, h5, h6, h7, h8, h9, -⟩ := hE
  obtain ⟨q, y1, y2, y3, y4, y5, y6⟩ := h9
  have hbb := hb
  unfold k_bnd at hbb
  have w5 := hcnt.2.2.2.2.1
  have ix10 : y_ix (10 : Int32) = 10 := by decide
  have o10 := jobj.2.2.1
  have o12 := jobj.2.2.2.2.2.2.2.2.2.2.2.1
  have fin : ∀ (f : Int32) (A' : y_A), rf_tower A = (f, A') → rg_tower A → xc 1 11 [.inr (some (0, 0))] S (fun r S' => r = some (.inl f) ∧ kK S' A' t) → ∃ (f : Int32) (A' : y_A) (t' : Nat), t' ≤ t + 100 ∧ xc 1000 11 (.inr (some (0, 0)) :: List.map .inl []) S (fun r S' => r = some (.inl f) ∧ kK S' A' t') ∧ rc 20 126 (.inr (some (11, 0)) :: List.map .inl []) A [] (fun r A2 js => r = some (.inl f) ∧ A2 = A' ∧ js = []) := fun f A' e g x => by
    refine ⟨f, A', t, by omega, xc.up x (by decide), ra.up (ra.mono (rh_tower (d := 20) (js := []) (by decide) g) ?_) (Nat.le_refl _)⟩
    rintro r A2 js ⟨z1, z2, z3⟩
    rw [e] at z1 z2
    exact ⟨z1, z2, z3⟩
  unfold rf_tower rg_tower at fin
  by_cases hf : xm_n S 1 4 = 10
  · have c : A 47 0 = 10 := by rw [w5, hf]; rfl
    have c2 : ¬ nI (xm_n S 1 4) < 10 := by rw [hf]; decide
    exact fin (-3) A (by rw [if_pos c]) ⟨fun _ => trivial, fun z => absurd c z⟩ (cw_tower hC ⟨fun z => absurd z c2, fun _ => ⟨rfl, hKK⟩⟩)
  · have hlt : xm_n S 1 4 < 10 := by omega
    have c : ¬ A 47 0 = 10 := fun z => hf ((nI_eq (b := 10) (by omega) (by decide)).mp (w5.symm.trans z))
    have c2 : nI (xm_n S 1 4) < 10 := nI_lt (b := 10) hlt (by decide)
    have ixn : y_ix (A 47 0) = xm_n S 1 4 := by rw [w5]; exact y_ix_nI (by omega)
    rw [ix10, ixn] at fin
    obtain ⟨r1, r2⟩ := k_tw30 (n := xm_n S 1 4) (L := xm_n S 1 q) hlt y4 20000 0 (xm_u2 A 48 (xm_n S 1 4) (A 48 10)) ((if_neg (by omega)).trans y5) w5 (by omega) (by omega)
    rw [show nI 0 = (0 : Int32) from rfl] at r1 r2
    have r47 : (rf_tower_30 20000 0 (xm_u2 A 48 (xm_n S 1 4) (A 48 10))).2 47 0 = nI (xm_n S 1 4) := by
      rw [r2, if_neg (by omega)]
      exact w5
    rw [r47] at fin
    refine fin _ _ (by rw [if_neg c]) ⟨fun z => absurd z c, fun _ => ⟨by rw [w5]; exact y_in_nI (by omega) (by decide), r1, trivial⟩⟩ (cw_tower (d := 0) hC ⟨fun _ t2 e2 => ⟨xm_n S 1 4, e2.symm.trans ht.2.2, jcap.1 4 (by omega), by omega, fun S7 e7 k9 e9 S11 e11 => ?_⟩, fun z => absurd c2 z⟩)
    obtain ⟨cc, c100, c101, b, ep, hc2, hcp⟩ := xm_push_x S 4 (10, xm_n S 1 4) (jcap.1 4 (by omega))
    rw [ep] at e7
    have hC11 : xk_C S11 := by
      subst e11 e7
      exact hC
    refine cw_newTower hC11 ?_
    intro k1 e1 S3 e3
    have kk9 : k9 = xm_n S 1 4 + 1 := by
      rw [e9, e7, xp_n0 (by decide)]
      exact o10
    have kk1 : k1 = xm_n S 0 12 := by
      rw [e1, e11]
      show xm_n S7 0 12 = _
      rw [e7, xp_n0 (by decide)]
    have z3 : xm_n S3 2 k1 = 0 := by
      rw [e3, xn_mk, if_neg (by omega), if_neg (by omega), if_neg (by omega), if_neg (by omega), if_pos ⟨rfl, Or.inr rfl, e1⟩]
    refine ⟨z3, fun S6 e6 S8 e8 => ⟨rfl, ?_, fun S15 e15 => ?_⟩⟩
    · subst e8 e6 e3
      exact hC11
    have n8 : xm_n S8 1 4 = xm_n S 1 4 + 1 := by
      subst e8 e6 e3 e11 e7
      rw [xn_sr, xn_sn, if_neg (by omega), xn_mk, if_neg (by omega), if_neg (by omega), if_neg (by omega), if_neg (by omega), if_neg (by omega), xn_mk, if_neg (by omega), if_neg (by omega), if_neg (by omega), if_neg (by omega), if_neg (by omega), xp_n1, if_pos rfl]
    refine ⟨by rw [n8, nI_1], ?_⟩
    have m9 : k9 = xm_n S7 0 10 := e9
    refine kK.tow (c2 := cc) hKK rfl hlt (fun p r j z1 z2 => ?_) (fun p r j z1 z2 z4 => ?_) ?_ ?_ (fun r => ?_) (fun r => ?_) (fun r z1 z2 z4 => ?_) ?_ ?_ (fun p r hp => ?_) (fun r i => ?_) hc2 hcp (fun x k z1 z2 z4 => ?_) ?_ (fun k hk => ?_) ?_ ?_ (fun k hk => ?_) (fun i hi1 hi2 => ?_)
    · rw [e15, xi_sr, e8, xi_sr, e6, xi_sn, e3, xi_mkn (fun z => z2 (by rw [z.1, z.2, ← e1, kk1]; exact ⟨rfl, rfl⟩)), e11, xi_mkn (fun z => z1 (by rw [z.1, z.2, ← m9, kk9]; exact ⟨rfl, rfl⟩)), e7]
      rfl
    · rw [e15, xr_sr z4, e8, xr_sk (fun z => z1 (by rw [z.1, z.2, kk9]; exact ⟨rfl, rfl⟩)), e6, xr_sn, e3, xr_mkn (fun z => z2 (by rw [z.1, z.2, ← e1, kk1]; exact ⟨rfl, rfl⟩)), e11, xr_mkn (fun z => z1 (by rw [z.1, z.2, ← m9, kk9]; exact ⟨rfl, rfl⟩)), e7]
      rfl
    · rw [e15, xr_same, kk9]
    · rw [e15]
      refine (xr_sr (by decide)).trans ?_
      rw [e8, ← kk9, xr_same, kk1]
    · rw [e15, xn_sr, e8, xn_sr, e6, xn_sn, if_neg (by omega), e3, xn_mk, if_neg (by omega), if_neg (by omega), if_neg (by omega), if_neg (by omega), ← e1, kk1]
      by_cases hr : r = xm_n S 0 12
      · rw [if_pos ⟨rfl, Or.inl rfl, hr⟩, if_pos hr]
      · rw [if_neg (fun z => hr z.2.2), if_neg hr, e11, xn_mk, if_neg (by omega), if_neg (by omega), if_neg (by omega), if_neg (by omega), if_neg (by omega), e7, xp_n1]
    · rw [e15, xn_sr, e8, xn_sr, e6, xn_sn, kk1]
      by_cases hr : r = xm_n S 0 12
      · rw [if_pos ⟨rfl, hr⟩, if_pos hr]
      · rw [if_neg (fun z => hr z.2), if_neg hr, e3, xn_mk, if_neg (by omega), if_neg (by omega), if_neg (by omega), if_neg (by omega), ← e1, kk1, if_neg (fun z => hr z.2.2), e11, xn_mk, if_neg (by omega), if_neg (by omega), if_neg (by omega), if_neg (by omega), if_neg (by omega), e7, xp_n2]
    · rw [e15, xn_sr, e8, xn_sr, e6, xn_sn, if_neg (by omega), e3, xn_mk, if_neg (by omega), if_neg (by omega), if_neg (by omega), if_neg (by omega), if_neg (by omega), e11, xn_mk, if_neg (by omega), if_neg (by omega), if_neg (by omega), if_neg (by omega), if_neg (by omega), e7, xp_n0 z1]
    · rw [e15, xn_sr, e8, xn_sr, e6, xn_sn, if_neg (by omega), e3, xn_mk, if_neg (by omega), if_neg (by omega), if_neg (by omega), if_neg (by omega), if_neg (by omega), e11, xn_mk, if_pos ⟨rfl, rfl⟩, e7, xp_n0 (by decide)]
    · rw [e15, xn_sr, e8, xn_sr, e6, xn_sn, if_neg (by omega), e3, xn_mk, if_pos ⟨rfl, rfl⟩, e11, xn_mk, if_neg (by omega), if_neg (by omega), if_neg (by omega), if_neg (by omega), if_neg (by omega), e7, xp_n0 (by decide)]
    · rw [e15, xn_sr, e8, xn_sr, e6, xn_sn, if_neg (by omega), e3, xn_mk, if_neg (by omega), if_neg (by omega), if_neg (by omega), if_neg (by omega), if_neg (by omega), e11, xn_mk, if_neg (by omega), if_neg (by omega), if_neg (by omega), if_neg (by omega), if_neg (by omega), e7, xp_n3 (by omega)]
    · subst e15 e8 e6 e3 e11 e7
      exact xp_l (c2 := cc) (c100 := c100) (c101 := c101) (a := b)
    · refine (if_neg (fun z => z1 z.1)).trans ((if_neg (fun z => z2 z.1)).trans ?_)
      rw [r2, if_neg (fun z => z4 z.1)]
      exact if_neg (fun z => z2 z.1)
    · refine (y_same _ _ _ _).trans ?_
      rw [nI_1]
    · refine (if_neg (fun z => absurd z.1 (by decide))).trans ((if_neg (fun z => by omega)).trans ?_)
      rw [r2, if_neg (fun z => absurd z.1 (by decide))]
      exact if_neg (fun z => by omega)
    · refine (if_neg (fun z => absurd z.1 (by decide))).trans ((if_neg (fun z => by omega)).trans ?_)
      rw [r2, if_neg (fun z => absurd z.1 (by decide))]
      exact y_same _ _ _ _
    · exact (if_neg (fun z => absurd z.1 (by decide))).trans (y_same _ _ _ _)
    · refine (if_neg (fun z => absurd z.1 (by decide))).trans ((if_neg (fun z => absurd z.1 (by decide))).trans ?_)
      rw [r2, if_neg (by omega)]
      rfl
    · have hiL : i < xm_n S 1 q := by
        rw [y5] at hi1
        exact (nI_ltI (by omega) (by omega)).mp hi1
      refine (if_neg (fun z => absurd z.1 (by decide))).trans ((if_neg (fun z => absurd z.1 (by decide))).trans ?_)
      rw [r2, if_pos ⟨rfl, by omega, by omega⟩, show 5 * xm_n S 1 4 + i - 5 * xm_n S 1 4 = i by omega]
      rfl
end
