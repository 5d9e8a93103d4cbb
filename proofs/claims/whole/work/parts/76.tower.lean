/-! ===== TOWER ===== -/
section
theorem k_tw30 {n L : Nat} (hn : n < 10) (hL : L ≤ 5) : ∀ (f i : Nat) (A : y_A), A 48 10 = nI L → A 47 0 = nI n → i ≤ L → L - i < f → rg_tower_30 f (nI i) A ∧ ∀ x k, (rf_tower_30 f (nI i) A).2 x k = if x = 49 ∧ 5 * n + i ≤ k ∧ k < 5 * n + L then A 49 (50 + (k - 5 * n)) else A x k
  | 0, i, A, h1, h2, h3, h4 => by omega
  | f + 1, i, A, h1, h2, h3, h4 => by
    have ix10 : y_ix (10 : Int32) = 10 := by decide
    unfold rg_tower_30 rf_tower_30
    rw [ix10, h1, h2]
    by_cases e : i = L
    · have c : nI L ≤ nI i := nI_le (by omega) (by omega)
      rw [if_pos c]
      refine ⟨⟨fun _ => trivial, fun z => absurd c z⟩, fun x k => ?_⟩
      rw [if_neg (by omega)]
    · have c : ¬ nI L ≤ nI i := nI_ge (by omega) (by omega)
      have e1 : (50 : Int32) + nI i = nI (50 + i) := by rw [show (50 : Int32) = nI 50 from rfl, nI_add]
      have e2 : (5 : Int32) * nI n + nI i = nI (5 * n + i) := by rw [show (5 : Int32) = nI 5 from rfl, nI_mulc, nI_add]
      rw [if_neg c, e1, e2, y_ix_nI (by omega), y_ix_nI (by omega), nI_1]
      obtain ⟨i1, i2⟩ := k_tw30 hn hL f (i + 1) (xm_u2 A 49 (5 * n + i) (A 49 (50 + i))) h1 h2 (by omega) (by omega)
      refine ⟨⟨fun z => absurd z c, fun _ => ⟨y_in_nI (by omega) (by decide), y_in_nI (by omega) (by decide), i1⟩⟩, fun x k => ?_⟩
      rw [i2]
      unfold xm_u2
      by_cases e3 : x = 49 ∧ 5 * n + (i + 1) ≤ k ∧ k < 5 * n + L
      · rw [if_pos e3, if_pos ⟨e3.1, by omega, e3.2.2⟩, if_neg (by omega)]
      · rw [if_neg e3]
        by_cases e4 : x = 49 ∧ k = 5 * n + i
        · rw [if_pos e4, if_pos ⟨e4.1, by omega, by omega⟩]
          congr 1
          omega
        · rw [if_neg e4, if_neg (fun z => by
            by_cases e5 : k = 5 * n + i
            · exact e4 ⟨z.1, e5⟩
            · exact e3 ⟨z.1, by omega, z.2.2⟩)]
theorem k_own.tow {S S' : xm_S} {n m q : Nat} (hn : xm_n S 1 4 = n) (n3 : xm_n S' 1 3 = m) (hm : xm_n S 1 3 = m) (n4 : xm_n S' 1 4 = n + 1) (R5 : ∀ g, xm_r S' 5 g 12 = xm_r S 5 g 12) (R10 : ∀ u, u ≤ n → xm_r S' 10 u 0 = xm_r S 10 u 0) (Rn : xm_r S' 10 (n + 1) 0 = some q) (hq5 : ∀ g q', g < m → xm_r S 5 g 12 = some q' → q' < q) (hq10 : ∀ u q', u ≤ n → xm_r S 10 u 0 = some q' → q' < q) (h : k_own S) : k_own S' := by
  obtain ⟨v1, v2, v3⟩ := h
  rw [hm] at v1 v3
  rw [hn] at v2 v3
  refine ⟨fun g e q' hg he w1 w2 => ?_, fun u x q' hu hx w1 w2 => ?_, fun g u q' hg hu w1 w2 => ?_⟩
  · rw [n3] at hg he
    rw [R5] at w1 w2
    exact v1 g e q' hg he w1 w2
  · rw [n4] at hu hx
    by_cases eu : u = n + 1
    · rw [eu, Rn] at w1
      cases w1
      by_cases ex : x = n + 1
      · rw [eu, ex]
      · rw [R10 x (by omega)] at w2
        exact absurd (hq10 x _ (by omega) w2) (Nat.lt_irrefl _)
    · rw [R10 u (by omega)] at w1
      by_cases ex : x = n + 1
      · rw [ex, Rn] at w2
        cases w2
        exact absurd (hq10 u _ (by omega) w1) (Nat.lt_irrefl _)
      · rw [R10 x (by omega)] at w2
        exact v2 u x q' (by omega) (by omega) w1 w2
  · rw [n3] at hg
    rw [n4] at hu
    rw [R5] at w1
    by_cases eu : u = n + 1
    · rw [eu, Rn] at w2
      cases w2
      exact absurd (hq5 g _ hg w1) (Nat.lt_irrefl _)
    · rw [R10 u (by omega)] at w2
      exact v3 g u q' hg (by omega) w1 w2
set_option maxHeartbeats 8000000 in
theorem kK.tow {S S' : xm_S} {A A' : y_A} {t n c2 : Nat} (h : kK S A t) (hn : xm_n S 1 4 = n) (hlt : n < 10)
    (hi : ∀ p r j, ¬ (p = 10 ∧ r = n + 1) → p ≠ 12 → xm_i S' p r j = xm_i S p r j) (hr : ∀ p r j, ¬ (p = 10 ∧ r = n + 1) → p ≠ 12 → ¬ (p = 0 ∧ j = 12) → xm_r S' p r j = xm_r S p r j) (h0 : xm_r S' 0 0 12 = some (n + 1)) (h10' : xm_r S' 10 (n + 1) 0 = some (xm_n S 0 12))
    (n1 : ∀ r, xm_n S' 1 r = if r = xm_n S 0 12 then 0 else if r = 4 then n + 1 else xm_n S 1 r) (n2 : ∀ r, xm_n S' 2 r = if r = xm_n S 0 12 then 1 else if r = 4 then c2 else xm_n S 2 r) (n0 : ∀ r, r < 100 → r ≠ 10 → r ≠ 12 → xm_n S' 0 r = xm_n S 0 r) (n010 : xm_n S' 0 10 = xm_n S 0 10 + 1) (n012 : xm_n S' 0 12 = xm_n S 0 12 + 1) (n3 : ∀ p r, 25 ≤ p → xm_n S' p r = xm_n S p r) (ll : ∀ r i, xm_l S' r i = if r = 4 ∧ i = n then (10, n) else xm_l S r i) (hc2 : c2 ≠ 0)
    (hcp : (xm_n S 2 4 = 1 ∧ c2 = 10) ∨ (xm_n S 1 4 = xm_n S 2 4 ∧ c2 ≤ 2 * xm_n S 1 4) ∨ (xm_n S 2 4 ≠ 1 ∧ xm_n S 1 4 ≠ xm_n S 2 4 ∧ c2 = xm_n S 2 4))
    (hA : ∀ x k, x ≠ 47 → x ≠ 48 → x ≠ 49 → A' x k = A x k) (a47 : A' 47 0 = nI (n + 1)) (a48 : ∀ k, k < n → A' 48 k = A 48 k) (a48n : A' 48 n = A 48 10) (a4810 : A' 48 10 = 0) (a49 : ∀ k, k < 5 * n → A' 49 k = A 49 k) (a49n : ∀ i, nI i < A 48 10 → i < 5 → A' 49 (5 * n + i) = A 49 (50 + i)) : kK S' A' t := by
  have hKK := h
  obtain ⟨⟨⟨⟨hC, hcnt, hb, hl, ht, hv, h1, h2, h3, h4, h5, h6, h7, h8, h9, h10, h11, h12⟩, -⟩, -⟩, ⟨-, jdst, jown, jobj, jcap, -, -, -, -, -, -, -, -, jpln, -⟩⟩ := h
  obtain ⟨q, y1, y2, y3, y4, y5, y6⟩ := h9
  rw [hn] at y1
  have hOO := jobj
  obtain ⟨o9, o5, o10, o6, o2, o4, o3, o7, o1, o15, o8, o12, o0, o11, o13, o14⟩ := jobj
  have hbb := hb
  unfold k_bnd at hbb
  have e : ∀ r, r < 12 → r ≠ 4 → xm_n S' 1 r = xm_n S 1 r := fun r hr h4 => by rw [n1, if_neg (by omega), if_neg h4]
  have e4 : xm_n S' 1 4 = n + 1 := by rw [n1, if_neg (by omega), if_pos rfl]
  have R : ∀ p r j, p ≠ 10 → p ≠ 12 → p ≠ 0 → xm_r S' p r j = xm_r S p r j := fun p r j z1 z2 z3 => hr p r j (fun z => z1 z.1) z2 (fun z => z3 z.1)
  have I : ∀ p r j, p ≠ 10 → p ≠ 12 → xm_i S' p r j = xm_i S p r j := fun p r j z1 z2 => hi p r j (fun z => z1 z.1) z2
  have R10 : ∀ u, u ≤ n → xm_r S' 10 u 0 = xm_r S 10 u 0 := fun u hu => hr 10 u 0 (fun z => by omega) (by decide) (fun z => by omega)
  have nq : ∀ k, 12 ≤ k → k < xm_n S 0 12 → xm_n S' 1 k = xm_n S 1 k := fun k k1 k2 => by rw [n1, if_neg (by omega), if_neg (by omega)]
  have lq : ∀ k i, k ≠ 4 → xm_l S' k i = xm_l S k i := fun k i h => by rw [ll, if_neg (fun z => h z.1)]
  have tb : ∀ u q', u ≤ n → xm_r S 10 u 0 = some q' → 12 ≤ q' ∧ q' < xm_n S 0 12 := fun u q' hu hq => by
    by_cases eu : u = n
    · rw [eu, y1] at hq
      cases hq
      exact ⟨y2, y3⟩
    · obtain ⟨q2, z1, z2, z3, -⟩ := h10 u (by omega)
      rw [hq] at z1
      cases z1
      exact ⟨z2, z3⟩
  have hE : kExu S S' := by
    refine ⟨fun p r j hp hr' => ⟨hi p r j (fun z => ?_) ?_, hr p r j (fun z => ?_) ?_ (fun z => ?_)⟩, ⟨?_, ?_, ?_, ?_, ?_, ?_⟩, ⟨?_, ?_, ?_, ?_, ?_, ?_⟩, fun k k1 k2 k3 => ⟨?_, fun i => ?_⟩, fun k i k1 k2 => ?_, fun g _ => n3 25 g (by decide), ?_, fun k j => I 16 k j (by decide) (by decide), fun k => n3 26 k (by decide), ?_⟩
    all_goals sorry
  sorry
end
