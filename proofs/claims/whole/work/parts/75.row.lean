/-! ===== ON, TOWER ===== -/
section
theorem xp_n1 {S : xm_S} {k : Nat} {x : Nat × Nat} {c2 c100 c101 : Nat} {a : Nat → Nat → Nat} {r : Nat} : xm_n (xk_psh S k x c2 c100 c101 a) 1 r = if r = k then xm_n S 1 k + 1 else xm_n S 1 r := by
  show (if 1 = 1 ∧ r = k then xm_n S 1 k + 1 else xm_n S 1 r) = _
  by_cases e : r = k
  · rw [if_pos ⟨rfl, e⟩, if_pos e]
  · rw [if_neg (fun z => e z.2), if_neg e]
theorem xp_n2 {S : xm_S} {k : Nat} {x : Nat × Nat} {c2 c100 c101 : Nat} {a : Nat → Nat → Nat} {r : Nat} : xm_n (xk_psh S k x c2 c100 c101 a) 2 r = if r = k then c2 else xm_n S 2 r := by
  show (if 2 = 2 ∧ r = k then c2 else xm_n S 2 r) = _
  by_cases e : r = k
  · rw [if_pos ⟨rfl, e⟩, if_pos e]
  · rw [if_neg (fun z => e z.2), if_neg e]
theorem xp_n0 {S : xm_S} {k : Nat} {x : Nat × Nat} {c2 c100 c101 : Nat} {a : Nat → Nat → Nat} {r : Nat} (hr : r < 100) : xm_n (xk_psh S k x c2 c100 c101 a) 0 r = xm_n S 0 r := by
  show (if 0 = 0 ∧ r = 100 then c100 else if 0 = 0 ∧ r = 101 then c101 else xm_n S 0 r) = _
  rw [if_neg (by omega), if_neg (by omega)]
theorem xp_n3 {S : xm_S} {k : Nat} {x : Nat × Nat} {c2 c100 c101 : Nat} {a : Nat → Nat → Nat} {p r : Nat} (hp : 3 ≤ p) : xm_n (xk_psh S k x c2 c100 c101 a) p r = xm_n S p r := by
  show (if p = 1 ∧ r = k then xm_n S 1 k + 1 else if p = 2 ∧ r = k then c2 else if p = 0 ∧ r = 100 then c100 else if p = 0 ∧ r = 101 then c101 else xm_n S p r) = _
  rw [if_neg (by omega), if_neg (by omega), if_neg (by omega), if_neg (by omega)]
theorem xp_l {S : xm_S} {k : Nat} {x : Nat × Nat} {c2 c100 c101 : Nat} {a : Nat → Nat → Nat} {r i : Nat} : xm_l (xk_psh S k x c2 c100 c101 a) r i = if r = k ∧ i = xm_n S 1 k then x else xm_l S r i := rfl
theorem k_dst.on {S S' : xm_S} {q j : Nat} (i5 : ∀ g, xm_i S' 5 g 1 = xm_i S 5 g 1) (r10 : ∀ t, xm_r S' 10 t 0 = xm_r S 10 t 0) (n4 : xm_n S' 1 4 = xm_n S 1 4) (n1 : ∀ r, xm_n S' 1 r = if r = q then xm_n S 1 q + 1 else xm_n S 1 r) (ll : ∀ r i, xm_l S' r i = if r = q ∧ i = xm_n S 1 q then (5, j) else xm_l S r i) (hd : ∀ i g, i < xm_n S 1 q → xm_l S q i = (5, g) → xm_i S 5 g 1 ≠ xm_i S 5 j 1) (h : k_dst S) : k_dst S' := by
  intro t q' ht hq i k g e hik hk w1 w2
  rw [n4] at ht
  rw [r10] at hq
  rw [i5, i5]
  rw [n1] at hk
  rw [ll] at w1 w2
  by_cases eq : q' = q
  · rw [if_pos eq] at hk
    subst eq
    rw [if_neg (by omega)] at w1
    by_cases ek : k = xm_n S 1 q'
    · rw [if_pos ⟨rfl, ek⟩] at w2
      cases w2
      exact hd i g (by omega) w1
    · rw [if_neg (fun z => ek z.2)] at w2
      exact h t q' ht hq i k g e hik (by omega) w1 w2
  · rw [if_neg eq] at hk
    rw [if_neg (fun z => eq z.1)] at w1 w2
    exact h t q' ht hq i k g e hik hk w1 w2
set_option maxHeartbeats 4000000 in
theorem kK.on {S S' : xm_S} {A : y_A} {t q j c2 : Nat} (h : kK S A t) (hq : xm_r S 10 (xm_n S 1 4) 0 = some q) (hlt : xm_n S 1 q < 5) (hj : j < xm_n S 1 3) (hd : ∀ i g, i < xm_n S 1 q → xm_l S q i = (5, g) → xm_i S 5 g 1 ≠ xm_i S 5 j 1)
    (hi : ∀ p r j, xm_i S' p r j = xm_i S p r j) (hr : ∀ p r j, xm_r S' p r j = xm_r S p r j) (n1 : ∀ r, xm_n S' 1 r = if r = q then xm_n S 1 q + 1 else xm_n S 1 r) (n2 : ∀ r, xm_n S' 2 r = if r = q then c2 else xm_n S 2 r) (n0 : ∀ r, r < 100 → xm_n S' 0 r = xm_n S 0 r) (n3 : ∀ p r, 20 ≤ p → xm_n S' p r = xm_n S p r) (ll : ∀ r i, xm_l S' r i = if r = q ∧ i = xm_n S 1 q then (5, j) else xm_l S r i)
    (hcp : (xm_n S 2 q = 1 ∧ c2 = 10) ∨ (xm_n S 1 q = xm_n S 2 q ∧ c2 ≤ 2 * xm_n S 1 q) ∨ (xm_n S 2 q ≠ 1 ∧ xm_n S 1 q ≠ xm_n S 2 q ∧ c2 = xm_n S 2 q)) : kK S' (xm_u2 (xm_u2 A 49 (50 + xm_n S 1 q) (nI j)) 48 10 (nI (xm_n S 1 q + 1))) t := by
  have hKK := h
  obtain ⟨⟨⟨⟨hC, hcnt, hb, hl, ht, hv, h1, h2, h3, h4, h5, h6, h7, h8, h9, h10, h11, h12⟩, -⟩, -⟩, ⟨-, jdst, jown, jobj, jcap, -, -, -, -, -, -, -, -, jpln, -⟩⟩ := h
  obtain ⟨q', y1, y2, y3, y4, y5, y6⟩ := h9
  rw [hq] at y1
  cases y1
  have hbb := hb
  unfold k_bnd at hbb
  have e : ∀ r, r < 12 → xm_n S' 1 r = xm_n S 1 r := fun r hr => by rw [n1, if_neg (by omega)]
  have hA : ∀ x k, x ≠ 48 → x ≠ 49 → xm_u2 (xm_u2 A 49 (50 + xm_n S 1 q) (nI j)) 48 10 (nI (xm_n S 1 q + 1)) x k = A x k := fun x k e1 e2 => (if_neg (fun z => e1 z.1)).trans (if_neg (fun z => e2 z.1))
  have a48 : xm_u2 (xm_u2 A 49 (50 + xm_n S 1 q) (nI j)) 48 10 (nI (xm_n S 1 q + 1)) 48 10 = nI (xm_n S 1 q + 1) := y_same _ _ _ _
  have a49 : ∀ k, xm_u2 (xm_u2 A 49 (50 + xm_n S 1 q) (nI j)) 48 10 (nI (xm_n S 1 q + 1)) 49 k = if k = 50 + xm_n S 1 q then nI j else A 49 k := fun k => by
    refine (if_neg (fun z => absurd z.1 (by decide))).trans ?_
    unfold xm_u2
    by_cases ek : k = 50 + xm_n S 1 q
    · rw [if_pos ⟨rfl, ek⟩, if_pos ek]
    · rw [if_neg (fun z => ek z.2), if_neg ek]
  have aold : ∀ x k, kOlu S x k → xm_u2 (xm_u2 A 49 (50 + xm_n S 1 q) (nI j)) 48 10 (nI (xm_n S 1 q + 1)) x k = A x k := fun x k hk => by
    unfold kOlu at hk
    unfold xm_u2
    rw [if_neg (by omega), if_neg (by omega)]
  generalize xm_u2 (xm_u2 A 49 (50 + xm_n S 1 q) (nI j)) 48 10 (nI (xm_n S 1 q + 1)) = A' at *
  have hE : kExu S S' := by
    refine ⟨fun p r j _ _ => ⟨hi p r j, hr p r j⟩, ⟨?_, ?_, ?_, ?_, ?_, ?_⟩, ⟨?_, ?_, ?_, ?_, ?_, ?_⟩, fun k k1 k2 k3 => ⟨?_, fun i => ?_⟩, fun k i k1 k2 => ?_, fun g _ => n3 25 g (by decide), ?_, fun k j => hi 16 k j, fun k => n3 26 k (by decide), ?_⟩
    · rw [e 0 (by decide)]; exact Nat.le_refl _
    · rw [e 1 (by decide)]; exact Nat.le_refl _
    · rw [e 2 (by decide)]; exact Nat.le_refl _
    · rw [e 3 (by decide)]; exact Nat.le_refl _
    · rw [e 10 (by decide)]; exact Nat.le_refl _
    · rw [e 11 (by decide)]; exact Nat.le_refl _
    · rw [e 4 (by decide)]; exact Nat.le_refl _
    · exact e 5 (by decide)
    · exact e 6 (by decide)
    · exact e 7 (by decide)
    · exact e 8 (by decide)
    · exact e 9 (by decide)
    · rw [n1, if_neg (fun z => k3 (by rw [z]; exact hq))]
    · rw [ll, if_neg (fun z => k3 (by rw [z.1]; exact hq))]
    · rw [ll, if_neg (by omega)]
    · rw [n0 12 (by decide)]; exact Nat.le_refl _
    · rw [n0 8 (by decide)]; exact Nat.le_refl _
  refine hKK.exu hE aold (fun j hj => (hr 0 0 j).trans (hC j hj)) ?_ ?_ ?_ ⟨?_, ?_, ?_⟩ (fun k z1 z2 => absurd z2 (by rw [e 0 (by decide)]; omega)) (fun k z1 z2 => absurd z2 (by rw [e 3 (by decide)]; omega)) (fun k z1 z2 => absurd z2 (by rw [e 10 (by decide)]; omega)) (fun k z1 z2 => absurd z2 (by rw [e 11 (by decide)]; omega)) (fun k z1 z2 => absurd z2 (by rw [e 1 (by decide)]; omega)) (fun k z1 z2 => absurd z2 (by rw [e 2 (by decide)]; omega)) ?_ (fun t z1 z2 => absurd z2 (by rw [e 4 (by decide)]; omega)) ?_ ?_ ?_ ?_ ?_ (hi 0 0 15) (fun k z1 z2 => absurd z2 (by rw [e 3 (by decide)]; omega)) (fun k z1 z2 => absurd z2 (by rw [e 3 (by decide)]; omega))
  · unfold k_cnt at hcnt ⊢
    rw [e 0 (by decide), e 1 (by decide), e 2 (by decide), e 3 (by decide), e 4 (by decide), e 5 (by decide), e 6 (by decide), e 8 (by decide), e 9 (by decide), e 10 (by decide), e 11 (by decide), hA 1 0 (by decide) (by decide), hA 5 0 (by decide) (by decide), hA 11 0 (by decide) (by decide), hA 30 0 (by decide) (by decide), hA 47 0 (by decide) (by decide), hA 50 0 (by decide) (by decide), hA 61 0 (by decide) (by decide), hA 23 0 (by decide) (by decide), hA 17 0 (by decide) (by decide), hA 89 0 (by decide) (by decide), hA 103 0 (by decide) (by decide)]
    exact hcnt
  · unfold k_bnd
    rw [e 0 (by decide), e 1 (by decide), e 2 (by decide), e 3 (by decide), e 4 (by decide), e 5 (by decide), e 6 (by decide), e 7 (by decide), e 8 (by decide), e 9 (by decide), e 10 (by decide), e 11 (by decide)]
    exact hb
  · have kl : ∀ r cj, r < 12 → (∀ k, k < xm_n S 1 r → xm_l S r k = (cj, k)) → ∀ k, k < xm_n S' 1 r → xm_l S' r k = (cj, k) := fun r cj z1 z3 k hk => by
      rw [e r z1] at hk
      rw [ll, if_neg (by omega)]
      exact z3 k hk
    exact ⟨kl 0 9 (by decide) hl.1, kl 3 5 (by decide) hl.2.1, kl 4 10 (by decide) hl.2.2.1, kl 5 6 (by decide) hl.2.2.2.1, kl 6 2 (by decide) hl.2.2.2.2.1, kl 8 4 (by decide) hl.2.2.2.2.2.1, kl 9 3 (by decide) hl.2.2.2.2.2.2.1, kl 10 7 (by decide) hl.2.2.2.2.2.2.2.1, kl 11 1 (by decide) hl.2.2.2.2.2.2.2.2⟩
  · rw [hi, hA 0 0 (by decide) (by decide)]; exact ht.1
  · rw [hA 0 0 (by decide) (by decide)]; exact ht.2.1
  · rw [hr, e 4 (by decide)]; exact ht.2.2
  · refine ⟨q, ?_, y2, by rw [n0 12 (by decide)]; exact y3, ?_, ?_, fun i hii => ?_⟩
    · rw [e 4 (by decide), hr]; exact hq
    · rw [n1, if_pos rfl]; omega
    · rw [n1, if_pos rfl]; exact a48
    · rw [n1, if_pos rfl] at hii
      rw [ll, a49, e 3 (by decide)]
      by_cases ei : i = xm_n S 1 q
      · rw [if_pos ⟨rfl, ei⟩, if_pos (by omega)]
        exact ⟨j, rfl, hj, rfl⟩
      · rw [if_neg (fun z => ei z.2), if_neg (by omega)]
        exact y6 i (by omega)
  · exact k_dst.on (fun g => hi 5 g 1) (fun t => hr 10 t 0) (e 4 (by decide)) n1 ll hd jdst
  · unfold k_own
    simp only [hr, e 3 (by decide), e 4 (by decide)]
    exact jown
  · unfold k_obj
    rw [e 0 (by decide), e 1 (by decide), e 2 (by decide), e 3 (by decide), e 4 (by decide), e 5 (by decide), e 6 (by decide), e 8 (by decide), e 9 (by decide), e 10 (by decide), e 11 (by decide), n0 9 (by decide), n0 5 (by decide), n0 10 (by decide), n0 6 (by decide), n0 2 (by decide), n0 4 (by decide), n0 3 (by decide), n0 7 (by decide), n0 1 (by decide), n0 15 (by decide), n0 8 (by decide), n0 12 (by decide), n0 0 (by decide), n0 11 (by decide), n0 13 (by decide), n0 14 (by decide)]
    exact jobj
  · obtain ⟨v1, v2, v3⟩ := jcap
    have v3q := v3 q y2 y3
    have hc : c2 = 10 := by rcases hcp with z | z | z <;> omega
    unfold k_cap
    rw [n0 12 (by decide), e 6 (by decide)]
    refine ⟨fun i hii => ?_, fun i hii => ?_, fun i hi1 hi2 => ?_⟩
    · rw [n2]
      by_cases ei : i = q
      · rw [if_pos ei, hc]; decide
      · rw [if_neg ei]; exact v1 i hii
    · rw [n2, if_neg (by omega)]; exact v2 i hii
    · rw [n2, n1]
      by_cases ei : i = q
      · rw [if_pos ei]; exact Or.inr hc
      · rw [if_neg ei, if_neg ei]; exact v3 i hi1 hi2
  · unfold k_pln k_spn at jpln ⊢
    simp only [hi, e 0 (by decide), e 1 (by decide), e 2 (by decide), e 5 (by decide), e 10 (by decide), hA 2 _ (by decide) (by decide), hA 3 _ (by decide) (by decide), hA 10 _ (by decide) (by decide), hA 16 _ (by decide) (by decide), hA 54 _ (by decide) (by decide), hA 93 _ (by decide) (by decide), hA 94 _ (by decide) (by decide), hA 97 _ (by decide) (by decide)]
    exact jpln
theorem q_hasSort {S : xm_S} {A : y_A} (h : kE S A) {q j : Nat} (hq : xm_r S 10 (xm_n S 1 4) 0 = some q) (hj : j < xm_n S 1 3) : ∀ (r i n : Nat), i + r = xm_n S 1 q → r < n →
    xw 0 110 2 [some (.inr (some (10, xm_n S 1 4))), some (.inl (A 31 j)), some (.inl (nI i))] [] S (fun v S' => S' = S ∧ ((v = some (.inl 1) ∧ rf_on_16 n (nI j) (nI i) A = (-2, A)) ∨ (v = some (.inl 0) ∧ rf_on_16 n (nI j) (nI i) A = (if nI (xm_n S 1 q) = 5 then ((-3 : Int32), A) else (nI (xm_n S 1 q + 1), xm_u2 (xm_u2 A 49 (50 + xm_n S 1 q) (nI j)) 48 10 (nI (xm_n S 1 q + 1)))) ∧ ∀ k g, i ≤ k → k < xm_n S 1 q → xm_l S q k = (5, g) → xm_i S 5 g 1 ≠ xm_i S 5 j 1))) ∧ rg_on_16 n (nI j) (nI i) A := by
  obtain ⟨hC, hcnt, hb, hl, ht, hv, h1, h2, h3, h4, h5, h6, h7, h8, h9, -⟩ := h
  obtain ⟨q', y1, y2, y3, y4, y5, y6⟩ := h9
  rw [hq] at y1
  cases y1
  have hbb := hb
  unfold k_bnd at hbb
  have ix10 : y_ix (10 : Int32) = 10 := by decide
  have e50 : ∀ k, k ≤ 5 → (50 : Int32) + nI k = nI (50 + k) := fun k _ => by rw [show (50 : Int32) = nI 50 from rfl, nI_add]
  have ixj : y_ix (nI j) = j := y_ix_nI (by omega)
  intro r
  induction r with
  | zero =>
    intro i n hi hn
    obtain ⟨n, rfl⟩ : ∃ m, n = m + 1 := ⟨n - 1, by omega⟩
    have c : nI (xm_n S 1 q) ≤ nI i := nI_le (by omega) (by omega)
    unfold rf_on_16 rg_on_16
    rw [ix10, y5, if_pos c, e50 _ y4, y_ix_nI (by omega), nI_1]
    refine ⟨cw_towerHasSort_2 hC ?_, ⟨fun _ => ⟨fun _ => trivial, fun z => ⟨y_in_nI ?_ (by decide), trivial⟩⟩, fun z => absurd c z⟩⟩
    · intro t1 e1
      refine ⟨q, e1.symm.trans hq, fun _ => ⟨rfl, Or.inr ⟨rfl, rfl, fun k g k1 k2 => absurd k2 (by omega)⟩⟩, fun z => absurd c z⟩
    · have : xm_n S 1 q ≠ 5 := fun e => z (by rw [e]; rfl)
      omega
  | succ r ih =>
    intro i n hi hn
    obtain ⟨n, rfl⟩ : ∃ m, n = m + 1 := ⟨n - 1, by omega⟩
    have c : ¬ nI (xm_n S 1 q) ≤ nI i := nI_ge (by omega) (by omega)
    obtain ⟨g, g1, g2, g3⟩ := y6 i (by omega)
    obtain ⟨i1, i2⟩ := ih (i + 1) n (by omega) (by omega)
    unfold rf_on_16 rg_on_16
    rw [ix10, y5, if_neg c, e50 i (by omega), y_ix_nI (by omega), g3, y_ix_nI (by omega), ixj, nI_1]
    have s1 := (h3 g g2).2.1
    have s2 := (h3 j hj).2.1
    refine ⟨cw_towerHasSort_2 hC ?_, ⟨fun z => absurd z c, fun _ => ⟨y_in_nI (by omega) (by decide), y_in_nI (by omega) (by decide), y_in_nI (by omega) (by decide), fun _ => trivial, fun _ => i2⟩⟩⟩
    intro t1 e1
    refine ⟨q, e1.symm.trans hq, fun z => absurd z c, fun _ => ⟨y_in_nI (by omega) (by omega), g, by rw [y_ix_nI (by omega)]; exact g1, fun z => ?_, fun z => ?_⟩⟩
    · rw [s1] at z
      refine ⟨rfl, Or.inl ⟨rfl, ?_⟩⟩
      rw [if_pos z]
    · have z' : ¬ A 31 g = A 31 j := by rw [← s1]; exact z
      rw [nI_1]
      refine i1.mono ?_
      rintro v S' ⟨rfl, w⟩
      refine ⟨rfl, ?_⟩
      rw [if_neg z']
      rcases w with w | ⟨w1, w2, w3⟩
      · exact Or.inl w
      · refine Or.inr ⟨w1, w2, fun k g' k1 k2 k3 => ?_⟩
        by_cases ek : k = i
        · rw [ek, g1] at k3
          cases k3
          rw [s1, s2]
          exact z'
        · exact w3 k g' (by omega) k2 k3
theorem p_on : kPub 9 125 1 := by
  intro as hn S A t hK _
  obtain ⟨a1, rfl⟩ := k_l1 hn
  have hKK := hK
  obtain ⟨⟨⟨hE, -⟩, -⟩, ⟨-, -, -, -, jcap, -⟩⟩ := hK
  have hEE := hE
  obtain ⟨hC, hcnt, hb, hl, ht, hv, h1, h2, h3, h4, h5, h6, h7, h8, h9, -⟩ := hE
  obtain ⟨q, y1, y2, y3, y4, y5, y6⟩ := h9
  have hbb := hb
  unfold k_bnd at hbb
  have w4 := hcnt.2.2.2.1
  have fin : ∀ (f : Int32) (A' : y_A), rf_on a1 A = (f, A') → rg_on a1 A → xc 1 9 [.inr (some (0, 0)), .inl a1] S (fun r S' => r = some (.inl f) ∧ kK S' A' t) → ∃ (f : Int32) (A' : y_A) (t' : Nat), t' ≤ t + 100 ∧ xc 1000 9 (.inr (some (0, 0)) :: [a1].map .inl) S (fun r S' => r = some (.inl f) ∧ kK S' A' t') ∧ rc 20 125 (.inr (some (11, 0)) :: [a1].map .inl) A [] (fun r A2 js => r = some (.inl f) ∧ A2 = A' ∧ js = []) := fun f A' e g x => by
    refine ⟨f, A', t, by omega, xc.up x (by decide), ra.up (ra.mono (rh_on (d := 20) (js := []) (by decide) g) ?_) (Nat.le_refl _)⟩
    rintro r A2 js ⟨z1, z2, z3⟩
    rw [e] at z1 z2
    exact ⟨z1, z2, z3⟩
  have T : ∀ {p : Prop}, p → True := fun _ => trivial
  unfold rf_on rg_on at fin
  rcases k_idx a1 (n := xm_n S 1 3) (by omega) with hi | ⟨hi, hi2, hi3⟩ | ⟨j, hj, rfl⟩
  · exact fin (-1) A (by rw [if_pos hi]) ⟨T, fun z => absurd hi z⟩ (cw_on hC ⟨fun _ => ⟨rfl, hKK⟩, fun z => absurd hi z⟩)
  · exact fin (-1) A (by rw [if_neg hi, w4, if_neg hi3]) ⟨T, fun _ => ⟨fun z => absurd (w4 ▸ z) hi3, T⟩⟩ (cw_on hC ⟨fun z => absurd z hi, fun _ => ⟨fun _ => ⟨rfl, hKK⟩, fun z => absurd hi2 z⟩⟩)
  · have e1 : ¬ nI j < 0 := nI_pos (by omega)
    have e2 : ¬ nI (xm_n S 1 3) ≤ nI j := nI_ge hj (by omega)
    have e3 : nI j < nI (xm_n S 1 3) := nI_lt hj (by omega)
    have e4 : y_ix (nI j) = j := y_ix_nI (by omega)
    obtain ⟨l1, l2⟩ := q_hasSort hEE y1 hj (xm_n S 1 q) 0 20000 (by omega) (by omega)
    refine fin _ _ (by rw [if_neg e1, w4, if_pos e3]) ⟨fun z => absurd z e1, fun _ => ⟨fun _ => l2, fun z => absurd (w4 ▸ e3) z⟩⟩ (cw_on (d := 0) hC ⟨fun z => absurd z e1, fun _ => ⟨fun z => absurd z e2, fun _ => ⟨y_in_nI hj (by omega), j, by rw [e4]; exact hl.2.1 j hj, fun t6 et => ⟨xm_n S 1 4, et.symm.trans ht.2.2, ?_⟩⟩⟩⟩)
    rw [(h3 j hj).2.1]
    refine cw_towerHasSort hC (l1.mono ?_)
    rintro v S9 ⟨rfl, ⟨v1, v2⟩ | ⟨v1, v2, v3⟩⟩
    · refine ⟨1, v1, hC, fun z => absurd z (by decide), fun _ => ?_⟩
      rw [show (0 : Int32) = nI 0 from rfl, v2]
      exact ⟨rfl, hKK⟩
    · refine ⟨0, v1, hC, fun _ t13 e13 => ⟨xm_n S9 1 4, e13.symm.trans ht.2.2, fun t16 e16 => ⟨q, e16.symm.trans y1, fun hlt => ⟨jcap.1 q y3, by omega, fun S22 e22 => ?_⟩, fun hlt => ?_⟩⟩, fun z => absurd rfl z⟩
      · have hlt' : xm_n S9 1 q < 5 := (nI_ltI (b := 5) (by omega) (by decide)).mp hlt
        have hne : ¬ nI (xm_n S9 1 q) = 5 := fun z => by rw [z] at hlt; exact absurd hlt (by decide)
        rw [show (0 : Int32) = nI 0 from rfl, v2, if_neg hne]
        obtain ⟨c2, c100, c101, b, ep, hc2, hcp⟩ := xm_push_x S9 q (5, j) (jcap.1 q y3)
        rw [ep] at e22
        subst e22
        have n1 : ∀ r, xm_n (xk_psh S9 q (5, j) c2 c100 c101 b) 1 r = if r = q then xm_n S9 1 q + 1 else xm_n S9 1 r := fun r => by
          show (if 1 = 1 ∧ r = q then _ else _) = _
          by_cases e : r = q
          · rw [if_pos ⟨rfl, e⟩, if_pos e]
          · rw [if_neg (fun z => e z.2), if_neg e]
            rfl
        refine ⟨by rw [n1, if_pos rfl], kK.on (c2 := c2) hKK y1 hlt' hj (fun k g k1 k2 => v3 k g (by omega) k1 k2) (fun _ _ _ => rfl) (fun _ _ _ => rfl) n1 (fun r => ?_) (fun r hr => ?_) (fun p r hp => ?_) (fun r i => rfl) hcp⟩
        · show (if 2 = 2 ∧ r = q then _ else _) = _
          by_cases e : r = q
          · rw [if_pos ⟨rfl, e⟩, if_pos e]
          · rw [if_neg (fun z => e z.2), if_neg e]
            rfl
        · exact xp_n0 hr
        · exact xp_n3 (by omega)
      · have he : nI (xm_n S9 1 q) = 5 := Classical.byContradiction fun z => hlt (nI_lt (b := 5) (Nat.lt_of_le_of_ne y4 (fun e => z (by rw [e]; rfl))) (by decide))
        rw [show (0 : Int32) = nI 0 from rfl, v2, if_pos he]
        exact ⟨rfl, hKK⟩
end
