/-! ===== A FAILURE, AN EFFECT, AN ORDER MORE (printed by wip/whole/gen82.py) ===== -/
section
theorem xs_le1 {f : Nat → Nat} : ∀ {n : Nat}, (∀ k, f k ≤ 1) → xs f n ≤ n
  | 0, _ => Nat.le_refl _
  | n + 1, h => by
    show xs f n + f n ≤ n + 1
    have := h n
    have := xs_le1 (f := f) (n := n) h
    omega
theorem xs_lt1 {f : Nat → Nat} {c : Nat} : ∀ {n : Nat}, (∀ k, f k ≤ 1) → c < n → f c = 0 → xs f n < n
  | 0, _, h, _ => absurd h (by omega)
  | n + 1, h, hc, h0 => by
    show xs f n + f n < n + 1
    by_cases e : c = n
    · rw [← e, h0]
      have := xs_le1 (f := f) (n := c) h
      omega
    · have := xs_lt1 (f := f) (n := n) h (by omega) h0
      have := h n
      omega
theorem k_hows.lt {S : xm_S} {c : Nat} {v : Int32} (hc : c < xm_n S 1 6) (h : xm_i S 2 c 8 ≠ v) : k_hows S v < xm_n S 1 6 := by
  unfold k_hows
  refine xs_lt1 (c := c) (fun k => ?_) hc (if_neg h)
  by_cases e : xm_i S 2 k 8 = v
  · simp only [e, if_true]; exact Nat.le_refl _
  · simp only [e, if_false]; exact Nat.zero_le _
/-- the old things are the same; the list L alone has more -/
def kSm (L : Nat) (S S' : xm_S) : Prop := (∀ p q j, p ≤ 15 → q < xm_n S 0 p → xm_i S' p q j = xm_i S p q j ∧ xm_r S' p q j = xm_r S p q j) ∧ (∀ r, r ≠ L → xm_n S' 1 r = xm_n S 1 r) ∧ (∀ r i, r ≠ L → xm_l S' r i = xm_l S r i) ∧ xm_n S' 1 L = xm_n S 1 L + 1
theorem kM.new8 {S S1 : xm_S} {A A' : y_A} {X E B : Nat → Prop} {hb rb nb t w e1 e2 w' e1' e2' c2 c100 c101 : Nat} {b : Nat → Nat → Nat} (h : kM S A X E B hb rb nb t w e1 e2) (n : kN S S1 4 7) (hC1 : xk_C S1) (hc2 : c2 ≠ 0) (hcp : (xm_n S 2 8 = 1 ∧ c2 = 10) ∨ (xm_n S 1 8 = xm_n S 2 8 ∧ c2 ≤ 2 * xm_n S 1 8) ∨ (xm_n S 2 8 ≠ 1 ∧ xm_n S 1 8 ≠ xm_n S 2 8 ∧ c2 = xm_n S 2 8)) (hlt : xm_n S 1 8 < xm_n S 1 6)
    (a : ∀ x k, kOlw S x k → A' x k = A x k) (hA : A' 23 0 = nI (xm_n S 1 8 + 1) ∧ A' 1 0 = A 1 0 ∧ A' 5 0 = A 5 0 ∧ A' 11 0 = A 11 0 ∧ A' 30 0 = A 30 0 ∧ A' 89 0 = A 89 0 ∧ A' 103 0 = A 103 0 ∧ A' 47 0 = A 47 0 ∧ A' 61 0 = A 61 0 ∧ A' 17 0 = A 17 0 ∧ A' 50 0 = A 50 0) (nw : kf (xk_psh S1 8 (4, xm_n S 0 4) c2 c100 c101 b) A' (xm_n S 1 8)) (num : k_num (xk_psh S1 8 (4, xm_n S 0 4) c2 c100 c101 b) A' e1' e2') (hw1 : w' + xm_n S 1 5 ≤ w + xm_n (xk_psh S1 8 (4, xm_n S 0 4) c2 c100 c101 b) 1 5) (hw2 : xm_n (xk_psh S1 8 (4, xm_n S 0 4) c2 c100 c101 b) 1 5 ≤ w' + (xm_n S 1 5 - w)) (pln : k_pln (xk_psh S1 8 (4, xm_n S 0 4) c2 c100 c101 b) A' t nb) :
    kM (xk_psh S1 8 (4, xm_n S 0 4) c2 c100 c101 b) A' X E B hb rb nb t w' e1' e2' ∧ kSm 8 S (xk_psh S1 8 (4, xm_n S 0 4) c2 c100 c101 b) := by
  have hKK := h
  obtain ⟨⟨hC, hcnt, hb', hl, ht, hv, h1, h2, h3, h4, h5, h6, h7, h8, h9, h10, h11, h12⟩, hS, hgr, hI⟩ := h
  have hII := hI
  obtain ⟨-, -, jown, jobj, jcap, -⟩ := hI
  have hOO := jobj
  obtain ⟨o9, o5, o10, o6, o2, o4, o3, o7, o1, o15, o8, o12, o0, o11, o13, o14⟩ := jobj
  have hbb := hb'
  unfold k_bnd at hbb
  have N1 : ∀ r, xm_n (xk_psh S1 8 (4, xm_n S 0 4) c2 c100 c101 b) 1 r = if r = 8 then xm_n S 1 8 + 1 else xm_n S 1 r := fun r => by
    have e : ∀ r, xm_n S1 1 r = xm_n S 1 r := fun r => by
      rw [n.n, if_neg (by omega), if_neg (by omega), if_neg (by omega), if_neg (by omega), if_neg (by omega)]
    rw [xp_n1, e, e]
  have N2 : ∀ r, xm_n (xk_psh S1 8 (4, xm_n S 0 4) c2 c100 c101 b) 2 r = if r = 8 then c2 else xm_n S 2 r := fun r => by
    have e : ∀ r, xm_n S1 2 r = xm_n S 2 r := fun r => by
      rw [n.n, if_neg (by omega), if_neg (by omega), if_neg (by omega), if_neg (by omega), if_neg (by omega)]
    rw [xp_n2, e]
  have N0 : ∀ r, r < 100 → xm_n (xk_psh S1 8 (4, xm_n S 0 4) c2 c100 c101 b) 0 r = if r = 4 then xm_n S 0 4 + 1 else xm_n S 0 r := fun r hr => by
    rw [xp_n0 hr, n.n]
    by_cases e : r = 4
    · rw [if_pos ⟨rfl, e⟩, if_pos e]
    · rw [if_neg (fun z => e z.2), if_neg (by omega), if_neg (by omega), if_neg (by omega), if_neg (by omega), if_neg e]
  have N3 : ∀ p r, 25 ≤ p → xm_n (xk_psh S1 8 (4, xm_n S 0 4) c2 c100 c101 b) p r = xm_n S p r := fun p r hp => by
    rw [xp_n3 (by omega), n.n, if_neg (by omega), if_neg (by omega), if_neg (by omega), if_neg (by omega), if_neg (by omega)]
  have LL : ∀ r i, xm_l (xk_psh S1 8 (4, xm_n S 0 4) c2 c100 c101 b) r i = if r = 8 ∧ i = xm_n S 1 8 then (4, xm_n S 0 4) else xm_l S r i := fun r i => by
    have e : xm_n S1 1 8 = xm_n S 1 8 := by
      rw [n.n, if_neg (by omega), if_neg (by omega), if_neg (by omega), if_neg (by omega), if_neg (by omega)]
    rw [xp_l, n.2.1, e]
  have RR : ∀ p q j, ¬ (p = 4 ∧ q = xm_n S 0 4) → xm_i (xk_psh S1 8 (4, xm_n S 0 4) c2 c100 c101 b) p q j = xm_i S p q j ∧ xm_r (xk_psh S1 8 (4, xm_n S 0 4) c2 c100 c101 b) p q j = xm_r S p q j := fun p q j hp => (n.1 p q j).resolve_left hp
  generalize (xk_psh S1 8 (4, xm_n S 0 4) c2 c100 c101 b) = S' at *
  have e : ∀ r, r ≠ 8 → xm_n S' 1 r = xm_n S 1 r := fun r hr => by rw [N1, if_neg hr]
  have el : xm_n S' 1 8 = xm_n S 1 8 + 1 := by rw [N1, if_pos rfl]
  have f : ∀ r, r < 100 → r ≠ 4 → xm_n S' 0 r = xm_n S 0 r := fun r hr h => by rw [N0 r hr, if_neg h]
  have fc : xm_n S' 0 4 = xm_n S 0 4 + 1 := by rw [N0 4 (by decide), if_pos rfl]
  have ll : ∀ r i, r ≠ 8 → xm_l S' r i = xm_l S r i := fun r i hr => by rw [LL, if_neg (fun z => hr z.1)]
  have hE : kExw S S' := by
    refine ⟨fun p r j hp hr => RR p r j (fun z => by rw [z.1] at hr; omega), ⟨?_, ?_, ?_, ?_, ?_, ?_⟩, ⟨?_, ?_, ?_, ?_, ?_, ?_⟩, fun k k1 k2 => ⟨?_, fun i => ?_⟩, fun k i k1 k2 => ?_, fun g _ => N3 25 g (by decide), ?_, fun k j => (RR 16 k j (by omega)).1, fun k => N3 26 k (by decide), ?_⟩
    · rw [e 0 (by decide)]; exact Nat.le_refl _
    · rw [e 1 (by decide)]; exact Nat.le_refl _
    · rw [e 2 (by decide)]; exact Nat.le_refl _
    · rw [e 3 (by decide)]; exact Nat.le_refl _
    · rw [e 10 (by decide)]; exact Nat.le_refl _
    · rw [e 11 (by decide)]; exact Nat.le_refl _
    · exact e 4 (by decide)
    · rw [e 5 (by decide)]; exact Nat.le_refl _
    · exact e 6 (by decide)
    · exact e 7 (by decide)
    · rw [el]; omega
    · rw [e 9 (by decide)]; exact Nat.le_refl _
    · exact e k (by omega)
    · exact ll k i (by omega)
    · rw [LL]
      by_cases ek : k = 8 ∧ i = xm_n S 1 8
      · rw [ek.1] at k2; omega
      · rw [if_neg ek]
    · rw [f 12 (by decide) (by decide)]; exact Nat.le_refl _
    · rw [f 8 (by decide) (by decide)]; exact Nat.le_refl _
  have hC' : xk_C S' := fun j hj => (RR 0 0 j (by omega)).2.trans (hC j hj)
  have hcap' : k_cap S' := by
    obtain ⟨v1, v2, v3⟩ := jcap
    unfold k_cap
    rw [f 12 (by decide) (by decide), e 6 (by decide)]
    refine ⟨fun i hii => ?_, fun i hii => ?_, fun i hi1 hi2 => ?_⟩
    · rw [N2]
      by_cases ei : i = 8
      · rw [if_pos ei]; exact hc2
      · rw [if_neg ei]; exact v1 i hii
    · rw [N2]
      by_cases ei : i = 8
      · rw [if_pos ei]
        have := v2 8 (by decide)
        rcases hcp with z | z | z <;> omega
      · rw [if_neg ei]; exact v2 i hii
    · rw [N2, if_neg (by omega), e i (by omega)]; exact v3 i hi1 hi2
  have hobj' : k_obj S' := by
    unfold k_obj
    rw [e 0 (by decide), e 3 (by decide), e 4 (by decide), e 5 (by decide), e 6 (by decide), el, e 9 (by decide), e 10 (by decide), e 11 (by decide), e 1 (by decide), e 2 (by decide), f 9 (by decide) (by decide), f 5 (by decide) (by decide), f 10 (by decide) (by decide), f 6 (by decide) (by decide), f 2 (by decide) (by decide), fc, f 3 (by decide) (by decide), f 7 (by decide) (by decide), f 1 (by decide) (by decide), f 15 (by decide) (by decide), f 8 (by decide) (by decide), f 12 (by decide) (by decide), f 0 (by decide) (by decide), f 11 (by decide) (by decide), f 13 (by decide) (by decide), f 14 (by decide) (by decide)]
    omega
  have hown' : k_own S' := by
    have r5 : ∀ q j, xm_r S' 5 q j = xm_r S 5 q j := fun q j => (RR 5 q j (by omega)).2
    have r10 : ∀ q j, xm_r S' 10 q j = xm_r S 10 q j := fun q j => (RR 10 q j (by omega)).2
    unfold k_own
    simp only [r5, r10, e 3 (by decide), e 4 (by decide)]
    exact jown
  have h0 : A' 0 0 = A 0 0 := a 0 0 (by unfold kOlw; omega)
  have hEE : kE S' A' := by
    refine kE.exw hE hOO a hKK.1 hC' ?_ ?_ ?_ ⟨(RR 0 0 13 (by omega)).1.trans (ht.1.trans h0.symm), by rw [h0]; exact ht.2.1, by rw [e 4 (by decide)]; exact (RR 0 0 12 (by omega)).2.trans ht.2.2⟩ (fun k z1 z2 => absurd z2 (by rw [e 0 (by decide)]; omega)) (fun k z1 z2 => absurd z2 (by rw [e 3 (by decide)]; omega)) (fun k z1 z2 => absurd z2 (by rw [e 10 (by decide)]; omega)) (fun k z1 z2 => absurd z2 (by rw [e 11 (by decide)]; omega)) (fun k z1 z2 => absurd z2 (by rw [e 1 (by decide)]; omega)) (fun k z1 z2 => absurd z2 (by rw [e 2 (by decide)]; omega)) ?_ (fun k z1 z2 => absurd z2 (by rw [e 9 (by decide)]; omega)) (fun k z1 z2 => absurd z2 (by rw [e 5 (by decide)]; omega))
    · obtain ⟨w1, w2, w3, w4, w5, w6, w7, w8, w9, w10, w11⟩ := hcnt
      obtain ⟨u0, u1, u2, u3, u4, u5, u6, u7, u8, u9, u10⟩ := hA
      unfold k_cnt
      rw [e 0 (by decide), e 1 (by decide), e 2 (by decide), e 3 (by decide), e 4 (by decide), e 5 (by decide), e 6 (by decide), el, e 9 (by decide), e 10 (by decide), e 11 (by decide), u0, u1, u2, u3, u4, u5, u6, u7, u8, u9, u10]
      exact ⟨w1, w2, w3, w4, w5, w6, w7, rfl, w9, w10, w11⟩
    · unfold k_bnd
      rw [e 0 (by decide), e 1 (by decide), e 2 (by decide), e 3 (by decide), e 4 (by decide), e 5 (by decide), e 6 (by decide), e 7 (by decide), el, e 9 (by decide), e 10 (by decide), e 11 (by decide)]
      omega
    · have kl : ∀ r cj, r ≠ 8 → (∀ k, k < xm_n S 1 r → xm_l S r k = (cj, k)) → ∀ k, k < xm_n S' 1 r → xm_l S' r k = (cj, k) := fun r cj z2 z3 k hk => by
        rw [e r z2] at hk
        rw [ll r k z2]
        exact z3 k hk
      refine ⟨kl 0 9 (by decide) hl.1, kl 3 5 (by decide) hl.2.1, kl 4 10 (by decide) hl.2.2.1, kl 5 6 (by decide) hl.2.2.2.1, kl 6 2 (by decide) hl.2.2.2.2.1, ?_, kl 9 3 (by decide) hl.2.2.2.2.2.2.1, kl 10 7 (by decide) hl.2.2.2.2.2.2.2.1, kl 11 1 (by decide) hl.2.2.2.2.2.2.2.2⟩
      intro k hk
      rw [el] at hk
      rw [LL]
      by_cases ek : k = xm_n S 1 8
      · rw [if_pos ⟨rfl, ek⟩, ek, o4]
      · rw [if_neg (fun z => ek z.2)]
        exact hl.2.2.2.2.2.1 k (by omega)
    · intro k z1 z2
      rw [show k = xm_n S 1 8 by omega]
      exact nw
  refine ⟨⟨hEE, fun k hk => ⟨(N3 26 k (by decide)).trans (hS k hk).1, fun j hj => (RR 16 k j (by omega)).1.trans ((hS k hk).2 j hj)⟩, fun g hg => ?_, kI.exw hE a hKK.1 hII num hw1 hw2 hown' hobj' hcap' pln (RR 0 0 15 (by omega)).1 (fun g z1 z2 => absurd z2 (by rw [e 3 (by decide)]; omega))⟩, ⟨fun p q j hp hq => RR p q j (fun z => by rw [z.1] at hq; omega), e, ll, el⟩⟩
  rw [e 3 (by decide)] at hg
  have z := hgr g hg
  unfold kgr at z ⊢
  simp only [e 0 (by decide), a 31 g (by unfold kOlw; omega), a 32 g (by unfold kOlw; omega), a 33 g (by unfold kOlw; omega), a 34 g (by unfold kOlw; omega), a 35 g (by unfold kOlw; omega), a 42 g (by unfold kOlw; omega)]
  exact z
theorem kM.new9 {S S1 : xm_S} {A A' : y_A} {X E B : Nat → Prop} {hb rb nb t w e1 e2 w' e1' e2' c2 c100 c101 : Nat} {b : Nat → Nat → Nat} (h : kM S A X E B hb rb nb t w e1 e2) (n : kN S S1 3 4) (hC1 : xk_C S1) (hc2 : c2 ≠ 0) (hcp : (xm_n S 2 9 = 1 ∧ c2 = 10) ∨ (xm_n S 1 9 = xm_n S 2 9 ∧ c2 ≤ 2 * xm_n S 1 9) ∨ (xm_n S 2 9 ≠ 1 ∧ xm_n S 1 9 ≠ xm_n S 2 9 ∧ c2 = xm_n S 2 9)) (hlt : xm_n S 1 9 < xm_n S 1 6)
    (a : ∀ x k, kOlw S x k → A' x k = A x k) (hA : A' 17 0 = nI (xm_n S 1 9 + 1) ∧ A' 1 0 = A 1 0 ∧ A' 5 0 = A 5 0 ∧ A' 11 0 = A 11 0 ∧ A' 30 0 = A 30 0 ∧ A' 89 0 = A 89 0 ∧ A' 103 0 = A 103 0 ∧ A' 47 0 = A 47 0 ∧ A' 61 0 = A 61 0 ∧ A' 23 0 = A 23 0 ∧ A' 50 0 = A 50 0) (nw : ke (xk_psh S1 9 (3, xm_n S 0 3) c2 c100 c101 b) A' (xm_n S 1 9)) (num : k_num (xk_psh S1 9 (3, xm_n S 0 3) c2 c100 c101 b) A' e1' e2') (hw1 : w' + xm_n S 1 5 ≤ w + xm_n (xk_psh S1 9 (3, xm_n S 0 3) c2 c100 c101 b) 1 5) (hw2 : xm_n (xk_psh S1 9 (3, xm_n S 0 3) c2 c100 c101 b) 1 5 ≤ w' + (xm_n S 1 5 - w)) (pln : k_pln (xk_psh S1 9 (3, xm_n S 0 3) c2 c100 c101 b) A' t nb) :
    kM (xk_psh S1 9 (3, xm_n S 0 3) c2 c100 c101 b) A' X E B hb rb nb t w' e1' e2' ∧ kSm 9 S (xk_psh S1 9 (3, xm_n S 0 3) c2 c100 c101 b) := by
  have hKK := h
  obtain ⟨⟨hC, hcnt, hb', hl, ht, hv, h1, h2, h3, h4, h5, h6, h7, h8, h9, h10, h11, h12⟩, hS, hgr, hI⟩ := h
  have hII := hI
  obtain ⟨-, -, jown, jobj, jcap, -⟩ := hI
  have hOO := jobj
  obtain ⟨o9, o5, o10, o6, o2, o4, o3, o7, o1, o15, o8, o12, o0, o11, o13, o14⟩ := jobj
  have hbb := hb'
  unfold k_bnd at hbb
  have N1 : ∀ r, xm_n (xk_psh S1 9 (3, xm_n S 0 3) c2 c100 c101 b) 1 r = if r = 9 then xm_n S 1 9 + 1 else xm_n S 1 r := fun r => by
    have e : ∀ r, xm_n S1 1 r = xm_n S 1 r := fun r => by
      rw [n.n, if_neg (by omega), if_neg (by omega), if_neg (by omega), if_neg (by omega), if_neg (by omega)]
    rw [xp_n1, e, e]
  have N2 : ∀ r, xm_n (xk_psh S1 9 (3, xm_n S 0 3) c2 c100 c101 b) 2 r = if r = 9 then c2 else xm_n S 2 r := fun r => by
    have e : ∀ r, xm_n S1 2 r = xm_n S 2 r := fun r => by
      rw [n.n, if_neg (by omega), if_neg (by omega), if_neg (by omega), if_neg (by omega), if_neg (by omega)]
    rw [xp_n2, e]
  have N0 : ∀ r, r < 100 → xm_n (xk_psh S1 9 (3, xm_n S 0 3) c2 c100 c101 b) 0 r = if r = 3 then xm_n S 0 3 + 1 else xm_n S 0 r := fun r hr => by
    rw [xp_n0 hr, n.n]
    by_cases e : r = 3
    · rw [if_pos ⟨rfl, e⟩, if_pos e]
    · rw [if_neg (fun z => e z.2), if_neg (by omega), if_neg (by omega), if_neg (by omega), if_neg (by omega), if_neg e]
  have N3 : ∀ p r, 25 ≤ p → xm_n (xk_psh S1 9 (3, xm_n S 0 3) c2 c100 c101 b) p r = xm_n S p r := fun p r hp => by
    rw [xp_n3 (by omega), n.n, if_neg (by omega), if_neg (by omega), if_neg (by omega), if_neg (by omega), if_neg (by omega)]
  have LL : ∀ r i, xm_l (xk_psh S1 9 (3, xm_n S 0 3) c2 c100 c101 b) r i = if r = 9 ∧ i = xm_n S 1 9 then (3, xm_n S 0 3) else xm_l S r i := fun r i => by
    have e : xm_n S1 1 9 = xm_n S 1 9 := by
      rw [n.n, if_neg (by omega), if_neg (by omega), if_neg (by omega), if_neg (by omega), if_neg (by omega)]
    rw [xp_l, n.2.1, e]
  have RR : ∀ p q j, ¬ (p = 3 ∧ q = xm_n S 0 3) → xm_i (xk_psh S1 9 (3, xm_n S 0 3) c2 c100 c101 b) p q j = xm_i S p q j ∧ xm_r (xk_psh S1 9 (3, xm_n S 0 3) c2 c100 c101 b) p q j = xm_r S p q j := fun p q j hp => (n.1 p q j).resolve_left hp
  generalize (xk_psh S1 9 (3, xm_n S 0 3) c2 c100 c101 b) = S' at *
  have e : ∀ r, r ≠ 9 → xm_n S' 1 r = xm_n S 1 r := fun r hr => by rw [N1, if_neg hr]
  have el : xm_n S' 1 9 = xm_n S 1 9 + 1 := by rw [N1, if_pos rfl]
  have f : ∀ r, r < 100 → r ≠ 3 → xm_n S' 0 r = xm_n S 0 r := fun r hr h => by rw [N0 r hr, if_neg h]
  have fc : xm_n S' 0 3 = xm_n S 0 3 + 1 := by rw [N0 3 (by decide), if_pos rfl]
  have ll : ∀ r i, r ≠ 9 → xm_l S' r i = xm_l S r i := fun r i hr => by rw [LL, if_neg (fun z => hr z.1)]
  have hE : kExw S S' := by
    refine ⟨fun p r j hp hr => RR p r j (fun z => by rw [z.1] at hr; omega), ⟨?_, ?_, ?_, ?_, ?_, ?_⟩, ⟨?_, ?_, ?_, ?_, ?_, ?_⟩, fun k k1 k2 => ⟨?_, fun i => ?_⟩, fun k i k1 k2 => ?_, fun g _ => N3 25 g (by decide), ?_, fun k j => (RR 16 k j (by omega)).1, fun k => N3 26 k (by decide), ?_⟩
    · rw [e 0 (by decide)]; exact Nat.le_refl _
    · rw [e 1 (by decide)]; exact Nat.le_refl _
    · rw [e 2 (by decide)]; exact Nat.le_refl _
    · rw [e 3 (by decide)]; exact Nat.le_refl _
    · rw [e 10 (by decide)]; exact Nat.le_refl _
    · rw [e 11 (by decide)]; exact Nat.le_refl _
    · exact e 4 (by decide)
    · rw [e 5 (by decide)]; exact Nat.le_refl _
    · exact e 6 (by decide)
    · exact e 7 (by decide)
    · rw [e 8 (by decide)]; exact Nat.le_refl _
    · rw [el]; omega
    · exact e k (by omega)
    · exact ll k i (by omega)
    · rw [LL]
      by_cases ek : k = 9 ∧ i = xm_n S 1 9
      · rw [ek.1] at k2; omega
      · rw [if_neg ek]
    · rw [f 12 (by decide) (by decide)]; exact Nat.le_refl _
    · rw [f 8 (by decide) (by decide)]; exact Nat.le_refl _
  have hC' : xk_C S' := fun j hj => (RR 0 0 j (by omega)).2.trans (hC j hj)
  have hcap' : k_cap S' := by
    obtain ⟨v1, v2, v3⟩ := jcap
    unfold k_cap
    rw [f 12 (by decide) (by decide), e 6 (by decide)]
    refine ⟨fun i hii => ?_, fun i hii => ?_, fun i hi1 hi2 => ?_⟩
    · rw [N2]
      by_cases ei : i = 9
      · rw [if_pos ei]; exact hc2
      · rw [if_neg ei]; exact v1 i hii
    · rw [N2]
      by_cases ei : i = 9
      · rw [if_pos ei]
        have := v2 9 (by decide)
        rcases hcp with z | z | z <;> omega
      · rw [if_neg ei]; exact v2 i hii
    · rw [N2, if_neg (by omega), e i (by omega)]; exact v3 i hi1 hi2
  have hobj' : k_obj S' := by
    unfold k_obj
    rw [e 0 (by decide), e 3 (by decide), e 4 (by decide), e 5 (by decide), e 6 (by decide), e 8 (by decide), el, e 10 (by decide), e 11 (by decide), e 1 (by decide), e 2 (by decide), f 9 (by decide) (by decide), f 5 (by decide) (by decide), f 10 (by decide) (by decide), f 6 (by decide) (by decide), f 2 (by decide) (by decide), f 4 (by decide) (by decide), fc, f 7 (by decide) (by decide), f 1 (by decide) (by decide), f 15 (by decide) (by decide), f 8 (by decide) (by decide), f 12 (by decide) (by decide), f 0 (by decide) (by decide), f 11 (by decide) (by decide), f 13 (by decide) (by decide), f 14 (by decide) (by decide)]
    omega
  have hown' : k_own S' := by
    have r5 : ∀ q j, xm_r S' 5 q j = xm_r S 5 q j := fun q j => (RR 5 q j (by omega)).2
    have r10 : ∀ q j, xm_r S' 10 q j = xm_r S 10 q j := fun q j => (RR 10 q j (by omega)).2
    unfold k_own
    simp only [r5, r10, e 3 (by decide), e 4 (by decide)]
    exact jown
  have h0 : A' 0 0 = A 0 0 := a 0 0 (by unfold kOlw; omega)
  have hEE : kE S' A' := by
    refine kE.exw hE hOO a hKK.1 hC' ?_ ?_ ?_ ⟨(RR 0 0 13 (by omega)).1.trans (ht.1.trans h0.symm), by rw [h0]; exact ht.2.1, by rw [e 4 (by decide)]; exact (RR 0 0 12 (by omega)).2.trans ht.2.2⟩ (fun k z1 z2 => absurd z2 (by rw [e 0 (by decide)]; omega)) (fun k z1 z2 => absurd z2 (by rw [e 3 (by decide)]; omega)) (fun k z1 z2 => absurd z2 (by rw [e 10 (by decide)]; omega)) (fun k z1 z2 => absurd z2 (by rw [e 11 (by decide)]; omega)) (fun k z1 z2 => absurd z2 (by rw [e 1 (by decide)]; omega)) (fun k z1 z2 => absurd z2 (by rw [e 2 (by decide)]; omega)) (fun k z1 z2 => absurd z2 (by rw [e 8 (by decide)]; omega)) ?_ (fun k z1 z2 => absurd z2 (by rw [e 5 (by decide)]; omega))
    · obtain ⟨w1, w2, w3, w4, w5, w6, w7, w8, w9, w10, w11⟩ := hcnt
      obtain ⟨u0, u1, u2, u3, u4, u5, u6, u7, u8, u9, u10⟩ := hA
      unfold k_cnt
      rw [e 0 (by decide), e 1 (by decide), e 2 (by decide), e 3 (by decide), e 4 (by decide), e 5 (by decide), e 6 (by decide), e 8 (by decide), el, e 10 (by decide), e 11 (by decide), u0, u1, u2, u3, u4, u5, u6, u7, u8, u9, u10]
      exact ⟨w1, w2, w3, w4, w5, w6, w7, w8, rfl, w10, w11⟩
    · unfold k_bnd
      rw [e 0 (by decide), e 1 (by decide), e 2 (by decide), e 3 (by decide), e 4 (by decide), e 5 (by decide), e 6 (by decide), e 7 (by decide), e 8 (by decide), el, e 10 (by decide), e 11 (by decide)]
      omega
    · have kl : ∀ r cj, r ≠ 9 → (∀ k, k < xm_n S 1 r → xm_l S r k = (cj, k)) → ∀ k, k < xm_n S' 1 r → xm_l S' r k = (cj, k) := fun r cj z2 z3 k hk => by
        rw [e r z2] at hk
        rw [ll r k z2]
        exact z3 k hk
      refine ⟨kl 0 9 (by decide) hl.1, kl 3 5 (by decide) hl.2.1, kl 4 10 (by decide) hl.2.2.1, kl 5 6 (by decide) hl.2.2.2.1, kl 6 2 (by decide) hl.2.2.2.2.1, kl 8 4 (by decide) hl.2.2.2.2.2.1, ?_, kl 10 7 (by decide) hl.2.2.2.2.2.2.2.1, kl 11 1 (by decide) hl.2.2.2.2.2.2.2.2⟩
      intro k hk
      rw [el] at hk
      rw [LL]
      by_cases ek : k = xm_n S 1 9
      · rw [if_pos ⟨rfl, ek⟩, ek, o3]
      · rw [if_neg (fun z => ek z.2)]
        exact hl.2.2.2.2.2.2.1 k (by omega)
    · intro k z1 z2
      rw [show k = xm_n S 1 9 by omega]
      exact nw
  refine ⟨⟨hEE, fun k hk => ⟨(N3 26 k (by decide)).trans (hS k hk).1, fun j hj => (RR 16 k j (by omega)).1.trans ((hS k hk).2 j hj)⟩, fun g hg => ?_, kI.exw hE a hKK.1 hII num hw1 hw2 hown' hobj' hcap' pln (RR 0 0 15 (by omega)).1 (fun g z1 z2 => absurd z2 (by rw [e 3 (by decide)]; omega))⟩, ⟨fun p q j hp hq => RR p q j (fun z => by rw [z.1] at hq; omega), e, ll, el⟩⟩
  rw [e 3 (by decide)] at hg
  have z := hgr g hg
  unfold kgr at z ⊢
  simp only [e 0 (by decide), a 31 g (by unfold kOlw; omega), a 32 g (by unfold kOlw; omega), a 33 g (by unfold kOlw; omega), a 34 g (by unfold kOlw; omega), a 35 g (by unfold kOlw; omega), a 42 g (by unfold kOlw; omega)]
  exact z
theorem kM.new5 {S S1 : xm_S} {A A' : y_A} {X E B : Nat → Prop} {hb rb nb t w e1 e2 w' e1' e2' c2 c100 c101 : Nat} {b : Nat → Nat → Nat} (h : kM S A X E B hb rb nb t w e1 e2) (n : kN S S1 6 7) (hC1 : xk_C S1) (hc2 : c2 ≠ 0) (hcp : (xm_n S 2 5 = 1 ∧ c2 = 10) ∨ (xm_n S 1 5 = xm_n S 2 5 ∧ c2 ≤ 2 * xm_n S 1 5) ∨ (xm_n S 2 5 ≠ 1 ∧ xm_n S 1 5 ≠ xm_n S 2 5 ∧ c2 = xm_n S 2 5)) (hlt : xm_n S 1 5 < 60)
    (a : ∀ x k, kOlw S x k → A' x k = A x k) (hA : A' 50 0 = nI (xm_n S 1 5 + 1) ∧ A' 1 0 = A 1 0 ∧ A' 5 0 = A 5 0 ∧ A' 11 0 = A 11 0 ∧ A' 30 0 = A 30 0 ∧ A' 89 0 = A 89 0 ∧ A' 103 0 = A 103 0 ∧ A' 47 0 = A 47 0 ∧ A' 61 0 = A 61 0 ∧ A' 23 0 = A 23 0 ∧ A' 17 0 = A 17 0) (nw : ko (xk_psh S1 5 (6, xm_n S 0 6) c2 c100 c101 b) A' (xm_n S 1 5)) (num : k_num (xk_psh S1 5 (6, xm_n S 0 6) c2 c100 c101 b) A' e1' e2') (hw1 : w' + xm_n S 1 5 ≤ w + xm_n (xk_psh S1 5 (6, xm_n S 0 6) c2 c100 c101 b) 1 5) (hw2 : xm_n (xk_psh S1 5 (6, xm_n S 0 6) c2 c100 c101 b) 1 5 ≤ w' + (xm_n S 1 5 - w)) (pln : k_pln (xk_psh S1 5 (6, xm_n S 0 6) c2 c100 c101 b) A' t nb) :
    kM (xk_psh S1 5 (6, xm_n S 0 6) c2 c100 c101 b) A' X E B hb rb nb t w' e1' e2' ∧ kSm 5 S (xk_psh S1 5 (6, xm_n S 0 6) c2 c100 c101 b) := by
  have hKK := h
  obtain ⟨⟨hC, hcnt, hb', hl, ht, hv, h1, h2, h3, h4, h5, h6, h7, h8, h9, h10, h11, h12⟩, hS, hgr, hI⟩ := h
  have hII := hI
  obtain ⟨-, -, jown, jobj, jcap, -⟩ := hI
  have hOO := jobj
  obtain ⟨o9, o5, o10, o6, o2, o4, o3, o7, o1, o15, o8, o12, o0, o11, o13, o14⟩ := jobj
  have hbb := hb'
  unfold k_bnd at hbb
  have N1 : ∀ r, xm_n (xk_psh S1 5 (6, xm_n S 0 6) c2 c100 c101 b) 1 r = if r = 5 then xm_n S 1 5 + 1 else xm_n S 1 r := fun r => by
    have e : ∀ r, xm_n S1 1 r = xm_n S 1 r := fun r => by
      rw [n.n, if_neg (by omega), if_neg (by omega), if_neg (by omega), if_neg (by omega), if_neg (by omega)]
    rw [xp_n1, e, e]
  have N2 : ∀ r, xm_n (xk_psh S1 5 (6, xm_n S 0 6) c2 c100 c101 b) 2 r = if r = 5 then c2 else xm_n S 2 r := fun r => by
    have e : ∀ r, xm_n S1 2 r = xm_n S 2 r := fun r => by
      rw [n.n, if_neg (by omega), if_neg (by omega), if_neg (by omega), if_neg (by omega), if_neg (by omega)]
    rw [xp_n2, e]
  have N0 : ∀ r, r < 100 → xm_n (xk_psh S1 5 (6, xm_n S 0 6) c2 c100 c101 b) 0 r = if r = 6 then xm_n S 0 6 + 1 else xm_n S 0 r := fun r hr => by
    rw [xp_n0 hr, n.n]
    by_cases e : r = 6
    · rw [if_pos ⟨rfl, e⟩, if_pos e]
    · rw [if_neg (fun z => e z.2), if_neg (by omega), if_neg (by omega), if_neg (by omega), if_neg (by omega), if_neg e]
  have N3 : ∀ p r, 25 ≤ p → xm_n (xk_psh S1 5 (6, xm_n S 0 6) c2 c100 c101 b) p r = xm_n S p r := fun p r hp => by
    rw [xp_n3 (by omega), n.n, if_neg (by omega), if_neg (by omega), if_neg (by omega), if_neg (by omega), if_neg (by omega)]
  have LL : ∀ r i, xm_l (xk_psh S1 5 (6, xm_n S 0 6) c2 c100 c101 b) r i = if r = 5 ∧ i = xm_n S 1 5 then (6, xm_n S 0 6) else xm_l S r i := fun r i => by
    have e : xm_n S1 1 5 = xm_n S 1 5 := by
      rw [n.n, if_neg (by omega), if_neg (by omega), if_neg (by omega), if_neg (by omega), if_neg (by omega)]
    rw [xp_l, n.2.1, e]
  have RR : ∀ p q j, ¬ (p = 6 ∧ q = xm_n S 0 6) → xm_i (xk_psh S1 5 (6, xm_n S 0 6) c2 c100 c101 b) p q j = xm_i S p q j ∧ xm_r (xk_psh S1 5 (6, xm_n S 0 6) c2 c100 c101 b) p q j = xm_r S p q j := fun p q j hp => (n.1 p q j).resolve_left hp
  generalize (xk_psh S1 5 (6, xm_n S 0 6) c2 c100 c101 b) = S' at *
  have e : ∀ r, r ≠ 5 → xm_n S' 1 r = xm_n S 1 r := fun r hr => by rw [N1, if_neg hr]
  have el : xm_n S' 1 5 = xm_n S 1 5 + 1 := by rw [N1, if_pos rfl]
  have f : ∀ r, r < 100 → r ≠ 6 → xm_n S' 0 r = xm_n S 0 r := fun r hr h => by rw [N0 r hr, if_neg h]
  have fc : xm_n S' 0 6 = xm_n S 0 6 + 1 := by rw [N0 6 (by decide), if_pos rfl]
  have ll : ∀ r i, r ≠ 5 → xm_l S' r i = xm_l S r i := fun r i hr => by rw [LL, if_neg (fun z => hr z.1)]
  have hE : kExw S S' := by
    refine ⟨fun p r j hp hr => RR p r j (fun z => by rw [z.1] at hr; omega), ⟨?_, ?_, ?_, ?_, ?_, ?_⟩, ⟨?_, ?_, ?_, ?_, ?_, ?_⟩, fun k k1 k2 => ⟨?_, fun i => ?_⟩, fun k i k1 k2 => ?_, fun g _ => N3 25 g (by decide), ?_, fun k j => (RR 16 k j (by omega)).1, fun k => N3 26 k (by decide), ?_⟩
    · rw [e 0 (by decide)]; exact Nat.le_refl _
    · rw [e 1 (by decide)]; exact Nat.le_refl _
    · rw [e 2 (by decide)]; exact Nat.le_refl _
    · rw [e 3 (by decide)]; exact Nat.le_refl _
    · rw [e 10 (by decide)]; exact Nat.le_refl _
    · rw [e 11 (by decide)]; exact Nat.le_refl _
    · exact e 4 (by decide)
    · rw [el]; omega
    · exact e 6 (by decide)
    · exact e 7 (by decide)
    · rw [e 8 (by decide)]; exact Nat.le_refl _
    · rw [e 9 (by decide)]; exact Nat.le_refl _
    · exact e k (by omega)
    · exact ll k i (by omega)
    · rw [LL]
      by_cases ek : k = 5 ∧ i = xm_n S 1 5
      · rw [ek.1] at k2; omega
      · rw [if_neg ek]
    · rw [f 12 (by decide) (by decide)]; exact Nat.le_refl _
    · rw [f 8 (by decide) (by decide)]; exact Nat.le_refl _
  have hC' : xk_C S' := fun j hj => (RR 0 0 j (by omega)).2.trans (hC j hj)
  have hcap' : k_cap S' := by
    obtain ⟨v1, v2, v3⟩ := jcap
    unfold k_cap
    rw [f 12 (by decide) (by decide), e 6 (by decide)]
    refine ⟨fun i hii => ?_, fun i hii => ?_, fun i hi1 hi2 => ?_⟩
    · rw [N2]
      by_cases ei : i = 5
      · rw [if_pos ei]; exact hc2
      · rw [if_neg ei]; exact v1 i hii
    · rw [N2]
      by_cases ei : i = 5
      · rw [if_pos ei]
        have := v2 5 (by decide)
        rcases hcp with z | z | z <;> omega
      · rw [if_neg ei]; exact v2 i hii
    · rw [N2, if_neg (by omega), e i (by omega)]; exact v3 i hi1 hi2
  have hobj' : k_obj S' := by
    unfold k_obj
    rw [e 0 (by decide), e 3 (by decide), e 4 (by decide), el, e 6 (by decide), e 8 (by decide), e 9 (by decide), e 10 (by decide), e 11 (by decide), e 1 (by decide), e 2 (by decide), f 9 (by decide) (by decide), f 5 (by decide) (by decide), f 10 (by decide) (by decide), fc, f 2 (by decide) (by decide), f 4 (by decide) (by decide), f 3 (by decide) (by decide), f 7 (by decide) (by decide), f 1 (by decide) (by decide), f 15 (by decide) (by decide), f 8 (by decide) (by decide), f 12 (by decide) (by decide), f 0 (by decide) (by decide), f 11 (by decide) (by decide), f 13 (by decide) (by decide), f 14 (by decide) (by decide)]
    omega
  have hown' : k_own S' := by
    have r5 : ∀ q j, xm_r S' 5 q j = xm_r S 5 q j := fun q j => (RR 5 q j (by omega)).2
    have r10 : ∀ q j, xm_r S' 10 q j = xm_r S 10 q j := fun q j => (RR 10 q j (by omega)).2
    unfold k_own
    simp only [r5, r10, e 3 (by decide), e 4 (by decide)]
    exact jown
  have h0 : A' 0 0 = A 0 0 := a 0 0 (by unfold kOlw; omega)
  have hEE : kE S' A' := by
    refine kE.exw hE hOO a hKK.1 hC' ?_ ?_ ?_ ⟨(RR 0 0 13 (by omega)).1.trans (ht.1.trans h0.symm), by rw [h0]; exact ht.2.1, by rw [e 4 (by decide)]; exact (RR 0 0 12 (by omega)).2.trans ht.2.2⟩ (fun k z1 z2 => absurd z2 (by rw [e 0 (by decide)]; omega)) (fun k z1 z2 => absurd z2 (by rw [e 3 (by decide)]; omega)) (fun k z1 z2 => absurd z2 (by rw [e 10 (by decide)]; omega)) (fun k z1 z2 => absurd z2 (by rw [e 11 (by decide)]; omega)) (fun k z1 z2 => absurd z2 (by rw [e 1 (by decide)]; omega)) (fun k z1 z2 => absurd z2 (by rw [e 2 (by decide)]; omega)) (fun k z1 z2 => absurd z2 (by rw [e 8 (by decide)]; omega)) (fun k z1 z2 => absurd z2 (by rw [e 9 (by decide)]; omega)) ?_
    · obtain ⟨w1, w2, w3, w4, w5, w6, w7, w8, w9, w10, w11⟩ := hcnt
      obtain ⟨u0, u1, u2, u3, u4, u5, u6, u7, u8, u9, u10⟩ := hA
      unfold k_cnt
      rw [e 0 (by decide), e 1 (by decide), e 2 (by decide), e 3 (by decide), e 4 (by decide), el, e 6 (by decide), e 8 (by decide), e 9 (by decide), e 10 (by decide), e 11 (by decide), u0, u1, u2, u3, u4, u5, u6, u7, u8, u9, u10]
      exact ⟨w1, w2, w3, w4, w5, rfl, w7, w8, w9, w10, w11⟩
    · unfold k_bnd
      rw [e 0 (by decide), e 1 (by decide), e 2 (by decide), e 3 (by decide), e 4 (by decide), el, e 6 (by decide), e 7 (by decide), e 8 (by decide), e 9 (by decide), e 10 (by decide), e 11 (by decide)]
      omega
    · have kl : ∀ r cj, r ≠ 5 → (∀ k, k < xm_n S 1 r → xm_l S r k = (cj, k)) → ∀ k, k < xm_n S' 1 r → xm_l S' r k = (cj, k) := fun r cj z2 z3 k hk => by
        rw [e r z2] at hk
        rw [ll r k z2]
        exact z3 k hk
      refine ⟨kl 0 9 (by decide) hl.1, kl 3 5 (by decide) hl.2.1, kl 4 10 (by decide) hl.2.2.1, ?_, kl 6 2 (by decide) hl.2.2.2.2.1, kl 8 4 (by decide) hl.2.2.2.2.2.1, kl 9 3 (by decide) hl.2.2.2.2.2.2.1, kl 10 7 (by decide) hl.2.2.2.2.2.2.2.1, kl 11 1 (by decide) hl.2.2.2.2.2.2.2.2⟩
      intro k hk
      rw [el] at hk
      rw [LL]
      by_cases ek : k = xm_n S 1 5
      · rw [if_pos ⟨rfl, ek⟩, ek, o6]
      · rw [if_neg (fun z => ek z.2)]
        exact hl.2.2.2.1 k (by omega)
    · intro k z1 z2
      rw [show k = xm_n S 1 5 by omega]
      exact nw
  refine ⟨⟨hEE, fun k hk => ⟨(N3 26 k (by decide)).trans (hS k hk).1, fun j hj => (RR 16 k j (by omega)).1.trans ((hS k hk).2 j hj)⟩, fun g hg => ?_, kI.exw hE a hKK.1 hII num hw1 hw2 hown' hobj' hcap' pln (RR 0 0 15 (by omega)).1 (fun g z1 z2 => absurd z2 (by rw [e 3 (by decide)]; omega))⟩, ⟨fun p q j hp hq => RR p q j (fun z => by rw [z.1] at hq; omega), e, ll, el⟩⟩
  rw [e 3 (by decide)] at hg
  have z := hgr g hg
  unfold kgr at z ⊢
  simp only [e 0 (by decide), a 31 g (by unfold kOlw; omega), a 32 g (by unfold kOlw; omega), a 33 g (by unfold kOlw; omega), a 34 g (by unfold kOlw; omega), a 35 g (by unfold kOlw; omega), a 42 g (by unfold kOlw; omega)]
  exact z
end
