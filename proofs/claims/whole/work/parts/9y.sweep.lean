/-! ===== REFILL; SWEEP (printed by wip/whole/gen9y.py) ===== -/
section
theorem c_refill {d hb rb nb t : Nat} : ∀ (r i N : Nat) (S : xm_S) (A : y_A) (u : Option xm_V), i + r = xm_n S 1 3 → r < N → kM S A (fun _ => False) (fun _ => False) (fun _ => False) hb rb nb t 0 0 0 → rg_tick_12 N (nI i) A ∧ xw d 51 2 [some (.inr (some (0, 0))), some (.inl (nI i)), u] [] S (fun r S' => r = none ∧ xk_C S' ∧ kM S' (rf_tick_12 N (nI i) A).2 (fun _ => False) (fun _ => False) (fun _ => False) hb rb nb t 0 0 0 ∧ kW S S' A (rf_tick_12 N (nI i) A).2 ∧ xm_n S' 1 6 = xm_n S 1 6) := by
  intro r
  induction r with
  | zero =>
    intro i N S A u hi hN hM
    obtain ⟨N, rfl⟩ : ∃ x, N = x + 1 := ⟨N - 1, by omega⟩
    have hbb := hM.1.2.2.1
    unfold k_bnd at hbb
    have w4 : A 30 0 = nI (xm_n S 1 3) := hM.1.2.1.2.2.2.1
    have cc : nI (xm_n S 1 3) ≤ nI i := nI_le (by omega) (by omega)
    unfold rg_tick_12 rf_tick_12
    rw [w4, if_pos cc]
    exact ⟨⟨fun _ => trivial, fun z => absurd cc z⟩, cw_refillLimits_2 hM.1.1 ⟨fun _ => ⟨rfl, hM.1.1, hM, rfl, rfl⟩, fun z => absurd cc z⟩⟩
  | succ r ih =>
    intro i N S A u hi hN hM
    obtain ⟨N, rfl⟩ : ∃ x, N = x + 1 := ⟨N - 1, by omega⟩
    have hbb := hM.1.2.2.1
    unfold k_bnd at hbb
    have w4 : A 30 0 = nI (xm_n S 1 3) := hM.1.2.1.2.2.2.1
    have cc : ¬ nI (xm_n S 1 3) ≤ nI i := nI_ge (by omega) (by omega)
    have hgn : i < xm_n S 1 3 := by omega
    have ixi : y_ix (nI i) = i := y_ix_nI (by omega)
    have yi : y_in (nI i) 24 := y_in_nI (by omega) (by decide)
    have hl := hM.1.2.2.2.1.2.1 i hgn
    have h3 := hM.1.2.2.2.2.2.2.2.2.1 i hgn
    unfold rg_tick_12 rf_tick_12
    rw [w4, if_neg cc, ixi, nI_1]
    by_cases c2 : A 31 i = 2
    · rw [if_pos c2]
      obtain ⟨a1, a2, a3, a4⟩ := (hM.2.2.1 i hgn).2.2.2.2.2.2.1 c2
      obtain ⟨b1, b2⟩ := (hM.2.2.1 i hgn).2.2.2.2.2.2.2.2.2.2.2 c2
      obtain ⟨z, z1, z2, z3⟩ := k_rg (x := A 32 i) (a := 1) (b := 100) (by decide) a1 a2
      obtain ⟨x, x1, x2, x3⟩ := k_rg (x := A 33 i) (a := 1) (b := 100) (by decide) a3 a4
      obtain ⟨y, y1, y2, y3⟩ := k_rg (x := A 42 i) (a := 0) (b := z) (by omega) b1 (by rw [← z1]; exact b2) (by omega)
      have e13 := h3.2.2.2.2.2.2.2.2.2.2.2.1 c2
      have main : ∀ v : Int32, 0 ≤ v → v ≤ A 32 i → (if A 32 i ≤ A 42 i + A 33 i then A 32 i else A 42 i + A 33 i) = v → rg_tick_12 N (nI (i + 1)) (xm_u2 A 42 i v) ∧ ∀ S6, S6 = xm_si S 5 i 13 v → xw d 51 2 [some (.inr (some (0, 0))), some (.inl (nI (i + 1))), some (.inr (some (5, i)))] [] S6 (fun r S' => r = none ∧ xk_C S' ∧ kM S' (rf_tick_12 N (nI (i + 1)) (xm_u2 A 42 i v)).2 (fun _ => False) (fun _ => False) (fun _ => False) hb rb nb t 0 0 0 ∧ kW S S' A (rf_tick_12 N (nI (i + 1)) (xm_u2 A 42 i v)).2 ∧ xm_n S' 1 6 = xm_n S 1 6) := fun v v1 v2 _ => by
        have hF : kF 0 i [(5, 13)] [] [42] S (xm_si S 5 i 13 v) A (xm_u2 A 42 i v) := ((kF.rf 0 i S A).si 5 i 13 _ (fun z => absurd z (by decide)) (fun _ => rfl)).u 42 i _ (fun z => absurd z.1 (by decide)) (fun _ => rfl)
        have hM1 := hM.left hgn hF (by rw [xi_same, y_same]) (fun _ => by rw [y_same]; exact ⟨v1, v2⟩)
        obtain ⟨i1, i2⟩ := ih (i + 1) N (xm_si S 5 i 13 v) (xm_u2 A 42 i v) (some (.inr (some (5, i)))) (by rw [hF.1]; omega) (by omega) hM1
        refine ⟨i1, fun S6 e6 => ?_⟩
        rw [e6]
        refine xw.mono i2 ?_
        rintro r S' ⟨q1, q2, q3, q4, q5⟩
        refine ⟨q1, q2, q3, kW.tr ?_ q4, q5.trans (by rw [hF.1])⟩
        unfold kW
        rw [hF.2.2.1 0 14 (by decide), hF.2.2.2.2.1 60 (by decide)]
      by_cases c3 : A 32 i ≤ A 42 i + A 33 i
      · rw [if_pos c3]
        obtain ⟨m1, m2⟩ := main (A 32 i) (Int32.le_trans (by decide) a1) (Int32.le_refl _) (if_pos c3)
        refine ⟨⟨fun z => absurd z cc, fun _ => ⟨yi, fun _ => ⟨fun _ => m1, fun z => absurd c3 z⟩, fun z => absurd c2 z⟩⟩, ?_⟩
        refine cw_refillLimits_2 hM.1.1 ⟨fun z => absurd z cc, fun _ => ⟨y_in_nI (by omega) (by omega), i, by rw [ixi]; exact hl, fun _ S6 e6 => ?_, fun z => absurd (h3.2.1.trans c2) z⟩⟩
        rw [nI_1]
        refine m2 S6 ?_
        rw [e6, h3.2.2.1, e13, h3.2.2.2.1, if_pos c3]
      · rw [if_neg c3]
        have hlt : y + x < z := by
          have : ¬ z ≤ y + x := fun q => c3 (by rw [z1, y1, x1, nI_add]; exact nI_le q (by omega))
          omega
        obtain ⟨m1, m2⟩ := main (A 42 i + A 33 i) (by rw [y1, x1, nI_add]; exact nI_pos' (by omega)) (by rw [y1, x1, nI_add, z1]; exact nI_le (by omega) (by omega)) (if_neg c3)
        refine ⟨⟨fun z => absurd z cc, fun _ => ⟨yi, fun _ => ⟨fun z => absurd z c3, fun _ => m1⟩, fun z => absurd c2 z⟩⟩, ?_⟩
        refine cw_refillLimits_2 hM.1.1 ⟨fun z => absurd z cc, fun _ => ⟨y_in_nI (by omega) (by omega), i, by rw [ixi]; exact hl, fun _ S6 e6 => ?_, fun z => absurd (h3.2.1.trans c2) z⟩⟩
        rw [nI_1]
        refine m2 S6 ?_
        rw [e6, h3.2.2.1, e13, h3.2.2.2.1, if_neg c3]
    · rw [if_neg c2]
      obtain ⟨i1, i2⟩ := ih (i + 1) N S A (some (.inr (some (5, i)))) (by omega) (by omega) hM
      refine ⟨⟨fun z => absurd z cc, fun _ => ⟨yi, fun z => absurd z c2, fun _ => i1⟩⟩, ?_⟩
      refine cw_refillLimits_2 hM.1.1 ⟨fun z => absurd z cc, fun _ => ⟨y_in_nI (by omega) (by omega), i, by rw [ixi]; exact hl, fun z => absurd (h3.2.1.symm.trans z) c2, fun _ => ?_⟩⟩
      rw [nI_1]
      exact i2
/-- the row of the live, the first i of it gone through, j of them kept -/
def kSw (S Si : xm_S) (i j : Nat) : Prop := (xm_i Si = xm_i S ∧ xm_r Si = xm_r S ∧ xm_n Si = xm_n S ∧ ∀ r m, r ≠ 7 → xm_l Si r m = xm_l S r m) ∧ (∀ m, i ≤ m → xm_l Si 7 m = xm_l S 7 m) ∧ (∀ m, m < j → ∃ c m', xm_l Si 7 m = (2, c) ∧ m' < i ∧ xm_l S 7 m' = (2, c) ∧ xm_i S 2 c 8 = 0) ∧ (∀ m m' c e, m < m' → m' < j → xm_l Si 7 m = (2, c) → xm_l Si 7 m' = (2, e) → c < e) ∧ (∀ m' c, m' < i → xm_l S 7 m' = (2, c) → xm_i S 2 c 8 = 0 → ∃ m, m < j ∧ xm_l Si 7 m = (2, c)) ∧ j ≤ i
theorem c_sweep88 {d : Nat} {S : xm_S} {A : y_A} {X E B : Nat → Prop} {hb rb nb t w e1 e2 j : Nat} {x : Int32} {l3 : Int32} {Q : Option xm_V → xm_S → Prop} (hM : kM S A X E B hb rb nb t w e1 e2) {S1 : xm_S} (hs : kSw S S1 (xm_n S 1 7) j) (hx : x = 0 ∨ x = 1) (hQ : ∀ S', kM S' A X E B hb rb nb t w e1 e2 → xm_i S' = xm_i S → xm_n S' 1 6 = xm_n S 1 6 → Q (some (.inl x)) S') : ∀ (r : Nat) (Si : xm_S) (u : Option xm_V), xm_i Si = xm_i S → xm_r Si = xm_r S → (∀ p q, ¬ (p = 1 ∧ q = 7) → xm_n Si p q = xm_n S p q) → (∀ q m, q ≠ 7 → xm_l Si q m = xm_l S q m) → (∀ m, m < j → xm_l Si 7 m = xm_l S1 7 m) → xm_n Si 1 7 = j + r → j + r ≤ xm_n S 1 7 → xw d 52 88 [some (.inr (some (0, 0))), some (.inl x), some (.inl (nI j)), some (.inl l3), some (.inl (nI (j + r) + (-1))), u] [] Si Q := by
  have hbb := hM.1.2.2.1
  unfold k_bnd at hbb
  have hv := hM.1.2.2.2.2.2.1
  obtain ⟨-, -, s3, s4, s5, s6⟩ := hs
  have hC : ∀ Si : xm_S, xm_r Si = xm_r S → xk_C Si := fun Si h j' hj => by rw [h]; exact hM.1.1 j' hj
  intro r
  induction r with
  | zero =>
    intro Si u a1 a2 a3 a4 a5 a6 a7
    have cc : nI (j + 0) + (-1) < nI j := by
      rcases j with _ | j
      · decide
      · have e : nI (j + 1 + 0) + (-1) = nI j := by rw [Nat.add_zero, ← nI_1, Int32.add_assoc, show (1 : Int32) + (-1) = 0 from rfl, Int32.add_zero]
        rw [e]
        exact nI_lt (by omega) (by omega)
    refine cw_sweepLive_88 (hC Si a2) ⟨fun _ => ⟨hx, ?_⟩, fun z => absurd cc z⟩
    refine hQ Si (hM.live a1 a2 a3 a4 (by omega) ⟨fun m hm => ?_, fun m m' c e h1 h2 h3 h4 => ?_, fun c hc h0 => ?_⟩) a1 (a3 1 6 (by omega))
    · obtain ⟨c, m', y1, y2, y3, y4⟩ := s3 m (by omega)
      obtain ⟨c', c1, c2⟩ := hv.1 m' y2
      rw [y3] at c1
      refine ⟨c, by rw [a5 m (by omega)]; exact y1, ?_⟩
      rw [a3 1 6 (by omega), (Prod.mk.inj c1).2]
      exact c2
    · rw [a5 _ (by omega)] at h3 h4
      exact s4 m m' c e h1 (by omega) h3 h4
    · rw [a3 1 6 (by omega)] at hc
      rw [a1] at h0
      obtain ⟨m', y1, y2⟩ := hv.2.2 c hc h0
      obtain ⟨m, y3, y4⟩ := s5 m' c y1 y2 h0
      exact ⟨m, by omega, by rw [a5 m y3]; exact y4⟩
  | succ r ih =>
    intro Si u a1 a2 a3 a4 a5 a6 a7
    have ex : nI (j + (r + 1)) + (-1) = nI (j + r) := by rw [show j + (r + 1) = (j + r) + 1 by omega, ← nI_1, Int32.add_assoc, show (1 : Int32) + (-1) = 0 from rfl, Int32.add_zero]
    rw [ex]
    have cc : ¬ nI (j + r) < nI j := Int32.not_lt.mpr (nI_le (by omega) (by omega))
    have ix : y_ix (nI (j + r)) = j + r := y_ix_nI (by omega)
    refine cw_sweepLive_88 (hC Si a2) ⟨fun z => absurd z cc, fun _ => ⟨y_in_nI (by omega) (by omega), fun S4 e4 => ?_⟩⟩
    rw [ix] at e4
    have n7 : xm_n S4 1 7 = j + r := by
      rw [e4]
      show (if 1 = 1 ∧ 7 = 7 then xm_n Si 1 7 - 1 else xm_n Si 1 7) = _
      rw [if_pos ⟨rfl, rfl⟩, a6]
      rfl
    have ll : ∀ q m, xm_l S4 q m = if q = 7 ∧ j + r ≤ m then xm_l Si 7 (m + 1) else xm_l Si q m := fun q m => by rw [e4]; rfl
    refine ih S4 u (by rw [e4]; exact a1) (by rw [e4]; exact a2) (fun p q hpq => ?_) (fun q m hq => by rw [ll, if_neg (fun z => hq z.1)]; exact a4 q m hq) (fun m hm => by rw [ll, if_neg (by omega)]; exact a5 m hm) n7 (by omega)
    rw [e4]
    show (if p = 1 ∧ q = 7 then _ else xm_n Si p q) = _
    rw [if_neg hpq]
    exact a3 p q hpq

theorem c_sweep {d : Nat} {S : xm_S} {A : y_A} {X E B : Nat → Prop} {hb rb nb t w e1 e2 : Nat} {Q : Option xm_V → xm_S → Prop} (hM : kM S A X E B hb rb nb t w e1 e2) (hQ : ∀ S' (x : Int32), kM S' A X E B hb rb nb t w e1 e2 → xm_i S' = xm_i S → xm_n S' 1 6 = xm_n S 1 6 → (x = 0 → ∀ k, k < xm_n S 1 6 → xm_i S 2 k 8 = 0 → xm_i S 2 k 12 ≠ xm_i S 0 0 13) → Q (some (.inl x)) S') : xc d 52 [.inr (some (0, 0))] S Q := by
  have hbb := hM.1.2.2.1
  unfold k_bnd at hbb
  have hv := hM.1.2.2.2.2.2.1
  have hC : ∀ Si : xm_S, xm_r Si = xm_r S → xk_C Si := fun Si h j' hj => by rw [h]; exact hM.1.1 j' hj
  have loop : ∀ (r i j : Nat) (Si : xm_S) (x : Int32) (u : Option xm_V), i + r = xm_n S 1 7 → kSw S Si i j → (x = 0 ∨ x = 1) → (x = 0 → ∀ m c, m < i → xm_l S 7 m = (2, c) → xm_i S 2 c 8 = 0 → xm_i S 2 c 12 ≠ xm_i S 0 0 13) → xw d 52 15 [some (.inr (some (0, 0))), some (.inl x), some (.inl (nI j)), some (.inl (nI (xm_n S 1 7))), some (.inl (nI i)), u] [] Si Q := by
    intro r
    induction r with
    | zero =>
      intro i j Si x u hi hs hx hdue
      have hss := hs
      obtain ⟨⟨a1, a2, a3, a4⟩, s2, s3, s4, s5, s6⟩ := hs
      have cc : nI (xm_n S 1 7) ≤ nI i := nI_le (by omega) (by omega)
      refine cw_sweepLive_15 (hC Si a2) ⟨fun _ => ?_, fun z => absurd cc z⟩
      obtain rfl : i = xm_n S 1 7 := by omega
      have e : nI (xm_n S 1 7) - 1 = nI (j + (xm_n S 1 7 - j)) + (-1) := by
        rw [Int32.sub_eq_add_neg, show j + (xm_n S 1 7 - j) = xm_n S 1 7 by omega]
      rw [e]
      refine c_sweep88 hM hss hx (fun S' m1 m2 m3 => hQ S' x m1 m2 m3 (fun z k hk h0 => ?_)) (xm_n S 1 7 - j) Si u a1 a2 (fun p q _ => by rw [a3]) a4 (fun m _ => rfl) (by rw [a3]; omega) (by omega)
      obtain ⟨m, y1, y2⟩ := hv.2.2 k hk h0
      exact hdue z m k y1 y2 h0
    | succ r ih =>
      intro i j Si x u hi hs hx hdue
      obtain ⟨⟨a1, a2, a3, a4⟩, s2, s3, s4, s5, s6⟩ := hs
      have cc : ¬ nI (xm_n S 1 7) ≤ nI i := nI_ge (by omega) (by omega)
      obtain ⟨k, hk, hkn⟩ := hv.1 i (by omega)
      have ixi : y_ix (nI i) = i := y_ix_nI (by omega)
      have ixj : y_ix (nI j) = j := y_ix_nI (by omega)
      refine cw_sweepLive_15 (hC Si a2) ⟨fun z => absurd z cc, fun _ => ⟨y_in_nI (by rw [a3]; omega) (by rw [a3]; omega), k, by rw [ixi, s2 i (Nat.le_refl _)]; exact hk, fun h8 => ⟨y_in_nI (by rw [a3]; omega) (by rw [a3]; omega), fun S7 e7 => ?_⟩, fun h8 => ?_⟩⟩
      · rw [ixj] at e7
        rw [a1] at h8
        have ll : ∀ q m, xm_l S7 q m = if q = 7 ∧ m = j then (2, k) else xm_l Si q m := fun q m => by rw [e7]; rfl
        have hs' : kSw S S7 (i + 1) (j + 1) := by
          refine ⟨⟨by rw [e7]; exact a1, by rw [e7]; exact a2, by rw [e7]; exact a3, fun q m hq => by rw [ll, if_neg (fun z => hq z.1)]; exact a4 q m hq⟩, fun m hm => by rw [ll, if_neg (by omega)]; exact s2 m (by omega), fun m hm => ?_, fun m m' c e h1 h2 h3 h4 => ?_, fun m' c h1 h2 h3 => ?_, by omega⟩
          · by_cases e : m = j
            · exact ⟨k, i, by rw [ll, if_pos ⟨rfl, e⟩], by omega, hk, h8⟩
            · obtain ⟨c, m', y1, y2, y3, y4⟩ := s3 m (by omega)
              exact ⟨c, m', by rw [ll, if_neg (fun z => e z.2)]; exact y1, by omega, y3, y4⟩
          · rw [ll, if_neg (by omega)] at h3
            by_cases e' : m' = j
            · rw [ll, if_pos ⟨rfl, e'⟩] at h4
              obtain ⟨c', m2, y1, y2, y3, y4⟩ := s3 m (by omega)
              rw [h3] at y1
              rw [← (Prod.mk.inj y1).2] at y3
              rw [← (Prod.mk.inj h4).2]
              exact hv.2.1 m2 i c k y2 (by omega) y3 hk
            · rw [ll, if_neg (fun z => e' z.2)] at h4
              exact s4 m m' c e h1 (by omega) h3 h4
          · by_cases e : m' = i
            · rw [e, hk] at h2
              exact ⟨j, by omega, by rw [ll, if_pos ⟨rfl, rfl⟩, (Prod.mk.inj h2).2]⟩
            · obtain ⟨m, y1, y2⟩ := s5 m' c (by omega) h2 h3
              exact ⟨m, by omega, by rw [ll, if_neg (by omega)]; exact y2⟩
        rw [nI_1, nI_1, a1]
        refine ⟨fun hd => ?_, fun hd => ?_⟩
        · refine ih (i + 1) (j + 1) S7 (x ||| 1) _ (by omega) hs' ?_ (fun z => ?_)
          · rcases hx with rfl | rfl
            · exact Or.inr (by decide)
            · exact Or.inr (by decide)
          · rcases hx with rfl | rfl
            · exact absurd z (by decide)
            · exact absurd z (by decide)
        · have ex : x ||| 0 = x := by
            rcases hx with rfl | rfl
            · decide
            · decide
          rw [ex]
          refine ih (i + 1) (j + 1) S7 x _ (by omega) hs' hx (fun z m c hm hc h0 => ?_)
          by_cases e : m = i
          · rw [e, hk] at hc
            rw [← (Prod.mk.inj hc).2]
            exact hd
          · exact hdue z m c (by omega) hc h0
      · rw [a1] at h8
        rw [nI_1]
        refine ih (i + 1) j Si x _ (by omega) ⟨⟨a1, a2, a3, a4⟩, fun m hm => s2 m (by omega), fun m hm => ?_, s4, fun m' c h1 h2 h3 => ?_, by omega⟩ hx (fun z m c hm hc h0 => ?_)
        · obtain ⟨c, m', y1, y2, y3, y4⟩ := s3 m hm
          exact ⟨c, m', y1, by omega, y3, y4⟩
        · by_cases e : m' = i
          · rw [e, hk] at h2
            rw [← (Prod.mk.inj h2).2] at h3
            exact absurd h3 h8
          · exact s5 m' c (by omega) h2 h3
        · by_cases e : m = i
          · rw [e, hk] at hc
            rw [← (Prod.mk.inj hc).2] at h0
            exact absurd h0 h8
          · exact hdue z m c (by omega) hc h0
  exact cw_sweepLive hM.1.1 (loop (xm_n S 1 7) 0 0 S 0 none (by omega) ⟨⟨rfl, rfl, rfl, fun _ _ _ => rfl⟩, fun _ _ => rfl, fun m hm => absurd hm (by omega), fun m m' c e h1 h2 => absurd h2 (by omega), fun m' c h1 => absurd h1 (by omega), Nat.le_refl _⟩ (Or.inl rfl) (fun _ m c hm => absurd hm (by omega)))
end
