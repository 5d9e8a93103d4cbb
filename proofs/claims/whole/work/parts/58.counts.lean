/-! ===== WHAT IS ASKED: counts (printed by wip/whole/gen58.py) ===== -/
section
/-- the ranges of a guard's numbers -/
def kgr (S : xm_S) (A : y_A) (g : Nat) : Prop := (0 ≤ A 31 g ∧ A 31 g ≤ 9) ∧ (0 ≤ A 35 g ∧ A 35 g ≤ 15) ∧ (A 31 g = 9 → 0 ≤ A 33 g ∧ A 33 g ≤ 15) ∧ (A 31 g = 6 → A 32 g = 0 ∨ (A 32 g = 1 ∧ ∃ s, s < xm_n S 1 0 ∧ A 33 g = nI s)) ∧ (A 31 g = 0 → 1 ≤ A 32 g ∧ A 32 g ≤ 20 ∧ 1 ≤ A 33 g ∧ A 33 g ≤ 1000) ∧ (A 31 g = 1 → 1 ≤ A 32 g ∧ A 32 g ≤ 10 ∧ 0 ≤ A 33 g ∧ A 33 g ≤ 10) ∧ (A 31 g = 2 → 1 ≤ A 32 g ∧ A 32 g ≤ 100 ∧ 1 ≤ A 33 g ∧ A 33 g ≤ 100) ∧ (A 31 g = 3 → 1 ≤ A 32 g ∧ A 32 g ≤ 1000) ∧ (A 31 g = 4 → 2 ≤ A 32 g ∧ A 32 g ≤ 6 ∧ 1 ≤ A 33 g ∧ A 33 g ≤ 50 ∧ (A 34 g = 0 ∨ A 34 g = 1)) ∧ (A 31 g = 5 → 1 ≤ A 32 g ∧ A 32 g ≤ 100) ∧ (A 31 g = 7 → 1 ≤ A 32 g ∧ A 32 g ≤ 1000) ∧ (A 31 g = 2 → 0 ≤ A 42 g ∧ A 42 g ≤ A 32 g)
/-- at rest, with ranges and the static arrays -/
def kR (S : xm_S) (A : y_A) : Prop := kQ S A ∧ kS S ∧ ∀ g, g < xm_n S 1 3 → kgr S A g
theorem kn_pos {o : Option Nat} (h : ∀ k, o = some k → k < 2 ^ 31) : 0 ≤ kn o ↔ o ≠ none := by
  cases o with
  | none => exact ⟨fun z => absurd z (by decide), fun z => absurd rfl z⟩
  | some k => exact ⟨fun _ z => (by cases z), fun _ => nI_pos' (h k rfl)⟩
theorem q_triesUnderWay {S : xm_S} {A : y_A} (h : kR S A) {Q : Option xm_V → xm_S → Prop} : ∀ (r i c n : Nat) (l : Int32), i + r = xm_n S 1 7 → kG S i c → c ≤ xm_n S 1 6 → xm_n S 1 6 - c + 1 ≤ n → (Q (some (.inl (rf_count_123 n 10 l (nI c) A).1)) S → xw 1 89 4 [some (.inr (some (0, 0))), some (.inl l), some (.inl (nI i))] [] S Q) ∧ rg_count_123 n 10 l (nI c) A := by
  obtain ⟨⟨⟨hC, hcnt, hb, hl, ht, hv, h1, h2, h3, -⟩, -⟩, -, hgr⟩ := h
  have hN := hcnt.2.2.2.2.2.2.1
  have hbb := hb
  unfold k_bnd at hbb
  intro r
  induction r with
  | zero =>
    intro i c n l hi hg hc hn
    obtain ⟨n, rfl⟩ : ∃ m, n = (m + 1) + (xm_n S 1 6 - c) := ⟨n - (xm_n S 1 6 - c) - 1, by omega⟩
    have hz : ∀ e, c ≤ e → e < c + (xm_n S 1 6 - c) → A 69 e ≠ 0 := fun e a b => by
      rw [← (h2 e (by omega)).2.2.2.2.1]
      exact hg.fin (by omega) e a (by omega)
    obtain ⟨s1, s2⟩ := k_cskip hN (by omega) 10 l (xm_n S 1 6 - c) c (n + 1) (by omega) hz
    rw [show c + (xm_n S 1 6 - c) = xm_n S 1 6 by omega] at s1 s2
    obtain ⟨t1, t2⟩ := k_cend hN 10 l n
    refine ⟨fun hq => cw_triesUnderWay_4 hC ⟨fun _ => ?_, fun z => absurd (nI_le (by omega) (by omega)) z⟩, s2 t2⟩
    rw [s1, t1] at hq
    exact hq
  | succ r ih =>
    intro i c n l hi hg hc hn
    obtain ⟨k, hk, hkn⟩ := hv.1 i (by omega)
    have hck : c ≤ k := hg.2 i k (Nat.le_refl _) (by omega) hk
    obtain ⟨n, rfl⟩ : ∃ m, n = (m + 1) + (k - c) := ⟨n - (k - c) - 1, by omega⟩
    have hz : ∀ e, c ≤ e → e < c + (k - c) → A 69 e ≠ 0 := fun e a b => by
      rw [← (h2 e (by omega)).2.2.2.2.1]
      exact hg.gap hv (by omega) hk e a (by omega) hkn
    obtain ⟨s1, s2⟩ := k_cskip hN (by omega) 10 l (k - c) c (n + 1) (by omega) hz
    rw [show c + (k - c) = k by omega] at s1 s2
    have e1 : ¬ nI (xm_n S 1 6) ≤ nI k := nI_ge hkn (by omega)
    have e2 : ¬ nI (xm_n S 1 7) ≤ nI i := nI_ge (by omega) (by omega)
    have hw := (h2 k hkn).2.2.2.2.1
    have hix : y_ix (nI k) = k := y_ix_nI (by omega)
    have hi2 : y_ix (nI i) = i := y_ix_nI (by omega)
    by_cases h0 : xm_i S 2 k 8 = 0
    · have h0' : A 69 k = 0 := by rw [← hw]; exact h0
      have hgd := (h2 k hkn).2.2.2.2.2.2.2.2.2.2.2.1
      have hgb := (h2 k hkn).2.2.2.2.2.2.2.2.2.2.2.2.2.2.2.2.2.2.2.2.2.2.2.1
      rcases hx : xm_r S 2 k 4 with _ | g
      · rw [hx] at hgd
        have hneg : ¬ (0 : Int32) ≤ A 65 k := by rw [hgd]; decide
        obtain ⟨i1, i2⟩ := ih (i + 1) (k + 1) n (l + 1) (by omega) (hg.s hv (by omega) hk) (by omega) (by omega)
        have sf : rf_count_123 (n + 1) 10 l (nI k) A = rf_count_123 n 10 (l + 1) (nI (k + 1)) A := by
          show (if A 61 0 ≤ nI k then _ else _) = _
          rw [hN, if_neg e1, hix, if_pos h0', if_neg (by decide), if_neg hneg, nI_1]
        refine ⟨fun hq => cw_triesUnderWay_4 hC ⟨fun z => absurd z e2, fun _ => ⟨y_in_nI (by omega) (by omega), k, by rw [hi2]; exact hk, fun _ => ⟨y_in_nI (by omega) (by omega), fun t ht2 => ⟨fun _ => ?_, fun g hg2 => by rw [← ht2, hx] at hg2; cases hg2⟩⟩, fun z => absurd h0 z⟩⟩, s2 ?_⟩
        · rw [s1, sf] at hq
          rw [nI_1]
          exact i1 hq
        · show (A 61 0 ≤ nI k → True) ∧ (¬ A 61 0 ≤ nI k → _)
          rw [hix]
          refine ⟨fun _ => trivial, fun _ => ⟨y_in_nI (by omega) (by decide), fun _ => ⟨fun z => absurd z (by decide), fun _ => ⟨fun z => absurd z hneg, fun _ => ?_⟩⟩, fun z => absurd h0' z⟩⟩
          rw [nI_1]
          exact i2
      · rw [hx] at hgd
        have hgn := hgb g hx
        have hpos : (0 : Int32) ≤ A 65 k := by rw [hgd]; exact nI_pos' (by omega)
        have h10 : ¬ xm_i S 5 g 1 = 10 := by
          rw [(h3 g hgn).2.1]
          intro z
          have := (hgr g hgn).1.2
          rw [z] at this
          exact absurd this (by decide)
        obtain ⟨i1, i2⟩ := ih (i + 1) (k + 1) n l (by omega) (hg.s hv (by omega) hk) (by omega) (by omega)
        have sf : rf_count_123 (n + 1) 10 l (nI k) A = rf_count_123 n 10 l (nI (k + 1)) A := by
          show (if A 61 0 ≤ nI k then _ else _) = _
          rw [hN, if_neg e1, hix, if_pos h0', if_neg (by decide), if_pos hpos, Int32.add_zero, nI_1]
        refine ⟨fun hq => cw_triesUnderWay_4 hC ⟨fun z => absurd z e2, fun _ => ⟨y_in_nI (by omega) (by omega), k, by rw [hi2]; exact hk, fun _ => ⟨y_in_nI (by omega) (by omega), fun t ht2 => ⟨fun z => (by rw [← ht2, hx] at z; cases z), fun g' hg2 => ⟨fun z => (by rw [← ht2, hx] at hg2; cases hg2; exact absurd z h10), fun _ => ?_⟩⟩⟩, fun z => absurd h0 z⟩⟩, s2 ?_⟩
        · rw [s1, sf] at hq
          rw [nI_1, Int32.add_zero]
          exact i1 hq
        · show (A 61 0 ≤ nI k → True) ∧ (¬ A 61 0 ≤ nI k → _)
          rw [hix]
          refine ⟨fun _ => trivial, fun _ => ⟨y_in_nI (by omega) (by decide), fun _ => ⟨fun z => absurd z (by decide), fun _ => ⟨fun _ => ?_, fun z => absurd hpos z⟩⟩, fun z => absurd h0' z⟩⟩
          rw [nI_1, Int32.add_zero]
          exact i2
    · have h0' : ¬ A 69 k = 0 := by rw [← hw]; exact h0
      obtain ⟨i1, i2⟩ := ih (i + 1) (k + 1) n l (by omega) (hg.s hv (by omega) hk) (by omega) (by omega)
      have sf : rf_count_123 (n + 1) 10 l (nI k) A = rf_count_123 n 10 l (nI (k + 1)) A := by
        show (if A 61 0 ≤ nI k then _ else _) = _
        rw [hN, if_neg e1, hix, if_neg h0', Int32.add_zero, nI_1]
      refine ⟨fun hq => cw_triesUnderWay_4 hC ⟨fun z => absurd z e2, fun _ => ⟨y_in_nI (by omega) (by omega), k, by rw [hi2]; exact hk, fun z => absurd z h0, fun _ => ?_⟩⟩, s2 ?_⟩
      · rw [s1, sf] at hq
        rw [nI_1, Int32.add_zero]
        exact i1 hq
      · show (A 61 0 ≤ nI k → True) ∧ (¬ A 61 0 ≤ nI k → _)
        rw [hix]
        refine ⟨fun _ => trivial, fun _ => ⟨y_in_nI (by omega) (by decide), fun z => absurd z h0', fun _ => ?_⟩⟩
        rw [nI_1, Int32.add_zero]
        exact i2
theorem q_ordersUnderWay {S : xm_S} {A : y_A} (h : kR S A) {Q : Option xm_V → xm_S → Prop} {w : Int32} : ∀ (r i n : Nat) (l : Int32), i + r = xm_n S 1 5 → r + 1 ≤ n → (Q (some (.inl (rf_count_173 n w l (nI i) A).1)) S → xw 1 90 4 [some (.inr (some (0, 0))), some (.inl l), some (.inl (nI i))] [] S Q) ∧ rg_count_173 n w l (nI i) A := by
  obtain ⟨⟨⟨hC, hcnt, hb, hl, ht, hv, h1, h2, h3, h4, h5, h6, -⟩, ho, -⟩, -, hgr⟩ := h
  have hN := hcnt.2.2.2.2.2.1
  have hbb := hb
  unfold k_bnd at hbb
  intro r
  induction r with
  | zero =>
    intro i n l hi hn
    obtain ⟨n, rfl⟩ : ∃ m, n = m + 1 := ⟨n - 1, by omega⟩
    have e : A 50 0 ≤ nI i := by rw [hN]; exact nI_le (by omega) (by omega)
    refine ⟨fun hq => cw_ordersUnderWay_4 hC ⟨fun _ => ?_, fun z => absurd (nI_le (by omega) (by omega)) z⟩, fun _ => trivial, fun z => absurd e z⟩
    have : (rf_count_173 (n + 1) w l (nI i) A).1 = l := by
      show ((if A 50 0 ≤ nI i then (l, nI i) else _) : Int32 × Int32).1 = _
      rw [if_pos e]
    rw [this] at hq
    exact hq
  | succ r ih =>
    intro i n l hi hn
    obtain ⟨n, rfl⟩ : ∃ m, n = m + 1 := ⟨n - 1, by omega⟩
    have e1 : ¬ A 50 0 ≤ nI i := by rw [hN]; exact nI_ge (by omega) (by omega)
    have e2 : ¬ nI (xm_n S 1 5) ≤ nI i := nI_ge (by omega) (by omega)
    have hix : y_ix (nI i) = i := y_ix_nI (by omega)
    obtain ⟨f, hf1, hf2, hf3, hf4, hf5, -⟩ := ho i (by omega)
    have hw := (h2 f hf2).2.2.2.2.1
    have hhow := (h2 f hf2).2.2.2.2.2.2.2.2.2.2.2.2.2.2.2.2.2.2.2.2.2.2.1
    have hoh : A 58 i = 0 ↔ xm_i S 2 f 8 = 0 := by
      rw [hf5, hw]
      unfold k_how
      rcases hhow with z | z | z | z <;> rw [z]
      · simp
      · constructor
        · intro y
          exfalso
          revert y
          by_cases hb0 : A 71 f = 0
          · simp [hb0]
          · simp [hb0]
        · intro y; exact absurd y (by decide)
      · simp (decide := true)
      · simp (decide := true)
    by_cases h0 : xm_i S 2 f 8 = 0
    · have h0' := hoh.mpr h0
      obtain ⟨i1, i2⟩ := ih (i + 1) n (l + 1) (by omega) (by omega)
      have sf : rf_count_173 (n + 1) w l (nI i) A = rf_count_173 n w (l + 1) (nI (i + 1)) A := by
        show (if A 50 0 ≤ nI i then _ else _) = _
        rw [if_neg e1, hix, if_pos h0', nI_1]
      refine ⟨fun hq => cw_ordersUnderWay_4 hC ⟨fun z => absurd z e2, fun _ => ⟨y_in_nI (by omega) (by omega), i, by rw [hix]; exact hl.2.2.2.1 i (by omega), fun t ht2 => ⟨fun z => (by rw [← ht2, hf1] at z; cases z), fun k hk => (by
        rw [← ht2, hf1] at hk
        cases hk
        exact ⟨fun _ => (by rw [nI_1]; rw [sf] at hq; exact i1 hq), fun z => absurd h0 z⟩)⟩⟩⟩, fun _ => trivial, fun _ => ⟨y_in_nI (by omega) (by decide), fun _ => ?_, fun z => absurd (by rw [hix]; exact h0') z⟩⟩
      rw [nI_1]
      exact i2
    · have h0' : ¬ A 58 i = 0 := fun z => h0 (hoh.mp z)
      obtain ⟨i1, i2⟩ := ih (i + 1) n l (by omega) (by omega)
      have sf : rf_count_173 (n + 1) w l (nI i) A = rf_count_173 n w l (nI (i + 1)) A := by
        show (if A 50 0 ≤ nI i then _ else _) = _
        rw [if_neg e1, hix, if_neg h0', Int32.add_zero, nI_1]
      refine ⟨fun hq => cw_ordersUnderWay_4 hC ⟨fun z => absurd z e2, fun _ => ⟨y_in_nI (by omega) (by omega), i, by rw [hix]; exact hl.2.2.2.1 i (by omega), fun t ht2 => ⟨fun z => (by rw [← ht2, hf1] at z; cases z), fun k hk => (by
        rw [← ht2, hf1] at hk
        cases hk
        exact ⟨fun z => absurd z h0, fun _ => (by rw [nI_1, Int32.add_zero]; rw [sf] at hq; exact i1 hq)⟩)⟩⟩⟩, fun _ => trivial, fun _ => ⟨y_in_nI (by omega) (by decide), fun z => absurd z (by rw [hix]; exact h0'), fun _ => ?_⟩⟩
      rw [nI_1, Int32.add_zero]
      exact i2
theorem q_alarmsOn {S : xm_S} {A : y_A} (h : kR S A) {Q : Option xm_V → xm_S → Prop} {w : Int32} : ∀ (r i n : Nat) (l : Int32), i + r = xm_n S 1 11 → r + 1 ≤ n → (Q (some (.inl (rf_count_221 n w l (nI i) A).1)) S → xw 0 91 4 [some (.inr (some (0, 0))), some (.inl l), some (.inl (nI i))] [] S Q) ∧ rg_count_221 n w l (nI i) A := by
  obtain ⟨⟨⟨hC, hcnt, hb, hl, ht, hv, h1, h2, h3, h4, h5, h6, h7, h8, -⟩, ho, -⟩, -, hgr⟩ := h
  have hN := hcnt.2.2.2.2.2.2.2.2.2.2
  have hbb := hb
  unfold k_bnd at hbb
  intro r
  induction r with
  | zero =>
    intro i n l hi hn
    obtain ⟨n, rfl⟩ : ∃ m, n = m + 1 := ⟨n - 1, by omega⟩
    have e : A 103 0 ≤ nI i := by rw [hN]; exact nI_le (by omega) (by omega)
    refine ⟨fun hq => cw_alarmsOn_4 hC ⟨fun _ => ?_, fun z => absurd (nI_le (by omega) (by omega)) z⟩, fun _ => trivial, fun z => absurd e z⟩
    have : (rf_count_221 (n + 1) w l (nI i) A).1 = l := by
      show ((if A 103 0 ≤ nI i then (l, nI i) else _) : Int32 × Int32).1 = _
      rw [if_pos e]
    rw [this] at hq
    exact hq
  | succ r ih =>
    intro i n l hi hn
    obtain ⟨n, rfl⟩ : ∃ m, n = m + 1 := ⟨n - 1, by omega⟩
    have e1 : ¬ A 103 0 ≤ nI i := by rw [hN]; exact nI_ge (by omega) (by omega)
    have e2 : ¬ nI (xm_n S 1 11) ≤ nI i := nI_ge (by omega) (by omega)
    have hix : y_ix (nI i) = i := y_ix_nI (by omega)
    have hw := (h8 i (by omega)).2.2.2.1
    by_cases h0 : xm_i S 1 i 3 = 0
    · have h0' : A 109 i = 0 := by rw [← hw]; exact h0
      obtain ⟨i1, i2⟩ := ih (i + 1) n l (by omega) (by omega)
      have sf : rf_count_221 (n + 1) w l (nI i) A = rf_count_221 n w l (nI (i + 1)) A := by
        show (if A 103 0 ≤ nI i then _ else _) = _
        rw [if_neg e1, hix, if_pos h0', Int32.add_zero, nI_1]
      refine ⟨fun hq => cw_alarmsOn_4 hC ⟨fun z => absurd z e2, fun _ => ⟨y_in_nI (by omega) (by omega), i, by rw [hix]; exact hl.2.2.2.2.2.2.2.2 i (by omega), fun _ => (by rw [nI_1, Int32.add_zero]; rw [sf] at hq; exact i1 hq), fun z => absurd h0 z⟩⟩, fun _ => trivial, fun _ => ⟨y_in_nI (by omega) (by decide), fun _ => ?_, fun z => absurd (by rw [hix]; exact h0') z⟩⟩
      rw [nI_1, Int32.add_zero]
      exact i2
    · have h0' : ¬ A 109 i = 0 := by rw [← hw]; exact h0
      obtain ⟨i1, i2⟩ := ih (i + 1) n (l + 1) (by omega) (by omega)
      have sf : rf_count_221 (n + 1) w l (nI i) A = rf_count_221 n w (l + 1) (nI (i + 1)) A := by
        show (if A 103 0 ≤ nI i then _ else _) = _
        rw [if_neg e1, hix, if_neg h0', nI_1]
      refine ⟨fun hq => cw_alarmsOn_4 hC ⟨fun z => absurd z e2, fun _ => ⟨y_in_nI (by omega) (by omega), i, by rw [hix]; exact hl.2.2.2.2.2.2.2.2 i (by omega), fun z => absurd z h0, fun _ => (by rw [nI_1]; rw [sf] at hq; exact i1 hq)⟩⟩, fun _ => trivial, fun _ => ⟨y_in_nI (by omega) (by decide), fun z => absurd z (by rw [hix]; exact h0'), fun _ => ?_⟩⟩
      rw [nI_1]
      exact i2
theorem q_count {S : xm_S} {A : y_A} (h : kR S A) (w : Int32) : xc 2 87 [.inr (some (0, 0)), .inl w] S (fun r S' => r = some (.inl (rf_count w A)) ∧ S' = S) ∧ rg_count w A := by
  have hh := h
  obtain ⟨⟨⟨hC, hcnt, hb, hl, ht, hv, h1, h2, h3, h4, h5, h6, h7, h8, h9, -⟩, ho, hr⟩, -, hgr⟩ := h
  have hbb := hb
  unfold k_bnd at hbb
  obtain ⟨c1, c2, c3, c4, c5, c6, c7, c8, c9, c10, c11⟩ := hcnt
  obtain ⟨q, hq1, -, -, -, hq5, -⟩ := h9
  have a9 := q_callsUnderWay hh.1 (Q := fun r S' => r = some (.inl (rf_count_123 20000 9 0 0 A).1) ∧ S' = S) (xm_n S 1 7) 0 0 20000 0 (by omega) (kG.z hv) (by omega) (by omega)
  have a10 := q_triesUnderWay hh (Q := fun r S' => r = some (.inl (rf_count_123 20000 10 0 0 A).1) ∧ S' = S) (xm_n S 1 7) 0 0 20000 0 (by omega) (kG.z hv) (by omega) (by omega)
  have a11 := q_ordersUnderWay hh (w := 11) (Q := fun r S' => r = some (.inl (rf_count_173 20000 11 0 0 A).1) ∧ S' = S) (xm_n S 1 5) 0 20000 0 (by omega) (by omega)
  have a14 := q_alarmsOn hh (w := 14) (Q := fun r S' => r = some (.inl (rf_count_221 20000 14 0 0 A).1) ∧ S' = S) (xm_n S 1 11) 0 20000 0 (by omega) (by omega)
  unfold rf_count rg_count
  by_cases n0 : w = 0
  · subst n0
    rw [if_pos rfl, c1]
    exact ⟨cw_count hC (⟨fun _ => ⟨rfl, rfl⟩, fun z => absurd rfl z⟩), ⟨fun _ => trivial, fun z => absurd rfl z⟩⟩
  by_cases n1 : w = 1
  · subst n1
    rw [if_neg (by decide), if_pos rfl, c2]
    exact ⟨cw_count hC (⟨fun z => absurd z (by decide), fun _ => ⟨fun _ => ⟨rfl, rfl⟩, fun z => absurd rfl z⟩⟩), ⟨fun z => absurd z (by decide), fun _ => ⟨fun _ => trivial, fun z => absurd rfl z⟩⟩⟩
  by_cases n2 : w = 2
  · subst n2
    rw [if_neg (by decide), if_neg (by decide), if_pos rfl, c3]
    exact ⟨cw_count hC (⟨fun z => absurd z (by decide), fun _ => ⟨fun z => absurd z (by decide), fun _ => ⟨fun _ => ⟨rfl, rfl⟩, fun z => absurd rfl z⟩⟩⟩), ⟨fun z => absurd z (by decide), fun _ => ⟨fun z => absurd z (by decide), fun _ => ⟨fun _ => trivial, fun z => absurd rfl z⟩⟩⟩⟩
  by_cases n3 : w = 3
  · subst n3
    rw [if_neg (by decide), if_neg (by decide), if_neg (by decide), if_pos rfl, c4]
    exact ⟨cw_count hC (⟨fun z => absurd z (by decide), fun _ => ⟨fun z => absurd z (by decide), fun _ => ⟨fun z => absurd z (by decide), fun _ => ⟨fun _ => ⟨rfl, rfl⟩, fun z => absurd rfl z⟩⟩⟩⟩), ⟨fun z => absurd z (by decide), fun _ => ⟨fun z => absurd z (by decide), fun _ => ⟨fun z => absurd z (by decide), fun _ => ⟨fun _ => trivial, fun z => absurd rfl z⟩⟩⟩⟩⟩
  by_cases n4 : w = 4
  · subst n4
    rw [if_neg (by decide), if_neg (by decide), if_neg (by decide), if_neg (by decide), if_pos rfl, c5]
    exact ⟨cw_count hC (⟨fun z => absurd z (by decide), fun _ => ⟨fun z => absurd z (by decide), fun _ => ⟨fun z => absurd z (by decide), fun _ => ⟨fun z => absurd z (by decide), fun _ => ⟨fun _ => ⟨rfl, rfl⟩, fun z => absurd rfl z⟩⟩⟩⟩⟩), ⟨fun z => absurd z (by decide), fun _ => ⟨fun z => absurd z (by decide), fun _ => ⟨fun z => absurd z (by decide), fun _ => ⟨fun z => absurd z (by decide), fun _ => ⟨fun _ => trivial, fun z => absurd rfl z⟩⟩⟩⟩⟩⟩
  by_cases n5 : w = 5
  · subst n5
    rw [if_neg (by decide), if_neg (by decide), if_neg (by decide), if_neg (by decide), if_neg (by decide), if_pos rfl, c6]
    exact ⟨cw_count hC (⟨fun z => absurd z (by decide), fun _ => ⟨fun z => absurd z (by decide), fun _ => ⟨fun z => absurd z (by decide), fun _ => ⟨fun z => absurd z (by decide), fun _ => ⟨fun z => absurd z (by decide), fun _ => ⟨fun _ => ⟨rfl, rfl⟩, fun z => absurd rfl z⟩⟩⟩⟩⟩⟩), ⟨fun z => absurd z (by decide), fun _ => ⟨fun z => absurd z (by decide), fun _ => ⟨fun z => absurd z (by decide), fun _ => ⟨fun z => absurd z (by decide), fun _ => ⟨fun z => absurd z (by decide), fun _ => ⟨fun _ => trivial, fun z => absurd rfl z⟩⟩⟩⟩⟩⟩⟩
  by_cases n6 : w = 6
  · subst n6
    rw [if_neg (by decide), if_neg (by decide), if_neg (by decide), if_neg (by decide), if_neg (by decide), if_neg (by decide), if_pos rfl, c7]
    exact ⟨cw_count hC (⟨fun z => absurd z (by decide), fun _ => ⟨fun z => absurd z (by decide), fun _ => ⟨fun z => absurd z (by decide), fun _ => ⟨fun z => absurd z (by decide), fun _ => ⟨fun z => absurd z (by decide), fun _ => ⟨fun z => absurd z (by decide), fun _ => ⟨fun _ => ⟨rfl, rfl⟩, fun z => absurd rfl z⟩⟩⟩⟩⟩⟩⟩), ⟨fun z => absurd z (by decide), fun _ => ⟨fun z => absurd z (by decide), fun _ => ⟨fun z => absurd z (by decide), fun _ => ⟨fun z => absurd z (by decide), fun _ => ⟨fun z => absurd z (by decide), fun _ => ⟨fun z => absurd z (by decide), fun _ => ⟨fun _ => trivial, fun z => absurd rfl z⟩⟩⟩⟩⟩⟩⟩⟩
  by_cases n7 : w = 7
  · subst n7
    rw [if_neg (by decide), if_neg (by decide), if_neg (by decide), if_neg (by decide), if_neg (by decide), if_neg (by decide), if_neg (by decide), if_pos rfl, c8]
    exact ⟨cw_count hC (⟨fun z => absurd z (by decide), fun _ => ⟨fun z => absurd z (by decide), fun _ => ⟨fun z => absurd z (by decide), fun _ => ⟨fun z => absurd z (by decide), fun _ => ⟨fun z => absurd z (by decide), fun _ => ⟨fun z => absurd z (by decide), fun _ => ⟨fun z => absurd z (by decide), fun _ => ⟨fun _ => ⟨rfl, rfl⟩, fun z => absurd rfl z⟩⟩⟩⟩⟩⟩⟩⟩), ⟨fun z => absurd z (by decide), fun _ => ⟨fun z => absurd z (by decide), fun _ => ⟨fun z => absurd z (by decide), fun _ => ⟨fun z => absurd z (by decide), fun _ => ⟨fun z => absurd z (by decide), fun _ => ⟨fun z => absurd z (by decide), fun _ => ⟨fun z => absurd z (by decide), fun _ => ⟨fun _ => trivial, fun z => absurd rfl z⟩⟩⟩⟩⟩⟩⟩⟩⟩
  by_cases n8 : w = 8
  · subst n8
    rw [if_neg (by decide), if_neg (by decide), if_neg (by decide), if_neg (by decide), if_neg (by decide), if_neg (by decide), if_neg (by decide), if_neg (by decide), if_pos rfl, c9]
    exact ⟨cw_count hC (⟨fun z => absurd z (by decide), fun _ => ⟨fun z => absurd z (by decide), fun _ => ⟨fun z => absurd z (by decide), fun _ => ⟨fun z => absurd z (by decide), fun _ => ⟨fun z => absurd z (by decide), fun _ => ⟨fun z => absurd z (by decide), fun _ => ⟨fun z => absurd z (by decide), fun _ => ⟨fun z => absurd z (by decide), fun _ => ⟨fun _ => ⟨rfl, rfl⟩, fun z => absurd rfl z⟩⟩⟩⟩⟩⟩⟩⟩⟩), ⟨fun z => absurd z (by decide), fun _ => ⟨fun z => absurd z (by decide), fun _ => ⟨fun z => absurd z (by decide), fun _ => ⟨fun z => absurd z (by decide), fun _ => ⟨fun z => absurd z (by decide), fun _ => ⟨fun z => absurd z (by decide), fun _ => ⟨fun z => absurd z (by decide), fun _ => ⟨fun z => absurd z (by decide), fun _ => ⟨fun _ => trivial, fun z => absurd rfl z⟩⟩⟩⟩⟩⟩⟩⟩⟩⟩
  by_cases n9 : w = 9
  · subst n9
    rw [if_neg (by decide), if_neg (by decide), if_neg (by decide), if_neg (by decide), if_neg (by decide), if_neg (by decide), if_neg (by decide), if_neg (by decide), if_neg (by decide), if_pos rfl]
    refine ⟨cw_count hC (⟨fun z => absurd z (by decide), fun _ => ⟨fun z => absurd z (by decide), fun _ => ⟨fun z => absurd z (by decide), fun _ => ⟨fun z => absurd z (by decide), fun _ => ⟨fun z => absurd z (by decide), fun _ => ⟨fun z => absurd z (by decide), fun _ => ⟨fun z => absurd z (by decide), fun _ => ⟨fun z => absurd z (by decide), fun _ => ⟨fun z => absurd z (by decide), fun _ => ⟨fun _ => xc.up (xc.mono (cw_callsUnderWay (d := 0) hC (a9.1 ⟨rfl, rfl⟩)) ?_) (by decide), fun z => absurd rfl z⟩⟩⟩⟩⟩⟩⟩⟩⟩⟩), ⟨fun z => absurd z (by decide), fun _ => ⟨fun z => absurd z (by decide), fun _ => ⟨fun z => absurd z (by decide), fun _ => ⟨fun z => absurd z (by decide), fun _ => ⟨fun z => absurd z (by decide), fun _ => ⟨fun z => absurd z (by decide), fun _ => ⟨fun z => absurd z (by decide), fun _ => ⟨fun z => absurd z (by decide), fun _ => ⟨fun z => absurd z (by decide), fun _ => ⟨fun _ => ⟨a9.2, trivial⟩, fun z => absurd rfl z⟩⟩⟩⟩⟩⟩⟩⟩⟩⟩⟩
    rintro r S2 ⟨rfl, rfl⟩
    exact ⟨_, rfl, hC, rfl, rfl⟩
  by_cases n10 : w = 10
  · subst n10
    rw [if_neg (by decide), if_neg (by decide), if_neg (by decide), if_neg (by decide), if_neg (by decide), if_neg (by decide), if_neg (by decide), if_neg (by decide), if_neg (by decide), if_neg (by decide), if_pos rfl]
    refine ⟨cw_count hC (⟨fun z => absurd z (by decide), fun _ => ⟨fun z => absurd z (by decide), fun _ => ⟨fun z => absurd z (by decide), fun _ => ⟨fun z => absurd z (by decide), fun _ => ⟨fun z => absurd z (by decide), fun _ => ⟨fun z => absurd z (by decide), fun _ => ⟨fun z => absurd z (by decide), fun _ => ⟨fun z => absurd z (by decide), fun _ => ⟨fun z => absurd z (by decide), fun _ => ⟨fun z => absurd z (by decide), fun _ => ⟨fun _ => xc.up (xc.mono (cw_triesUnderWay (d := 0) hC (a10.1 ⟨rfl, rfl⟩)) ?_) (by decide), fun z => absurd rfl z⟩⟩⟩⟩⟩⟩⟩⟩⟩⟩⟩), ⟨fun z => absurd z (by decide), fun _ => ⟨fun z => absurd z (by decide), fun _ => ⟨fun z => absurd z (by decide), fun _ => ⟨fun z => absurd z (by decide), fun _ => ⟨fun z => absurd z (by decide), fun _ => ⟨fun z => absurd z (by decide), fun _ => ⟨fun z => absurd z (by decide), fun _ => ⟨fun z => absurd z (by decide), fun _ => ⟨fun z => absurd z (by decide), fun _ => ⟨fun z => absurd z (by decide), fun _ => ⟨fun _ => ⟨a10.2, trivial⟩, fun z => absurd rfl z⟩⟩⟩⟩⟩⟩⟩⟩⟩⟩⟩⟩
    rintro r S2 ⟨rfl, rfl⟩
    exact ⟨_, rfl, hC, rfl, rfl⟩
  by_cases n11 : w = 11
  · subst n11
    rw [if_neg (by decide), if_neg (by decide), if_neg (by decide), if_neg (by decide), if_neg (by decide), if_neg (by decide), if_neg (by decide), if_neg (by decide), if_neg (by decide), if_neg (by decide), if_neg (by decide), if_pos rfl]
    refine ⟨cw_count hC (⟨fun z => absurd z (by decide), fun _ => ⟨fun z => absurd z (by decide), fun _ => ⟨fun z => absurd z (by decide), fun _ => ⟨fun z => absurd z (by decide), fun _ => ⟨fun z => absurd z (by decide), fun _ => ⟨fun z => absurd z (by decide), fun _ => ⟨fun z => absurd z (by decide), fun _ => ⟨fun z => absurd z (by decide), fun _ => ⟨fun z => absurd z (by decide), fun _ => ⟨fun z => absurd z (by decide), fun _ => ⟨fun z => absurd z (by decide), fun _ => ⟨fun _ => xc.up (xc.mono (cw_ordersUnderWay (d := 0) hC (a11.1 ⟨rfl, rfl⟩)) ?_) (by decide), fun z => absurd rfl z⟩⟩⟩⟩⟩⟩⟩⟩⟩⟩⟩⟩), ⟨fun z => absurd z (by decide), fun _ => ⟨fun z => absurd z (by decide), fun _ => ⟨fun z => absurd z (by decide), fun _ => ⟨fun z => absurd z (by decide), fun _ => ⟨fun z => absurd z (by decide), fun _ => ⟨fun z => absurd z (by decide), fun _ => ⟨fun z => absurd z (by decide), fun _ => ⟨fun z => absurd z (by decide), fun _ => ⟨fun z => absurd z (by decide), fun _ => ⟨fun z => absurd z (by decide), fun _ => ⟨fun z => absurd z (by decide), fun _ => ⟨fun _ => ⟨a11.2, trivial⟩, fun z => absurd rfl z⟩⟩⟩⟩⟩⟩⟩⟩⟩⟩⟩⟩⟩
    rintro r S2 ⟨rfl, rfl⟩
    exact ⟨_, rfl, hC, rfl, rfl⟩
  by_cases n12 : w = 12
  · subst n12
    rw [if_neg (by decide), if_neg (by decide), if_neg (by decide), if_neg (by decide), if_neg (by decide), if_neg (by decide), if_neg (by decide), if_neg (by decide), if_neg (by decide), if_neg (by decide), if_neg (by decide), if_neg (by decide), if_pos rfl]
    exact ⟨cw_count hC (⟨fun z => absurd z (by decide), fun _ => ⟨fun z => absurd z (by decide), fun _ => ⟨fun z => absurd z (by decide), fun _ => ⟨fun z => absurd z (by decide), fun _ => ⟨fun z => absurd z (by decide), fun _ => ⟨fun z => absurd z (by decide), fun _ => ⟨fun z => absurd z (by decide), fun _ => ⟨fun z => absurd z (by decide), fun _ => ⟨fun z => absurd z (by decide), fun _ => ⟨fun z => absurd z (by decide), fun _ => ⟨fun z => absurd z (by decide), fun _ => ⟨fun z => absurd z (by decide), fun _ => ⟨fun _ t ht2 => ⟨_, ht2.symm.trans ht.2.2, fun t3 ht3 => ⟨q, ht3.symm.trans hq1, by rw [← hq5]; exact ⟨rfl, rfl⟩⟩⟩, fun z => absurd rfl z⟩⟩⟩⟩⟩⟩⟩⟩⟩⟩⟩⟩⟩), ⟨fun z => absurd z (by decide), fun _ => ⟨fun z => absurd z (by decide), fun _ => ⟨fun z => absurd z (by decide), fun _ => ⟨fun z => absurd z (by decide), fun _ => ⟨fun z => absurd z (by decide), fun _ => ⟨fun z => absurd z (by decide), fun _ => ⟨fun z => absurd z (by decide), fun _ => ⟨fun z => absurd z (by decide), fun _ => ⟨fun z => absurd z (by decide), fun _ => ⟨fun z => absurd z (by decide), fun _ => ⟨fun z => absurd z (by decide), fun _ => ⟨fun z => absurd z (by decide), fun _ => ⟨fun _ => trivial, fun z => absurd rfl z⟩⟩⟩⟩⟩⟩⟩⟩⟩⟩⟩⟩⟩⟩
  by_cases n13 : w = 13
  · subst n13
    rw [if_neg (by decide), if_neg (by decide), if_neg (by decide), if_neg (by decide), if_neg (by decide), if_neg (by decide), if_neg (by decide), if_neg (by decide), if_neg (by decide), if_neg (by decide), if_neg (by decide), if_neg (by decide), if_neg (by decide), if_pos rfl, c10]
    exact ⟨cw_count hC (⟨fun z => absurd z (by decide), fun _ => ⟨fun z => absurd z (by decide), fun _ => ⟨fun z => absurd z (by decide), fun _ => ⟨fun z => absurd z (by decide), fun _ => ⟨fun z => absurd z (by decide), fun _ => ⟨fun z => absurd z (by decide), fun _ => ⟨fun z => absurd z (by decide), fun _ => ⟨fun z => absurd z (by decide), fun _ => ⟨fun z => absurd z (by decide), fun _ => ⟨fun z => absurd z (by decide), fun _ => ⟨fun z => absurd z (by decide), fun _ => ⟨fun z => absurd z (by decide), fun _ => ⟨fun z => absurd z (by decide), fun _ => ⟨fun _ => ⟨rfl, rfl⟩, fun z => absurd rfl z⟩⟩⟩⟩⟩⟩⟩⟩⟩⟩⟩⟩⟩⟩), ⟨fun z => absurd z (by decide), fun _ => ⟨fun z => absurd z (by decide), fun _ => ⟨fun z => absurd z (by decide), fun _ => ⟨fun z => absurd z (by decide), fun _ => ⟨fun z => absurd z (by decide), fun _ => ⟨fun z => absurd z (by decide), fun _ => ⟨fun z => absurd z (by decide), fun _ => ⟨fun z => absurd z (by decide), fun _ => ⟨fun z => absurd z (by decide), fun _ => ⟨fun z => absurd z (by decide), fun _ => ⟨fun z => absurd z (by decide), fun _ => ⟨fun z => absurd z (by decide), fun _ => ⟨fun z => absurd z (by decide), fun _ => ⟨fun _ => trivial, fun z => absurd rfl z⟩⟩⟩⟩⟩⟩⟩⟩⟩⟩⟩⟩⟩⟩⟩
  by_cases n14 : w = 14
  · subst n14
    rw [if_neg (by decide), if_neg (by decide), if_neg (by decide), if_neg (by decide), if_neg (by decide), if_neg (by decide), if_neg (by decide), if_neg (by decide), if_neg (by decide), if_neg (by decide), if_neg (by decide), if_neg (by decide), if_neg (by decide), if_neg (by decide), if_pos rfl]
    refine ⟨cw_count hC (⟨fun z => absurd z (by decide), fun _ => ⟨fun z => absurd z (by decide), fun _ => ⟨fun z => absurd z (by decide), fun _ => ⟨fun z => absurd z (by decide), fun _ => ⟨fun z => absurd z (by decide), fun _ => ⟨fun z => absurd z (by decide), fun _ => ⟨fun z => absurd z (by decide), fun _ => ⟨fun z => absurd z (by decide), fun _ => ⟨fun z => absurd z (by decide), fun _ => ⟨fun z => absurd z (by decide), fun _ => ⟨fun z => absurd z (by decide), fun _ => ⟨fun z => absurd z (by decide), fun _ => ⟨fun z => absurd z (by decide), fun _ => ⟨fun z => absurd z (by decide), fun _ => ⟨fun _ => xc.up (xc.mono (cw_alarmsOn (d := 0) hC (a14.1 ⟨rfl, rfl⟩)) ?_) (by decide), fun z => absurd rfl z⟩⟩⟩⟩⟩⟩⟩⟩⟩⟩⟩⟩⟩⟩⟩), ⟨fun z => absurd z (by decide), fun _ => ⟨fun z => absurd z (by decide), fun _ => ⟨fun z => absurd z (by decide), fun _ => ⟨fun z => absurd z (by decide), fun _ => ⟨fun z => absurd z (by decide), fun _ => ⟨fun z => absurd z (by decide), fun _ => ⟨fun z => absurd z (by decide), fun _ => ⟨fun z => absurd z (by decide), fun _ => ⟨fun z => absurd z (by decide), fun _ => ⟨fun z => absurd z (by decide), fun _ => ⟨fun z => absurd z (by decide), fun _ => ⟨fun z => absurd z (by decide), fun _ => ⟨fun z => absurd z (by decide), fun _ => ⟨fun z => absurd z (by decide), fun _ => ⟨fun _ => ⟨a14.2, trivial⟩, fun z => absurd rfl z⟩⟩⟩⟩⟩⟩⟩⟩⟩⟩⟩⟩⟩⟩⟩⟩
    rintro r S2 ⟨rfl, rfl⟩
    exact ⟨_, rfl, hC, rfl, rfl⟩
  rw [if_neg n0, if_neg n1, if_neg n2, if_neg n3, if_neg n4, if_neg n5, if_neg n6, if_neg n7, if_neg n8, if_neg n9, if_neg n10, if_neg n11, if_neg n12, if_neg n13, if_neg n14]
  exact ⟨cw_count hC (⟨fun z => absurd z n0, fun _ => ⟨fun z => absurd z n1, fun _ => ⟨fun z => absurd z n2, fun _ => ⟨fun z => absurd z n3, fun _ => ⟨fun z => absurd z n4, fun _ => ⟨fun z => absurd z n5, fun _ => ⟨fun z => absurd z n6, fun _ => ⟨fun z => absurd z n7, fun _ => ⟨fun z => absurd z n8, fun _ => ⟨fun z => absurd z n9, fun _ => ⟨fun z => absurd z n10, fun _ => ⟨fun z => absurd z n11, fun _ => ⟨fun z => absurd z n12, fun _ => ⟨fun z => absurd z n13, fun _ => ⟨fun z => absurd z n14, fun _ => ⟨rfl, rfl⟩⟩⟩⟩⟩⟩⟩⟩⟩⟩⟩⟩⟩⟩⟩⟩), ⟨fun z => absurd z n0, fun _ => ⟨fun z => absurd z n1, fun _ => ⟨fun z => absurd z n2, fun _ => ⟨fun z => absurd z n3, fun _ => ⟨fun z => absurd z n4, fun _ => ⟨fun z => absurd z n5, fun _ => ⟨fun z => absurd z n6, fun _ => ⟨fun z => absurd z n7, fun _ => ⟨fun z => absurd z n8, fun _ => ⟨fun z => absurd z n9, fun _ => ⟨fun z => absurd z n10, fun _ => ⟨fun z => absurd z n11, fun _ => ⟨fun z => absurd z n12, fun _ => ⟨fun z => absurd z n13, fun _ => ⟨fun z => absurd z n14, fun _ => trivial⟩⟩⟩⟩⟩⟩⟩⟩⟩⟩⟩⟩⟩⟩⟩⟩
end
