/-! ===== ALARMS (printed by wip/whole/gen9zh.py) ===== -/
section
/-- an order that lasts -/
def k_last (A : y_A) (k o : Nat) : Prop := A 58 o = 0 ∧ ¬ A 0 0 - A 56 o ≤ A 106 k
theorem k_103 {A : y_A} {n k : Nat} {l2 : Int32} (h50 : A 50 0 = nI n) (hn : n ≤ 60) (hk : k < 10) : ∀ (r i N : Nat) (l3 : Int32), i + r = n → r < N → (l3 = 0 ∨ l3 = 1) → rg_isSo_103 N (nI k) l2 l3 (nI i) A ∧ ((rf_isSo_103 N (nI k) l2 l3 (nI i) A).1 = 0 ∨ (rf_isSo_103 N (nI k) l2 l3 (nI i) A).1 = 1) ∧ ((rf_isSo_103 N (nI k) l2 l3 (nI i) A).1 = 1 ↔ l3 = 1 ∨ ∃ o, i ≤ o ∧ o < n ∧ k_last A k o) := by
  have ixk : y_ix (nI k) = k := y_ix_nI (by omega)
  have yk : y_in (nI k) 10 := y_in_nI hk (by decide)
  intro r
  induction r with
  | zero =>
    intro i N l3 hi hN hl
    obtain ⟨N, rfl⟩ : ∃ x, N = x + 1 := ⟨N - 1, by omega⟩
    have cc : nI n ≤ nI i := nI_le (by omega) (by omega)
    unfold rg_isSo_103 rf_isSo_103
    rw [h50, if_pos cc]
    refine ⟨⟨fun _ => trivial, fun z => absurd cc z⟩, hl, Or.inl, fun z => z.elim id (fun ⟨o, h1, h2, _⟩ => absurd h2 (by omega))⟩
  | succ r ih =>
    intro i N l3 hi hN hl
    obtain ⟨N, rfl⟩ : ∃ x, N = x + 1 := ⟨N - 1, by omega⟩
    have cc : ¬ nI n ≤ nI i := nI_ge (by omega) (by omega)
    have ixi : y_ix (nI i) = i := y_ix_nI (by omega)
    have yi : y_in (nI i) 60 := y_in_nI (by omega) (by decide)
    have e0 : l3 ||| 0 = l3 := by
      rcases hl with rfl | rfl
      · decide
      · decide
    have e1 : l3 ||| 1 = 1 := by
      rcases hl with rfl | rfl
      · decide
      · decide
    obtain ⟨i1, i2, i3⟩ := ih (i + 1) N l3 (by omega) (by omega) hl
    obtain ⟨m1, m2, m3⟩ := ih (i + 1) N 1 (by omega) (by omega) (Or.inr rfl)
    have step : ∀ (R : Prop), (¬ k_last A k i) → ((R ∨ ∃ o, i + 1 ≤ o ∧ o < n ∧ k_last A k o) ↔ (R ∨ ∃ o, i ≤ o ∧ o < n ∧ k_last A k o)) := fun R hno => or_congr_right ⟨fun ⟨o, h1, h2, h3⟩ => ⟨o, by omega, h2, h3⟩, fun ⟨o, h1, h2, h3⟩ => by
      by_cases e : o = i
      · rw [e] at h3; exact absurd h3 hno
      · exact ⟨o, by omega, h2, h3⟩⟩
    unfold rg_isSo_103 rf_isSo_103
    rw [h50, if_neg cc, ixi, ixk, nI_1, e0, e1]
    by_cases c58 : A 58 i = 0
    · rw [if_pos c58]
      by_cases c56 : A 0 0 - A 56 i ≤ A 106 k
      · rw [if_pos c56]
        exact ⟨⟨fun z => absurd z cc, fun _ => ⟨yi, fun _ => ⟨yk, fun _ => i1, fun z => absurd c56 z⟩, fun z => absurd c58 z⟩⟩, i2, i3.trans (step _ (fun z => z.2 c56))⟩
      · rw [if_neg c56]
        exact ⟨⟨fun z => absurd z cc, fun _ => ⟨yi, fun _ => ⟨yk, fun z => absurd z c56, fun _ => m1⟩, fun z => absurd c58 z⟩⟩, m2, fun _ => Or.inr ⟨i, Nat.le_refl _, by omega, c58, c56⟩, fun _ => m3.mpr (Or.inl rfl)⟩
    · rw [if_neg c58]
      exact ⟨⟨fun z => absurd z cc, fun _ => ⟨yi, fun z => absurd z c58, fun _ => i1⟩⟩, i2, i3.trans (step _ (fun z => c58 z.1))⟩
theorem k_58 {S : xm_S} {A : y_A} {o f : Nat} (h8 : xm_i S 2 f 8 = A 69 f) (f5 : A 58 o = k_how (A 69 f) (A 71 f)) (h69 : A 69 f = 0 ∨ A 69 f = 1 ∨ A 69 f = 2 ∨ A 69 f = 3) : A 58 o = 0 ↔ xm_i S 2 f 8 = 0 := by
  rw [f5, h8]
  unfold k_how
  rcases h69 with y | y | y | y
  · rw [y, if_neg (by decide), if_neg (by decide), if_neg (by decide)]
  · rw [y, if_pos rfl]
    by_cases b : A 71 f = 0
    · rw [if_pos b]
    · rw [if_neg b]; decide
  · rw [y, if_neg (by decide), if_pos rfl]
  · rw [y, if_neg (by decide), if_neg (by decide), if_pos rfl]; decide
theorem c_lasts {d : Nat} {S : xm_S} {A : y_A} {X E B : Nat → Prop} {hb rb nb t e1 e2 k : Nat} {Q : Option xm_V → xm_S → Prop} (hM : kM S A X E B hb rb nb t 0 e1 e2) (h0 : (∀ o, o < xm_n S 1 5 → ¬ k_last A k o) → Q (some (.inl 0)) S) (h1 : ∀ o, o < xm_n S 1 5 → k_last A k o → Q (some (.inl 1)) S) : xc (d + 1) 62 [.inr (some (0, 0)), .inl (A 106 k)] S Q := by
  have hC := hM.1.1
  have hbb := hM.1.2.2.1
  unfold k_bnd at hbb
  have hl5 := hM.1.2.2.2.1.2.2.2.1
  have ht := hM.1.2.2.2.2.1.1
  have j18 := hM.2.2.2.2.2.2.2.2.2.2.2.2.2.2.2.2.2.2.2.2
  have loop : ∀ (r i : Nat) (u : Option xm_V), i + r = xm_n S 1 5 → (∀ o, o < i → ¬ k_last A k o) → xw (d + 1) 62 2 [some (.inr (some (0, 0))), some (.inl (A 106 k)), some (.inl (nI i)), u] [] S Q := by
    intro r
    induction r with
    | zero =>
      intro i u hi hno
      have cc : nI (xm_n S 1 5) ≤ nI i := nI_le (by omega) (by omega)
      exact cw_someOrderLasts_2 hC ⟨fun _ => h0 (fun o ho => hno o (by omega)), fun z => absurd cc z⟩
    | succ r ih =>
      intro i u hi hno
      have cc : ¬ nI (xm_n S 1 5) ≤ nI i := nI_ge (by omega) (by omega)
      obtain ⟨f, f1, f2, f3, f4, f5, f6, f7, f8⟩ := j18 i (by omega)
      have hcf := hM.1.2.2.2.2.2.2.2.1 f f2
      have hiff := k_58 hcf.2.2.2.2.1 f5 hcf.2.2.2.2.2.2.2.2.2.2.2.2.2.2.2.2.2.2.2.2.2.2.1
      have nx : ¬ k_last A k i → xw (d + 1) 62 2 [some (.inr (some (0, 0))), some (.inl (A 106 k)), some (.inl (nI i + 1)), some (.inr (some (6, i)))] [] S Q := fun z => by
        rw [nI_1]
        refine ih (i + 1) _ (by omega) (fun o ho => ?_)
        by_cases e : o = i
        · rw [e]; exact z
        · exact hno o (by omega)
      have e56 : xm_i S 0 0 13 - xm_i S 2 f 5 = A 0 0 - A 56 i := by rw [ht, hcf.2.2.1, f7]
      refine cw_someOrderLasts_2 hC ⟨fun z => absurd z cc, fun _ => ⟨y_in_nI (by omega) (by omega), i, by rw [y_ix_nI (by omega)]; exact hl5 i (by omega), fun t5 e5 => ⟨fun z => ?_, fun k7 e7 => ?_⟩⟩⟩
      · rw [f1, z] at e5; cases e5
      · rw [f1, e7] at e5
        obtain rfl := Option.some.inj e5
        rw [e56]
        exact ⟨fun z8 => ⟨fun z => nx (fun y => y.2 z), fun z => h1 i (by omega) ⟨hiff.mpr z8, z⟩⟩, fun z8 => nx (fun y => z8 (hiff.mp y.1))⟩
  exact cw_someOrderLasts hC (loop (xm_n S 1 5) 0 none (by omega) (fun o ho => absurd ho (by omega)))
theorem c_holds {d : Nat} {S : xm_S} {A : y_A} {X E B : Nat → Prop} {hb rb nb t e1 e2 k : Nat} (hM : kM S A X E B hb rb nb t 0 e1 e2) (hk : k < xm_n S 1 11) : rg_isSo (nI k) A ∧ (rf_isSo (nI k) A = 0 ∨ rf_isSo (nI k) A = 1) ∧ xc (d + 2) 61 [.inr (some (0, 0)), .inr (some (1, k))] S (fun r S1 => r = some (.inl (rf_isSo (nI k) A)) ∧ S1 = S) := by
  have hC := hM.1.1
  have hbb := hM.1.2.2.1
  unfold k_bnd at hbb
  have hl := hM.1.2.2.2.1
  obtain ⟨k0, k1, k2, k3, k4, k5, k6, k7, k8, k9, k10⟩ := hM.1.2.2.2.2.2.2.2.2.2.2.2.2.2.1 k hk
  have w6 : A 50 0 = nI (xm_n S 1 5) := hM.1.2.1.2.2.2.2.2.1
  have ixk : y_ix (nI k) = k := y_ix_nI (by omega)
  have yk : y_in (nI k) 10 := y_in_nI (by omega) (by decide)
  obtain ⟨l1, l2, l3⟩ := k_103 (l2 := A 105 k) w6 (by omega) (show k < 10 by omega) (xm_n S 1 5) 0 20000 0 (by omega) (by omega) (Or.inl rfl)
  rw [show nI 0 = (0 : Int32) from rfl] at l1 l2 l3
  have stn : ∀ s, s < xm_n S 1 0 → xm_i S 9 s 3 = A 2 s := fun s hs => (hM.1.2.2.2.2.2.2.1 s hs).2.2.2.1
  have gst : ∀ g, g < xm_n S 1 3 → xm_i S 5 g 6 = A 36 g := fun g hg => (hM.1.2.2.2.2.2.2.2.2.1 g hg).2.2.2.2.2.2.1
  have gq : ∀ g, g < xm_n S 1 3 → ∃ q, xm_r S 5 g 12 = some q ∧ A 40 g = nI (xm_n S 1 q) := fun g hg => by
    obtain ⟨q, y1, y2, y3, y4, -⟩ := (hM.1.2.2.2.2.2.2.2.2.1 g hg).2.2.2.2.2.2.2.2.2.2.2.2.1
    exact ⟨q, y1, y4⟩
  have last : A 104 k = 3 → rf_isSo (nI k) A = (rf_isSo_103 20000 (nI k) (A 105 k) 0 0 A).1 := fun z => by
    unfold rf_isSo
    rw [ixk, if_neg (by rw [z]; decide), if_neg (by rw [z]; decide), if_neg (by rw [z]; decide)]
  have lst : A 104 k = 3 → xc (d + 1) 62 [.inr (some (0, 0)), .inl (A 106 k)] S (fun r S5 => ∃ x7 : Int32, r = some (.inl x7) ∧ xk_C S5 ∧ ((x7 = 0 ∨ x7 = 1) ∧ (some (.inl x7) : Option xm_V) = some (.inl (rf_isSo (nI k) A)) ∧ S5 = S)) := fun z => by
    rw [last z]
    refine c_lasts hM (fun h => ?_) (fun o ho h => ?_)
    · have : (rf_isSo_103 20000 (nI k) (A 105 k) 0 0 A).1 = 0 := l2.resolve_right (fun y => by
        rcases l3.mp y with q | ⟨o, q1, q2, q3⟩
        · exact absurd q (by decide)
        · exact h o q2 q3)
      exact ⟨0, rfl, hC, Or.inl rfl, by rw [this], rfl⟩
    · have : (rf_isSo_103 20000 (nI k) (A 105 k) 0 0 A).1 = 1 := l3.mpr (Or.inr ⟨o, by omega, ho, h⟩)
      exact ⟨1, rfl, hC, Or.inr rfl, by rw [this], rfl⟩
  rcases k10 with s | s | s | s
  · -- a fuse
    obtain ⟨g, g1, g2⟩ := k7 s
    have ixg : y_ix (nI g) = g := y_ix_nI (by omega)
    have cn : ¬ nI g < 0 := nI_pos (by omega)
    have c3 : ¬ nI (xm_n S 1 3) ≤ nI g := nI_ge (by omega) (by omega)
    have yg : y_in (nI g) (xm_n S 1 3) := y_in_nI (by omega) (by omega)
    have eF : rf_isSo (nI k) A = if A 36 g = 1 then 1 else 0 := by
      unfold rf_isSo
      rw [ixk, if_pos s, g1, ixg]
    have br : ((xm_i S 5 g 6) = (1 : Int32) → (some (.inl (1 : Int32)) : Option xm_V) = some (.inl (rf_isSo (nI k) A)) ∧ S = S) ∧ (¬ (xm_i S 5 g 6) = (1 : Int32) → (some (.inl (0 : Int32)) : Option xm_V) = some (.inl (rf_isSo (nI k) A)) ∧ S = S) := by
      rw [gst g g2, eF]
      exact ⟨fun z => ⟨by rw [if_pos z], rfl⟩, fun z => ⟨by rw [if_neg z], rfl⟩⟩
    refine ⟨?_, ?_, cw_holds hC ?_⟩
    · unfold rg_isSo
      rw [ixk, g1]
      exact ⟨yk, fun _ => ⟨y_in_nI (by omega) (by decide), fun _ => trivial, fun _ => trivial⟩, fun z => absurd s z⟩
    · rw [eF]
      by_cases c : A 36 g = 1
      · rw [if_pos c]; exact Or.inr rfl
      · rw [if_neg c]; exact Or.inl rfl
    · rw [k0, k1, g1, ixg]
      refine ⟨fun z => absurd z cn, fun _ => ⟨fun z => absurd z c3, fun _ => ⟨yg, g, hl.2.1 g g2, fun _ => ⟨fun _ => br, fun z => absurd s z⟩, fun c0 => ?_⟩⟩⟩
      have hg0 : g < xm_n S 1 0 := by
        have : ¬ xm_n S 1 0 ≤ g := fun y => c0 (nI_le y (by omega))
        omega
      exact ⟨y_in_nI hg0 (by omega), g, hl.1 g hg0, fun _ => br, fun z => absurd s z⟩
  · -- a level
    obtain ⟨g, g1, g2⟩ := k8 s
    have ixg : y_ix (nI g) = g := y_ix_nI (by omega)
    have cn : ¬ nI g < 0 := nI_pos (by omega)
    have c0 : ¬ nI (xm_n S 1 0) ≤ nI g := nI_ge (by omega) (by omega)
    have s0 : ¬ A 104 k = 0 := by rw [s]; decide
    have yg : y_in (nI g) (xm_n S 1 0) := y_in_nI (by omega) (by omega)
    have eF : rf_isSo (nI k) A = if A 106 k ≤ A 2 g then 0 else 1 := by
      unfold rf_isSo
      rw [ixk, if_neg s0, if_pos s, g1, ixg]
    have br : ((xm_i S 1 k 2) ≤ (xm_i S 9 g 3) → (some (.inl (0 : Int32)) : Option xm_V) = some (.inl (rf_isSo (nI k) A)) ∧ S = S) ∧ (¬ (xm_i S 1 k 2) ≤ (xm_i S 9 g 3) → (some (.inl (1 : Int32)) : Option xm_V) = some (.inl (rf_isSo (nI k) A)) ∧ S = S) := by
      rw [stn g g2, k2, eF]
      exact ⟨fun z => ⟨by rw [if_pos z], rfl⟩, fun z => ⟨by rw [if_neg z], rfl⟩⟩
    refine ⟨?_, ?_, cw_holds hC ?_⟩
    · unfold rg_isSo
      rw [ixk, g1]
      exact ⟨yk, fun z => absurd z s0, fun _ => ⟨fun _ => ⟨y_in_nI (by omega) (by decide), fun _ => trivial, fun _ => trivial⟩, fun z => absurd s z⟩⟩
    · rw [eF]
      by_cases c : A 106 k ≤ A 2 g
      · rw [if_pos c]; exact Or.inl rfl
      · rw [if_neg c]; exact Or.inr rfl
    · rw [k0, k1, g1, ixg]
      refine ⟨fun z => absurd z cn, fun _ => ⟨fun _ => ⟨fun z => absurd z c0, fun _ => ⟨yg, g, hl.1 g g2, fun z => absurd z s0, fun _ => ⟨fun _ => br, fun z => absurd s z⟩⟩⟩, fun c3 => ?_⟩⟩
      have hg3 : g < xm_n S 1 3 := by
        have : ¬ xm_n S 1 3 ≤ g := fun y => c3 (nI_le y (by omega))
        omega
      exact ⟨y_in_nI hg3 (by omega), g, hl.2.1 g hg3, fun z => absurd z c0, fun _ => ⟨yg, g, hl.1 g g2, fun z => absurd z s0, fun _ => ⟨fun _ => br, fun z => absurd s z⟩⟩⟩
  · -- who waits
    obtain ⟨g, g1, g2⟩ := k9 s
    obtain ⟨q, q1, q2⟩ := gq g g2
    have ixg : y_ix (nI g) = g := y_ix_nI (by omega)
    have cn : ¬ nI g < 0 := nI_pos (by omega)
    have c3 : ¬ nI (xm_n S 1 3) ≤ nI g := nI_ge (by omega) (by omega)
    have s0 : ¬ A 104 k = 0 := by rw [s]; decide
    have s1 : ¬ A 104 k = 1 := by rw [s]; decide
    have yg : y_in (nI g) (xm_n S 1 3) := y_in_nI (by omega) (by omega)
    have eF : rf_isSo (nI k) A = if A 40 g < A 106 k then 0 else 1 := by
      unfold rf_isSo
      rw [ixk, if_neg s0, if_neg s1, if_pos s, g1, ixg]
    have br : ∀ t37, (xm_r S 5 g 12) = t37 → (∃ k39, t37 = some k39 ∧ (((nI (xm_n S 1 k39)) < (xm_i S 1 k 2) → (some (.inl (0 : Int32)) : Option xm_V) = some (.inl (rf_isSo (nI k) A)) ∧ S = S) ∧ (¬ (nI (xm_n S 1 k39)) < (xm_i S 1 k 2) → (some (.inl (1 : Int32)) : Option xm_V) = some (.inl (rf_isSo (nI k) A)) ∧ S = S))) := fun t37 e37 => by
      refine ⟨q, e37.symm.trans q1, ?_⟩
      rw [k2, ← q2, eF]
      exact ⟨fun z => ⟨by rw [if_pos z], rfl⟩, fun z => ⟨by rw [if_neg z], rfl⟩⟩
    refine ⟨?_, ?_, cw_holds hC ?_⟩
    · unfold rg_isSo
      rw [ixk, g1]
      exact ⟨yk, fun z => absurd z s0, fun _ => ⟨fun z => absurd z s1, fun _ => ⟨fun _ => ⟨y_in_nI (by omega) (by decide), fun _ => trivial, fun _ => trivial⟩, fun z => absurd s z⟩⟩⟩
    · rw [eF]
      by_cases c : A 40 g < A 106 k
      · rw [if_pos c]; exact Or.inl rfl
      · rw [if_neg c]; exact Or.inr rfl
    · rw [k0, k1, g1, ixg]
      refine ⟨fun z => absurd z cn, fun _ => ⟨fun z => absurd z c3, fun _ => ⟨yg, g, hl.2.1 g g2, fun _ => ⟨fun z => absurd z s0, fun _ => ⟨fun z => absurd z s1, fun _ => ⟨fun _ => br, fun z => absurd s z⟩⟩⟩, fun c0 => ?_⟩⟩⟩
      have hg0 : g < xm_n S 1 0 := by
        have : ¬ xm_n S 1 0 ≤ g := fun y => c0 (nI_le y (by omega))
        omega
      exact ⟨y_in_nI hg0 (by omega), g, hl.1 g hg0, fun z => absurd z s0, fun _ => ⟨fun z => absurd z s1, fun _ => ⟨fun _ => br, fun z => absurd s z⟩⟩⟩
  · -- an order
    have s0 : ¬ A 104 k = 0 := by rw [s]; decide
    have s1 : ¬ A 104 k = 1 := by rw [s]; decide
    have s2 : ¬ A 104 k = 2 := by rw [s]; decide
    have L := lst s
    refine ⟨?_, ?_, cw_holds hC ?_⟩
    · unfold rg_isSo
      rw [ixk]
      exact ⟨yk, fun z => absurd z s0, fun _ => ⟨fun z => absurd z s1, fun _ => ⟨fun z => absurd z s2, fun _ => ⟨l1, l2, trivial⟩⟩⟩⟩
    · rw [last s]; exact l2
    · rw [k0, k1, k2]
      have T : ∀ {P1 P2 P3 : Prop}, (A 104 k = 0 → P1) ∧ (¬ A 104 k = 0 → (A 104 k = 1 → P2) ∧ (¬ A 104 k = 1 → (A 104 k = 2 → P3) ∧ (¬ A 104 k = 2 → xc (d + 1) 62 [.inr (some (0, 0)), .inl (A 106 k)] S (fun r S5 => ∃ x7 : Int32, r = some (.inl x7) ∧ xk_C S5 ∧ ((x7 = 0 ∨ x7 = 1) ∧ (some (.inl x7) : Option xm_V) = some (.inl (rf_isSo (nI k) A)) ∧ S5 = S))))) := ⟨fun z => absurd z s0, fun _ => ⟨fun z => absurd z s1, fun _ => ⟨fun z => absurd z s2, fun _ => L⟩⟩⟩
      refine ⟨fun _ => T, fun cn => ⟨fun _ => ⟨fun _ => T, fun c0 => ?_⟩, fun c3 => ?_⟩⟩
      · obtain ⟨yi, yj, ye⟩ := k_at cn c0 (by omega)
        exact ⟨yi, y_ix (A 105 k), hl.1 _ yj, T⟩
      · obtain ⟨yi, yj, ye⟩ := k_at cn c3 (by omega)
        refine ⟨yi, y_ix (A 105 k), hl.2.1 _ yj, fun _ => T, fun c0 => ?_⟩
        obtain ⟨xi, xj, xe⟩ := k_at cn c0 (by omega)
        exact ⟨xi, y_ix (A 105 k), hl.1 _ xj, T⟩
end
