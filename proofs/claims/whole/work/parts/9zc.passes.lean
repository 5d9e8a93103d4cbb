/-! ===== THE FOUR PASSES OF A SECOND (printed by wip/whole/gen9zc.py) ===== -/
section
theorem k_w0 (A : y_A) : rf_work A [] = (A, []) := rf_work_eq (y_to.rf _ _)
theorem k_g0 (A : y_A) : rg_work A [] := ⟨A, y_to.rf _ _⟩
/-- later, as a pass needs it -/
def kZ (S S' : xm_S) (A A' : y_A) : Prop := (xm_n S 1 6 ≤ xm_n S' 1 6 ∧ xm_n S 1 7 ≤ xm_n S' 1 7) ∧ (∀ i, i < xm_n S 1 7 → xm_l S' 7 i = xm_l S 7 i) ∧ (∀ k, k < xm_n S 1 6 → xm_i S' 2 k 8 = 0 → xm_i S 2 k 8 = 0) ∧ kW S S' A A'
theorem kZ.rf (S : xm_S) (A : y_A) : kZ S S A A := ⟨⟨Nat.le_refl _, Nat.le_refl _⟩, fun _ _ => rfl, fun _ _ z => z, rfl⟩
theorem kZ.tr {S S' S'' : xm_S} {A A' A'' : y_A} (h : kZ S S' A A') (g : kZ S' S'' A' A'') : kZ S S'' A A'' := ⟨⟨Nat.le_trans h.1.1 g.1.1, Nat.le_trans h.1.2 g.1.2⟩, fun i hi => (g.2.1 i (Nat.lt_of_lt_of_le hi h.1.2)).trans (h.2.1 i hi), fun k hk z => h.2.2.1 k hk (g.2.2.1 k (Nat.lt_of_lt_of_le hk h.1.1) z), h.2.2.2.tr g.2.2.2⟩
theorem kL.Z {S S' : xm_S} {A A' : y_A} (h : kL S S' A A') : kZ S S' A A' := ⟨⟨h.1.2.1, h.1.2.2.1⟩, h.2.1, fun k hk => (h.2.2.1 k hk).2.2.2.2.2.2.1, h.W⟩
theorem kB.Z {S S' : xm_S} {A A' : y_A} {gs : List Nat} (h : kB (xm_n S 1 6) gs S S' A A') : kZ S S' A A' := ⟨⟨h.1.2.1, h.1.2.2⟩, h.2.1, fun k hk => (h.2.2.1 k hk).2.2.2.2.2.2.1, h.W⟩

theorem k_95_s0 {A : y_A} {n k N : Nat} (h61 : A 61 0 = nI n) (hn : n ≤ 4400) (hk : k < n) (h65 : 0 ≤ A 65 k → y_in (A 65 k) 24) (hno : A 69 k = 0 → A 72 k = A 0 0 → 0 ≤ A 65 k ∧ A 31 (y_ix (A 65 k)) ≠ -1) : rf_tick_95 (N + 1) 0 (nI k) A [] = rf_tick_95 N 0 (nI (k + 1)) A [] ∧ (rg_tick_95 N 0 (nI (k + 1)) A [] → rg_tick_95 (N + 1) 0 (nI k) A []) := by
  have cc : ¬ A 61 0 ≤ nI k := by rw [h61]; exact nI_ge (by omega) (by omega)
  have ixk : y_ix (nI k) = k := y_ix_nI (by omega)
  have yk : y_in (nI k) 4400 := y_in_nI (by omega) (by decide)
  refine ⟨?_, fun y => ?_⟩
  · conv => lhs; unfold rf_tick_95
    rw [if_neg cc, ixk, nI_1]
    by_cases c69 : A 69 k = 0
    · rw [if_pos c69]
      by_cases c72 : A 72 k = A 0 0
      · rw [if_pos c72]
        have hno' := hno c69 c72
        rw [if_pos hno'.1, if_pos (show (0 : Int32) = 0 from rfl), if_neg hno'.2, k_w0]
      · rw [if_neg c72]
    · rw [if_neg c69]
  · have y2 : rg_tick_95 N 0 (nI (k + 1)) (rf_work A []).1 (rf_work A []).2 := by rw [k_w0]; exact y
    unfold rg_tick_95
    rw [ixk, nI_1]
    exact ⟨fun z => absurd z cc, fun _ => ⟨yk, fun c69 => ⟨fun c72 => ⟨fun c65 => ⟨h65 c65, ⟨fun _ => ⟨fun z => absurd z ((hno c69 c72).2), fun _ => ⟨k_g0 A, y2⟩⟩, fun z => absurd rfl z⟩⟩, fun c65 => absurd (hno c69 c72).1 c65⟩, fun _ => y⟩, fun _ => y⟩⟩
theorem k_95_m0 {A A' : y_A} {n k N : Nat} (h61 : A 61 0 = nI n) (hn : n ≤ 4400) (hk : k < n) (c69 : A 69 k = 0) (c72 : A 72 k = A 0 0) (h65 : ¬ 0 ≤ A 65 k) {A2 : y_A} {js2 : List y_J} (hf : rf_tryEnds (nI k) A [] = (A2, js2)) (hr : rg_tryEnds (nI k) A []) (hy : y_to A2 js2 A' []) : rf_tick_95 (N + 1) 0 (nI k) A [] = rf_tick_95 N 0 (nI (k + 1)) A' [] ∧ (rg_tick_95 N 0 (nI (k + 1)) A' [] → rg_tick_95 (N + 1) 0 (nI k) A []) := by
  have cc : ¬ A 61 0 ≤ nI k := by rw [h61]; exact nI_ge (by omega) (by omega)
  have ixk : y_ix (nI k) = k := y_ix_nI (by omega)
  have yk : y_in (nI k) 4400 := y_in_nI (by omega) (by decide)
  have hw := rf_work_eq hy
  refine ⟨?_, fun y => ?_⟩
  · conv => lhs; unfold rf_tick_95
    rw [if_neg cc, ixk, nI_1, if_pos c69, if_pos c72]
    rw [if_neg h65, if_pos (show (0 : Int32) = 0 from rfl), hf, hw]
  · unfold rg_tick_95
    rw [ixk, nI_1]
    exact ⟨fun z => absurd z cc, fun _ => ⟨yk, fun _ => ⟨fun _ => ⟨fun z => absurd z h65, fun _ => ⟨fun _ => ⟨hr, by rw [hf]; exact ⟨A', hy⟩, by rw [hf, hw]; exact y⟩, fun z => absurd rfl z⟩⟩, fun z => absurd c72 z⟩, fun z => absurd c69 z⟩⟩
theorem k_95_g0 {A : y_A} {n : Nat} (h61 : A 61 0 = nI n) (hn : n ≤ 4400) (h65 : ∀ k, k < n → 0 ≤ A 65 k → y_in (A 65 k) 24) : ∀ (r K N : Nat), K + r ≤ n → r ≤ N → (∀ e, K ≤ e → e < K + r → ¬ (A 69 e = 0 ∧ A 72 e = A 0 0)) → rf_tick_95 N 0 (nI K) A [] = rf_tick_95 (N - r) 0 (nI (K + r)) A [] ∧ (rg_tick_95 (N - r) 0 (nI (K + r)) A [] → rg_tick_95 N 0 (nI K) A []) := by
  intro r
  induction r with
  | zero => intro K N _ _ _; exact ⟨rfl, id⟩
  | succ r ih =>
    intro K N hK hN hno
    obtain ⟨N, rfl⟩ : ∃ x, N = x + 1 := ⟨N - 1, by omega⟩
    obtain ⟨i1, i2⟩ := ih (K + 1) N (by omega) (by omega) (fun e h1 h2 => hno e (by omega) (by omega))
    obtain ⟨s1, s2⟩ := k_95_s0 (N := N) h61 hn (show K < n by omega) (h65 K (by omega)) (fun a b => absurd ⟨a, b⟩ (hno K (Nat.le_refl _) (by omega)))
    rw [show N + 1 - (r + 1) = N - r by omega, show K + (r + 1) = K + 1 + r by omega]
    exact ⟨s1.trans i1, fun z => s2 (i2 z)⟩
theorem k_95_e0 {A : y_A} {n : Nat} (h61 : A 61 0 = nI n) (hn : n ≤ 4400) (h65 : ∀ k, k < n → 0 ≤ A 65 k → y_in (A 65 k) 24) (K N : Nat) (hK : K ≤ n) (hN : n < N + K) (hno : ∀ e, K ≤ e → e < n → ¬ (A 69 e = 0 ∧ A 72 e = A 0 0)) : rf_tick_95 N 0 (nI K) A [] = (nI n, A, []) ∧ rg_tick_95 N 0 (nI K) A [] := by
  obtain ⟨s1, s2⟩ := k_95_g0 h61 hn h65 (n - K) K N (by omega) (by omega) (fun e h1 h2 => hno e h1 (by omega))
  rw [show K + (n - K) = n by omega] at s1 s2
  obtain ⟨M, hM⟩ : ∃ x, N - (n - K) = x + 1 := ⟨N - (n - K) - 1, by omega⟩
  have cc : A 61 0 ≤ nI n := by rw [h61]; exact Int32.le_refl _
  rw [s1]
  refine ⟨?_, s2 ?_⟩
  · rw [hM]
    unfold rf_tick_95
    rw [if_pos cc]
  · rw [hM]
    unfold rg_tick_95
    exact ⟨fun _ => trivial, fun z => absurd cc z⟩
theorem k_95_s1 {A : y_A} {n k N : Nat} (h61 : A 61 0 = nI n) (hn : n ≤ 4400) (hk : k < n) (h65 : 0 ≤ A 65 k → y_in (A 65 k) 24) (hno : A 69 k = 0 → A 72 k = A 0 0 → 0 ≤ A 65 k → A 31 (y_ix (A 65 k)) ≠ 3) : rf_tick_95 (N + 1) 1 (nI k) A [] = rf_tick_95 N 1 (nI (k + 1)) A [] ∧ (rg_tick_95 N 1 (nI (k + 1)) A [] → rg_tick_95 (N + 1) 1 (nI k) A []) := by
  have cc : ¬ A 61 0 ≤ nI k := by rw [h61]; exact nI_ge (by omega) (by omega)
  have ixk : y_ix (nI k) = k := y_ix_nI (by omega)
  have yk : y_in (nI k) 4400 := y_in_nI (by omega) (by decide)
  refine ⟨?_, fun y => ?_⟩
  · conv => lhs; unfold rf_tick_95
    rw [if_neg cc, ixk, nI_1]
    by_cases c69 : A 69 k = 0
    · rw [if_pos c69]
      by_cases c72 : A 72 k = A 0 0
      · rw [if_pos c72]
        have hno' := hno c69 c72
        by_cases c65 : 0 ≤ A 65 k
        · rw [if_pos c65, if_neg (show ¬ (1 : Int32) = 0 by decide), if_pos (show (1 : Int32) = 1 from rfl), if_neg (hno' c65), k_w0]
        · rw [if_neg c65, if_neg (show ¬ (1 : Int32) = 0 by decide), if_pos (show (1 : Int32) = 1 from rfl), k_w0]
      · rw [if_neg c72]
    · rw [if_neg c69]
  · have y2 : rg_tick_95 N 1 (nI (k + 1)) (rf_work A []).1 (rf_work A []).2 := by rw [k_w0]; exact y
    unfold rg_tick_95
    rw [ixk, nI_1]
    exact ⟨fun z => absurd z cc, fun _ => ⟨yk, fun c69 => ⟨fun c72 => ⟨fun c65 => ⟨h65 c65, ⟨fun z => absurd z (by decide), fun _ => ⟨fun _ => ⟨fun z => absurd z (hno c69 c72 c65), fun _ => ⟨k_g0 A, y2⟩⟩, fun z => absurd rfl z⟩⟩⟩, fun c65 => ⟨fun z => absurd z (by decide), fun _ => ⟨fun _ => ⟨k_g0 A, y2⟩, fun z => absurd rfl z⟩⟩⟩, fun _ => y⟩, fun _ => y⟩⟩
theorem k_95_m1 {A A' : y_A} {n k N : Nat} (h61 : A 61 0 = nI n) (hn : n ≤ 4400) (hk : k < n) (c69 : A 69 k = 0) (c72 : A 72 k = A 0 0) (h65 : 0 ≤ A 65 k) (hy24 : y_in (A 65 k) 24) (h31 : A 31 (y_ix (A 65 k)) = 3) {A2 : y_A} {js2 : List y_J} (hf : rf_late (nI k) A [] = (A2, js2)) (hr : rg_late (nI k) A []) (hy : y_to A2 js2 A' []) : rf_tick_95 (N + 1) 1 (nI k) A [] = rf_tick_95 N 1 (nI (k + 1)) A' [] ∧ (rg_tick_95 N 1 (nI (k + 1)) A' [] → rg_tick_95 (N + 1) 1 (nI k) A []) := by
  have cc : ¬ A 61 0 ≤ nI k := by rw [h61]; exact nI_ge (by omega) (by omega)
  have ixk : y_ix (nI k) = k := y_ix_nI (by omega)
  have yk : y_in (nI k) 4400 := y_in_nI (by omega) (by decide)
  have hw := rf_work_eq hy
  refine ⟨?_, fun y => ?_⟩
  · conv => lhs; unfold rf_tick_95
    rw [if_neg cc, ixk, nI_1, if_pos c69, if_pos c72]
    rw [if_pos h65, if_neg (show ¬ (1 : Int32) = 0 by decide), if_pos (show (1 : Int32) = 1 from rfl), if_pos h31, hf, hw]
  · unfold rg_tick_95
    rw [ixk, nI_1]
    exact ⟨fun z => absurd z cc, fun _ => ⟨yk, fun _ => ⟨fun _ => ⟨fun _ => ⟨hy24, ⟨fun z => absurd z (by decide), fun _ => ⟨fun _ => ⟨fun _ => ⟨hr, by rw [hf]; exact ⟨A', hy⟩, by rw [hf, hw]; exact y⟩, fun z => absurd h31 z⟩, fun z => absurd rfl z⟩⟩⟩, fun z => absurd h65 z⟩, fun z => absurd c72 z⟩, fun z => absurd c69 z⟩⟩
theorem k_95_g1 {A : y_A} {n : Nat} (h61 : A 61 0 = nI n) (hn : n ≤ 4400) (h65 : ∀ k, k < n → 0 ≤ A 65 k → y_in (A 65 k) 24) : ∀ (r K N : Nat), K + r ≤ n → r ≤ N → (∀ e, K ≤ e → e < K + r → ¬ (A 69 e = 0 ∧ A 72 e = A 0 0)) → rf_tick_95 N 1 (nI K) A [] = rf_tick_95 (N - r) 1 (nI (K + r)) A [] ∧ (rg_tick_95 (N - r) 1 (nI (K + r)) A [] → rg_tick_95 N 1 (nI K) A []) := by
  intro r
  induction r with
  | zero => intro K N _ _ _; exact ⟨rfl, id⟩
  | succ r ih =>
    intro K N hK hN hno
    obtain ⟨N, rfl⟩ : ∃ x, N = x + 1 := ⟨N - 1, by omega⟩
    obtain ⟨i1, i2⟩ := ih (K + 1) N (by omega) (by omega) (fun e h1 h2 => hno e (by omega) (by omega))
    obtain ⟨s1, s2⟩ := k_95_s1 (N := N) h61 hn (show K < n by omega) (h65 K (by omega)) (fun a b => absurd ⟨a, b⟩ (hno K (Nat.le_refl _) (by omega)))
    rw [show N + 1 - (r + 1) = N - r by omega, show K + (r + 1) = K + 1 + r by omega]
    exact ⟨s1.trans i1, fun z => s2 (i2 z)⟩
theorem k_95_e1 {A : y_A} {n : Nat} (h61 : A 61 0 = nI n) (hn : n ≤ 4400) (h65 : ∀ k, k < n → 0 ≤ A 65 k → y_in (A 65 k) 24) (K N : Nat) (hK : K ≤ n) (hN : n < N + K) (hno : ∀ e, K ≤ e → e < n → ¬ (A 69 e = 0 ∧ A 72 e = A 0 0)) : rf_tick_95 N 1 (nI K) A [] = (nI n, A, []) ∧ rg_tick_95 N 1 (nI K) A [] := by
  obtain ⟨s1, s2⟩ := k_95_g1 h61 hn h65 (n - K) K N (by omega) (by omega) (fun e h1 h2 => hno e h1 (by omega))
  rw [show K + (n - K) = n by omega] at s1 s2
  obtain ⟨M, hM⟩ : ∃ x, N - (n - K) = x + 1 := ⟨N - (n - K) - 1, by omega⟩
  have cc : A 61 0 ≤ nI n := by rw [h61]; exact Int32.le_refl _
  rw [s1]
  refine ⟨?_, s2 ?_⟩
  · rw [hM]
    unfold rf_tick_95
    rw [if_pos cc]
  · rw [hM]
    unfold rg_tick_95
    exact ⟨fun _ => trivial, fun z => absurd cc z⟩
theorem k_95_s2 {A : y_A} {n k N : Nat} (h61 : A 61 0 = nI n) (hn : n ≤ 4400) (hk : k < n) (h65 : 0 ≤ A 65 k → y_in (A 65 k) 24) (hno : A 69 k = 0 → A 72 k = A 0 0 → 0 ≤ A 65 k → A 31 (y_ix (A 65 k)) ≠ 5) : rf_tick_95 (N + 1) 2 (nI k) A [] = rf_tick_95 N 2 (nI (k + 1)) A [] ∧ (rg_tick_95 N 2 (nI (k + 1)) A [] → rg_tick_95 (N + 1) 2 (nI k) A []) := by
  have cc : ¬ A 61 0 ≤ nI k := by rw [h61]; exact nI_ge (by omega) (by omega)
  have ixk : y_ix (nI k) = k := y_ix_nI (by omega)
  have yk : y_in (nI k) 4400 := y_in_nI (by omega) (by decide)
  refine ⟨?_, fun y => ?_⟩
  · conv => lhs; unfold rf_tick_95
    rw [if_neg cc, ixk, nI_1]
    by_cases c69 : A 69 k = 0
    · rw [if_pos c69]
      by_cases c72 : A 72 k = A 0 0
      · rw [if_pos c72]
        have hno' := hno c69 c72
        by_cases c65 : 0 ≤ A 65 k
        · rw [if_pos c65, if_neg (show ¬ (2 : Int32) = 0 by decide), if_neg (show ¬ (2 : Int32) = 1 by decide), if_pos (show (2 : Int32) = 2 from rfl), if_neg (hno' c65), k_w0]
        · rw [if_neg c65, if_neg (show ¬ (2 : Int32) = 0 by decide), if_neg (show ¬ (2 : Int32) = 1 by decide), if_pos (show (2 : Int32) = 2 from rfl), k_w0]
      · rw [if_neg c72]
    · rw [if_neg c69]
  · have y2 : rg_tick_95 N 2 (nI (k + 1)) (rf_work A []).1 (rf_work A []).2 := by rw [k_w0]; exact y
    unfold rg_tick_95
    rw [ixk, nI_1]
    exact ⟨fun z => absurd z cc, fun _ => ⟨yk, fun c69 => ⟨fun c72 => ⟨fun c65 => ⟨h65 c65, ⟨fun z => absurd z (by decide), fun _ => ⟨fun z => absurd z (by decide), fun _ => ⟨fun _ => ⟨fun z => absurd z (hno c69 c72 c65), fun _ => ⟨k_g0 A, y2⟩⟩, fun z => absurd rfl z⟩⟩⟩⟩, fun c65 => ⟨fun z => absurd z (by decide), fun _ => ⟨fun z => absurd z (by decide), fun _ => ⟨fun _ => ⟨k_g0 A, y2⟩, fun z => absurd rfl z⟩⟩⟩⟩, fun _ => y⟩, fun _ => y⟩⟩
theorem k_95_m2 {A A' : y_A} {n k N : Nat} (h61 : A 61 0 = nI n) (hn : n ≤ 4400) (hk : k < n) (c69 : A 69 k = 0) (c72 : A 72 k = A 0 0) (h65 : 0 ≤ A 65 k) (hy24 : y_in (A 65 k) 24) (h31 : A 31 (y_ix (A 65 k)) = 5) (h73 : A 73 k = 1) (hy : y_to A (((0 : Int32), A 62 k, A 63 k + 1, nI k, (-1 : Int32)) :: []) A' []) : rf_tick_95 (N + 1) 2 (nI k) A [] = rf_tick_95 N 2 (nI (k + 1)) A' [] ∧ (rg_tick_95 N 2 (nI (k + 1)) A' [] → rg_tick_95 (N + 1) 2 (nI k) A []) := by
  have cc : ¬ A 61 0 ≤ nI k := by rw [h61]; exact nI_ge (by omega) (by omega)
  have ixk : y_ix (nI k) = k := y_ix_nI (by omega)
  have yk : y_in (nI k) 4400 := y_in_nI (by omega) (by decide)
  have hw := rf_work_eq hy
  refine ⟨?_, fun y => ?_⟩
  · conv => lhs; unfold rf_tick_95
    rw [if_neg cc, ixk, nI_1, if_pos c69, if_pos c72]
    rw [if_pos h65, if_neg (show ¬ (2 : Int32) = 0 by decide), if_neg (show ¬ (2 : Int32) = 1 by decide), if_pos (show (2 : Int32) = 2 from rfl), if_pos h31, if_pos h73, hw]
  · unfold rg_tick_95
    rw [ixk, nI_1]
    exact ⟨fun z => absurd z cc, fun _ => ⟨yk, fun _ => ⟨fun _ => ⟨fun _ => ⟨hy24, ⟨fun z => absurd z (by decide), fun _ => ⟨fun z => absurd z (by decide), fun _ => ⟨fun _ => ⟨fun _ => ⟨fun _ => ⟨⟨yk, by decide, trivial⟩, ⟨A', hy⟩, by rw [hw]; exact y⟩, fun z => absurd h73 z⟩, fun z => absurd h31 z⟩, fun z => absurd rfl z⟩⟩⟩⟩, fun z => absurd h65 z⟩, fun z => absurd c72 z⟩, fun z => absurd c69 z⟩⟩
theorem k_95_g2 {A : y_A} {n : Nat} (h61 : A 61 0 = nI n) (hn : n ≤ 4400) (h65 : ∀ k, k < n → 0 ≤ A 65 k → y_in (A 65 k) 24) : ∀ (r K N : Nat), K + r ≤ n → r ≤ N → (∀ e, K ≤ e → e < K + r → ¬ (A 69 e = 0 ∧ A 72 e = A 0 0)) → rf_tick_95 N 2 (nI K) A [] = rf_tick_95 (N - r) 2 (nI (K + r)) A [] ∧ (rg_tick_95 (N - r) 2 (nI (K + r)) A [] → rg_tick_95 N 2 (nI K) A []) := by
  intro r
  induction r with
  | zero => intro K N _ _ _; exact ⟨rfl, id⟩
  | succ r ih =>
    intro K N hK hN hno
    obtain ⟨N, rfl⟩ : ∃ x, N = x + 1 := ⟨N - 1, by omega⟩
    obtain ⟨i1, i2⟩ := ih (K + 1) N (by omega) (by omega) (fun e h1 h2 => hno e (by omega) (by omega))
    obtain ⟨s1, s2⟩ := k_95_s2 (N := N) h61 hn (show K < n by omega) (h65 K (by omega)) (fun a b => absurd ⟨a, b⟩ (hno K (Nat.le_refl _) (by omega)))
    rw [show N + 1 - (r + 1) = N - r by omega, show K + (r + 1) = K + 1 + r by omega]
    exact ⟨s1.trans i1, fun z => s2 (i2 z)⟩
theorem k_95_e2 {A : y_A} {n : Nat} (h61 : A 61 0 = nI n) (hn : n ≤ 4400) (h65 : ∀ k, k < n → 0 ≤ A 65 k → y_in (A 65 k) 24) (K N : Nat) (hK : K ≤ n) (hN : n < N + K) (hno : ∀ e, K ≤ e → e < n → ¬ (A 69 e = 0 ∧ A 72 e = A 0 0)) : rf_tick_95 N 2 (nI K) A [] = (nI n, A, []) ∧ rg_tick_95 N 2 (nI K) A [] := by
  obtain ⟨s1, s2⟩ := k_95_g2 h61 hn h65 (n - K) K N (by omega) (by omega) (fun e h1 h2 => hno e h1 (by omega))
  rw [show K + (n - K) = n by omega] at s1 s2
  obtain ⟨M, hM⟩ : ∃ x, N - (n - K) = x + 1 := ⟨N - (n - K) - 1, by omega⟩
  have cc : A 61 0 ≤ nI n := by rw [h61]; exact Int32.le_refl _
  rw [s1]
  refine ⟨?_, s2 ?_⟩
  · rw [hM]
    unfold rf_tick_95
    rw [if_pos cc]
  · rw [hM]
    unfold rg_tick_95
    exact ⟨fun _ => trivial, fun z => absurd cc z⟩
theorem k_95_s3 {A : y_A} {n k N : Nat} (h61 : A 61 0 = nI n) (hn : n ≤ 4400) (hk : k < n) (h65 : 0 ≤ A 65 k → y_in (A 65 k) 24) (hno : A 69 k = 0 → A 72 k = A 0 0 → 0 ≤ A 65 k → A 31 (y_ix (A 65 k)) ≠ 4) : rf_tick_95 (N + 1) 3 (nI k) A [] = rf_tick_95 N 3 (nI (k + 1)) A [] ∧ (rg_tick_95 N 3 (nI (k + 1)) A [] → rg_tick_95 (N + 1) 3 (nI k) A []) := by
  have cc : ¬ A 61 0 ≤ nI k := by rw [h61]; exact nI_ge (by omega) (by omega)
  have ixk : y_ix (nI k) = k := y_ix_nI (by omega)
  have yk : y_in (nI k) 4400 := y_in_nI (by omega) (by decide)
  refine ⟨?_, fun y => ?_⟩
  · conv => lhs; unfold rf_tick_95
    rw [if_neg cc, ixk, nI_1]
    by_cases c69 : A 69 k = 0
    · rw [if_pos c69]
      by_cases c72 : A 72 k = A 0 0
      · rw [if_pos c72]
        have hno' := hno c69 c72
        by_cases c65 : 0 ≤ A 65 k
        · rw [if_pos c65, if_neg (show ¬ (3 : Int32) = 0 by decide), if_neg (show ¬ (3 : Int32) = 1 by decide), if_neg (show ¬ (3 : Int32) = 2 by decide), if_pos (show (3 : Int32) = 3 from rfl), if_neg (hno' c65), k_w0]
        · rw [if_neg c65, if_neg (show ¬ (3 : Int32) = 0 by decide), if_neg (show ¬ (3 : Int32) = 1 by decide), if_neg (show ¬ (3 : Int32) = 2 by decide), if_pos (show (3 : Int32) = 3 from rfl), k_w0]
      · rw [if_neg c72]
    · rw [if_neg c69]
  · have y2 : rg_tick_95 N 3 (nI (k + 1)) (rf_work A []).1 (rf_work A []).2 := by rw [k_w0]; exact y
    unfold rg_tick_95
    rw [ixk, nI_1]
    exact ⟨fun z => absurd z cc, fun _ => ⟨yk, fun c69 => ⟨fun c72 => ⟨fun c65 => ⟨h65 c65, ⟨fun z => absurd z (by decide), fun _ => ⟨fun z => absurd z (by decide), fun _ => ⟨fun z => absurd z (by decide), fun _ => ⟨fun _ => ⟨fun z => absurd z (hno c69 c72 c65), fun _ => ⟨k_g0 A, y2⟩⟩, fun z => absurd rfl z⟩⟩⟩⟩⟩, fun c65 => ⟨fun z => absurd z (by decide), fun _ => ⟨fun z => absurd z (by decide), fun _ => ⟨fun z => absurd z (by decide), fun _ => ⟨fun _ => ⟨k_g0 A, y2⟩, fun z => absurd rfl z⟩⟩⟩⟩⟩, fun _ => y⟩, fun _ => y⟩⟩
theorem k_95_m3 {A A' : y_A} {n k N : Nat} (h61 : A 61 0 = nI n) (hn : n ≤ 4400) (hk : k < n) (c69 : A 69 k = 0) (c72 : A 72 k = A 0 0) (h65 : 0 ≤ A 65 k) (hy24 : y_in (A 65 k) 24) (h31 : A 31 (y_ix (A 65 k)) = 4) (h76 : ¬ A 76 k = 0) (hy : y_to (xm_u2 A 76 k 0) (((0 : Int32), A 62 k, A 63 k + 1, nI k, (-1 : Int32)) :: []) A' []) : rf_tick_95 (N + 1) 3 (nI k) A [] = rf_tick_95 N 3 (nI (k + 1)) A' [] ∧ (rg_tick_95 N 3 (nI (k + 1)) A' [] → rg_tick_95 (N + 1) 3 (nI k) A []) := by
  have cc : ¬ A 61 0 ≤ nI k := by rw [h61]; exact nI_ge (by omega) (by omega)
  have ixk : y_ix (nI k) = k := y_ix_nI (by omega)
  have yk : y_in (nI k) 4400 := y_in_nI (by omega) (by decide)
  have hw := rf_work_eq hy
  refine ⟨?_, fun y => ?_⟩
  · conv => lhs; unfold rf_tick_95
    rw [if_neg cc, ixk, nI_1, if_pos c69, if_pos c72]
    rw [if_pos h65, if_neg (show ¬ (3 : Int32) = 0 by decide), if_neg (show ¬ (3 : Int32) = 1 by decide), if_neg (show ¬ (3 : Int32) = 2 by decide), if_pos (show (3 : Int32) = 3 from rfl), if_pos h31, if_neg h76, hw]
  · unfold rg_tick_95
    rw [ixk, nI_1]
    exact ⟨fun z => absurd z cc, fun _ => ⟨yk, fun _ => ⟨fun _ => ⟨fun _ => ⟨hy24, ⟨fun z => absurd z (by decide), fun _ => ⟨fun z => absurd z (by decide), fun _ => ⟨fun z => absurd z (by decide), fun _ => ⟨fun _ => ⟨fun _ => ⟨fun z => absurd z h76, fun _ => ⟨⟨yk, by decide, trivial⟩, ⟨A', hy⟩, by rw [hw]; exact y⟩⟩, fun z => absurd h31 z⟩, fun z => absurd rfl z⟩⟩⟩⟩⟩, fun z => absurd h65 z⟩, fun z => absurd c72 z⟩, fun z => absurd c69 z⟩⟩
theorem k_95_g3 {A : y_A} {n : Nat} (h61 : A 61 0 = nI n) (hn : n ≤ 4400) (h65 : ∀ k, k < n → 0 ≤ A 65 k → y_in (A 65 k) 24) : ∀ (r K N : Nat), K + r ≤ n → r ≤ N → (∀ e, K ≤ e → e < K + r → ¬ (A 69 e = 0 ∧ A 72 e = A 0 0)) → rf_tick_95 N 3 (nI K) A [] = rf_tick_95 (N - r) 3 (nI (K + r)) A [] ∧ (rg_tick_95 (N - r) 3 (nI (K + r)) A [] → rg_tick_95 N 3 (nI K) A []) := by
  intro r
  induction r with
  | zero => intro K N _ _ _; exact ⟨rfl, id⟩
  | succ r ih =>
    intro K N hK hN hno
    obtain ⟨N, rfl⟩ : ∃ x, N = x + 1 := ⟨N - 1, by omega⟩
    obtain ⟨i1, i2⟩ := ih (K + 1) N (by omega) (by omega) (fun e h1 h2 => hno e (by omega) (by omega))
    obtain ⟨s1, s2⟩ := k_95_s3 (N := N) h61 hn (show K < n by omega) (h65 K (by omega)) (fun a b => absurd ⟨a, b⟩ (hno K (Nat.le_refl _) (by omega)))
    rw [show N + 1 - (r + 1) = N - r by omega, show K + (r + 1) = K + 1 + r by omega]
    exact ⟨s1.trans i1, fun z => s2 (i2 z)⟩
theorem k_95_e3 {A : y_A} {n : Nat} (h61 : A 61 0 = nI n) (hn : n ≤ 4400) (h65 : ∀ k, k < n → 0 ≤ A 65 k → y_in (A 65 k) 24) (K N : Nat) (hK : K ≤ n) (hN : n < N + K) (hno : ∀ e, K ≤ e → e < n → ¬ (A 69 e = 0 ∧ A 72 e = A 0 0)) : rf_tick_95 N 3 (nI K) A [] = (nI n, A, []) ∧ rg_tick_95 N 3 (nI K) A [] := by
  obtain ⟨s1, s2⟩ := k_95_g3 h61 hn h65 (n - K) K N (by omega) (by omega) (fun e h1 h2 => hno e h1 (by omega))
  rw [show K + (n - K) = n by omega] at s1 s2
  obtain ⟨M, hM⟩ : ∃ x, N - (n - K) = x + 1 := ⟨N - (n - K) - 1, by omega⟩
  have cc : A 61 0 ≤ nI n := by rw [h61]; exact Int32.le_refl _
  rw [s1]
  refine ⟨?_, s2 ?_⟩
  · rw [hM]
    unfold rf_tick_95
    rw [if_pos cc]
  · rw [hM]
    unfold rg_tick_95
    exact ⟨fun _ => trivial, fun z => absurd cc z⟩
end
