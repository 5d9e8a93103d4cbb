/-! ===== THE CLASS'S PASSES (printed by wip/whole/gen9zd.py) ===== -/
section
/-- behind a pass -/
def kPs (L : Int32) (N K : Nat) (S : xm_S) (A : y_A) (hb rb nb t : Nat) (r : Option xm_V) (S' : xm_S) : Prop := r = none ∧ xk_C S' ∧ ∃ x A', rf_tick_95 N L (nI K) A [] = (x, A', []) ∧ kM S' A' (fun _ => False) (fun _ => False) (fun _ => False) hb rb nb t 0 0 0 ∧ kZ S S' A A'
theorem k_65 {S : xm_S} {A : y_A} {X E B : Nat → Prop} {hb rb nb t w e1 e2 : Nat} (hM : kM S A X E B hb rb nb t w e1 e2) : ∀ k, k < xm_n S 1 6 → 0 ≤ A 65 k → y_in (A 65 k) 24 := fun k hk h => by
  have hbb := hM.1.2.2.1
  unfold k_bnd at hbb
  have e := (hM.1.2.2.2.2.2.2.2.1 k hk).2.2.2.2.2.2.2.2.2.2.2.1
  rcases hz : xm_r S 2 k 4 with _ | g
  · rw [hz] at e
    rw [e] at h
    exact absurd h (by decide)
  · rw [hz] at e
    have := hM.gb k g hk hz
    rw [e]
    exact y_in_nI (by omega) (by decide)
theorem c_pass0 {d : Nat} (hd : 120 ≤ d) {S0 : xm_S} {A0 : y_A} {nb t hb0 rb0 : Nat} (hM0 : kM S0 A0 (fun _ => False) (fun _ => False) (fun _ => False) hb0 rb0 nb t 0 0 0) (hnb : nb ≤ xm_n S0 1 6) : ∀ (r i K N : Nat) (Si : xm_S) (Ai : y_A) (u : Option xm_V), i + r = xm_n S0 1 7 → kG S0 i K → K ≤ xm_n S0 1 6 → kM Si Ai (fun _ => False) (fun _ => False) (fun _ => False) 0 0 nb t 0 0 0 → kZ S0 Si A0 Ai → 4400 < N + K → rg_tick_95 N 0 (nI K) Ai [] ∧ xw (d + 2) 53 10 [some (.inr (some (0, 0))), some (.inl (10 : Int32)), some (.inl (nI (xm_n S0 1 7))), some (.inl (nI i)), u] [] Si (kPs 0 N K Si Ai 0 0 nb t) := by
  have hb0 := hM0.1.2.2.1
  unfold k_bnd at hb0
  have hv := hM0.1.2.2.2.2.2.1
  intro r
  induction r with
  | zero =>
    intro i K N Si Ai u hi hg hK hM hZ hN
    have hbb := hM.1.2.2.1
    unfold k_bnd at hbb
    have h61 : Ai 61 0 = nI (xm_n Si 1 6) := hM.1.2.1.2.2.2.2.2.2.1
    have cc : nI (xm_n S0 1 7) ≤ nI i := nI_le (by omega) (by omega)
    obtain ⟨s1, s2⟩ := k_95_e0 h61 (by omega) (k_65 hM) K N (Nat.le_trans hK hZ.1.1) (by omega) (fun e h1 h2 z => by
      by_cases c : e < xm_n S0 1 6
      · exact hg.fin (by omega) e h1 c (hZ.2.2.1 e c ((hM.1.2.2.2.2.2.2.2.1 e h2).2.2.2.2.1.trans z.1))
      · exact hM.2.2.2.2.2.2.2.2.2.2.2.2.2.2.2.2.2.2.2.1 e (by omega) h2 z.2)
    refine ⟨s2, cw_doWhatIsDue_10 hM.1.1 ⟨fun _ => ⟨rfl, hM.1.1, _, Ai, s1, hM.mono (by omega) (by omega) (Nat.le_refl _) (fun _ _ z => z), kZ.rf _ _⟩, fun z => absurd cc z⟩⟩
  | succ r ih =>
    intro i K N Si Ai u hi hg hK hM hZ hN
    have hbb := hM.1.2.2.1
    unfold k_bnd at hbb
    have h61 : Ai 61 0 = nI (xm_n Si 1 6) := hM.1.2.1.2.2.2.2.2.2.1
    have ht := hM.1.2.2.2.2.1.1
    have cc : ¬ nI (xm_n S0 1 7) ≤ nI i := nI_ge (by omega) (by omega)
    have hZ7 := hZ.1.2
    have hZ6 := hZ.1.1
    have cc2 : ¬ nI (xm_n Si 1 7) ≤ nI i := nI_ge (by omega) (by omega)
    obtain ⟨k, hk, hkn⟩ := hv.1 i (by omega)
    have hKk : K ≤ k := hg.2 i k (Nat.le_refl _) (by omega) hk
    have hs' := hg.s hv (by omega) hk
    have hli : xm_l Si 7 (y_ix (nI i)) = (2, k) := by rw [y_ix_nI (by omega), hZ.2.1 i (by omega)]; exact hk
    have hkS : k < xm_n Si 1 6 := by omega
    have yi : y_in (nI i) (xm_n Si 1 7) := y_in_nI (by omega) (by omega)
    have hkc := hM.1.2.2.2.2.2.2.2.1 k hkS
    obtain ⟨s1, s2⟩ := k_95_g0 h61 (by omega) (k_65 hM) (k - K) K N (by omega) (by omega) (fun e h1 h2 z => hg.gap hv (by omega) hk e h1 (by omega) hkn (hZ.2.2.1 e (by omega) ((hM.1.2.2.2.2.2.2.2.1 e (by omega)).2.2.2.2.1.trans z.1)))
    rw [show K + (k - K) = k by omega] at s1 s2
    obtain ⟨N', hN'⟩ : ∃ x, N - (k - K) = x + 1 := ⟨N - (k - K) - 1, by omega⟩
    rw [hN'] at s1 s2
    have nx : ∀ (S2 : xm_S) (A2 : y_A), kM S2 A2 (fun _ => False) (fun _ => False) (fun _ => False) 0 0 nb t 0 0 0 → kZ Si S2 Ai A2 → (rf_tick_95 (N' + 1) 0 (nI k) Ai [] = rf_tick_95 N' 0 (nI (k + 1)) A2 [] ∧ (rg_tick_95 N' 0 (nI (k + 1)) A2 [] → rg_tick_95 (N' + 1) 0 (nI k) Ai [])) → rg_tick_95 N 0 (nI K) Ai [] ∧ xw (d + 2) 53 10 [some (.inr (some (0, 0))), some (.inl (10 : Int32)), some (.inl (nI (xm_n S0 1 7))), some (.inl (nI i + 1)), some (.inr (some (2, k)))] [] S2 (kPs 0 N K Si Ai 0 0 nb t) := fun S2 A2 m1 m2 m3 => by
      rw [nI_1]
      obtain ⟨i1, i2⟩ := ih (i + 1) (k + 1) N' S2 A2 (some (.inr (some (2, k)))) (by omega) hs' (by omega) m1 (hZ.tr m2) (by omega)
      refine ⟨s2 (m3.2 i1), xw.mono i2 ?_⟩
      rintro r S' ⟨z1, z2, x, A', z3, z4, z5⟩
      exact ⟨z1, z2, x, A', (s1.trans m3.1).trans z3, z4, m2.tr z5⟩
    have hMk : kM Si Ai (fun _ => False) (fun _ => False) (fun _ => False) 0 0 nb t 0 0 0 := hM.mono (by omega) (by omega) (Nat.le_refl _) (fun _ _ z => z)
    have due : xm_i Si 2 k 12 = xm_i Si 0 0 13 ↔ Ai 72 k = Ai 0 0 := by rw [hkc.2.2.2.2.2.2.1, ht]
    have e69 : xm_i Si 2 k 8 = Ai 69 k := hkc.2.2.2.2.1
    have e65 := hkc.2.2.2.2.2.2.2.2.2.2.2.1
    by_cases M : xm_i Si 2 k 8 = 0 ∧ xm_i Si 2 k 12 = xm_i Si 0 0 13 ∧ (xm_r Si 2 k 4 = none)
    · obtain ⟨h8, hdu, hmt⟩ := M
      have c69 : Ai 69 k = 0 := e69.symm.trans h8
      have c72 := due.mp hdu
      have h65 : ¬ 0 ≤ Ai 65 k := by rw [e65, hmt]; decide
      obtain ⟨A2, js2, f1, f2, f3⟩ := c_finishTry (d := d) (by omega) hMk hkS h8 hmt
      have key : ∀ S13 A', kM S13 A' (fun _ => False) (fun _ => False) (fun _ => False) 0 0 nb t 0 0 0 → kL Si S13 Ai A' → y_to A2 js2 A' [] → _ := fun S13 A' a1 a2 a3 => nx S13 A' a1 a2.Z (k_95_m0 (N := N') h61 (by omega) hkS c69 c72 h65 f1 f2 a3)
      refine ⟨?_, cw_doWhatIsDue_10 hM.1.1 ⟨fun z => absurd z cc, fun _ => ⟨fun z => absurd z cc2, fun _ => ⟨yi, k, hli, fun _ => ⟨fun _ t8 e8 => ⟨fun _ => ⟨fun _ => ⟨fun _ => xc.mono f3 ?_, fun z => absurd rfl z⟩, fun z => absurd rfl z⟩, fun g eg => ?_⟩, fun z => absurd hdu z⟩, fun z => absurd h8 z⟩⟩⟩⟩
      · obtain ⟨-, r, S13, -, -, -, A', v3, v4, v5⟩ := f3
        exact (key S13 A' v4 v5 v3).1
      · rintro r S13 ⟨v1, v2, A', v3, v4, v5⟩
        exact ⟨v1, v2, (key S13 A' v4 v5 v3).2⟩
      · rw [hmt, eg] at e8; cases e8
    · have sk := nx Si Ai (hM.mono (by omega) (by omega) (Nat.le_refl _) (fun _ _ z => z)) (kZ.rf _ _) (k_95_s0 (N := N') h61 (by omega) hkS (k_65 hM k hkS) (fun a b => by
        rcases hz : xm_r Si 2 k 4 with _ | g
        · exact absurd ⟨e69.trans a, due.mpr b, hz⟩ M
        · rw [hz] at e65
          have e65' : Ai 65 k = nI g := e65
          have hgn := hM.gb k g hkS hz
          refine ⟨by rw [e65']; exact nI_pos' (by omega), ?_⟩
          rw [e65', y_ix_nI (by omega)]
          intro y
          have := (hM.2.2.1 g hgn).1.1
          rw [y] at this
          exact absurd this (by decide)))
      refine ⟨sk.1, cw_doWhatIsDue_10 hM.1.1 ⟨fun z => absurd z cc, fun _ => ⟨fun z => absurd z cc2, fun _ => ⟨yi, k, hli, fun h8 => ⟨fun hdu t8 e8 => ⟨fun hn => absurd ⟨h8, hdu, e8.trans hn⟩ M, fun g eg => ⟨fun z => ?_, fun _ => sk.2⟩⟩, fun _ => sk.2⟩, fun _ => sk.2⟩⟩⟩⟩
      have hgk := e8.trans eg
      have hgn := hM.gb k g hkS hgk
      have := (hM.2.2.1 g hgn).1.2
      rw [← (hM.1.2.2.2.2.2.2.2.2.1 g hgn).2.1, z] at this
      exact absurd this (by decide)
theorem c_pass1 {d : Nat} (hd : 120 ≤ d) {S0 : xm_S} {A0 : y_A} {nb t hb0 rb0 : Nat} (hM0 : kM S0 A0 (fun _ => False) (fun _ => False) (fun _ => False) hb0 rb0 nb t 0 0 0) (hnb : nb ≤ xm_n S0 1 6) : ∀ (r i K N : Nat) (Si : xm_S) (Ai : y_A) (u : Option xm_V), i + r = xm_n S0 1 7 → kG S0 i K → K ≤ xm_n S0 1 6 → kM Si Ai (fun _ => False) (fun _ => False) (fun _ => False) 0 0 nb t 0 0 0 → kZ S0 Si A0 Ai → 4400 < N + K → rg_tick_95 N 1 (nI K) Ai [] ∧ xw (d + 2) 53 10 [some (.inr (some (0, 0))), some (.inl (3 : Int32)), some (.inl (nI (xm_n S0 1 7))), some (.inl (nI i)), u] [] Si (kPs 1 N K Si Ai 0 0 nb t) := by
  have hb0 := hM0.1.2.2.1
  unfold k_bnd at hb0
  have hv := hM0.1.2.2.2.2.2.1
  intro r
  induction r with
  | zero =>
    intro i K N Si Ai u hi hg hK hM hZ hN
    have hbb := hM.1.2.2.1
    unfold k_bnd at hbb
    have h61 : Ai 61 0 = nI (xm_n Si 1 6) := hM.1.2.1.2.2.2.2.2.2.1
    have cc : nI (xm_n S0 1 7) ≤ nI i := nI_le (by omega) (by omega)
    obtain ⟨s1, s2⟩ := k_95_e1 h61 (by omega) (k_65 hM) K N (Nat.le_trans hK hZ.1.1) (by omega) (fun e h1 h2 z => by
      by_cases c : e < xm_n S0 1 6
      · exact hg.fin (by omega) e h1 c (hZ.2.2.1 e c ((hM.1.2.2.2.2.2.2.2.1 e h2).2.2.2.2.1.trans z.1))
      · exact hM.2.2.2.2.2.2.2.2.2.2.2.2.2.2.2.2.2.2.2.1 e (by omega) h2 z.2)
    refine ⟨s2, cw_doWhatIsDue_10 hM.1.1 ⟨fun _ => ⟨rfl, hM.1.1, _, Ai, s1, hM.mono (by omega) (by omega) (Nat.le_refl _) (fun _ _ z => z), kZ.rf _ _⟩, fun z => absurd cc z⟩⟩
  | succ r ih =>
    intro i K N Si Ai u hi hg hK hM hZ hN
    have hbb := hM.1.2.2.1
    unfold k_bnd at hbb
    have h61 : Ai 61 0 = nI (xm_n Si 1 6) := hM.1.2.1.2.2.2.2.2.2.1
    have ht := hM.1.2.2.2.2.1.1
    have cc : ¬ nI (xm_n S0 1 7) ≤ nI i := nI_ge (by omega) (by omega)
    have hZ7 := hZ.1.2
    have hZ6 := hZ.1.1
    have cc2 : ¬ nI (xm_n Si 1 7) ≤ nI i := nI_ge (by omega) (by omega)
    obtain ⟨k, hk, hkn⟩ := hv.1 i (by omega)
    have hKk : K ≤ k := hg.2 i k (Nat.le_refl _) (by omega) hk
    have hs' := hg.s hv (by omega) hk
    have hli : xm_l Si 7 (y_ix (nI i)) = (2, k) := by rw [y_ix_nI (by omega), hZ.2.1 i (by omega)]; exact hk
    have hkS : k < xm_n Si 1 6 := by omega
    have yi : y_in (nI i) (xm_n Si 1 7) := y_in_nI (by omega) (by omega)
    have hkc := hM.1.2.2.2.2.2.2.2.1 k hkS
    obtain ⟨s1, s2⟩ := k_95_g1 h61 (by omega) (k_65 hM) (k - K) K N (by omega) (by omega) (fun e h1 h2 z => hg.gap hv (by omega) hk e h1 (by omega) hkn (hZ.2.2.1 e (by omega) ((hM.1.2.2.2.2.2.2.2.1 e (by omega)).2.2.2.2.1.trans z.1)))
    rw [show K + (k - K) = k by omega] at s1 s2
    obtain ⟨N', hN'⟩ : ∃ x, N - (k - K) = x + 1 := ⟨N - (k - K) - 1, by omega⟩
    rw [hN'] at s1 s2
    have nx : ∀ (S2 : xm_S) (A2 : y_A), kM S2 A2 (fun _ => False) (fun _ => False) (fun _ => False) 0 0 nb t 0 0 0 → kZ Si S2 Ai A2 → (rf_tick_95 (N' + 1) 1 (nI k) Ai [] = rf_tick_95 N' 1 (nI (k + 1)) A2 [] ∧ (rg_tick_95 N' 1 (nI (k + 1)) A2 [] → rg_tick_95 (N' + 1) 1 (nI k) Ai [])) → rg_tick_95 N 1 (nI K) Ai [] ∧ xw (d + 2) 53 10 [some (.inr (some (0, 0))), some (.inl (3 : Int32)), some (.inl (nI (xm_n S0 1 7))), some (.inl (nI i + 1)), some (.inr (some (2, k)))] [] S2 (kPs 1 N K Si Ai 0 0 nb t) := fun S2 A2 m1 m2 m3 => by
      rw [nI_1]
      obtain ⟨i1, i2⟩ := ih (i + 1) (k + 1) N' S2 A2 (some (.inr (some (2, k)))) (by omega) hs' (by omega) m1 (hZ.tr m2) (by omega)
      refine ⟨s2 (m3.2 i1), xw.mono i2 ?_⟩
      rintro r S' ⟨z1, z2, x, A', z3, z4, z5⟩
      exact ⟨z1, z2, x, A', (s1.trans m3.1).trans z3, z4, m2.tr z5⟩
    have hMk : kM Si Ai (fun _ => False) (fun _ => False) (fun _ => False) 0 0 nb t 0 0 0 := hM.mono (by omega) (by omega) (Nat.le_refl _) (fun _ _ z => z)
    have due : xm_i Si 2 k 12 = xm_i Si 0 0 13 ↔ Ai 72 k = Ai 0 0 := by rw [hkc.2.2.2.2.2.2.1, ht]
    have e69 : xm_i Si 2 k 8 = Ai 69 k := hkc.2.2.2.2.1
    have e65 := hkc.2.2.2.2.2.2.2.2.2.2.2.1
    by_cases M : xm_i Si 2 k 8 = 0 ∧ xm_i Si 2 k 12 = xm_i Si 0 0 13 ∧ (∃ g, xm_r Si 2 k 4 = some g ∧ Ai 31 g = 3)
    · obtain ⟨h8, hdu, hmt⟩ := M
      have c69 : Ai 69 k = 0 := e69.symm.trans h8
      have c72 := due.mp hdu
      obtain ⟨g, hgk, hsg⟩ := hmt
      rw [hgk] at e65
      have e65' : Ai 65 k = nI g := e65
      have hgn := hM.gb k g hkS hgk
      have h65 : 0 ≤ Ai 65 k := by rw [e65']; exact nI_pos' (by omega)
      have hy24 := k_65 hM k hkS h65
      have h31 : Ai 31 (y_ix (Ai 65 k)) = 3 := by rw [e65', y_ix_nI (by omega)]; exact hsg
      have s1' : xm_i Si 5 g 1 = 3 := (hM.1.2.2.2.2.2.2.2.2.1 g hgn).2.1.trans hsg
      obtain ⟨A2, js2, f1, f2, f3⟩ := c_expire (d := d) (by omega) hMk hkS h8 hgk hsg
      have key : ∀ S13 A', kM S13 A' (fun _ => False) (fun _ => False) (fun _ => False) 0 0 nb t 0 0 0 → kL Si S13 Ai A' → y_to A2 js2 A' [] → _ := fun S13 A' a1 a2 a3 => nx S13 A' a1 a2.Z (k_95_m1 (N := N') h61 (by omega) hkS c69 c72 h65 hy24 h31 f1 f2 a3)
      refine ⟨?_, cw_doWhatIsDue_10 hM.1.1 ⟨fun z => absurd z cc, fun _ => ⟨fun z => absurd z cc2, fun _ => ⟨yi, k, hli, fun _ => ⟨fun _ t8 e8 => ⟨fun z => ?_, fun g' eg => ?_⟩, fun z => absurd hdu z⟩, fun z => absurd h8 z⟩⟩⟩⟩
      · obtain ⟨-, r, S13, -, -, -, A', v3, v4, v5⟩ := f3
        exact (key S13 A' v4 v5 v3).1
      · rw [hgk, z] at e8; cases e8
      · rw [hgk, eg] at e8
        rw [← Option.some.inj e8]
        refine ⟨fun _ => ⟨fun z => absurd z (by decide), fun _ => ⟨fun _ => xc.mono f3 ?_, fun z => absurd rfl z⟩⟩, fun z => absurd s1' z⟩
        rintro r S13 ⟨v1, v2, A', v3, v4, v5⟩
        exact ⟨v1, v2, (key S13 A' v4 v5 v3).2⟩
    · have sk := nx Si Ai (hM.mono (by omega) (by omega) (Nat.le_refl _) (fun _ _ z => z)) (kZ.rf _ _) (k_95_s1 (N := N') h61 (by omega) hkS (k_65 hM k hkS) (fun a b c => by
        rcases hz : xm_r Si 2 k 4 with _ | g
        · rw [hz] at e65
          rw [e65] at c
          exact absurd c (by decide)
        · rw [hz] at e65
          have e65' : Ai 65 k = nI g := e65
          have hgn := hM.gb k g hkS hz
          rw [e65', y_ix_nI (by omega)]
          intro y
          exact M ⟨e69.trans a, due.mpr b, g, hz, y⟩))
      exact ⟨sk.1, cw_doWhatIsDue_10 hM.1.1 ⟨fun z => absurd z cc, fun _ => ⟨fun z => absurd z cc2, fun _ => ⟨yi, k, hli, fun h8 => ⟨fun hdu t8 e8 => ⟨fun _ => ⟨fun z => absurd z (by decide), fun _ => sk.2⟩, fun g eg => ⟨fun z => absurd ⟨h8, hdu, g, e8.trans eg, (hM.1.2.2.2.2.2.2.2.2.1 g (hM.gb k g hkS (e8.trans eg))).2.1.symm.trans z⟩ M, fun _ => sk.2⟩⟩, fun _ => sk.2⟩, fun _ => sk.2⟩⟩⟩⟩
theorem c_pass2 {d : Nat} (hd : 120 ≤ d) {S0 : xm_S} {A0 : y_A} {nb t hb0 rb0 : Nat} (hM0 : kM S0 A0 (fun _ => False) (fun _ => False) (fun _ => False) hb0 rb0 nb t 0 0 0) (hnb : nb ≤ xm_n S0 1 6) : ∀ (r i K N : Nat) (Si : xm_S) (Ai : y_A) (u : Option xm_V), i + r = xm_n S0 1 7 → kG S0 i K → K ≤ xm_n S0 1 6 → kM Si Ai (fun _ => False) (fun _ => False) (fun _ => False) K 0 nb t 0 0 0 → kZ S0 Si A0 Ai → 4400 < N + K → rg_tick_95 N 2 (nI K) Ai [] ∧ xw (d + 2) 53 10 [some (.inr (some (0, 0))), some (.inl (5 : Int32)), some (.inl (nI (xm_n S0 1 7))), some (.inl (nI i)), u] [] Si (kPs 2 N K Si Ai 5000 0 nb t) := by
  have hb0 := hM0.1.2.2.1
  unfold k_bnd at hb0
  have hv := hM0.1.2.2.2.2.2.1
  intro r
  induction r with
  | zero =>
    intro i K N Si Ai u hi hg hK hM hZ hN
    have hbb := hM.1.2.2.1
    unfold k_bnd at hbb
    have h61 : Ai 61 0 = nI (xm_n Si 1 6) := hM.1.2.1.2.2.2.2.2.2.1
    have cc : nI (xm_n S0 1 7) ≤ nI i := nI_le (by omega) (by omega)
    obtain ⟨s1, s2⟩ := k_95_e2 h61 (by omega) (k_65 hM) K N (Nat.le_trans hK hZ.1.1) (by omega) (fun e h1 h2 z => by
      by_cases c : e < xm_n S0 1 6
      · exact hg.fin (by omega) e h1 c (hZ.2.2.1 e c ((hM.1.2.2.2.2.2.2.2.1 e h2).2.2.2.2.1.trans z.1))
      · exact hM.2.2.2.2.2.2.2.2.2.2.2.2.2.2.2.2.2.2.2.1 e (by omega) h2 z.2)
    refine ⟨s2, cw_doWhatIsDue_10 hM.1.1 ⟨fun _ => ⟨rfl, hM.1.1, _, Ai, s1, hM.mono (by omega) (by omega) (Nat.le_refl _) (fun _ _ z => z), kZ.rf _ _⟩, fun z => absurd cc z⟩⟩
  | succ r ih =>
    intro i K N Si Ai u hi hg hK hM hZ hN
    have hbb := hM.1.2.2.1
    unfold k_bnd at hbb
    have h61 : Ai 61 0 = nI (xm_n Si 1 6) := hM.1.2.1.2.2.2.2.2.2.1
    have ht := hM.1.2.2.2.2.1.1
    have cc : ¬ nI (xm_n S0 1 7) ≤ nI i := nI_ge (by omega) (by omega)
    have hZ7 := hZ.1.2
    have hZ6 := hZ.1.1
    have cc2 : ¬ nI (xm_n Si 1 7) ≤ nI i := nI_ge (by omega) (by omega)
    obtain ⟨k, hk, hkn⟩ := hv.1 i (by omega)
    have hKk : K ≤ k := hg.2 i k (Nat.le_refl _) (by omega) hk
    have hs' := hg.s hv (by omega) hk
    have hli : xm_l Si 7 (y_ix (nI i)) = (2, k) := by rw [y_ix_nI (by omega), hZ.2.1 i (by omega)]; exact hk
    have hkS : k < xm_n Si 1 6 := by omega
    have yi : y_in (nI i) (xm_n Si 1 7) := y_in_nI (by omega) (by omega)
    have hkc := hM.1.2.2.2.2.2.2.2.1 k hkS
    obtain ⟨s1, s2⟩ := k_95_g2 h61 (by omega) (k_65 hM) (k - K) K N (by omega) (by omega) (fun e h1 h2 z => hg.gap hv (by omega) hk e h1 (by omega) hkn (hZ.2.2.1 e (by omega) ((hM.1.2.2.2.2.2.2.2.1 e (by omega)).2.2.2.2.1.trans z.1)))
    rw [show K + (k - K) = k by omega] at s1 s2
    obtain ⟨N', hN'⟩ : ∃ x, N - (k - K) = x + 1 := ⟨N - (k - K) - 1, by omega⟩
    rw [hN'] at s1 s2
    have nx : ∀ (S2 : xm_S) (A2 : y_A), kM S2 A2 (fun _ => False) (fun _ => False) (fun _ => False) (k + 1) 0 nb t 0 0 0 → kZ Si S2 Ai A2 → (rf_tick_95 (N' + 1) 2 (nI k) Ai [] = rf_tick_95 N' 2 (nI (k + 1)) A2 [] ∧ (rg_tick_95 N' 2 (nI (k + 1)) A2 [] → rg_tick_95 (N' + 1) 2 (nI k) Ai [])) → rg_tick_95 N 2 (nI K) Ai [] ∧ xw (d + 2) 53 10 [some (.inr (some (0, 0))), some (.inl (5 : Int32)), some (.inl (nI (xm_n S0 1 7))), some (.inl (nI i + 1)), some (.inr (some (2, k)))] [] S2 (kPs 2 N K Si Ai 5000 0 nb t) := fun S2 A2 m1 m2 m3 => by
      rw [nI_1]
      obtain ⟨i1, i2⟩ := ih (i + 1) (k + 1) N' S2 A2 (some (.inr (some (2, k)))) (by omega) hs' (by omega) m1 (hZ.tr m2) (by omega)
      refine ⟨s2 (m3.2 i1), xw.mono i2 ?_⟩
      rintro r S' ⟨z1, z2, x, A', z3, z4, z5⟩
      exact ⟨z1, z2, x, A', (s1.trans m3.1).trans z3, z4, m2.tr z5⟩
    have hMk : kM Si Ai (fun _ => False) (fun _ => False) (fun _ => False) k 0 nb t 0 0 0 := hM.mono (by omega) (by omega) (Nat.le_refl _) (fun _ _ z => z)
    have due : xm_i Si 2 k 12 = xm_i Si 0 0 13 ↔ Ai 72 k = Ai 0 0 := by rw [hkc.2.2.2.2.2.2.1, ht]
    have e69 : xm_i Si 2 k 8 = Ai 69 k := hkc.2.2.2.2.1
    have e65 := hkc.2.2.2.2.2.2.2.2.2.2.2.1
    by_cases M : xm_i Si 2 k 8 = 0 ∧ xm_i Si 2 k 12 = xm_i Si 0 0 13 ∧ (∃ g, xm_r Si 2 k 4 = some g ∧ Ai 31 g = 5)
    · obtain ⟨h8, hdu, hmt⟩ := M
      have c69 : Ai 69 k = 0 := e69.symm.trans h8
      have c72 := due.mp hdu
      obtain ⟨g, hgk, hsg⟩ := hmt
      rw [hgk] at e65
      have e65' : Ai 65 k = nI g := e65
      have hgn := hM.gb k g hkS hgk
      have h65 : 0 ≤ Ai 65 k := by rw [e65']; exact nI_pos' (by omega)
      have hy24 := k_65 hM k hkS h65
      have h31 : Ai 31 (y_ix (Ai 65 k)) = 5 := by rw [e65', y_ix_nI (by omega)]; exact hsg
      have s1' : xm_i Si 5 g 1 = 5 := (hM.1.2.2.2.2.2.2.2.2.1 g hgn).2.1.trans hsg
      obtain ⟨f1, o, o1, f3⟩ := c_hedgeDue hMk hkS h8 hgk hsg c72
      have key : ∀ S13 A' gs, kM S13 A' (fun _ => False) (fun _ => False) (fun _ => False) (k + 1) 0 nb t 0 0 0 → kB (xm_n Si 1 6) gs Si S13 Ai A' → y_to Ai (((0 : Int32), Ai 62 k, Ai 63 k + 1, nI k, (-1 : Int32)) :: []) A' [] → _ := fun S13 A' gs a1 a2 a3 => nx S13 A' a1 a2.Z (k_95_m2 (N := N') h61 (by omega) hkS c69 c72 h65 hy24 h31 f1 a3)
      refine ⟨?_, cw_doWhatIsDue_10 hM.1.1 ⟨fun z => absurd z cc, fun _ => ⟨fun z => absurd z cc2, fun _ => ⟨yi, k, hli, fun _ => ⟨fun _ t8 e8 => ⟨fun z => ?_, fun g' eg => ?_⟩, fun z => absurd hdu z⟩, fun z => absurd h8 z⟩⟩⟩⟩
      · obtain ⟨gs, f4⟩ := f3 _ rfl
        obtain ⟨-, r, S13, -, -, -, A', v3, v4, v5⟩ := f4
        exact (key S13 A' gs v4 v5 v3).1
      · rw [hgk, z] at e8; cases e8
      · rw [hgk, eg] at e8
        rw [← Option.some.inj e8]
        refine ⟨fun _ => ⟨fun z => absurd z (by decide), fun _ => ⟨fun z => absurd z (by decide), fun _ S31 e31 t33 e33 => ?_⟩⟩, fun z => absurd s1' z⟩
        rw [o1] at e33
        rw [← e33]
        obtain ⟨gs, f4⟩ := f3 S31 e31
        refine xc.up (xc.mono f4 ?_) hd
        rintro r S13 ⟨v1, v2, A', v3, v4, v5⟩
        exact ⟨v1, v2, (key S13 A' gs v4 v5 v3).2⟩
    · have sk := nx Si Ai (hM.mono (by omega) (by omega) (Nat.le_refl _) (fun _ _ z => z)) (kZ.rf _ _) (k_95_s2 (N := N') h61 (by omega) hkS (k_65 hM k hkS) (fun a b c => by
        rcases hz : xm_r Si 2 k 4 with _ | g
        · rw [hz] at e65
          rw [e65] at c
          exact absurd c (by decide)
        · rw [hz] at e65
          have e65' : Ai 65 k = nI g := e65
          have hgn := hM.gb k g hkS hz
          rw [e65', y_ix_nI (by omega)]
          intro y
          exact M ⟨e69.trans a, due.mpr b, g, hz, y⟩))
      exact ⟨sk.1, cw_doWhatIsDue_10 hM.1.1 ⟨fun z => absurd z cc, fun _ => ⟨fun z => absurd z cc2, fun _ => ⟨yi, k, hli, fun h8 => ⟨fun hdu t8 e8 => ⟨fun _ => ⟨fun z => absurd z (by decide), fun _ => sk.2⟩, fun g eg => ⟨fun z => absurd ⟨h8, hdu, g, e8.trans eg, (hM.1.2.2.2.2.2.2.2.2.1 g (hM.gb k g hkS (e8.trans eg))).2.1.symm.trans z⟩ M, fun _ => sk.2⟩⟩, fun _ => sk.2⟩, fun _ => sk.2⟩⟩⟩⟩
theorem c_pass3 {d : Nat} (hd : 120 ≤ d) {S0 : xm_S} {A0 : y_A} {nb t hb0 rb0 : Nat} (hM0 : kM S0 A0 (fun _ => False) (fun _ => False) (fun _ => False) hb0 rb0 nb t 0 0 0) (hnb : nb ≤ xm_n S0 1 6) : ∀ (r i K N : Nat) (Si : xm_S) (Ai : y_A) (u : Option xm_V), i + r = xm_n S0 1 7 → kG S0 i K → K ≤ xm_n S0 1 6 → kM Si Ai (fun _ => False) (fun _ => False) (fun _ => False) 5000 K nb t 0 0 0 → kZ S0 Si A0 Ai → 4400 < N + K → rg_tick_95 N 3 (nI K) Ai [] ∧ xw (d + 2) 53 10 [some (.inr (some (0, 0))), some (.inl (4 : Int32)), some (.inl (nI (xm_n S0 1 7))), some (.inl (nI i)), u] [] Si (kPs 3 N K Si Ai 5000 5000 nb t) := by
  have hb0 := hM0.1.2.2.1
  unfold k_bnd at hb0
  have hv := hM0.1.2.2.2.2.2.1
  intro r
  induction r with
  | zero =>
    intro i K N Si Ai u hi hg hK hM hZ hN
    have hbb := hM.1.2.2.1
    unfold k_bnd at hbb
    have h61 : Ai 61 0 = nI (xm_n Si 1 6) := hM.1.2.1.2.2.2.2.2.2.1
    have cc : nI (xm_n S0 1 7) ≤ nI i := nI_le (by omega) (by omega)
    obtain ⟨s1, s2⟩ := k_95_e3 h61 (by omega) (k_65 hM) K N (Nat.le_trans hK hZ.1.1) (by omega) (fun e h1 h2 z => by
      by_cases c : e < xm_n S0 1 6
      · exact hg.fin (by omega) e h1 c (hZ.2.2.1 e c ((hM.1.2.2.2.2.2.2.2.1 e h2).2.2.2.2.1.trans z.1))
      · exact hM.2.2.2.2.2.2.2.2.2.2.2.2.2.2.2.2.2.2.2.1 e (by omega) h2 z.2)
    refine ⟨s2, cw_doWhatIsDue_10 hM.1.1 ⟨fun _ => ⟨rfl, hM.1.1, _, Ai, s1, hM.mono (by omega) (by omega) (Nat.le_refl _) (fun _ _ z => z), kZ.rf _ _⟩, fun z => absurd cc z⟩⟩
  | succ r ih =>
    intro i K N Si Ai u hi hg hK hM hZ hN
    have hbb := hM.1.2.2.1
    unfold k_bnd at hbb
    have h61 : Ai 61 0 = nI (xm_n Si 1 6) := hM.1.2.1.2.2.2.2.2.2.1
    have ht := hM.1.2.2.2.2.1.1
    have cc : ¬ nI (xm_n S0 1 7) ≤ nI i := nI_ge (by omega) (by omega)
    have hZ7 := hZ.1.2
    have hZ6 := hZ.1.1
    have cc2 : ¬ nI (xm_n Si 1 7) ≤ nI i := nI_ge (by omega) (by omega)
    obtain ⟨k, hk, hkn⟩ := hv.1 i (by omega)
    have hKk : K ≤ k := hg.2 i k (Nat.le_refl _) (by omega) hk
    have hs' := hg.s hv (by omega) hk
    have hli : xm_l Si 7 (y_ix (nI i)) = (2, k) := by rw [y_ix_nI (by omega), hZ.2.1 i (by omega)]; exact hk
    have hkS : k < xm_n Si 1 6 := by omega
    have yi : y_in (nI i) (xm_n Si 1 7) := y_in_nI (by omega) (by omega)
    have hkc := hM.1.2.2.2.2.2.2.2.1 k hkS
    obtain ⟨s1, s2⟩ := k_95_g3 h61 (by omega) (k_65 hM) (k - K) K N (by omega) (by omega) (fun e h1 h2 z => hg.gap hv (by omega) hk e h1 (by omega) hkn (hZ.2.2.1 e (by omega) ((hM.1.2.2.2.2.2.2.2.1 e (by omega)).2.2.2.2.1.trans z.1)))
    rw [show K + (k - K) = k by omega] at s1 s2
    obtain ⟨N', hN'⟩ : ∃ x, N - (k - K) = x + 1 := ⟨N - (k - K) - 1, by omega⟩
    rw [hN'] at s1 s2
    have nx : ∀ (S2 : xm_S) (A2 : y_A), kM S2 A2 (fun _ => False) (fun _ => False) (fun _ => False) 5000 (k + 1) nb t 0 0 0 → kZ Si S2 Ai A2 → (rf_tick_95 (N' + 1) 3 (nI k) Ai [] = rf_tick_95 N' 3 (nI (k + 1)) A2 [] ∧ (rg_tick_95 N' 3 (nI (k + 1)) A2 [] → rg_tick_95 (N' + 1) 3 (nI k) Ai [])) → rg_tick_95 N 3 (nI K) Ai [] ∧ xw (d + 2) 53 10 [some (.inr (some (0, 0))), some (.inl (4 : Int32)), some (.inl (nI (xm_n S0 1 7))), some (.inl (nI i + 1)), some (.inr (some (2, k)))] [] S2 (kPs 3 N K Si Ai 5000 5000 nb t) := fun S2 A2 m1 m2 m3 => by
      rw [nI_1]
      obtain ⟨i1, i2⟩ := ih (i + 1) (k + 1) N' S2 A2 (some (.inr (some (2, k)))) (by omega) hs' (by omega) m1 (hZ.tr m2) (by omega)
      refine ⟨s2 (m3.2 i1), xw.mono i2 ?_⟩
      rintro r S' ⟨z1, z2, x, A', z3, z4, z5⟩
      exact ⟨z1, z2, x, A', (s1.trans m3.1).trans z3, z4, m2.tr z5⟩
    have hMk : kM Si Ai (fun _ => False) (fun _ => False) (fun _ => False) 5000 k nb t 0 0 0 := hM.mono (by omega) (by omega) (Nat.le_refl _) (fun _ _ z => z)
    have due : xm_i Si 2 k 12 = xm_i Si 0 0 13 ↔ Ai 72 k = Ai 0 0 := by rw [hkc.2.2.2.2.2.2.1, ht]
    have e69 : xm_i Si 2 k 8 = Ai 69 k := hkc.2.2.2.2.1
    have e65 := hkc.2.2.2.2.2.2.2.2.2.2.2.1
    by_cases M : xm_i Si 2 k 8 = 0 ∧ xm_i Si 2 k 12 = xm_i Si 0 0 13 ∧ (∃ g, xm_r Si 2 k 4 = some g ∧ Ai 31 g = 4)
    · obtain ⟨h8, hdu, hmt⟩ := M
      have c69 : Ai 69 k = 0 := e69.symm.trans h8
      have c72 := due.mp hdu
      obtain ⟨g, hgk, hsg⟩ := hmt
      rw [hgk] at e65
      have e65' : Ai 65 k = nI g := e65
      have hgn := hM.gb k g hkS hgk
      have h65 : 0 ≤ Ai 65 k := by rw [e65']; exact nI_pos' (by omega)
      have hy24 := k_65 hM k hkS h65
      have h31 : Ai 31 (y_ix (Ai 65 k)) = 4 := by rw [e65', y_ix_nI (by omega)]; exact hsg
      have s1' : xm_i Si 5 g 1 = 4 := (hM.1.2.2.2.2.2.2.2.2.1 g hgn).2.1.trans hsg
      obtain ⟨f1, o, o1, f3⟩ := c_retryDue hMk hkS h8 hgk hsg c72
      have key : ∀ S13 A' gs, kM S13 A' (fun _ => False) (fun _ => False) (fun _ => False) 5000 (k + 1) nb t 0 0 0 → kB (xm_n Si 1 6) gs Si S13 Ai A' → y_to (xm_u2 Ai 76 k 0) (((0 : Int32), Ai 62 k, Ai 63 k + 1, nI k, (-1 : Int32)) :: []) A' [] → _ := fun S13 A' gs a1 a2 a3 => nx S13 A' a1 a2.Z (k_95_m3 (N := N') h61 (by omega) hkS c69 c72 h65 hy24 h31 f1 a3)
      refine ⟨?_, cw_doWhatIsDue_10 hM.1.1 ⟨fun z => absurd z cc, fun _ => ⟨fun z => absurd z cc2, fun _ => ⟨yi, k, hli, fun _ => ⟨fun _ t8 e8 => ⟨fun z => ?_, fun g' eg => ?_⟩, fun z => absurd hdu z⟩, fun z => absurd h8 z⟩⟩⟩⟩
      · obtain ⟨gs, f4⟩ := f3 _ rfl
        obtain ⟨-, r, S13, -, -, -, A', v3, v4, v5⟩ := f4
        exact (key S13 A' gs v4 v5 v3).1
      · rw [hgk, z] at e8; cases e8
      · rw [hgk, eg] at e8
        rw [← Option.some.inj e8]
        refine ⟨fun _ => ⟨fun z => absurd z (by decide), fun _ => ⟨fun z => absurd z (by decide), fun _ S31 e31 t33 e33 => ?_⟩⟩, fun z => absurd s1' z⟩
        rw [o1] at e33
        rw [← e33]
        obtain ⟨gs, f4⟩ := f3 S31 e31
        refine xc.up (xc.mono f4 ?_) hd
        rintro r S13 ⟨v1, v2, A', v3, v4, v5⟩
        exact ⟨v1, v2, (key S13 A' gs v4 v5 v3).2⟩
    · have sk := nx Si Ai (hM.mono (by omega) (by omega) (Nat.le_refl _) (fun _ _ z => z)) (kZ.rf _ _) (k_95_s3 (N := N') h61 (by omega) hkS (k_65 hM k hkS) (fun a b c => by
        rcases hz : xm_r Si 2 k 4 with _ | g
        · rw [hz] at e65
          rw [e65] at c
          exact absurd c (by decide)
        · rw [hz] at e65
          have e65' : Ai 65 k = nI g := e65
          have hgn := hM.gb k g hkS hz
          rw [e65', y_ix_nI (by omega)]
          intro y
          exact M ⟨e69.trans a, due.mpr b, g, hz, y⟩))
      exact ⟨sk.1, cw_doWhatIsDue_10 hM.1.1 ⟨fun z => absurd z cc, fun _ => ⟨fun z => absurd z cc2, fun _ => ⟨yi, k, hli, fun h8 => ⟨fun hdu t8 e8 => ⟨fun _ => ⟨fun z => absurd z (by decide), fun _ => sk.2⟩, fun g eg => ⟨fun z => absurd ⟨h8, hdu, g, e8.trans eg, (hM.1.2.2.2.2.2.2.2.2.1 g (hM.gb k g hkS (e8.trans eg))).2.1.symm.trans z⟩ M, fun _ => sk.2⟩⟩, fun _ => sk.2⟩, fun _ => sk.2⟩⟩⟩⟩
end
