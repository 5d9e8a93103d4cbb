/-! ===== CALLS ARE TAKEN BACK: both loops that mark ===== -/
section
theorem y_off {A : y_A} {x i : Nat} {v : Int32} {y k : Nat} (h : ¬ (y = x ∧ k = i)) : xm_u2 A x i v y k = A y k := if_neg h
theorem kTn.gap {S : xm_S} {c K : Nat} : ∀ {m : Nat}, (∀ e, K ≤ e → e < K + m → ¬ kT S c e) → kTn S c (K + m) = kTn S c K
  | 0, _ => rfl
  | m + 1, h => by
    rw [show K + (m + 1) = K + m + 1 by omega, kTn.s.2 (h (K + m) (by omega) (by omega))]
    exact kTn.gap (fun e h1 h2 => h e h1 (by omega))
theorem kTk.ext {S S' : xm_S} {c K K' : Nat} {tk : Int32} (h : kTk S S' c K tk) (hK : K ≤ K') (hn : ∀ e, K ≤ e → e < K' → ¬ kT S c e) : kTk S S' c K' tk := by
  obtain ⟨a1, a2, a3, a4, a5, a6, a7⟩ := h
  refine ⟨a1, a2, a3, a4, a5, fun k hk hk2 => a6 k hk ?_, fun k hk => a7 k (fun z => hk ⟨z.1, by omega⟩)⟩
  exact Nat.lt_of_not_le (fun z => hn k z hk2 hk)
theorem kTk.mark {S S' : xm_S} {c k : Nat} {tk : Int32} (h : kTk S S' c k tk) (hk : kT S c k) : kTk S (xm_si (xm_si (xm_si S' 2 k 8 3) 2 k 7 (xm_i S' 0 0 13)) 2 k 19 tk) c (k + 1) tk := by
  obtain ⟨a1, a2, a3, a4, a5, a6, a7⟩ := h
  have o : ∀ e, e ≠ k → ∀ j, xm_i (xm_si (xm_si (xm_si S' 2 k 8 3) 2 k 7 (xm_i S' 0 0 13)) 2 k 19 tk) 2 e j = xm_i S' 2 e j := fun e he j => (xi_sk (fun z => he z.2)).trans ((xi_sk (fun z => he z.2)).trans (xi_sk (fun z => he z.2)))
  refine ⟨a1, a2, a3, fun p q j h1 h2 => ?_, ?_, fun e he he2 => ?_, fun e he => ?_⟩
  · refine (xi_si (by omega)).trans ((xi_si (by omega)).trans ((xi_si (by omega)).trans ?_))
    exact a4 p q j h1 h2
  · exact (xi_si (by decide)).trans ((xi_si (by decide)).trans ((xi_si (by decide)).trans a5))
  · by_cases e1 : e = k
    · subst e1
      refine ⟨(xi_si (by decide)).trans ((xi_si (by decide)).trans xi_same), ((xi_si (by decide)).trans xi_same).trans (a4 0 0 13 (by omega) (by omega)), xi_same⟩
    · rw [o e e1, o e e1, o e e1]
      exact a6 e he (by omega)
  · have e1 : e ≠ k := fun z => he (by rw [z]; exact ⟨hk, by omega⟩)
    rw [o e e1, o e e1, o e e1]
    exact a7 e (fun z => he ⟨z.1, by omega⟩)
theorem c_tb29 {d : Nat} {S : xm_S} {A : y_A} {c : Nat} {tk : Int32} {Q : Option xm_V → xm_S → Prop} (hE : kE S A) (htk : ∀ k, k < xm_n S 1 6 → xm_i S 2 k 19 ≠ tk) (hQ : ∀ S1 u6 u7, kTk S S1 c (xm_n S 1 6) tk → xw (d + 1) 34 129 [some (.inr (some (0, 0))), some (.inr (some (2, c))), some (.inl tk), some (.inl (nI (kTn S c (xm_n S 1 6)))), some (.inl (nI (xm_n S 1 7))), some (.inl (0 : Int32)), u6, u7] [] S1 Q) :
    ∀ (r i K : Nat) (Si : xm_S) (u6 u7 : Option xm_V), i + r = xm_n S 1 7 → kG S i K → K ≤ xm_n S 1 6 → kTk S Si c K tk → xw (d + 1) 34 29 [some (.inr (some (0, 0))), some (.inr (some (2, c))), some (.inl tk), some (.inl (nI (kTn S c K))), some (.inl (nI (xm_n S 1 7))), some (.inl (nI i)), u6, u7] [] Si Q := by
  obtain ⟨hC, hcnt, hb, hl, ht, hv, h1, h2, -⟩ := hE
  have hbb := hb
  unfold k_bnd at hbb
  have hpk : ∀ k p, k < xm_n S 1 6 → xm_r S 2 k 2 = some p → p < k := fun k p hk hp => (h2 k hk).2.2.2.2.2.2.2.2.2.2.2.2.2.2.2.2.2.2.2.2.2.2.2.2.2.1 p hp
  have hTi := fun k (hk : k < xm_n S 1 6) => kT.i (c := c) hpk hk
  intro r
  induction r with
  | zero =>
    intro i K Si u6 u7 hi hg hK hs
    have hC' : xk_C Si := fun j hj => by rw [hs.2.2.1]; exact hC j hj
    have cc : nI (xm_n S 1 7) ≤ nI i := nI_le (by omega) (by omega)
    have hno : ∀ e, K ≤ e → e < xm_n S 1 6 → ¬ kT S c e := fun e e1 e2 z => hg.fin (by omega) e e1 e2 ((hTi e e2).mp z).1
    refine cw_takeBack_29 hC' ⟨fun _ => ?_, fun z => absurd cc z⟩
    have := hQ Si u6 u7 (hs.ext hK hno)
    rw [show xm_n S 1 6 = K + (xm_n S 1 6 - K) by omega, kTn.gap (fun e e1 e2 => hno e e1 (by omega))] at this
    exact this
  | succ r ih =>
    intro i K Si u6 u7 hi hg hK hs
    have hC' : xk_C Si := fun j hj => by rw [hs.2.2.1]; exact hC j hj
    have cc : ¬ nI (xm_n S 1 7) ≤ nI i := nI_ge (by omega) (by omega)
    obtain ⟨k, hk, hkn⟩ := hv.1 i (by omega)
    have hKk : K ≤ k := hg.2 i k (Nat.le_refl _) (by omega) hk
    have hgap : ∀ e, K ≤ e → e < k → ¬ kT S c e := fun e e1 e2 z => hg.gap hv (by omega) hk e e1 e2 hkn ((hTi e (by omega)).mp z).1
    have hsk := hs.ext hKk hgap
    have hcn : kTn S c K = kTn S c k := by
      have := kTn.gap (S := S) (c := c) (K := K) (m := k - K) (fun e e1 e2 => hgap e e1 (by omega))
      rw [show K + (k - K) = k by omega] at this
      exact this.symm
    have h8 : xm_i Si 2 k 8 = xm_i S 2 k 8 := (hsk.2.2.2.2.2.2 k (fun z => by omega)).1
    have ixi : y_ix (nI i) = i := y_ix_nI (by omega)
    rw [hcn]
    have hs' := hg.s hv (by omega) hk
    -- it is taken
    have yes : kT S c k → ∀ S7, S7 = xm_si Si 2 k 8 (3 : Int32) → ∀ S9, S9 = xm_si S7 2 k 7 (xm_i Si 0 0 13) → ∀ S11, S11 = xm_si S9 2 k 19 tk → xw (d + 1) 34 29 [some (.inr (some (0, 0))), some (.inr (some (2, c))), some (.inl tk), some (.inl (nI (kTn S c k) + 1)), some (.inl (nI (xm_n S 1 7))), some (.inl (nI i + 1)), some (.inr (some (2, k))), some (.inl (1 : Int32))] [] S11 Q := fun hT S7 e7 S9 e9 S11 e11 => by
      subst e7 e9 e11
      have := ih (i + 1) (k + 1) _ (some (.inr (some (2, k)))) (some (.inl 1)) (by omega) hs' (by omega) (hsk.mark hT)
      rw [kTn.s.1 hT] at this
      rw [nI_1, nI_1]
      exact this
    have no : ¬ kT S c k → ∀ u : Option xm_V, xw (d + 1) 34 29 [some (.inr (some (0, 0))), some (.inr (some (2, c))), some (.inl tk), some (.inl (nI (kTn S c k))), some (.inl (nI (xm_n S 1 7))), some (.inl (nI i + 1)), some (.inr (some (2, k))), u] [] Si Q := fun hT u => by
      have := ih (i + 1) (k + 1) Si (some (.inr (some (2, k)))) u (by omega) hs' (by omega) (hsk.ext (by omega) (fun e e1 e2 => by rw [show e = k by omega]; exact hT))
      rw [kTn.s.2 hT] at this
      rw [nI_1]
      exact this
    refine cw_takeBack_29 hC' ⟨fun z => absurd z cc, fun _ => ⟨?_, k, ?_, fun hkc => ⟨fun h0 => ?_, fun h0 => ?_⟩, fun hkc t13 e13 => ⟨fun hn => ?_, fun p hp => ⟨fun htp => ⟨fun h0 => ?_, fun h0 => ?_⟩, fun htp => ?_⟩⟩⟩⟩
    · rw [hs.1]; exact y_in_nI (by omega) (by omega)
    · rw [ixi, hs.2.1]; exact hk
    · rw [h8] at h0
      exact yes ((hTi k hkn).mpr ⟨h0, Or.inl hkc⟩)
    · rw [h8] at h0
      exact no (fun z => h0 ((hTi k hkn).mp z).1) _
    · rw [hs.2.2.1] at e13
      refine no (fun z => ?_) _
      rcases ((hTi k hkn).mp z).2 with y | ⟨p, y, -⟩
      · exact hkc y
      · rw [e13, hn] at y; cases y
    · rw [h8] at h0
      rw [hs.2.2.1] at e13
      have hpp : xm_r S 2 k 2 = some p := e13.trans hp
      have hpl := hpk k p hkn hpp
      have hTp : kT S c p := Classical.byContradiction fun z => by
        have := (hsk.2.2.2.2.2.2 p (fun y => z y.1)).2.2
        rw [this] at htp
        exact htk p (by omega) htp
      exact yes ((hTi k hkn).mpr ⟨h0, Or.inr ⟨p, hpp, hTp⟩⟩)
    · rw [h8] at h0
      exact no (fun z => h0 ((hTi k hkn).mp z).1) _
    · rw [hs.2.2.1] at e13
      have hpp : xm_r S 2 k 2 = some p := e13.trans hp
      have hpl := hpk k p hkn hpp
      refine no (fun z => ?_) _
      rcases ((hTi k hkn).mp z).2 with y | ⟨p', y, y2⟩
      · exact hkc y
      · rw [hpp] at y
        rw [← Option.some.inj y] at y2
        exact htp (hsk.2.2.2.2.2.1 p y2 hpl).2.2
/-- one call more, not marked; marked -/
theorem kTa.skip {S : xm_S} {A A' : y_A} {c k h3 : Nat} (v : Int32) (h : kTa S A A' c k h3) (hk : ¬ kT S c k) : kTa S A (xm_u2 A' 80 k v) c (k + 1) h3 := by
  obtain ⟨a1, a2, a3, a4, a5⟩ := h
  refine ⟨fun x e z1 z2 z3 z4 z5 => (if_neg (fun z => z3 z.1)).trans (a1 x e z1 z2 z3 z4 z5), fun e he he2 => ?_, fun e he => a3 e (fun z => he ⟨z.1, by omega⟩), ?_, a5⟩
  · have : e ≠ k := fun z => hk (by rw [← z]; exact he)
    exact a2 e he (by omega)
  · rw [kTn.s.2 hk]; exact a4
theorem kTa.mark {S : xm_S} {A A' : y_A} {c k h3 : Nat} (h : kTa S A A' c k h3) (hk : kT S c k) (h0 : A' 0 0 = A 0 0) : kTa S A (xm_u2 (xm_u2 (xm_u2 (xm_u2 (xm_u2 A' 80 k 1) 69 k 3) 68 k (A' 0 0)) 81 (h3 + kTn S c k) (nI k)) 82 0 (nI (h3 + kTn S c k) + 1)) c (k + 1) h3 := by
  obtain ⟨a1, a2, a3, a4, a5⟩ := h
  have o69 : ∀ e, e ≠ k → (xm_u2 (xm_u2 (xm_u2 (xm_u2 (xm_u2 A' 80 k 1) 69 k 3) 68 k (A' 0 0)) 81 (h3 + kTn S c k) (nI k)) 82 0 (nI (h3 + kTn S c k) + 1)) 69 e = A' 69 e := fun e he => (y_off (by omega)).trans ((y_off (by omega)).trans ((y_off (by omega)).trans ((y_off (by omega)).trans (y_off (by omega)))))
  have o68 : ∀ e, e ≠ k → (xm_u2 (xm_u2 (xm_u2 (xm_u2 (xm_u2 A' 80 k 1) 69 k 3) 68 k (A' 0 0)) 81 (h3 + kTn S c k) (nI k)) 82 0 (nI (h3 + kTn S c k) + 1)) 68 e = A' 68 e := fun e he => (y_off (by omega)).trans ((y_off (by omega)).trans ((y_off (by omega)).trans ((y_off (by omega)).trans (y_off (by omega)))))
  have o81 : ∀ e, e ≠ h3 + kTn S c k → (xm_u2 (xm_u2 (xm_u2 (xm_u2 (xm_u2 A' 80 k 1) 69 k 3) 68 k (A' 0 0)) 81 (h3 + kTn S c k) (nI k)) 82 0 (nI (h3 + kTn S c k) + 1)) 81 e = A' 81 e := fun e he => (y_off (by omega)).trans ((y_off (by omega)).trans ((y_off (by omega)).trans ((y_off (by omega)).trans (y_off (by omega)))))
  refine ⟨fun x e z1 z2 z3 z4 z5 => ?_, fun e he he2 => ?_, fun e he => ?_, ?_, fun i hi => ?_⟩
  · refine (if_neg (fun z => z5 z.1)).trans ((if_neg (fun z => z4 z.1)).trans ((if_neg (fun z => z1 z.1)).trans ((if_neg (fun z => z2 z.1)).trans ((if_neg (fun z => z3 z.1)).trans ?_))))
    exact a1 x e z1 z2 z3 z4 z5
  · by_cases e1 : e = k
    · subst e1
      exact ⟨y_same _ _ _ _, (y_same (xm_u2 (xm_u2 A' 80 e 1) 69 e 3) 68 e (A' 0 0)).trans h0, y_same _ _ _ _⟩
    · obtain ⟨x1, x2, x3⟩ := a2 e he (by omega)
      have := kTn.lt he (show e < k by omega)
      rw [o69 e e1, o68 e e1, o81 _ (by omega)]
      exact ⟨x1, x2, x3⟩
  · have e1 : e ≠ k := fun z => he (by rw [z]; exact ⟨hk, by omega⟩)
    rw [o69 e e1, o68 e e1]
    exact a3 e (fun z => he ⟨z.1, by omega⟩)
  · refine (y_same _ _ _ _).trans ?_
    rw [nI_1, kTn.s.1 hk]
    rfl
  · rw [o81 i (by omega)]
    exact a5 i hi
theorem k_tb8 {S : xm_S} {A : y_A} {c h3 : Nat} {l3 : Int32} (hE : kE S A) (hpar : k_par S) (hc : kT S c c) (h3b : h3 + kTn S c (xm_n S 1 6) ≤ 4400) :
    ∀ (r k n : Nat) (A' : y_A), k + r = xm_n S 1 6 → r < n → kTa S A A' c k h3 → (∀ e, e < k → (A' 80 e = 0 ∨ A' 80 e = 1) ∧ (xm_i S 2 e 8 = 0 → (A' 80 e = 0 ↔ ¬ kT S c e))) → rg_takeBack_8 n (nI c) (-1) l3 (nI k) A' ∧ kTa S A (rf_takeBack_8 n (nI c) (-1) l3 (nI k) A').2 c (xm_n S 1 6) h3 := by
  obtain ⟨hC, hcnt, hb, hl, ht, hv, h1, h2, -⟩ := hE
  have hbb := hb
  unfold k_bnd at hbb
  have hN := hcnt.2.2.2.2.2.2.1
  have hpk : ∀ k p, k < xm_n S 1 6 → xm_r S 2 k 2 = some p → p < k := fun k p hk hp => (h2 k hk).2.2.2.2.2.2.2.2.2.2.2.2.2.2.2.2.2.2.2.2.2.2.2.2.2.1 p hp
  have hTi := fun k (hk : k < xm_n S 1 6) => kT.i (c := c) hpk hk
  intro r
  induction r with
  | zero =>
    intro k n A' hk hn ha hm
    obtain ⟨n, rfl⟩ : ∃ m, n = m + 1 := ⟨n - 1, by omega⟩
    have e61 : A' 61 0 = nI (xm_n S 1 6) := (ha.1 61 0 (by decide) (by decide) (by decide) (by decide) (by decide)).trans hN
    have cc : nI (xm_n S 1 6) ≤ nI k := nI_le (by omega) (by omega)
    unfold rg_takeBack_8 rf_takeBack_8
    rw [e61, if_pos cc]
    refine ⟨⟨fun _ => trivial, fun z => absurd cc z⟩, ?_⟩
    rw [show xm_n S 1 6 = k by omega]
    exact ha
  | succ r ih =>
    intro k n A' hk hn ha hm
    obtain ⟨n, rfl⟩ : ∃ m, n = m + 1 := ⟨n - 1, by omega⟩
    have hkn : k < xm_n S 1 6 := by omega
    have e61 : A' 61 0 = nI (xm_n S 1 6) := (ha.1 61 0 (by decide) (by decide) (by decide) (by decide) (by decide)).trans hN
    have e0 : A' 0 0 = A 0 0 := ha.1 0 0 (by decide) (by decide) (by decide) (by decide) (by decide)
    have e64 : A' 64 k = kn (xm_r S 2 k 2) := (ha.1 64 k (by decide) (by decide) (by decide) (by decide) (by decide)).trans (h2 k hkn).2.2.2.2.2.2.2.2.2.2.1
    have e69 : A' 69 k = xm_i S 2 k 8 := ((ha.2.2.1 k (fun z => by omega)).1).trans (h2 k hkn).2.2.2.2.1.symm
    have cc : ¬ nI (xm_n S 1 6) ≤ nI k := nI_ge hkn (by omega)
    have ixk : y_ix (nI k) = k := y_ix_nI (by omega)
    have ck : (nI k = nI c) ↔ k = c := nI_eq (by omega) (by have := hc.1; omega)
    have yk : y_in (nI k) 4400 := y_in_nI (by omega) (by decide)
    have e82 := ha.2.2.2.1
    -- marked
    have yes : kT S c k → y_in (A' 82 0) 4400 ∧ rg_takeBack_8 n (nI c) (-1) l3 (nI k + 1) (xm_u2 (xm_u2 (xm_u2 (xm_u2 (xm_u2 A' 80 k (1 : Int32)) 69 k (3 : Int32)) 68 k (A' 0 0)) 81 (y_ix (A' 82 0)) (nI k)) 82 0 ((A' 82 0) + (1 : Int32))) ∧ kTa S A (rf_takeBack_8 n (nI c) (-1) l3 (nI k + 1) (xm_u2 (xm_u2 (xm_u2 (xm_u2 (xm_u2 A' 80 k (1 : Int32)) 69 k (3 : Int32)) 68 k (A' 0 0)) 81 (y_ix (A' 82 0)) (nI k)) 82 0 ((A' 82 0) + (1 : Int32)))).2 c (xm_n S 1 6) h3 := fun hT => by
      have hlt := kTn.lt hT hkn
      rw [e82, y_ix_nI (by omega), nI_1 k]
      have hm' : ∀ e, e < k + 1 → ((xm_u2 (xm_u2 (xm_u2 (xm_u2 (xm_u2 A' 80 k 1) 69 k 3) 68 k (A' 0 0)) 81 (h3 + kTn S c k) (nI k)) 82 0 (nI (h3 + kTn S c k) + 1)) 80 e = 0 ∨ (xm_u2 (xm_u2 (xm_u2 (xm_u2 (xm_u2 A' 80 k 1) 69 k 3) 68 k (A' 0 0)) 81 (h3 + kTn S c k) (nI k)) 82 0 (nI (h3 + kTn S c k) + 1)) 80 e = 1) ∧ (xm_i S 2 e 8 = 0 → ((xm_u2 (xm_u2 (xm_u2 (xm_u2 (xm_u2 A' 80 k 1) 69 k 3) 68 k (A' 0 0)) 81 (h3 + kTn S c k) (nI k)) 82 0 (nI (h3 + kTn S c k) + 1)) 80 e = 0 ↔ ¬ kT S c e)) := fun e he => by
        by_cases ek : e = k
        · subst ek
          have v : (xm_u2 (xm_u2 (xm_u2 (xm_u2 (xm_u2 A' 80 e 1) 69 e 3) 68 e (A' 0 0)) 81 (h3 + kTn S c e) (nI e)) 82 0 (nI (h3 + kTn S c e) + 1)) 80 e = 1 := y_same A' 80 e 1
          rw [v]
          exact ⟨Or.inr rfl, fun _ => ⟨fun z => absurd z (by decide), fun z => absurd hT z⟩⟩
        · have v : (xm_u2 (xm_u2 (xm_u2 (xm_u2 (xm_u2 A' 80 k 1) 69 k 3) 68 k (A' 0 0)) 81 (h3 + kTn S c k) (nI k)) 82 0 (nI (h3 + kTn S c k) + 1)) 80 e = A' 80 e := (y_off (by omega)).trans ((y_off (by omega)).trans ((y_off (by omega)).trans ((y_off (by omega)).trans (y_off (by omega)))))
          rw [v]
          exact hm e (by omega)
      obtain ⟨i1, i2⟩ := ih (k + 1) n _ (by omega) (by omega) (ha.mark hT e0) hm'
      exact ⟨y_in_nI (by omega) (by decide), i1, i2⟩
    -- not marked
    have no : ¬ kT S c k → ∀ v : Int32, (v = 0 ∨ v = 1) → (xm_i S 2 k 8 = 0 → v = 0) → rg_takeBack_8 n (nI c) (-1) l3 (nI k + 1) (xm_u2 A' 80 k v) ∧ kTa S A (rf_takeBack_8 n (nI c) (-1) l3 (nI k + 1) (xm_u2 A' 80 k v)).2 c (xm_n S 1 6) h3 := fun hT v hv1 hv2 => by
      rw [nI_1 k]
      refine ih (k + 1) n _ (by omega) (by omega) (ha.skip v hT) (fun e he => ?_)
      by_cases ek : e = k
      · subst ek
        rw [show xm_u2 A' 80 e v 80 e = v from y_same _ _ _ _]
        exact ⟨hv1, fun z => ⟨fun _ => hT, fun _ => hv2 z⟩⟩
      · rw [show xm_u2 A' 80 k v 80 e = A' 80 e from if_neg (fun z => ek z.2)]
        exact hm e (by omega)
    unfold rg_takeBack_8 rf_takeBack_8
    rw [e61, if_neg cc, ixk, e64, e69]
    by_cases hkc : k = c
    · have c1 : nI k = nI c := ck.mpr hkc
      have hT : kT S c k := by rw [hkc]; exact hc
      have h0 : xm_i S 2 k 8 = 0 := ((hTi k hkn).mp hT).1
      obtain ⟨y1, y2, y3⟩ := yes hT
      rw [if_pos c1, if_pos h0]
      exact ⟨⟨fun z => absurd z cc, fun _ => ⟨fun _ => ⟨yk, fun _ => ⟨y1, y2⟩, fun z => absurd h0 z⟩, fun z => absurd c1 z⟩⟩, y3⟩
    · have c1 : ¬ nI k = nI c := fun z => hkc (ck.mp z)
      have c2 : (-1 : Int32) < 0 := by decide
      rw [if_neg c1, if_pos c2]
      rcases hp : xm_r S 2 k 2 with _ | p
      · have c3 : kn none < 0 := by decide
        have hT : ¬ kT S c k := fun z => by
          rcases ((hTi k hkn).mp z).2 with y | ⟨p, y, -⟩
          · exact hkc y
          · rw [hp] at y; cases y
        obtain ⟨y1, y2⟩ := no hT 0 (Or.inl rfl) (fun _ => rfl)
        rw [if_pos c3]
        exact ⟨⟨fun z => absurd z cc, fun _ => ⟨fun z => absurd z c1, fun _ => ⟨fun _ => ⟨yk, fun _ => y1, fun z => absurd c3 z⟩, fun z => absurd c2 z⟩⟩⟩, y2⟩
      · have hpl := hpk k p hkn hp
        have c3 : ¬ kn (some p) < 0 := nI_pos (by omega)
        have ixp : y_ix (kn (some p)) = p := y_ix_nI (by omega)
        have yp : y_in (kn (some p)) 4400 := y_in_nI (by omega) (by decide)
        have hmp := hm p hpl
        have hTk : kT S c k ↔ xm_i S 2 k 8 = 0 ∧ kT S c p := by
          rw [hTi k hkn]
          refine and_congr_right fun _ => ⟨fun z => ?_, fun z => Or.inr ⟨p, hp, z⟩⟩
          rcases z with z | ⟨p', z1, z2⟩
          · exact absurd z hkc
          · rw [hp] at z1
            rw [Option.some.inj z1]
            exact z2
        have hp0 : xm_i S 2 k 8 = 0 → xm_i S 2 p 8 = 0 := ((hpar k hkn).2.2.1 p hp).2.2.2
        rw [if_neg c3, ixp]
        by_cases c4 : A' 80 p = 0
        · have hT : ¬ kT S c k := fun z => by
            obtain ⟨z1, z2⟩ := hTk.mp z
            exact ((hmp.2 (hp0 z1)).mp c4) z2
          obtain ⟨y1, y2⟩ := no hT 0 (Or.inl rfl) (fun _ => rfl)
          rw [if_pos c4]
          exact ⟨⟨fun z => absurd z cc, fun _ => ⟨fun z => absurd z c1, fun _ => ⟨fun _ => ⟨yk, fun z => absurd z c3, fun _ => ⟨yp, fun _ => y1, fun z => absurd c4 z⟩⟩, fun z => absurd c2 z⟩⟩⟩, y2⟩
        · rw [if_neg c4]
          by_cases h0 : xm_i S 2 k 8 = 0
          · have hT : kT S c k := hTk.mpr ⟨h0, Classical.byContradiction fun z => c4 ((hmp.2 (hp0 h0)).mpr z)⟩
            obtain ⟨y1, y2, y3⟩ := yes hT
            rw [if_pos h0]
            exact ⟨⟨fun z => absurd z cc, fun _ => ⟨fun z => absurd z c1, fun _ => ⟨fun _ => ⟨yk, fun z => absurd z c3, fun _ => ⟨yp, fun z => absurd z c4, fun _ => ⟨fun _ => ⟨y1, y2⟩, fun z => absurd h0 z⟩⟩⟩, fun z => absurd c2 z⟩⟩⟩, y3⟩
          · have hT : ¬ kT S c k := fun z => h0 (hTk.mp z).1
            obtain ⟨y1, y2⟩ := no hT 1 (Or.inr rfl) (fun z => absurd z h0)
            rw [if_neg h0]
            exact ⟨⟨fun z => absurd z cc, fun _ => ⟨fun z => absurd z c1, fun _ => ⟨fun _ => ⟨yk, fun z => absurd z c3, fun _ => ⟨yp, fun z => absurd z c4, fun _ => ⟨fun z => absurd z h0, fun _ => y1⟩⟩⟩, fun z => absurd c2 z⟩⟩⟩, y2⟩
end
