/-! ===== TAKEBACK, where one may lead (printed by wip/whole/gen9m.py) ===== -/
section
theorem c_releaseL {d : Nat} (hJN : kJN d) {S : xm_S} {A : y_A} {X E : Nat → Prop} {hb rb nb t w k : Nat} {a1 a2 : Int32} {js : List y_J} (h : kM S A X E (fun _ => False) hb rb nb t w 0 0) (hk : k < xm_n S 1 6) (hk0 : xm_i S 2 k 8 = 3) (hld : ¬ xm_i S 2 k 14 = 0) (hX : kXd S X) (hD : kDl S A E) (hLN : kLN S k) (hy : y_in a1 4400) (h81 : A 81 (y_ix a1) = nI k) (hlen : js.length + 180 ≤ 20000) :
    rf_takenBack a1 a2 A js = (A, ((5 : Int32), nI k, (-1 : Int32), (0 : Int32), (0 : Int32)) :: kJt a1 a2 js) ∧ rg_takenBack a1 a2 A js ∧ xc (d + 1) 35 [.inr (some (0, 0)), .inr (some (2, k))] S (fun r S' => r = none ∧ xk_C S' ∧ ∃ A', y_to A (((5 : Int32), nI k, (-1 : Int32), (0 : Int32), (0 : Int32)) :: kJt a1 a2 js) A' (kJt a1 a2 js) ∧ kM S' A' (fun e => X e ∧ e ≠ k) E (fun _ => False) hb rb nb t w 0 0 ∧ kL S S' A A') := by
  have hM := h
  obtain ⟨⟨hC, hcnt, hb', hl, ht, hv, h1, h2, h3, -⟩, hS, hgr, ⟨-, -, j3, j4, j5, -, j7, j8, j9, -⟩⟩ := h
  have hbb := hb'
  unfold k_bnd at hbb
  have hne : xm_i S 2 k 8 ≠ 0 := by rw [hk0]; decide
  have hkb : k < 4400 := by omega
  have hkc := h2 k hk
  obtain ⟨z1, z2, z3, z4, z5, z6⟩ := j7 k hk
  have f75 : ¬ A 75 k = 1 → A 75 k = 0 := fun z => hkc.2.2.2.2.2.2.2.2.2.2.2.2.2.2.2.2.2.2.1.resolve_right z
  have f77 : ¬ A 77 k = 1 → A 77 k = 0 := fun z => hkc.2.2.2.2.2.2.2.2.2.2.2.2.2.2.2.2.2.2.2.2.1.resolve_right z
  have f79 : ¬ A 79 k = 1 → A 79 k = 0 := fun z => hkc.2.2.2.2.2.2.2.2.2.2.2.2.2.2.2.2.2.2.2.2.2.1.resolve_right z
  have f78 : ¬ A 78 k = 0 := fun z => hld (hkc.2.2.2.2.2.2.2.1.trans z)
  have f78' : A 78 k = 1 := hkc.2.2.2.2.2.2.2.2.2.2.2.2.2.2.2.2.2.1.resolve_left f78
  obtain ⟨g, hr, s8⟩ := z5 (Or.inl f78')
  have hG := hkc.2.2.2.2.2.2.2.2.2.2.2.1
  have ntri : ¬ A 79 k = 1 → ∀ g, g < xm_n S 1 3 → xm_r S 5 g 9 ≠ some k := fun z g hg y => z (j8 g k hg y).2.2.2.2.1
  rw [hr] at hG
  have hG' : A 65 k = nI g := hG
  have hgn : g < xm_n S 1 3 := hkc.2.2.2.2.2.2.2.2.2.2.2.2.2.2.2.2.2.2.2.2.2.2.2.1 g hr
  have s1 := (h3 g hgn).2.1
  have h65 : (0 : Int32) ≤ A 65 k := by rw [hG']; exact nI_pos' (by omega)
  have sort : ∀ {g'}, xm_r S 2 k 4 = some g' → g' = g := fun z => (Option.some.inj (hr.symm.trans z)).symm
  have st1 : ∀ {t1 : Option Nat} {g'}, xm_r S 2 k 4 = t1 → t1 = some g' → g' = g := fun z y => sort (z.trans y)
  have c79 : ¬ A 79 k = 1 := fun z => by obtain ⟨g', y, y2⟩ := z4 z; rw [sort y, s8] at y2; exact absurd y2 (by decide)
  have c75 : ¬ A 75 k = 1 := fun z => by obtain ⟨g', y, y2⟩ := z2 (Or.inl z); rw [sort y, s8] at y2; exact absurd y2 (by decide)
  have c77 : ¬ A 77 k = 1 := fun z => by obtain ⟨g', y, y2⟩ := z2 (Or.inr z); rw [sort y, s8] at y2; exact absurd y2 (by decide)
  obtain ⟨r1, r2⟩ := k_tk_lead (a2 := a2) hy h81 hkb (show js.length + 2 ≤ 20000 by omega) h65 (f79 c79) (f77 c77) (f75 c75) f78
  have h69 : A 69 k = 3 := hkc.2.2.2.2.1.symm.trans hk0
  refine ⟨r1, r2, cw_release hC (fun t1 e1 => ⟨fun eg => ?_, fun g' eg t4 e4 => ?_⟩)⟩
  · rw [hr] at e1; rw [← e1] at eg; cases eg
  · obtain rfl := st1 e1 eg
    have hjl : (kJt a1 a2 js).length + 170 ≤ 20000 := by
      unfold kJt
      by_cases y : a2 ≤ a1 + 1
      · rw [if_pos y]; omega
      · rw [if_neg y, List.length_cons]; omega
    refine ⟨fun z => absurd (e4.trans z) (ntri c79 g' hgn), fun _ => ⟨fun z => absurd (z.symm.trans (s1.trans s8)) (by decide), fun _ => ⟨fun z => absurd z hld, fun _ => ?_⟩⟩⟩
    have := hJN S A (fun e => X e ∧ e ≠ k) E hb rb nb t w k (kJt a1 a2 js) (hM.drop hne (ntri c79) c75) hk hne (fun e he => hX e he.1) hD hLN hjl
    rw [if_pos h69] at this
    refine xc.mono this ?_
    rintro r S' ⟨w1, w2, w3⟩
    exact ⟨w1, w2, rfl, w2, w3⟩
theorem c_tb129G {d : Nat} (hJN : kJN d) {S S1 : xm_S} {A A1 : y_A} {X E : Nat → Prop} {hb rb nb t w c h3 T : Nat} {l3 : Int32} {rest : List y_J} {Q : Option xm_V → xm_S → Prop} (hE : kE S A) (hT : xm_i S 0 0 15 = nI T) (hTb : T + 1 < 2 ^ 31) (hTs : ∀ k, k < xm_n S 1 6 → ∃ s, s ≤ T ∧ xm_i S 2 k 19 = nI s) (hXT : ∀ k, X k → xm_i S 2 k 8 ≠ 0) (hk1 : kTk S S1 c (xm_n S 1 6) (nI T + 1)) (hA1 : ∀ k, kT S c k → A1 81 (h3 + kTn S c k) = nI k) (h3b : h3 + kTn S c (xm_n S 1 6) ≤ 4400) (h3e : k_hows S1 3 = h3 + kTn S c (xm_n S 1 6)) (hNl : ∀ k, kT S c k → ¬ xm_i S 2 k 14 = 0 → kLN S1 k) (hlen : rest.length + 200 ≤ 20000) (hE1 : kE S1 A1) (hXd : kXd S1 (fun e => X e ∨ (kT S c e ∧ 0 ≤ e))) (hDl : kDl S1 A1 E) (hgb : ∀ e g, e < xm_n S1 1 6 → xm_r S1 2 e 4 = some g → g < xm_n S1 1 3)
    (hEb : ∀ e, E e → e < xm_n S 1 6) (hEs : ∀ e g, E e → xm_r S 2 e 4 = some g → A1 31 g ≠ 0 ∧ A1 31 g ≠ 1) (hA31 : ∀ e g, e < xm_n S 1 6 → xm_r S 2 e 4 = some g → g < xm_n S 1 3)
    (hQ : ∀ S' A', kM S' A' X E (fun _ => False) hb rb nb t w 0 0 → kL S1 S' A1 A' → y_to A1 (kJk S c 0 h3 (kTn S c (xm_n S 1 6)) rest) A' rest → Q (some (.inl l3)) S') :
    ∀ (r i K : Nat) (Si : xm_S) (Ai : y_A) (u6 u7 : Option xm_V), i + r = xm_n S 1 7 → kG S i K → K ≤ xm_n S 1 6 → kM Si Ai (fun e => X e ∨ (kT S c e ∧ K ≤ e)) E (fun _ => False) hb rb nb t w 0 0 → kL S1 Si A1 Ai → y_to A1 (kJk S c 0 h3 (kTn S c (xm_n S 1 6)) rest) Ai (kJk S c K h3 (kTn S c (xm_n S 1 6)) rest) →
      xw (d + 2) 34 129 [some (.inr (some (0, 0))), some (.inr (some (2, c))), some (.inl (nI T + 1)), some (.inl l3), some (.inl (nI (xm_n S 1 7))), some (.inl (nI i)), u6, u7] [] Si Q := by
  obtain ⟨hC, hcnt, hb', hl, ht, hv, h1, h2, -⟩ := hE
  have hbb := hb'
  unfold k_bnd at hbb
  have hpk : ∀ k p, k < xm_n S 1 6 → xm_r S 2 k 2 = some p → p < k := fun k p hk hp => (h2 k hk).2.2.2.2.2.2.2.2.2.2.2.2.2.2.2.2.2.2.2.2.2.2.2.2.2.1 p hp
  have hTi := fun k (hk : k < xm_n S 1 6) => kT.i (c := c) hpk hk
  intro r
  induction r with
  | zero =>
    intro i K Si Ai u6 u7 hi hg hK hM hL hy
    have cc : nI (xm_n S 1 7) ≤ nI i := nI_le (by omega) (by omega)
    have hno : ∀ e, K ≤ e → e < xm_n S 1 6 → ¬ kT S c e := fun e e1 e2 z => hg.fin (by omega) e e1 e2 ((hTi e e2).mp z).1
    have hX : (fun e => X e ∨ (kT S c e ∧ K ≤ e)) = X := by
      funext e
      exact propext ⟨fun z => z.resolve_right (fun y => hno e y.2 y.1.1 y.1), Or.inl⟩
    have hJ : kJk S c K h3 (kTn S c (xm_n S 1 6)) rest = rest := by
      have := kTn.gap (S := S) (c := c) (K := K) (m := xm_n S 1 6 - K) (fun e e1 e2 => hno e e1 (by omega))
      rw [show K + (xm_n S 1 6 - K) = xm_n S 1 6 by omega] at this
      unfold kJk
      rw [if_neg (by omega)]
    rw [hX] at hM
    rw [hJ] at hy
    exact cw_takeBack_129 hM.1.1 ⟨fun _ => hQ Si Ai hM hL hy, fun z => absurd cc z⟩
  | succ r ih =>
    intro i K Si Ai u6 u7 hi hg hK hM hL hy
    have hLL := hL
    obtain ⟨⟨L1, L2, L3, L4⟩, L5, L6, L7, L8, L9, ⟨L10, L10'⟩, L11, ⟨L12, L13⟩, ⟨T1, T2, v1, v2, v3, v4, v5⟩⟩ := hL
    have n7 : xm_n S1 1 7 = xm_n S 1 7 := by rw [hk1.1]
    have n6 : xm_n S1 1 6 = xm_n S 1 6 := by rw [hk1.1]
    have hb7 : xm_n Si 1 7 ≤ 4400 := by
      have := hM.1.2.2.1
      unfold k_bnd at this
      omega
    have cc : ¬ nI (xm_n S 1 7) ≤ nI i := nI_ge (by omega) (by omega)
    have cc2 : ¬ nI (xm_n Si 1 7) ≤ nI i := nI_ge (by omega) (by omega)
    obtain ⟨k, hk, hkn⟩ := hv.1 i (by omega)
    have hKk : K ≤ k := hg.2 i k (Nat.le_refl _) (by omega) hk
    have hgap : ∀ e, K ≤ e → e < k → ¬ kT S c e := fun e e1 e2 z => hg.gap hv (by omega) hk e e1 e2 hkn ((hTi e (by omega)).mp z).1
    have hcn : kTn S c K = kTn S c k := by
      have := kTn.gap (S := S) (c := c) (K := K) (m := k - K) (fun e e1 e2 => hgap e e1 (by omega))
      rw [show K + (k - K) = k by omega] at this
      exact this.symm
    have hJK : kJk S c K h3 (kTn S c (xm_n S 1 6)) rest = kJk S c k h3 (kTn S c (xm_n S 1 6)) rest := by
      unfold kJk
      rw [hcn]
    rw [hJK] at hy
    have hs' := hg.s hv (by omega) hk
    have hli : xm_l Si 7 i = (2, k) := by rw [L5 i (by omega), hk1.2.1]; exact hk
    have hT1 : T1 = T + 1 := by
      have := v1.symm.trans hk1.2.2.2.2.1
      rw [nI_1] at this
      exact (nI_eq (by omega) hTb).mp this
    refine cw_takeBack_129 hM.1.1 ⟨fun z => absurd z cc, fun _ => ⟨fun z => absurd z cc2, fun _ => ⟨y_in_nI (by omega) (by omega), k, by rw [y_ix_nI (by omega)]; exact hli, fun htk => ⟨y_in_nI (by omega) (by omega), ?_⟩, fun htk => ?_⟩⟩⟩
    · have hTk : kT S c k := Classical.byContradiction fun z => by
        rw [nI_1] at htk
        have a := v5 k (T + 1) (by omega) (by omega) htk
        have b := (hk1.2.2.2.2.2.2 k (fun y => z y.1)).2.2
        obtain ⟨s, s1, s2⟩ := hTs k hkn
        rw [b, s2] at a
        have := (nI_eq (by omega) hTb).mp a
        omega
      have hlt := kTn.lt hTk hkn
      have h8 := (hk1.2.2.2.2.2.1 k hTk hkn).1
      have hLk := L6 k (by omega)
      have h8i : xm_i Si 2 k 8 = 3 := ((hLk.2.2.2.2.2.2.2 (by rw [h8]; decide)).1).trans h8
      have hldS1 : xm_i S1 2 k 14 = xm_i S 2 k 14 := hk1.2.2.2.1 2 k 14 (by omega) (by omega)
      have h81 : Ai 81 (h3 + kTn S c k) = nI k := (L13 (h3 + kTn S c k) (by rw [h3e]; omega)).trans (hA1 k hTk)
      have hJe : kJk S c k h3 (kTn S c (xm_n S 1 6)) rest = ((4 : Int32), nI (h3 + kTn S c k), nI (h3 + kTn S c (xm_n S 1 6)), (0 : Int32), (0 : Int32)) :: rest := by
        unfold kJk
        rw [if_pos (by omega)]
      have hX : (fun e => (X e ∨ (kT S c e ∧ K ≤ e)) ∧ e ≠ k) = (fun e => X e ∨ (kT S c e ∧ k + 1 ≤ e)) := by
        funext e
        refine propext ⟨fun z => ?_, fun z => ?_⟩
        · rcases z.1 with y | ⟨y1, y2⟩
          · exact Or.inl y
          · refine Or.inr ⟨y1, Nat.lt_of_le_of_ne (Nat.le_of_not_lt (fun x => hgap e y2 x y1)) (fun x => z.2 x.symm)⟩
        · rcases z with y | ⟨y1, y2⟩
          · exact ⟨Or.inl y, fun x => hXT e y (by rw [x]; exact ((hTi k hkn).mp hTk).1)⟩
          · exact ⟨Or.inr ⟨y1, by omega⟩, by omega⟩
      have h81' : Ai 81 (y_ix (nI (h3 + kTn S c k))) = nI k := by rw [y_ix_nI (by omega)]; exact h81
      by_cases hld0 : xm_i Si 2 k 14 = 0
      · obtain ⟨A', r1, r2, r3⟩ := c_release (d := d) (a1 := nI (h3 + kTn S c k)) (a2 := nI (h3 + kTn S c (xm_n S 1 6))) (js := rest) hM (by omega) (Or.inr ⟨hTk, hKk⟩) h8i hld0 (fun e g he hge => by
          have hen := hEb e he
          have hge' : xm_r S 2 e 4 = some g := by
            have := (L6 e (by omega)).2.2.1
            rw [this, hk1.2.2.1] at hge
            exact hge
          obtain ⟨w2, w3⟩ := hEs e g he hge'
          have := (L8 g (by rw [hk1.1]; exact hA31 e g hen hge')).1
          rw [this]
          exact ⟨w2, w3⟩) (y_in_nI (by omega) (by decide)) (by rw [y_ix_nI (by omega)]; exact h81) (by omega)
        refine xc.mono r3 ?_
        rintro v S8 ⟨w1, w2, w3, w4, w5, w6⟩
        refine ⟨w1, w2, ?_⟩
        rw [hX] at w3
        rw [nI_1 i]
        refine ih (i + 1) (k + 1) S8 A' u6 u7 (by omega) hs' (by omega) w3 (hLL.tr w4) (hy.tr ?_)
        rw [hJe]
        refine y_to.s (B := A') (ks := kJk S c (k + 1) h3 (kTn S c (xm_n S 1 6)) rest) ?_ ?_ (y_to.rf _ _)
        · rw [y_ok_4]; exact r2
        · rw [← kJk.s hTk (by omega) hlt, y_do_4]; exact r1
      · have hmono : kXd Si (fun e => X e ∨ (kT S c e ∧ K ≤ e)) := fun e he => (hXd.L hLL) e (he.imp id (fun y => ⟨y.1, Nat.zero_le e⟩))
        obtain ⟨r1, r2, r3⟩ := c_releaseL hJN (a1 := nI (h3 + kTn S c k)) (a2 := nI (h3 + kTn S c (xm_n S 1 6))) (js := rest) hM (by omega) h8i hld0 hmono (hDl.L hLL hgb) ((hNl k hTk (fun z => hld0 (hLk.2.2.2.2.1.trans (hldS1.trans z)))).L hE1 hLL (by omega)) (y_in_nI (by omega) (by decide)) h81' (by omega)
        refine xc.mono r3 ?_
        rintro v S8 ⟨w1, w2, A', w3, w4, w5⟩
        refine ⟨w1, w2, ?_⟩
        rw [hX] at w4
        rw [nI_1 i]
        refine ih (i + 1) (k + 1) S8 A' u6 u7 (by omega) hs' (by omega) w4 (hLL.tr w5) (hy.tr ?_)
        rw [hJe]
        rw [kJk.s hTk (by omega) hlt] at w3 r1
        refine y_to.s (B := Ai) (ks := ((5 : Int32), nI k, (-1 : Int32), (0 : Int32), (0 : Int32)) :: kJk S c (k + 1) h3 (kTn S c (xm_n S 1 6)) rest) ?_ ?_ w3
        · rw [y_ok_4]; exact r2
        · rw [y_do_4]; exact r1
    · have hTk : ¬ kT S c k := fun z => by
        have h8 := hk1.2.2.2.2.2.1 k z hkn
        have hLk := L6 k (by omega)
        exact htk (((hLk.2.2.2.2.2.2.2 (by rw [h8.1]; decide)).2.2.2.2.2).trans h8.2.2)
      have hX : (fun e => X e ∨ (kT S c e ∧ K ≤ e)) = (fun e => X e ∨ (kT S c e ∧ k + 1 ≤ e)) := by
        funext e
        refine propext (or_congr_right ⟨fun z => ⟨z.1, ?_⟩, fun z => ⟨z.1, by omega⟩⟩)
        refine Nat.lt_of_le_of_ne (Nat.le_of_not_lt (fun x => hgap e z.2 x z.1)) (fun x => hTk ?_)
        rw [x]; exact z.1
      rw [hX] at hM
      rw [nI_1 i]
      refine ih (i + 1) (k + 1) Si Ai u6 u7 (by omega) hs' (by omega) hM hLL ?_
      have : kJk S c (k + 1) h3 (kTn S c (xm_n S 1 6)) rest = kJk S c k h3 (kTn S c (xm_n S 1 6)) rest := by
        unfold kJk
        rw [kTn.s.2 hTk]
      rw [this]
      exact hy
/-- TAKEBACK of an inner call, where no one of them leads -/
theorem c_takeBackG {d : Nat} (hJN : kJN d) {S : xm_S} {A : y_A} {X E : Nat → Prop} {hb rb nb t w c p : Nat} {rest : List y_J} (h : kM S A X E (fun _ => False) hb rb nb t w 0 0) (hc : c < xm_n S 1 6) (h0 : xm_i S 2 c 8 = 0) (hp : xm_r S 2 c 2 = some p) (hXd : kXd S X) (hD : kDl S A E) (hlen : rest.length + 200 ≤ 20000) :
    ∃ A1 J1 v, rf_takeBack (nI c) (-1) A rest = (v, A1, J1) ∧ rg_takeBack (nI c) (-1) A rest ∧ xc (d + 2) 34 [.inr (some (0, 0)), .inr (some (2, c))] S (fun r S' => ∃ x, r = some (.inl x) ∧ xk_C S' ∧ ∃ A', y_to A1 J1 A' rest ∧ kM S' A' X (fun k => E k ∨ (xm_r S 2 c 2 = some k ∧ ∃ g, xm_r S 2 k 4 = some g ∧ A 31 g = 3)) (fun _ => False) hb rb nb t w 0 0 ∧ kL S S' A A' ∧ (∀ e, kT S c e → xm_i S' 2 e 8 = 3)) := by
  have hX : ∀ k, X k → xm_i S 2 k 8 ≠ 0 := fun k hk => (hXd k hk).2
  have hM := h
  obtain ⟨hE, hS, hgr, ⟨j1, j2, j3, j4, j5, j6, j7, j8, j9, j10, j11, j12, j13, j14, j15, j16, j17, j18⟩⟩ := h
  have hEE := hE
  obtain ⟨hC, hcnt, hb', hl, ht, hv, h1, h2, -⟩ := hE
  have hbb := hb'
  unfold k_bnd at hbb
  have hpk : ∀ k p, k < xm_n S 1 6 → xm_r S 2 k 2 = some p → p < k := fun k p hk hp => (h2 k hk).2.2.2.2.2.2.2.2.2.2.2.2.2.2.2.2.2.2.2.2.2.2.2.2.2.1 p hp
  have hcT : kT S c c := (kT.i hpk hc).mpr ⟨h0, Or.inl rfl⟩
  have hT0 : ∀ k, kT S c k → xm_i S 2 k 8 = 0 := fun k hk => ((kT.i hpk hk.1).mp hk).1
  obtain ⟨z1, z2, T, z3, z4, z5, z6⟩ := j12
  have hsum : k_hows S 3 + kTn S c (xm_n S 1 6) ≤ xm_n S 1 6 := by
    unfold k_hows kTn
    rw [← xs_add]
    refine xs_le1 (fun k => ?_)
    by_cases hk : kT S c k
    · rw [hT0 k hk, if_neg (by decide), if_pos hk]; exact Nat.le_refl _
    · rw [if_neg hk]
      by_cases e : xm_i S 2 k 8 = 3
      · rw [if_pos e]; exact Nat.le_refl _
      · rw [if_neg e]; exact Nat.zero_le _
  have hpos := kTn.lt hcT hc
  obtain ⟨g1, g2⟩ := k_tb8 (l3 := A 82 0) hEE j1 hcT (h3 := k_hows S 3) (by omega) (xm_n S 1 6) 0 20000 A (by omega) (by omega) ⟨fun _ _ _ _ _ _ _ => rfl, fun k _ z => absurd z (by omega), fun k _ => ⟨rfl, rfl⟩, by rw [z5]; rfl, fun _ _ => rfl⟩ (fun e z => absurd z (by omega))
  rw [show nI 0 = (0 : Int32) from rfl] at g1 g2
  have e82 := g2.2.2.2.1
  have hnle : ¬ (rf_takeBack_8 20000 (nI c) (-1) (A 82 0) 0 A).2 82 0 ≤ A 82 0 := by
    rw [e82, z5]
    exact nI_ge (by omega) (by omega)
  refine ⟨(rf_takeBack_8 20000 (nI c) (-1) (A 82 0) 0 A).2, ((4 : Int32), A 82 0, (rf_takeBack_8 20000 (nI c) (-1) (A 82 0) 0 A).2 82 0, (0 : Int32), (0 : Int32)) :: rest, (rf_takeBack_8 20000 (nI c) (-1) (A 82 0) 0 A).2 82 0 - A 82 0, ?_, ⟨g1, fun z => absurd z hnle, fun _ => ⟨by omega, trivial⟩⟩, ?_⟩
  · unfold rf_takeBack
    rw [if_neg hnle]
  generalize hA1e : (rf_takeBack_8 20000 (nI c) (-1) (A 82 0) 0 A).2 = A1 at *
  obtain ⟨b1, b2, b3, b4, b5⟩ := g2
  have htk : ∀ k, k < xm_n S 1 6 → xm_i S 2 k 19 ≠ nI T + 1 := fun k hk z => by
    obtain ⟨⟨s, s1, s2⟩, -⟩ := z6 k hk
    rw [s2, nI_1] at z
    have := (nI_eq (by omega) (by omega)).mp z
    omega
  refine cw_takeBack hC ?_
  intro S0 e0
  rw [z3] at e0 ⊢
  have hk0 : kTk S S0 c 0 (nI T + 1) := by
    subst e0
    exact ⟨rfl, rfl, rfl, fun p q j w1 w2 => xi_si w2, xi_same, fun k _ z => absurd z (by omega), fun k _ => ⟨xi_si (by decide), xi_si (by decide), xi_si (by decide)⟩⟩
  refine c_tb29 (d := d + 1) hEE htk (fun S1 u6 u7 hk1 => ?_) (xm_n S 1 7) 0 0 S0 none none (by omega) (kG.z hv) (by omega) hk0
  have hows := hk1.hows hT0
  have hfc : ∀ o, o + w < xm_n S 1 5 → kof S1 A1 o := fun o ho => by
    obtain ⟨f, y1, y2, y3, y4, y5, y6, y7, y8⟩ := j18 o ho
    have hfT : ¬ kT S c f := fun z => by
      rcases ((kT.i hpk y2).mp z).2 with x | ⟨p', x, -⟩
      · rw [x, hp] at y4; cases y4
      · rw [x] at y4; cases y4
    obtain ⟨x1, x2⟩ := b3 f (fun z => hfT z.1)
    refine ⟨f, by rw [hk1.2.2.1]; exact y1, by rw [hk1.1]; exact y2, by rw [hk1.2.2.1]; exact y3, by rw [hk1.2.2.1]; exact y4, ?_, ?_, ?_, ?_⟩
    · rw [b1 58 o (by decide) (by decide) (by decide) (by decide) (by decide), x1, b1 71 f (by decide) (by decide) (by decide) (by decide) (by decide)]; exact y5
    · rw [b1 59 o (by decide) (by decide) (by decide) (by decide) (by decide), x1, b1 70 f (by decide) (by decide) (by decide) (by decide) (by decide)]; exact y6
    · rw [b1 56 o (by decide) (by decide) (by decide) (by decide) (by decide), b1 67 f (by decide) (by decide) (by decide) (by decide) (by decide)]; exact y7
    · rw [b1 57 o (by decide) (by decide) (by decide) (by decide) (by decide), x2]; exact y8
  have hM1 := hM.take hcT (show kTk S S1 c (xm_n S 1 6) (xm_i S 0 0 15 + 1) by rw [z3]; exact hk1) rfl (A' := A1) (fun x k w1 w2 w3 w4 w5 w6 w7 => b1 x k w3 w4 w5 w6 w7) (fun k hk => ⟨(b2 k hk hk.1).1, (b2 k hk hk.1).2.1⟩) (fun k hk => b3 k (fun z => hk z.1)) b4 hfc
  have hX0 : (fun k => X k ∨ kT S c k) = (fun e => X e ∨ (kT S c e ∧ 0 ≤ e)) := by
    funext e
    exact propext (or_congr_right ⟨fun z => ⟨z, by omega⟩, fun z => z.1⟩)
  rw [hX0] at hM1
  have b31 : ∀ g, A1 31 g = A 31 g := fun g => b1 31 g (by decide) (by decide) (by decide) (by decide) (by decide)
  have hJ0 : kJk S c 0 (k_hows S 3) (kTn S c (xm_n S 1 6)) rest = ((4 : Int32), A 82 0, A1 82 0, (0 : Int32), (0 : Int32)) :: rest := by
    unfold kJk
    have k0 : kTn S c 0 = 0 := rfl
    rw [if_pos (by omega), k0, b4, z5]
    rfl
  have hLt : kL S S1 A A1 := by
    obtain ⟨a1, a2, a3, a4, a5, a6, a7⟩ := hk1
    refine ⟨⟨fun r _ => by rw [a1], by rw [a1]; exact Nat.le_refl _, by rw [a1]; exact Nat.le_refl _, by rw [a1]; exact Nat.le_refl _⟩, fun i _ => by rw [a2], fun k hk => ⟨by rw [a3], by rw [a3], by rw [a3], a4 2 k 3 (by omega) (by omega), a4 2 k 14 (by omega) (by omega), by rw [a3], fun z => ?_, fun z => ?_⟩, fun k y1 y2 => absurd y2 (by rw [a1]; omega), fun g _ => ⟨b31 g, a4 5 g 1 (by omega) (by omega), fun q hq => ⟨by rw [a3]; exact hq, by rw [a1]; exact Nat.le_refl _⟩⟩, fun o _ => ⟨by rw [a3], a4 6 o 3 (by omega) (by omega), a4 6 o 4 (by omega) (by omega)⟩, ⟨b1 0 0 (by decide) (by decide) (by decide) (by decide) (by decide), a4 0 0 13 (by omega) (by omega)⟩, ?_, ⟨by rw [hows.1]; omega, b5⟩, ⟨T, T + 1, z3, by rw [a5, nI_1], by omega, by omega, fun k s hk hs y => ?_⟩⟩
    · by_cases hk2 : kT S c k
      · rw [(a6 k hk2 hk).1] at z; exact absurd z (by decide)
      · rw [(a7 k (fun y => hk2 y.1)).1] at z; exact z
    · have hk2 : ¬ kT S c k := fun y => z (hT0 k y)
      obtain ⟨c1, c2, c3⟩ := a7 k (fun y => hk2 y.1)
      exact ⟨c1, a4 2 k 9 (by omega) (by omega), a4 2 k 10 (by omega) (by omega), by rw [a3], c2, c3⟩
    · rw [a4 0 0 14 (by omega) (by omega), b1 60 0 (by decide) (by decide) (by decide) (by decide) (by decide)]
    · by_cases hk2 : kT S c k
      · rw [(a6 k hk2 hk).2.2, nI_1] at y
        have := (nI_eq (by omega) (by omega)).mp y
        omega
      · rw [(a7 k (fun x => hk2 x.1)).2.2] at y; exact y
  have hEb : ∀ e, (E e ∨ (xm_r S 2 c 2 = some e ∧ ∃ g, xm_r S 2 e 4 = some g ∧ A 31 g = 3)) → e < xm_n S 1 6 ∧ ∃ g, xm_r S 2 e 4 = some g ∧ A 31 g = 3 := fun e he => by
    rcases he with he | ⟨he, he2⟩
    · exact hD e he
    · have := hpk c e hc he
      exact ⟨by omega, he2⟩
  refine c_tb129G hJN (S1 := S1) (A1 := A1) (X := X) (h3 := k_hows S 3) (rest := rest) hEE z3 (by omega) (fun k hk => (z6 k hk).1) hX hk1 (fun k hk => (b2 k hk hk.1).2.2) (by omega) hows.1 (fun k hk hk14 => k_lLN hM hk.1 (hT0 k hk) ?_ hLt (by rw [(hk1.2.2.2.2.2.1 k hk hk.1).1]; decide)) (by omega) hM1.1 ?_ ?_ hM1.gb (fun e he => (hEb e he).1) (fun e g he hge => ?_) (fun e g he hge => hM.gb e g he hge) (fun S' A' m1 m2 m3 => ?_) (xm_n S 1 7) 0 0 S1 A1 u6 u7 (by omega) (kG.z hv) (by omega) hM1 hM1.later (y_to.rf _ _)
  · have z := (h2 k hk.1).2.2.2.2.2.2.2.1
    rcases (h2 k hk.1).2.2.2.2.2.2.2.2.2.2.2.2.2.2.2.2.2.1 with y | y
    · exact absurd (z.trans y) hk14
    · exact z.trans y
  · intro e he
    rcases he with he | ⟨he, -⟩
    · exact (hXd.L hLt) e he
    · exact ⟨by rw [hk1.1]; exact he.1, by rw [(hk1.2.2.2.2.2.1 e he he.1).1]; decide⟩
  · intro e he
    obtain ⟨y1, g, y2, y3⟩ := hEb e he
    exact ⟨by rw [hk1.1]; exact y1, g, by rw [hk1.2.2.1]; exact y2, by rw [b31]; exact y3⟩
  · rw [b31]
    obtain ⟨y1, g', y2, y3⟩ := hEb e he
    rw [← Option.some.inj (hge.symm.trans y2).symm, y3]
    decide
  · rw [hJ0] at m3
    exact ⟨_, rfl, m1.1.1, A', m3, m1, hLt.tr m2, fun e he => by
      have h3' := (hk1.2.2.2.2.2.1 e he he.1).1
      rw [((m2.2.2.1 e (by rw [hk1.1]; exact he.1)).2.2.2.2.2.2.2 (by rw [h3']; decide)).1]
      exact h3'⟩
theorem kTB.G {D : Nat} (hJN : kJN D) : kTB False (D + 2) := by
  intro S A X E hb rb nb t w c p o rest hM hc h0 hp hpo hX hD hN hlen
  rw [kC.f] at hlen
  exact c_takeBackG hJN hM hc h0 hp hX hD (by omega)
theorem kTJ.up {Nm : Prop} {D D' e : Nat} (h : kTJ Nm D e) (hd : D ≤ D') : kTJ Nm D' e := by
  intro S A X E hb rb nb t w p c o g rest a1 a2 a3 a4 a5 a6 a7 a8 a9 a10 a11 a12 a13 a14 a15 a16 a17
  obtain ⟨A2, js2, b1, b2, b3⟩ := h S A X E hb rb nb t w p c o g rest a1 a2 a3 a4 a5 a6 a7 a8 a9 a10 a11 a12 a13 a14 a15 a16 a17
  exact ⟨A2, js2, b1, b2, xc.up b3 hd⟩
theorem kTB.up {Nm : Prop} {D D' : Nat} (h : kTB Nm D) (hd : D ≤ D') : kTB Nm D' := by
  intro S A X E hb rb nb t w c p o rest a1 a2 a3 a4 a5 a6 a7 a8 a9
  obtain ⟨A1, J1, v, b1, b2, b3⟩ := h S A X E hb rb nb t w c p o rest a1 a2 a3 a4 a5 a6 a7 a8 a9
  exact ⟨A1, J1, v, b1, b2, xc.up b3 hd⟩
theorem kJN.all : kJN 36 := (kJN.of (d := 34) (fun e he => (kEN.N e).up (by omega)))
theorem kEL.all (e : Nat) (he : e ≤ 5) : kEL 38 e := kEL.of (D := 36) (fun ep hep s => (kTN.all (by omega) (kEN.N ep) (kTB.N (d := 6 * ep + 1)) s).up (by omega)) kJN.all
theorem kEN.G : ∀ e, e ≤ 5 → kEN False (60 + 6 * e) e
  | 0, _ => kEN.of (D := 58) (fun ep h => absurd h (by omega))
  | e + 1, he => by
    have ih := kEN.G e (by omega)
    have := kEN.of (Nm := False) (D := 60 + 6 * e + 4) (e := e + 1) (fun ep h => by
      obtain rfl : ep = e := by omega
      exact ⟨kTN.all (by omega) ih ((kTB.G kJN.all).up (by omega)), (kTJ.G (kEL.all ep (by omega))).up (by omega)⟩)
    exact this.up (by omega)
/-- a call ends -/
theorem kEN.all (e : Nat) (he : e ≤ 5) : kEN False 90 e := (kEN.G e he).up (by omega)
end
