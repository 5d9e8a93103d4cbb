/-! ===== RELEASE of one that does not lead ===== -/
section
theorem kL.drop {S : xm_S} {A A' : y_A} {X E B : Nat → Prop} {hb rb nb t w e1 e2 q m : Nat} (hM : kM S A X E B hb rb nb t w e1 e2) (hq : 12 ≤ q) (hZ : ∀ x k, x = 0 ∨ x = 31 ∨ x = 60 ∨ x = 81 → A' x k = A x k) : kL S (xm_drop q m S) A A' := by
  obtain ⟨T, t1, t2, -⟩ := hM.T
  have n1 : ∀ r, xm_n (xm_drop q m S) 1 r = if r = q then xm_n S 1 q - 1 else xm_n S 1 r := fun r => by
    show (if 1 = 1 ∧ r = q then xm_n S 1 q - 1 else xm_n S 1 r) = _
    by_cases e : r = q
    · rw [if_pos ⟨rfl, e⟩, if_pos e]
    · rw [if_neg (fun z => e z.2), if_neg e]
  have n : ∀ r, r < 12 → xm_n (xm_drop q m S) 1 r = xm_n S 1 r := fun r hr => by rw [n1, if_neg (by omega)]
  have hw : k_hows (xm_drop q m S) 3 = k_hows S 3 := by
    unfold k_hows
    rw [n 6 (by decide)]
    rfl
  refine ⟨⟨fun r hr => n r (by omega), by rw [n 6 (by decide)]; exact Nat.le_refl _, by rw [n 7 (by decide)]; exact Nat.le_refl _, by rw [n 8 (by decide)]; exact Nat.le_refl _⟩, fun i _ => ?_, fun k _ => kLc.rf S k, fun k z1 z2 => absurd z2 (by rw [n 6 (by decide)]; omega), fun g _ => ⟨hZ 31 g (by decide), rfl, fun q' hq' => ⟨hq', ?_⟩⟩, fun o _ => ⟨rfl, rfl, rfl⟩, ⟨hZ 0 0 (by decide), rfl⟩, ?_, ⟨by rw [hw]; exact Nat.le_refl _, fun i _ => hZ 81 i (by decide)⟩, ⟨T, T, t1, t1, Nat.le_refl _, t2, fun _ _ _ _ z => z⟩⟩
  · show (if 7 = q ∧ m ≤ i then _ else _) = _
    rw [if_neg (by omega)]
  · rw [n1]
    by_cases e : q' = q
    · rw [if_pos e, e]; omega
    · rw [if_neg e]; exact Nat.le_refl _
  · show xm_i S 0 0 14 + A 60 0 = xm_i S 0 0 14 + A' 60 0
    rw [hZ 60 0 (by decide)]
theorem c_release {d : Nat} {S : xm_S} {A : y_A} {X E : Nat → Prop} {hb rb nb t w e1 e2 k : Nat} {a1 a2 : Int32} {js : List y_J} (h : kM S A X E (fun _ => False) hb rb nb t w e1 e2) (hk : k < xm_n S 1 6) (hX : X k) (hk0 : xm_i S 2 k 8 = 3) (hld : xm_i S 2 k 14 = 0) (hE : ∀ e g, E e → xm_r S 2 e 4 = some g → A 31 g ≠ 0 ∧ A 31 g ≠ 1) (hy : y_in a1 4400) (h81 : A 81 (y_ix a1) = nI k) (hlen : js.length + 2 ≤ 20000) :
    ∃ A', rf_takenBack a1 a2 A js = (A', kJt a1 a2 js) ∧ rg_takenBack a1 a2 A js ∧ xc (d + 1) 35 [.inr (some (0, 0)), .inr (some (2, k))] S (fun r S' => r = none ∧ xk_C S' ∧ kM S' A' (fun e => X e ∧ e ≠ k) E (fun _ => False) hb rb nb t w e1 e2 ∧ kL S S' A A' ∧ (∀ e, xm_i S' 2 e 8 = xm_i S 2 e 8) ∧ xm_n S' 1 6 = xm_n S 1 6) := by
  have hM := h
  obtain ⟨⟨hC, hcnt, hb', hl, ht, hv, h1, h2, h3, -⟩, hS, hgr, ⟨-, -, j3, j4, j5, -, j7, j8, j9, -⟩⟩ := h
  have hbb := hb'
  unfold k_bnd at hbb
  have hne : xm_i S 2 k 8 ≠ 0 := by rw [hk0]; decide
  have hkb : k < 4400 := by omega
  have hkc := h2 k hk
  obtain ⟨z1, z2, z3, z4, z5, z6⟩ := j7 k hk
  have f75 : ¬ A 75 k = 1 → A 75 k = 0 := fun z => hkc.2.2.2.2.2.2.2.2.2.2.2.2.2.2.2.2.2.2.1.resolve_right z
  have f77 : ¬ A 77 k = 1 → A 77 k = 0 := fun z => hkc.2.2.2.2.2.2.2.2.2.2.2.2.2.2.2.2.2.2.2.2.1.resolve_right z
  have f79 : ¬ A 79 k = 1 → A 79 k = 0 := fun z => hkc.2.2.2.2.2.2.2.2.2.2.2.2.2.2.2.2.2.2.2.2.2.1.resolve_right z
  have f78 : A 78 k = 0 := hkc.2.2.2.2.2.2.2.1.symm.trans hld
  have hG := hkc.2.2.2.2.2.2.2.2.2.2.2.1
  have ntri : ¬ A 79 k = 1 → ∀ g, g < xm_n S 1 3 → xm_r S 5 g 9 ≠ some k := fun z g hg y => z (j8 g k hg y).2.2.2.2.1
  have hLL := hM.later
  rcases hr : xm_r S 2 k 4 with _ | g
  · rw [hr] at hG
    have c79 : ¬ A 79 k = 1 := fun z => by obtain ⟨g, y, -⟩ := z4 z; rw [hr] at y; cases y
    have c75 : ¬ A 75 k = 1 := fun z => by obtain ⟨g, y, -⟩ := z2 (Or.inl z); rw [hr] at y; cases y
    obtain ⟨r1, r2⟩ := k_tk_none (a2 := a2) hy h81 hkb hlen (by rw [hG]; decide)
    refine ⟨A, r1, r2, cw_release hC (fun t1 e1 => ⟨fun _ => ⟨rfl, hC, hM.drop hne (ntri c79) c75, hLL, fun _ => rfl, rfl⟩, fun g eg => ?_⟩)⟩
    rw [hr] at e1
    rw [← e1] at eg
    cases eg
  · rw [hr] at hG
    have hG' : A 65 k = nI g := hG
    have hgn : g < xm_n S 1 3 := hkc.2.2.2.2.2.2.2.2.2.2.2.2.2.2.2.2.2.2.2.2.2.2.2.1 g hr
    have s1 := (h3 g hgn).2.1
    have h65 : (0 : Int32) ≤ A 65 k := by rw [hG']; exact nI_pos' (by omega)
    have sort : ∀ {g'}, xm_r S 2 k 4 = some g' → g' = g := fun z => (Option.some.inj (hr.symm.trans z)).symm
    have st1 : ∀ {t1 : Option Nat} {g'}, xm_r S 2 k 4 = t1 → t1 = some g' → g' = g := fun z y => sort (z.trans y)
    by_cases s0 : A 31 g = 0
    · have nE : ¬ E k := fun z => (hE k g z hr).1 s0
      obtain ⟨-, x2⟩ := z6 g hr (Or.inr hX) nE
      have c75 : ¬ A 75 k = 1 := fun z => by obtain ⟨g', y, y2⟩ := z2 (Or.inl z); rw [sort y, s0] at y2; exact absurd y2 (by decide)
      have c77 : ¬ A 77 k = 1 := fun z => by obtain ⟨g', y, y2⟩ := z2 (Or.inr z); rw [sort y, s0] at y2; exact absurd y2 (by decide)
      by_cases htr : xm_r S 5 g 9 = some k
      · have c79 := x2.mpr htr
        obtain ⟨r1, r2⟩ := k_tk_trial (a2 := a2) hy h81 hkb hlen (by omega) hG' (by rw [c79]; decide) (f77 c77) (f75 c75) f78
        refine ⟨_, r1, r2, cw_release hC (fun t1 e1 => ⟨fun eg => ?_, fun g' eg t4 e4 => ?_⟩)⟩
        · rw [hr] at e1; rw [← e1] at eg; cases eg
        · obtain rfl := st1 e1 eg
          refine ⟨fun _ S7 e7 S9 e9 S11 e11 => ?_, fun z => absurd (e4.symm.trans htr) z⟩
          have hF : kF 0 g' [(5, 8), (5, 6)] [(5, 9)] [38, 36] S S11 A (xm_u2 (xm_u2 A 36 g' 1) 38 g' (A 0 0)) := by
            subst e7 e9 e11
            exact (((((kF.rf 0 g' S A).sr 5 g' 9 none (fun z => absurd z (by decide)) (fun _ => rfl)).si 5 g' 6 1 (fun z => absurd z (by decide)) (fun _ => rfl)).si 5 g' 8 _ (fun z => absurd z (by decide)) (fun _ => rfl)).u 36 g' 1 (fun z => absurd z.1 (by decide)) (fun _ => rfl)).u 38 g' (A 0 0) (fun z => absurd z.1 (by decide)) (fun _ => rfl)
          have hF' := hF.w (I' := [(5, 6), (5, 8)]) (R' := [(5, 9)]) (Z' := [36, 38]) (by decide) (by decide) (by decide)
          refine ⟨rfl, xk_C.F hF' (by decide) hC, hM.rfuse hk hne c75 hr htr hF' ?_ ?_ ?_, hF'.L hM (by decide) (by decide) (by decide), fun e => hF'.2.2.1 2 8 (by decide) e, by rw [hF'.1]⟩
          · subst e7 e9 e11
            exact ((xi_si (by decide)).trans xi_same).trans ((y_off (by omega)).trans (y_same _ _ _ _)).symm
          · subst e7 e9 e11
            refine xi_same.trans ?_
            rw [y_same, ht.1, Int32.add_zero]
          · subst e7 e9 e11
            exact xr_si.trans (xr_si.trans xr_same)
      · have c79 : ¬ A 79 k = 1 := fun z => htr (x2.mp z)
        obtain ⟨r1, r2⟩ := k_tk_plain (a2 := a2) hy h81 hkb hlen h65 (f79 c79) (f77 c77) (f75 c75) f78
        refine ⟨A, r1, r2, cw_release hC (fun t1 e1 => ⟨fun eg => ?_, fun g' eg t4 e4 => ?_⟩)⟩
        · rw [hr] at e1; rw [← e1] at eg; cases eg
        · obtain rfl := st1 e1 eg
          exact ⟨fun z => absurd (e4.trans z) htr, fun _ => ⟨fun z => absurd (z.symm.trans (s1.trans s0)) (by decide), fun _ => ⟨fun _ => ⟨rfl, hC, hM.drop hne (ntri c79) c75, hLL, fun _ => rfl, rfl⟩, fun z => absurd hld z⟩⟩⟩
    · have c79 : ¬ A 79 k = 1 := fun z => by obtain ⟨g', y, y2⟩ := z4 z; rw [sort y] at y2; exact s0 y2
      have htr : xm_r S 5 g 9 ≠ some k := ntri c79 g hgn
      by_cases sb : A 31 g = 1
      · have nE : ¬ E k := fun z => (hE k g z hr).2 sb
        obtain ⟨x1, -⟩ := z6 g hr (Or.inr hX) nE
        by_cases c75 : A 75 k = 1
        · have c77 : ¬ A 77 k = 1 := fun z => (x1 sb).mp z c75
          obtain ⟨q, y1, y2, y3, y4, y5, y6⟩ := (h3 g hgn).2.2.2.2.2.2.2.2.2.2.2.2.1
          obtain ⟨u1, u2, u3⟩ := j9 g q hgn y1
          obtain ⟨m, hm, hlm⟩ := u3 k hk (Or.inr hX) hr c75
          have uni : ∀ i, i < m → ∃ e, xm_l S q i = (2, e) ∧ e < xm_n S 1 6 ∧ e ≠ k ∧ A 43 (10 * g + i) = nI e := fun i hi => by
            obtain ⟨e, v1, v2, v3⟩ := y6 i (by omega)
            exact ⟨e, v1, v2, fun z => u2 i m hi hm (by rw [v1, z, hlm]), v3⟩
          have h43 : A 43 (10 * g + m) = nI k := by
            obtain ⟨e, v1, v2, v3⟩ := y6 m hm
            rw [hlm] at v1
            rw [(Prod.mk.inj v1).2]
            exact v3
          obtain ⟨A', r1, r2, r3⟩ := k_tk_wait (a2 := a2) (m := m) (wt := xm_n S 1 q) hy h81 hkb hlen (by omega) hG' (f79 c79) (f77 c77) (by rw [c75]; decide) f78 (by omega) y5 hm y4 h43 (fun i hi => by
            obtain ⟨e, v1, v2, v3, v4⟩ := uni i hi
            exact ⟨e, by omega, v3, v4⟩)
          have i13 : xm_i S 2 k 13 = 1 := by
            have := z1 (Or.inr hX)
            unfold k_rest at this
            rw [this, if_pos c75]
          refine ⟨A', r1, r2, cw_release hC (fun t1 e1 => ⟨fun eg => ?_, fun g' eg t4 e4 => ?_⟩)⟩
          · rw [hr] at e1; rw [← e1] at eg; cases eg
          · obtain rfl := st1 e1 eg
            refine ⟨fun z => absurd (e4.trans z) htr, fun _ => ⟨fun _ => ⟨fun _ => ?_, fun z => absurd i13 z⟩, fun z => absurd (s1.trans sb) z⟩⟩
            refine cw_guardLeaveQueue hC (c_leave hC y1 y5 hm hlm (fun i hi => ?_) ?_ m 0 (by omega))
            · obtain ⟨e, v1, v2, v3, v4⟩ := uni i hi
              exact ⟨e, v1, v3⟩
            · refine ⟨rfl, hC, rfl, hC, hM.rque hk hne hr sb y1 hm hlm r3, kL.drop hM y2 (fun x e hx => by rw [r3, if_neg (by omega), if_neg (by omega), if_neg (by omega)]), fun _ => rfl, ?_⟩
              show (if 1 = 1 ∧ 6 = q then xm_n S 1 q - 1 else xm_n S 1 6) = _
              rw [if_neg (by omega)]
        · have c77 : A 77 k = 1 := (x1 sb).mpr c75
          obtain ⟨r1, r2⟩ := k_tk_work (a2 := a2) hy h81 hkb hlen (by omega) hG' (f79 c79) (by rw [c77]; decide) (f75 c75) f78
          have i13 : ¬ xm_i S 2 k 13 = 1 := by
            have := z1 (Or.inr hX)
            unfold k_rest at this
            rw [this, if_neg c75]
            by_cases c76 : A 76 k = 1
            · rw [if_pos c76]; decide
            · rw [if_neg c76]
              by_cases c15 : xm_r S 2 k 15 = none
              · rw [if_pos c15]; decide
              · rw [if_neg c15]; decide
          refine ⟨_, r1, r2, cw_release hC (fun t1 e1 => ⟨fun eg => ?_, fun g' eg t4 e4 => ?_⟩)⟩
          · rw [hr] at e1; rw [← e1] at eg; cases eg
          · obtain rfl := st1 e1 eg
            refine ⟨fun z => absurd (e4.trans z) htr, fun _ => ⟨fun _ => ⟨fun z => absurd z i13, fun _ S17 e17 => ?_⟩, fun z => absurd (s1.trans sb) z⟩⟩
            have hF : kF k g' [(5, 10)] [] [39, 77] S S17 A (xm_u2 (xm_u2 A 77 k 0) 39 g' (A 39 g' - 1)) := by
              subst e17
              exact (((kF.rf k g' S A).si 5 g' 10 _ (fun z => absurd z (by decide)) (fun _ => rfl)).u 77 k 0 (fun _ => rfl) (fun z => absurd z.2 (by decide))).u 39 g' _ (fun z => absurd z.1 (by decide)) (fun _ => rfl)
            have hF' := hF.w (I' := [(5, 10)]) (R' := []) (Z' := [77, 39]) (by decide) (by decide) (by decide)
            refine ⟨rfl, xk_C.F hF' (by decide) hC, hM.rbulk hk hne c75 hr sb hF' ?_ ?_, hF'.L hM (by decide) (by decide) (by decide), fun e => hF'.2.2.1 2 8 (by decide) e, by rw [hF'.1]⟩
            · subst e17
              refine xi_same.trans ?_
              rw [y_same, (h3 g' hgn).2.2.2.2.2.2.2.2.2.1]
            · exact (y_off (by omega)).trans (y_same _ _ _ _)
      · have c75 : ¬ A 75 k = 1 := fun z => by obtain ⟨g', y, y2⟩ := z2 (Or.inl z); rw [sort y] at y2; exact sb y2
        have c77 : ¬ A 77 k = 1 := fun z => by obtain ⟨g', y, y2⟩ := z2 (Or.inr z); rw [sort y] at y2; exact sb y2
        obtain ⟨r1, r2⟩ := k_tk_plain (a2 := a2) hy h81 hkb hlen h65 (f79 c79) (f77 c77) (f75 c75) f78
        refine ⟨A, r1, r2, cw_release hC (fun t1 e1 => ⟨fun eg => ?_, fun g' eg t4 e4 => ?_⟩)⟩
        · rw [hr] at e1; rw [← e1] at eg; cases eg
        · obtain rfl := st1 e1 eg
          exact ⟨fun z => absurd (e4.trans z) htr, fun _ => ⟨fun z => absurd (s1.symm.trans z) sb, fun _ => ⟨fun _ => ⟨rfl, hC, hM.drop hne (ntri c79) c75, hLL, fun _ => rfl, rfl⟩, fun z => absurd hld z⟩⟩⟩
end
