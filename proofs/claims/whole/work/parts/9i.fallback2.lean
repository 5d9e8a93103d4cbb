/-! ===== A FALLBACK IS TOLD (printed by wip/whole/gen9i.py) ===== -/
section
theorem kTN.s6 {Nm : Prop} {D e : Nat} (IH : kEN Nm D e) : kTN Nm (D + 4) e 6 := by
  intro S A X E hb rb nb t w p c o g rest hM hT hX hD hEp hg hs hon hch hlat hlen
  have hTT := hT
  obtain ⟨t1, t2, t3, t4, t5, t6, t7, t8, t9⟩ := hT
  have hbd := hM.1.2.2.1
  unfold k_bnd at hbd
  have hgn := hM.gb p g t2 hg
  have hG : A 65 p = nI g := by
    have := (hM.1.2.2.2.2.2.2.2.1 p t2).2.2.2.2.2.2.2.2.2.2.2.1
    rw [hg] at this
    exact this
  have s1 : xm_i S 5 g 1 = 6 := ((hM.1.2.2.2.2.2.2.2.2.1 g hgn).2.1).trans hs
  have hEq : (fun k => E k ∨ (k = p ∧ A 31 g = 3)) = E := by
    funext k
    exact propext ⟨fun z => z.resolve_right (fun y => absurd (hs.symm.trans y.2) (by decide)), Or.inl⟩
  rw [hEq] at hM
  have h75 : ¬ A 75 p = 1 := fun z => by
    obtain ⟨g', y1, y2⟩ := (hM.2.2.2.2.2.2.2.2.2.1 p t2).2.1 (Or.inl z)
    rw [← Option.some.inj (hg.symm.trans y1), hs] at y2
    exact absurd y2 (by decide)
  have hnch : ∀ k, k < xm_n S 1 6 → xm_r S 2 k 2 = some p → xm_i S 2 k 8 ≠ 0 := fun k hk hkp h0 => absurd (hs.symm.trans (hch k hk hkp h0)) (by decide)
  have h8c : ∀ {q : Prop}, ¬ A 69 c = 2 → ¬ xm_i S 2 c 8 = 1 → q := fun z1 z2 => by
    rw [(hM.1.2.2.2.2.2.2.2.1 c t1).2.2.2.2.1] at z2
    exact absurd (t5.resolve_left z2) z1
  have hl := hlat (by rw [hs]; decide)
  obtain ⟨nm1, nm2, nm3⟩ := k_named hM t1 hgn
  have j6 := hM.2.2.2.2.2.2.2.2.1
  have j10 := hM.2.2.2.2.2.2.2.2.2.2.2.2.1
  have h2 := hM.1.2.2.2.2.2.2.2.1
  obtain ⟨m1, m2, n, n1, n2, n3, n4⟩ := j6.1 p t2
  obtain ⟨la1, la2, la3⟩ := m2 c hl
  obtain ⟨n5, n6⟩ := n4 c hl
  obtain ⟨b1, b2⟩ := j6.2 c p t1 t3
  have hst := j10.2 p g t2 t4 hg
  have hn12 : n = 1 ∨ n = 2 := by
    rcases hst.2.2.2.2.2 hs with z | z | z
    · have := (nI_eq (a := n) (b := 0) (by omega) (by decide)).mp (n2.symm.trans z)
      have := n3.mp this
      rw [hl] at this; cases this
    · exact Or.inl ((nI_eq (a := n) (b := 1) (by omega) (by decide)).mp (n2.symm.trans z))
    · exact Or.inr ((nI_eq (a := n) (b := 2) (by omega) (by decide)).mp (n2.symm.trans z))
  have h73n : A 73 p = nI n := ((h2 p t2).2.2.2.2.2.2.2.2.1).symm.trans n2
  have hns : ∀ g', xm_r S 2 p 4 = some g' → A 31 g' ≠ 0 := fun g' hg' => by rw [← Option.some.inj (hg.symm.trans hg'), hs]; decide
  have hexm := hM.exm t2 hnch hns
  have hIH := IH S A X E hb rb nb t w 0 0 p o rest hexm t2 t4 h75 hX hD t7 t8 t9 (by omega)
  have ixp : y_ix (nI p) = p := y_ix_nI (by omega)
  have ixc : y_ix (nI c) = c := y_ix_nI (by omega)
  have ixg : y_ix (nI g) = g := y_ix_nI (by omega)
  have yp : y_in (nI p) 4400 := y_in_nI (by omega) (by decide)
  have yc : y_in (nI c) 4400 := y_in_nI (by omega) (by decide)
  have yg : y_in (nI g) 24 := y_in_nI (by omega) (by decide)
  have hlr : rest.length < 20000 := by omega
  have hkg := hM.1.2.2.2.2.2.2.2.2.1 g hgn
  have g2 : xm_i S 5 g 2 = A 32 g := hkg.2.2.1
  have g3 : xm_i S 5 g 3 = A 33 g := hkg.2.2.2.1
  obtain ⟨s2, s3⟩ := k_told_6 (A := A) (js := rest) (show p < 4400 by omega) (show c < 4400 by omega) (by omega) hG hs
  obtain ⟨F, hF⟩ : ∃ F, F = rf_fallbackTold (nI p) (nI c) (nI g) A rest := ⟨_, rfl⟩
  have r0 : rf_told (nI p) (nI c) A rest = (F.1, F.2) := by rw [s2, ← hF]
  have fail : ∀ k, k < xm_n S 1 6 → A 69 k = 2 → ∃ f, xm_r S 2 k 11 = some f ∧ f < xm_n S 1 8 ∧ A 70 k = nI f := fun k hk h69 => by
    have h82 : xm_i S 2 k 8 = 2 := ((h2 k hk).2.2.2.2.1).trans h69
    obtain ⟨f, hf⟩ := ((hM.2.2.2.2.2.2.2.2.2.2.2.2.2.2.1).2.2.choose_spec.2.2.2 k hk).2.1 h82
    have h11 := (h2 k hk).2.2.2.2.2.2.2.2.2.2.2.2.2.2.2.1
    rw [hf, h69, if_pos rfl] at h11
    exact ⟨f, hf, (h2 k hk).2.2.2.2.2.2.2.2.2.2.2.2.2.2.2.2.2.2.2.2.2.2.2.2.2.2.2 f hf, h11.symm⟩
  have e8 : xm_i S 2 c 8 = A 69 c := (h2 c t1).2.2.2.2.1
  rcases hbef : xm_r S 2 c 18 with _ | b
  · -- the first inner one
    have hn1 : n = 1 := n5.mpr hbef
    have c73 : ¬ A 73 p = 2 := by rw [h73n, hn1]; decide
    have hrf : F = if rf_isNamed (nI c) (nI g) A = 0 then (A, ((1 : Int32), nI p, A 69 c, A 70 c, if A 71 c = 0 then (0 : Int32) else 1) :: rest) else (if A 32 g = 0 then (A, ((1 : Int32), nI p, (1 : Int32), A 33 g, (1 : Int32)) :: rest) else (A, ((0 : Int32), A 62 p, A 63 p + 1, nI p, A 33 g) :: rest)) := by
      rw [hF]
      unfold rf_fallbackTold
      rw [ixp, ixc, ixg, if_neg c73]
    have hrg : rg_fallbackTold (nI p) (nI c) (nI g) A rest := by
      unfold rg_fallbackTold
      rw [ixp, ixc, ixg]
      exact ⟨yp, fun z => absurd z c73, fun _ => ⟨nm1, fun _ => ⟨k_alike (by omega) hlr, trivial⟩, fun _ => ⟨yg, fun _ => ⟨hlr, trivial⟩, fun _ => ⟨hlr, trivial⟩⟩⟩⟩
    have non : ∀ (Z : xm_S → Prop), (¬ rf_isNamed (nI c) (nI g) A = 0 → ¬ A 32 g = 0 → Z S) → (∀ t5, (xm_r S 2 c 11) = t5 → ((t5 = none → ((xm_i S 2 c 8) = (1 : Int32) → xc (D + 1) 30 [.inr (some (0, 0)), .inr (some (2, p)), .inl (xm_i S 2 c 9), .inl (xm_i S 2 c 10)] S (fun r S9 => r = none ∧ xk_C S9 ∧ (kPo S A F.1 F.2 rest X E hb rb nb t w none S9))) ∧ (¬ (xm_i S 2 c 8) = (1 : Int32) → xc (D + 1) 22 [.inr (some (0, 0)), .inr (some (2, p)), .inr none] S (fun r S11 => r = none ∧ xk_C S11 ∧ (kPo S A F.1 F.2 rest X E hb rb nb t w none S11)))) ∧ (∀ k7, t5 = some k7 → xc (D + 1) 27 [.inl (xm_i S 4 k7 1), .inl (xm_i S 5 g 5)] S (fun r S13 => ∃ x15 : Int32, r = some (.inl x15) ∧ xk_C S13 ∧ ((x15 = (0 : Int32) → ((xm_i S13 2 c 8) = (1 : Int32) → xc (D + 1) 30 [.inr (some (0, 0)), .inr (some (2, p)), .inl (xm_i S13 2 c 9), .inl (xm_i S13 2 c 10)] S13 (fun r S18 => r = none ∧ xk_C S18 ∧ (kPo S A F.1 F.2 rest X E hb rb nb t w none S18))) ∧ (¬ (xm_i S13 2 c 8) = (1 : Int32) → ∀ t20, (xm_r S13 2 c 11) = t20 → (xc (D + 1) 22 [.inr (some (0, 0)), .inr (some (2, p)), .inr (xo 4 t20)] S13 (fun r S22 => r = none ∧ xk_C S22 ∧ (kPo S A F.1 F.2 rest X E hb rb nb t w none S22))))) ∧ (¬ x15 = (0 : Int32) → ((xm_i S13 5 g 2) = (0 : Int32) → xc (D + 2) 30 [.inr (some (0, 0)), .inr (some (2, p)), .inl (xm_i S13 5 g 3), .inl (1 : Int32)] S13 (fun r S25 => r = none ∧ xk_C S25 ∧ (kPo S A F.1 F.2 rest X E hb rb nb t w none S25))) ∧ (¬ (xm_i S13 5 g 2) = (0 : Int32) → Z S13))))))) := fun Z hZ u5 e5 => by
      have al0 : rf_isNamed (nI c) (nI g) A = 0 → _ := fun hN => c_al (IH.up (show D ≤ D + 1 by omega)) hM.later hexm hTT hX hD h75 (show rest.length + 10 * e + 110 + kC Nm ≤ 20000 by omega) rfl rfl rfl rfl
      refine ⟨fun hn => ?_, fun f hf => ?_⟩
      · obtain ⟨hN, h692⟩ := nm2 (e5.trans hn)
        rw [hrf, if_pos hN]
        exact ⟨(al0 hN).1, fun y => (al0 hN).2 y none (e5.trans hn)⟩
      · obtain ⟨⟨k1, k2, k3⟩, kx⟩ := nm3 f (e5.trans hf)
        refine kx (D + 1) _ ⟨_, rfl, hM.1.1, fun hN => ?_, fun hN => ⟨fun h0 => ?_, fun h0 => hZ hN (fun y => h0 (g2.trans y))⟩⟩
        · rw [hrf, if_pos hN]
          exact al0 hN
        · rw [hrf, if_neg hN, if_pos (g2.symm.trans h0), g3]
          refine xc.up (xc.mono (hIH.1 (A 33 g) 1 (Or.inr rfl) (by omega) rfl) ?_) (show D ≤ D + 2 by omega)
          intro r S' z
          exact ⟨z.1, z.2.1, rfl, z.2⟩
    have hgr6 := (hM.2.2.1 g hgn).2.2.2.1 hs
    refine ⟨_, _, r0, s3 hrg, cw_tell (d := D + 2) hM.1.1 (fun t1' e1 => ⟨fun z => ?_, fun g' z => ?_⟩)⟩
    · rw [hg, z] at e1; cases e1
    rw [hg, z] at e1
    obtain rfl := Option.some.inj e1
    refine ⟨fun _ => ⟨fun z => absurd (s1.symm.trans z) (by decide), fun _ => ⟨fun z => absurd (s1.symm.trans z) (by decide), fun _ => ⟨fun z => absurd (s1.symm.trans z) (by decide), fun _ => ⟨fun z => absurd (s1.symm.trans z) (by decide), fun _ => ⟨fun z => absurd (s1.symm.trans z) (by decide), fun _ => ⟨fun z => absurd (s1.symm.trans z) (by decide), fun _ => ⟨fun _ => ?_, fun z => absurd s1 z⟩⟩⟩⟩⟩⟩⟩, fun z => absurd t4 z⟩
    refine xc.mono (Q := kPo S A F.1 F.2 rest X E hb rb nb t w) ?_ (fun r S' z => ⟨z.1, z.2.1, rfl, z.2⟩)
    refine cw_tellFallback (d := D + 1) hM.1.1 (fun u1 e1 => ⟨fun hb0 => ⟨fun hn => non (fun S13 => kPo S A F.1 F.2 rest X E hb rb nb t w none S13) (fun hN h32 => ?_), fun k4 hk4 => ?_⟩, fun hb0 => ⟨fun hb1 => ⟨fun hn => non (fun S13 => kPo S A F.1 F.2 rest X E hb rb nb t w none S13) (fun hN h32 => ?_), fun k4 hk4 => ?_⟩, fun hb1 => ?_⟩⟩)
    · obtain ⟨-, s, s4, s5⟩ := hgr6.resolve_left h32
      rw [g3, s5] at hb0
      exact absurd hb0 (nI_pos (by omega))
    · rw [hbef, hk4] at e1; cases e1
    · obtain ⟨-, s, s4, s5⟩ := hgr6.resolve_left h32
      rw [g3, s5] at hb1
      exact absurd hb1 (nI_ge s4 (by omega))
    · rw [hbef, hk4] at e1; cases e1
    · obtain ⟨q1, q2, q3⟩ := k_at (a := xm_i S 5 g 3) (n := xm_n S 1 0) hb0 hb1 (by omega)
      have hls : xm_l S 0 (y_ix (xm_i S 5 g 3)) = (9, y_ix (xm_i S 5 g 3)) := hM.1.2.2.2.1.1 _ q2
      refine ⟨q1, y_ix (xm_i S 5 g 3), hls, fun hn => non (fun S67 => ∀ t81, (xm_r S67 2 p 1) = t81 → (xc (D + 2) 17 [.inr (some (0, 0)), .inr (xo 6 t81), .inr (some (2, p)), .inr none] S67 (fun r S83 => ∃ t85 : Option Nat, r = some (.inr (xo 2 t85)) ∧ xk_C S83 ∧ (xc (D + 2) 18 [.inr (some (0, 0)), .inr (xo 2 t85), .inr (some (9, y_ix (xm_i S 5 g 3)))] S83 (fun r S86 => r = none ∧ xk_C S86 ∧ (kPo S A F.1 F.2 rest X E hb rb nb t w none S86)))))) (fun hN h32 u81 e81 => ?_), fun k4 hk4 => ?_⟩
      · rw [t8] at e81
        rw [← e81]
        obtain ⟨s, hsE⟩ : ∃ s, s = y_ix (xm_i S 5 g 3) := ⟨_, rfl⟩
        rw [← hsE] at q2 q3 ⊢
        have h69 : A 69 c = 2 := by
          rcases hz : xm_r S 2 c 11 with _ | f
          · exact absurd (nm2 hz).1 hN
          · exact (nm3 f hz).1.1
        have ho : o < xm_n S 1 5 := by
          obtain ⟨o', y1, y2, -⟩ := (h2 p t2).2.2.2.2.2.2.2.2.2.1
          rw [← Option.some.inj (y1.symm.trans t8)]; exact y2
        have hO : A 62 p = nI o := by
          obtain ⟨o', y1, y2, y3⟩ := (h2 p t2).2.2.2.2.2.2.2.2.2.1
          rw [← Option.some.inj (y1.symm.trans t8)]; exact y3
        have he5 : e ≤ 4 := by
          have y0 := hM.2.2.2.1 c t1
          obtain ⟨e', x1, x2, -⟩ := y0.2.2.2
          have y3 := (y0.2.2.1 p t3).2.1
          rw [t7, x2, nI_1] at y3
          have he := (hM.2.2.2.1 p t2).2.2.2
          obtain ⟨e'', x3, x4, -⟩ := he
          by_cases y : e < 2 ^ 31 - 1
          · have := (nI_eq (a := e') (b := e + 1) (by omega) (by omega)).mp y3
            omega
          · omega
        have h63 : A 63 p = nI e := ((h2 p t2).2.1).symm.trans t7
        have hnp : kNp S A E hb o (e + 1) p := ⟨t2, t4, t8, by rw [t7, nI_1], hEp, h75, g, n, hg, n2, by omega, fun _ _ z => absurd hs z, fun _ c' hc' => by rw [← Option.some.inj (hl.symm.trans hc'), e8]; exact h69, fun z => absurd (hs.symm.trans z) (by decide), fun z => absurd (hs.symm.trans z) (by decide), fun _ => by omega, fun z => absurd (hs.symm.trans z) (by decide)⟩
        obtain ⟨v1, v2⟩ := c_newTry (d := D + 1) (w' := w) (o := o) (dp := e + 1) (s := s) (par := some p) hM (fun k hk => (hX k hk).1) (fun k hk => (hD k hk).1) (fun k z => z.elim) ho (by omega) q2 (fun p' z => by
          obtain rfl := Option.some.inj z
          exact ⟨rfl, hnp, fun S' T Dd hs' => kNs.po hM hs' ho t2 t8 t7 he5 hg n2 (by omega) (fun g z => by cases z) (Or.inr ⟨s1, hn1, rfl⟩)⟩) (fun z => by cases z)
        rw [hrf, if_neg hN, if_neg h32, hO, h63, nI_1, ← g3, q3]
        refine xc.mono v2 ?_
        rintro r S1 ⟨x1, x2, -, x3⟩
        refine ⟨some (xm_n S 1 6), x1, x2, xc.mono x3 ?_⟩
        rintro r S2 ⟨x4, x5, x6, x7⟩
        have w61 : A 61 0 = nI (xm_n S 1 6) := hM.1.2.1.2.2.2.2.2.2.1
        obtain ⟨k1, k2⟩ := k_beg_s (A := A) (n := xm_n S 1 6) (o := o) (d := e + 1) (par := some p) (js := rest) w61 (by
          have := hM.2.2.2.2.2.2.2.2.2.2.2.2.2.2.2.1
          unfold k_pot at this
          omega) (by omega) (fun p' z => by rw [← Option.some.inj z]; exact t2) (s := s) (by omega)
        refine ⟨x4, x5, rfl, x5, _, y_to.s (B := _) (ks := rest) ?_ ?_ (y_to.rf _ _), x6, x7⟩
        · rw [y_ok_0]; exact k2 v1
        · rw [y_do_0]; exact k1
      · rw [hbef, hk4] at e1; cases e1
  · -- the spare
    obtain ⟨b3, b4, b5⟩ := b2 b hbef
    have hbN : b < xm_n S 1 6 := by omega
    have hn2 : n = 2 := hn12.resolve_left (fun z => by rw [n5.mp z] at hbef; cases hbef)
    have c73 : A 73 p = 2 := by rw [h73n, hn2]; decide
    have h8b : xm_i S 2 b 8 = 2 := hst.2.1 (Or.inr hs) b hbN b4 (fun z => by rw [hl] at z; have := Option.some.inj z; omega)
    have h69b : A 69 b = 2 := ((h2 b hbN).2.2.2.2.1).symm.trans h8b
    obtain ⟨m, f1, f2, f3⟩ := fail b hbN h69b
    have ko : kOk S p c (xm_n S 1 6) (some b) := ⟨fun x hx => by
      rw [← Option.some.inj hx]
      exact ⟨hbN, hbN, b4, by omega⟩, fun e' a1 a2 a3 a4 => ⟨b, rfl, b5 e' a2 a3 (by have := la3 e' a2 a3; omega)⟩⟩
    obtain ⟨q1, q2⟩ := k_otherOf hM.1 t2 t1 ko
    have ixb : y_ix (kn (some b)) = b := y_ix_nI (by omega)
    have hrf : F = if A 69 c = 1 then (A, ((1 : Int32), nI p, (1 : Int32), A 70 c, (1 : Int32)) :: rest) else (xm_u2 A 28 (y_ix (A 70 c)) (nI m), ((1 : Int32), nI p, A 69 c, A 70 c, if A 71 c = 0 then (0 : Int32) else 1) :: rest) := by
      rw [hF]
      unfold rf_fallbackTold
      rw [ixp, ixc, if_pos c73, q1, ixb, f3]
    have hrg : rg_fallbackTold (nI p) (nI c) (nI g) A rest := by
      unfold rg_fallbackTold
      rw [ixp, ixc, q1]
      refine ⟨yp, fun _ => ⟨yc, fun _ => ⟨hlr, trivial⟩, fun h69 => ⟨q2, y_in_nI (by omega) (by decide), ?_, k_alike (by omega) hlr, trivial⟩⟩, fun z => absurd c73 z⟩
      obtain ⟨f, u1, u2, u3⟩ := fail c t1 (t5.resolve_left h69)
      rw [u3]
      exact y_in_nI (by omega) (by decide)
    have sp : xc (D + 2) 38 [.inr (some (0, 0)), .inr (some (2, p)), .inr (some (2, c)), .inr (some (2, b))] S (fun r S27 => r = none ∧ xk_C S27 ∧ kPo S A F.1 F.2 rest X E hb rb nb t w none S27) := by
      refine cw_tellSpare (d := D) hM.1.1 ⟨fun h1 => ?_, fun h1 u4 e4 => ⟨fun hn => ?_, fun f hf u9 e9 S11 e11 => ?_⟩⟩
      · have h69 : A 69 c = 1 := e8.symm.trans h1
        have h9 := (h2 c t1).2.2.2.2.2.2.2.2.2.2.2.2.2.2.1
        rw [h69, if_pos rfl] at h9
        rw [hrf, if_pos h69, h9]
        refine xc.up (xc.mono (hIH.1 (A 70 c) 1 (Or.inr rfl) (by omega) rfl) ?_) (show D ≤ D + 1 by omega)
        intro r S' z
        exact ⟨z.1, z.2.1, rfl, z.2.1, rfl, z.2⟩
      · have h69 : A 69 c = 2 := t5.resolve_left (fun z => h1 (e8.trans z))
        obtain ⟨f, u1, -⟩ := fail c t1 h69
        rw [hn, u1] at e4; cases e4
      · have h69' : ¬ A 69 c = 1 := fun z => h1 (e8.trans z)
        have h69 : A 69 c = 2 := t5.resolve_left h69'
        obtain ⟨f', u1, u2, u3⟩ := fail c t1 h69
        obtain rfl : f' = f := Option.some.inj (u1.symm.trans (e4.trans hf))
        rw [f1] at e9
        rw [← e9] at e11
        subst e11
        have hM2 := hexm.cause (f := f') (m := m) u2 f2
        have hFF : kF 0 0 [] [(4, 5)] [28] S (xm_sr S 4 f' 5 (some m)) A (xm_u2 A 28 f' (nI m)) := ((kF.rf 0 0 S A).sr 4 f' 5 (some m) (fun z => absurd z (by decide)) (fun z => absurd z (by decide))).u 28 f' (nI m) (fun z => absurd z.1 (by decide)) (fun z => absurd z.1 (by decide))
        have hL := hFF.L hM (by decide) (by decide) (by decide)
        have hIH2 := IH _ _ X E hb rb nb t w 0 0 p o rest hM2 t2 t4 (by rw [y_off (by omega)]; exact h75) (hX.L hL) (hD.L hL hM.gb) t7 t8 (t9.L hL) (by omega)
        have hbb : (if A 71 c = 0 then (0 : Int32) else 1) = 0 ∨ (if A 71 c = 0 then (0 : Int32) else 1) = 1 := by
          by_cases y : A 71 c = 0
          · exact Or.inl (if_pos y)
          · exact Or.inr (if_neg y)
        rw [hrf, if_neg h69', h69, u3, y_ix_nI (show f' < 2 ^ 31 by omega)]
        refine xc.mono (hIH2.2 f' _ u2 hbb rfl (by omega)) ?_
        rintro r S' ⟨v1, v2, A', v3, v4, v5⟩
        exact ⟨v1, v2, rfl, v2, rfl, v2, A', v3, v4, hL.tr v5⟩
    refine ⟨_, _, r0, s3 hrg, cw_tell (d := D + 2) hM.1.1 (fun t1' e1 => ⟨fun z => ?_, fun g' z => ?_⟩)⟩
    · rw [hg, z] at e1; cases e1
    rw [hg, z] at e1
    obtain rfl := Option.some.inj e1
    refine ⟨fun _ => ⟨fun z => absurd (s1.symm.trans z) (by decide), fun _ => ⟨fun z => absurd (s1.symm.trans z) (by decide), fun _ => ⟨fun z => absurd (s1.symm.trans z) (by decide), fun _ => ⟨fun z => absurd (s1.symm.trans z) (by decide), fun _ => ⟨fun z => absurd (s1.symm.trans z) (by decide), fun _ => ⟨fun z => absurd (s1.symm.trans z) (by decide), fun _ => ⟨fun _ => ?_, fun z => absurd s1 z⟩⟩⟩⟩⟩⟩⟩, fun z => absurd t4 z⟩
    refine xc.mono (Q := kPo S A F.1 F.2 rest X E hb rb nb t w) ?_ (fun r S' z => ⟨z.1, z.2.1, rfl, z.2⟩)
    have non : ∀ {q : Prop} (u1 : Option Nat), xm_r S 2 c 18 = u1 → u1 = none → q := fun u1 e1 hn => by rw [hbef, hn] at e1; cases e1
    have spp : ∀ (u1 : Option Nat), xm_r S 2 c 18 = u1 → ∀ k4, u1 = some k4 → xc (D + 2) 38 [.inr (some (0, 0)), .inr (some (2, p)), .inr (some (2, c)), .inr (some (2, k4))] S (fun r S27 => r = none ∧ xk_C S27 ∧ kPo S A F.1 F.2 rest X E hb rb nb t w none S27) := fun u1 e1 k4 hk4 => by
      rw [hbef, hk4] at e1
      rw [← Option.some.inj e1]
      exact sp
    refine cw_tellFallback (d := D + 1) hM.1.1 (fun u1 e1 => ⟨fun hb0 => ⟨fun hn => non u1 e1 hn, spp u1 e1⟩, fun hb0 => ⟨fun hb1 => ⟨fun hn => non u1 e1 hn, spp u1 e1⟩, fun hb1 => ?_⟩⟩)
    obtain ⟨q1, q2, q3⟩ := k_at (a := xm_i S 5 g 3) (n := xm_n S 1 0) hb0 hb1 (by omega)
    exact ⟨q1, y_ix (xm_i S 5 g 3), hM.1.2.2.2.1.1 _ q2, fun hn => non u1 e1 hn, spp u1 e1⟩
end
