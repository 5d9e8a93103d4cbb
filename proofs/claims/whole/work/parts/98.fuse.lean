/-! ===== NAMES; a fuse is told (printed by wip/whole/gen98.py) ===== -/
section
theorem k_named {S : xm_S} {A : y_A} {X E B : Nat → Prop} {hb rb nb t w e1 e2 c g : Nat} (hM : kM S A X E B hb rb nb t w e1 e2) (hc : c < xm_n S 1 6) (hg : g < xm_n S 1 3) : rg_isNamed (nI c) (nI g) A ∧ (xm_r S 2 c 11 = none → rf_isNamed (nI c) (nI g) A = 0 ∧ ¬ A 69 c = 2) ∧ (∀ f, xm_r S 2 c 11 = some f → (A 69 c = 2 ∧ A 70 c = nI f ∧ f < xm_n S 1 8) ∧ ∀ (d : Nat) (Q : Option xm_V → xm_S → Prop), Q (some (.inl (rf_isNamed (nI c) (nI g) A))) S → xc d 27 [.inl (xm_i S 4 f 1), .inl (xm_i S 5 g 5)] S Q) := by
  obtain ⟨⟨hC, hcnt, hb', hl, ht, hv, h1, h2, h3, h4, -⟩, hS, hgr, hI⟩ := hM
  have hbb := hb'
  unfold k_bnd at hbb
  have ixc : y_ix (nI c) = c := y_ix_nI (by omega)
  have ixg : y_ix (nI g) = g := y_ix_nI (by omega)
  have hcc := h2 c hc
  have h11 := hcc.2.2.2.2.2.2.2.2.2.2.2.2.2.2.2.1
  have hfb := hcc.2.2.2.2.2.2.2.2.2.2.2.2.2.2.2.2.2.2.2.2.2.2.2.2.2.2.2
  have hk := (hgr g hg).2.1
  obtain ⟨o, ho1, ho2⟩ := nI_of (x := A 35 g) (Int32.not_lt.mpr hk.1)
  have ho : o < 16 := Nat.lt_of_not_le (fun z => absurd hk.2 (by
    rw [ho2]
    exact nI_ge (a := 15) (b := o) (by omega) ho1))
  have key : ∀ f, xm_r S 2 c 11 = some f → (A 69 c = 2 ∧ A 70 c = nI f ∧ f < xm_n S 1 8) ∧ ∃ j, j < 16 ∧ A 24 f = nI j := fun f hf => by
    have hfn := hfb f hf
    rw [hf] at h11
    have h69 : A 69 c = 2 := Classical.byContradiction fun z => by
      rw [if_neg z] at h11
      exact absurd h11 (fun y => absurd (show (0 : Int32) ≤ nI f from nI_pos' (by omega)) (by rw [show nI f = -1 from y]; decide))
    rw [if_pos h69] at h11
    have hkf := (h4 f hfn).2.2.2.2.2.2.2.2.2.2.2
    obtain ⟨j, hj1, hj2⟩ := nI_of (x := A 24 f) (Int32.not_lt.mpr hkf.1)
    refine ⟨⟨h69, h11.symm, hfn⟩, j, Nat.lt_of_not_le (fun z => absurd hkf.2 (by
      rw [hj2]
      exact nI_ge (a := 15) (b := j) (by omega) hj1)), hj2⟩
  refine ⟨⟨y_in_nI (by omega) (by decide), fun z => ?_, fun _ => trivial⟩, fun hn => ?_, fun f hf => ⟨(key f hf).1, fun d Q hQ => ?_⟩⟩
  · rw [ixc] at z
    have h82 : xm_i S 2 c 8 = 2 := by rw [hcc.2.2.2.2.1]; exact z
    obtain ⟨f, hf⟩ := ((hI.2.2.2.2.2.2.2.2.2.2.2.1).2.2.choose_spec.2.2.2 c hc).2.1 h82
    obtain ⟨⟨k1, k2, k3⟩, j, k4, k5⟩ := key f hf
    rw [ixc, ixg, k2, y_ix_nI (by omega), k5, ho2]
    exact ⟨y_in_nI (by omega) (by decide), y_in_nI (by omega) (by decide), g_isUnder A S hC hS k4 ho, fun _ => trivial, fun _ => trivial⟩
  · have h69 : ¬ A 69 c = 2 := fun z => by
      have h82 : xm_i S 2 c 8 = 2 := by rw [hcc.2.2.2.2.1]; exact z
      obtain ⟨f, hf⟩ := ((hI.2.2.2.2.2.2.2.2.2.2.2.1).2.2.choose_spec.2.2.2 c hc).2.1 h82
      rw [hn] at hf
      cases hf
    refine ⟨?_, h69⟩
    unfold rf_isNamed
    rw [ixc, if_neg h69]
  · obtain ⟨⟨k1, k2, k3⟩, j, k4, k5⟩ := key f hf
    rw [(h4 f k3).2.1, k5, (h3 g hg).2.2.2.2.2.1, ho2]
    refine c_kindIsOf A hC hS k4 ho ?_
    unfold rf_isNamed at hQ
    rw [ixc, ixg, if_pos k1, k2, y_ix_nI (by omega), k5, ho2] at hQ
    rcases f_isUnder (nI j) (nI o) A with z | z
    · rw [z, if_pos rfl] at hQ
      rw [z]; exact hQ
    · rw [z, if_neg (by decide)] at hQ
      rw [z]; exact hQ
theorem kTN.s0 {Nm : Prop} {D e : Nat} (IH : kEN Nm D e) : kTN Nm (D + 3) e 0 := by
  intro S A X E hb rb nb t w p c o g rest hM hT hX hD hEp hg hs hon hch hlat hlen
  have hTT := hT
  obtain ⟨t1, t2, t3, t4, t5, t6, t7, t8, t9⟩ := hT
  have hbd := hM.1.2.2.1
  unfold k_bnd at hbd
  have hgn := hM.gb p g t2 hg
  have hG : A 65 p = nI g := by
    have := (hM.1.2.2.2.2.2.2.2.1 p t2).2.2.2.2.2.2.2.2.2.2.2.1
    rw [hg] at this
    exact this
  have s1 : xm_i S 5 g 1 = 0 := ((hM.1.2.2.2.2.2.2.2.2.1 g hgn).2.1).trans hs
  have hEq : (fun k => E k ∨ (k = p ∧ A 31 g = 3)) = E := by
    funext k
    exact propext ⟨fun z => z.resolve_right (fun y => absurd (hs.symm.trans y.2) (by decide)), Or.inl⟩
  rw [hEq] at hM
  have h75 : ¬ A 75 p = 1 := fun z => by
    obtain ⟨g', y1, y2⟩ := (hM.2.2.2.2.2.2.2.2.2.1 p t2).2.1 (Or.inl z)
    rw [← Option.some.inj (hg.symm.trans y1), hs] at y2
    exact absurd y2 (by decide)
  have hnch : ∀ k, k < xm_n S 1 6 → xm_r S 2 k 2 = some p → xm_i S 2 k 8 ≠ 0 := fun k hk hkp h0 => absurd (hs.symm.trans (hch k hk hkp h0)) (by decide)
  have h8c : ∀ {q : Prop}, ¬ A 69 c = 2 → ¬ xm_i S 2 c 8 = 1 → q := fun z1 z2 => by
    rw [(hM.1.2.2.2.2.2.2.2.1 c t1).2.2.2.2.1] at z2
    exact absurd (t5.resolve_left z2) z1
  obtain ⟨nm1, nm2, nm3⟩ := k_named hM t1 hgn
  have ixp : y_ix (nI p) = p := y_ix_nI (by omega)
  have ixg : y_ix (nI g) = g := y_ix_nI (by omega)
  have hkg := hM.1.2.2.2.2.2.2.2.2.1 g hgn
  have hrg := (hM.2.2.1 g hgn).2.2.2.2.1 hs
  have ht := hM.1.2.2.2.2.1.1
  obtain ⟨-, x2⟩ := (hM.2.2.2.2.2.2.2.2.2.1 p t2).2.2.2.2.2 g hg (Or.inl t4) hEp
  have f79 : ¬ A 79 p = 1 → A 79 p = 0 := fun z => (hM.1.2.2.2.2.2.2.2.1 p t2).2.2.2.2.2.2.2.2.2.2.2.2.2.2.2.2.2.2.2.2.2.1.resolve_right z
  have gF : rg_fuseTold (nI p) (nI c) (nI g) A := by
    unfold rg_fuseTold rg_opens
    rw [ixp, ixg]
    have yg : y_in (nI g) 24 := y_in_nI (by omega) (by decide)
    exact ⟨nm1, y_in_nI (by omega) (by decide), fun _ => ⟨yg, fun _ => ⟨fun _ => trivial, fun _ => ⟨fun _ => ⟨⟨yg, trivial⟩, trivial⟩, fun _ => trivial⟩⟩, fun _ => trivial⟩, fun _ => ⟨fun _ => ⟨yg, trivial⟩, fun _ => ⟨yg, ⟨yg, trivial⟩, trivial⟩⟩⟩
  obtain ⟨r1, r2⟩ := k_told_0 (A := A) (c := c) (js := rest) (by omega) (by omega) (by omega) hG hs
  have eF : ∀ A2, (if A 79 p = 0 then (if A 36 g = 0 then (if rf_isNamed (nI c) (nI g) A = 0 then xm_u2 A 37 g 0 else (if A 37 g + 1 = A 32 g then xm_u2 (xm_u2 (xm_u2 A 37 g (A 37 g + 1)) 36 g 1) 38 g (A 0 0 + A 33 g) else xm_u2 A 37 g (A 37 g + 1))) else A) else (if rf_isNamed (nI c) (nI g) A = 0 then xm_u2 (xm_u2 A 36 g 0) 37 g 0 else xm_u2 (xm_u2 A 36 g 1) 38 g (A 0 0 + A 33 g))) = A2 → rf_fuseTold (nI p) (nI c) (nI g) A = A2 := fun A2 z => by
    unfold rf_fuseTold
    rw [ixp, ixg]
    exact z
  generalize rf_fuseTold (nI p) (nI c) (nI g) A = AF at r1 r2 gF eF
  generalize hnm : rf_isNamed (nI c) (nI g) A = NM at nm2 nm3 eF
  have leaf : ∀ (S2 : xm_S) (A2 : y_A), AF = A2 → kF 0 g [(5, 6), (5, 7), (5, 8)] [(5, 9)] [36, 37, 38] S S2 A A2 → xm_i S2 5 g 6 = A2 36 g → xm_i S2 5 g 7 = A2 37 g → xm_i S2 5 g 8 = A2 38 g → ((xm_r S2 5 g 9 = none ∧ xm_r S 5 g 9 = some p) ∨ (xm_r S2 5 g 9 = xm_r S 5 g 9 ∧ xm_r S 5 g 9 ≠ some p ∧ ∀ c, xm_r S 5 g 9 = some c → A2 36 g = 2)) →
      (xm_i S 2 c 8 = 1 → xc D 30 [.inr (some (0, 0)), .inr (some (2, p)), .inl (xm_i S 2 c 9), .inl (xm_i S 2 c 10)] S2 (fun r S12 => r = none ∧ xk_C S12 ∧ kPo S A AF (((1 : Int32), nI p, AF 69 c, AF 70 c, if AF 71 c = 0 then (0 : Int32) else 1) :: rest) rest X E hb rb nb t w none S12)) ∧ (¬ xm_i S 2 c 8 = 1 → ∀ t14, xm_r S 2 c 11 = t14 → xc D 22 [.inr (some (0, 0)), .inr (some (2, p)), .inr (xo 4 t14)] S2 (fun r S16 => r = none ∧ xk_C S16 ∧ kPo S A AF (((1 : Int32), nI p, AF 69 c, AF 70 c, if AF 71 c = 0 then (0 : Int32) else 1) :: rest) rest X E hb rb nb t w none S16)) := fun S2 A2 eA hF v6 v7 v8 htr => by
    subst eA
    have hM2 := hM.fuse t2 hg hnch hF v6 v7 v8 htr
    have hL := hF.L hM (by decide) (by decide) (by decide)
    have n6 : xm_n S2 1 6 = xm_n S 1 6 := by rw [hF.1]
    have I : ∀ j k, xm_i S2 2 k j = xm_i S 2 k j := fun j k => hF.2.2.1 2 j (by simp) k
    have R : ∀ j k, xm_r S2 2 k j = xm_r S 2 k j := fun j k => hF.2.2.2.1 2 j (by simp) k
    have a : ∀ x, x ≠ 36 → x ≠ 37 → x ≠ 38 → ∀ k, AF x k = A x k := fun x z1 z2 z3 k => hF.2.2.2.2.1 x (by simp only [List.mem_cons, List.not_mem_nil, or_false]; omega) k
    exact c_al IH hL hM2 ⟨by omega, by omega, (R _ _).trans t3, (I _ _).trans t4, by rw [a 69 (by decide) (by decide) (by decide)]; exact t5, by rw [a 68 (by decide) (by decide) (by decide), a 0 (by decide) (by decide) (by decide)]; exact t6, (I _ _).trans t7, (R _ _).trans t8, t9.L hL⟩ (hX.L hL) (hD.L hL hM.gb) (by rw [a 75 (by decide) (by decide) (by decide)]; exact h75) (by omega) (I _ _).symm (I _ _).symm (I _ _).symm (R _ _).symm
  have g6 := hkg.2.2.2.2.2.2.1
  have g7 := hkg.2.2.2.2.2.2.2.1
  have g8 := hkg.2.2.2.2.2.2.2.2.1
  have g2 := hkg.2.2.1
  have g3 := hkg.2.2.2.1
  have tri2 : ∀ c', xm_r S 5 g 9 = some c' → A 36 g = 2 := fun c' z => (hM.2.2.2.2.2.2.2.2.2.2.1 g c' hgn z).2.2.2.2.2
  refine ⟨_, _, r1, r2 ⟨gF, k_alike (by omega) (by omega)⟩, cw_tell (d := D + 1) hM.1.1 (fun t1' e1 => ⟨fun z => ?_, fun g' z => ?_⟩)⟩
  · rw [hg, z] at e1; cases e1
  · rw [hg, z] at e1
    obtain rfl := Option.some.inj e1
    refine ⟨fun _ => ⟨fun _ => ?_, fun z => absurd s1 z⟩, fun z => absurd t4 z⟩
    refine xc.mono (Q := kPo S A AF (((1 : Int32), nI p, AF 69 c, AF 70 c, if AF 71 c = 0 then (0 : Int32) else 1) :: rest) rest X E hb rb nb t w) ?_ (fun r S' z => ⟨z.1, z.2.1, rfl, z.2⟩)
    refine cw_tellFuse (d := D) hM.1.1 (fun t1 e1 => ⟨fun hn t4' e4 => ?_, fun f hf => ?_⟩)
    · obtain ⟨hN, h692⟩ := nm2 (e1.trans hn)
      have fix : ∀ {S2 : xm_S} {Q : Option xm_V → xm_S → Prop}, ((xm_i S 2 c 8 = 1 → xc D 30 [.inr (some (0, 0)), .inr (some (2, p)), .inl (xm_i S 2 c 9), .inl (xm_i S 2 c 10)] S2 Q) ∧ (¬ xm_i S 2 c 8 = 1 → ∀ t14, xm_r S 2 c 11 = t14 → xc D 22 [.inr (some (0, 0)), .inr (some (2, p)), .inr (xo 4 t14)] S2 Q)) → ((xm_i S 2 c 8 = 1 → xc D 30 [.inr (some (0, 0)), .inr (some (2, p)), .inl (xm_i S 2 c 9), .inl (xm_i S 2 c 10)] S2 Q) ∧ (¬ xm_i S 2 c 8 = 1 → xc D 22 [.inr (some (0, 0)), .inr (some (2, p)), .inr none] S2 Q)) := fun z => ⟨z.1, fun y => z.2 y none (e1.trans hn)⟩
      refine ⟨fun ht4 S7 e7 S9 e9 S11 e11 => ?_, fun ht4 => ⟨fun h0 S19 e19 => ⟨fun hz => ?_, fun hz => ?_⟩, fun h0 => ?_⟩⟩
      · have htp : xm_r S 5 g 9 = some p := e4.trans ht4
        have h79 : ¬ A 79 p = 0 := by rw [x2.mpr htp]; decide
        subst e7 e9 e11
        refine fix (leaf _ (xm_u2 (xm_u2 A 36 g 0) 37 g 0) (eF _ (by rw [if_neg h79, if_pos hN])) (((((((kF.rf 0 g S A).sr 5 g 9 none (fun z => absurd z (by decide)) (fun _ => rfl)).si 5 g 6 0 (fun z => absurd z (by decide)) (fun _ => rfl)).si 5 g 7 0 (fun z => absurd z (by decide)) (fun _ => rfl)).u 36 g 0 (fun z => absurd z.1 (by decide)) (fun _ => rfl)).u 37 g 0 (fun z => absurd z.1 (by decide)) (fun _ => rfl)).w (by decide) (by decide) (by decide)) ?_ ?_ ?_ (Or.inl ⟨xr_si.trans (xr_si.trans xr_same), htp⟩))
        · exact (((xi_si (by decide)).trans xi_same)).trans (((y_off (by omega)).trans (y_same _ _ _ _))).symm
        · exact (xi_same).trans ((y_same _ _ _ _)).symm
        · exact ((((xi_si (by decide)).trans ((xi_si (by decide)).trans xi_sr))).trans g8).trans (((y_off (by omega)).trans (y_off (by omega)))).symm
      · exact absurd (hz.trans g2) (fun z => absurd hrg.1 (by rw [← z]; decide))
      · have htp : ¬ xm_r S 5 g 9 = some p := fun z => ht4 (e4.symm.trans z)
        have h79 : A 79 p = 0 := f79 (fun z => htp (x2.mp z))
        have h36 : A 36 g = 0 := g6.symm.trans h0
        have notri : ∀ c', xm_r S 5 g 9 = some c' → False := fun c' z => by have := tri2 c' z; rw [h36] at this; exact absurd this (by decide)
        subst e19
        refine fix (leaf _ (xm_u2 A 37 g 0) (eF _ (by rw [if_pos h79, if_pos h36, if_pos hN])) ((((kF.rf 0 g S A).si 5 g 7 0 (fun z => absurd z (by decide)) (fun _ => rfl)).u 37 g 0 (fun z => absurd z.1 (by decide)) (fun _ => rfl)).w (by decide) (by decide) (by decide)) ?_ ?_ ?_ (Or.inr ⟨rfl, htp, fun c' z => (notri c' z).elim⟩))
        · exact (((xi_si (by decide))).trans g6).trans ((y_off (by omega))).symm
        · exact (xi_same).trans ((y_same _ _ _ _)).symm
        · exact (((xi_si (by decide))).trans g8).trans ((y_off (by omega))).symm
      · have htp : ¬ xm_r S 5 g 9 = some p := fun z => ht4 (e4.symm.trans z)
        have h79 : A 79 p = 0 := f79 (fun z => htp (x2.mp z))
        have h36 : ¬ A 36 g = 0 := fun z => h0 (g6.trans z)
        refine fix (leaf _ A (eF _ (by rw [if_pos h79, if_neg h36])) ((kF.rf 0 g S A).w (by decide) (by decide) (by decide)) ?_ ?_ ?_ (Or.inr ⟨rfl, htp, tri2⟩))
        · exact g6
        · exact g7
        · exact g8
    · refine (nm3 f (e1.trans hf)).2 D _ ⟨NM, rfl, hM.1.1, fun hN t4' e4 => ?_, fun hN t4' e4 => ?_⟩
      · refine ⟨fun ht4 S7 e7 S9 e9 S11 e11 => ?_, fun ht4 => ⟨fun h0 S19 e19 => ⟨fun hz => ?_, fun hz => ?_⟩, fun h0 => ?_⟩⟩
        · have htp : xm_r S 5 g 9 = some p := e4.trans ht4
          have h79 : ¬ A 79 p = 0 := by rw [x2.mpr htp]; decide
          subst e7 e9 e11
          refine leaf _ (xm_u2 (xm_u2 A 36 g 0) 37 g 0) (eF _ (by rw [if_neg h79, if_pos hN])) (((((((kF.rf 0 g S A).sr 5 g 9 none (fun z => absurd z (by decide)) (fun _ => rfl)).si 5 g 6 0 (fun z => absurd z (by decide)) (fun _ => rfl)).si 5 g 7 0 (fun z => absurd z (by decide)) (fun _ => rfl)).u 36 g 0 (fun z => absurd z.1 (by decide)) (fun _ => rfl)).u 37 g 0 (fun z => absurd z.1 (by decide)) (fun _ => rfl)).w (by decide) (by decide) (by decide)) ?_ ?_ ?_ (Or.inl ⟨xr_si.trans (xr_si.trans xr_same), htp⟩)
          · exact (((xi_si (by decide)).trans xi_same)).trans (((y_off (by omega)).trans (y_same _ _ _ _))).symm
          · exact (xi_same).trans ((y_same _ _ _ _)).symm
          · exact ((((xi_si (by decide)).trans ((xi_si (by decide)).trans xi_sr))).trans g8).trans (((y_off (by omega)).trans (y_off (by omega)))).symm
        · exact absurd (hz.trans g2) (fun z => absurd hrg.1 (by rw [← z]; decide))
        · have htp : ¬ xm_r S 5 g 9 = some p := fun z => ht4 (e4.symm.trans z)
          have h79 : A 79 p = 0 := f79 (fun z => htp (x2.mp z))
          have h36 : A 36 g = 0 := g6.symm.trans h0
          have notri : ∀ c', xm_r S 5 g 9 = some c' → False := fun c' z => by have := tri2 c' z; rw [h36] at this; exact absurd this (by decide)
          subst e19
          refine leaf _ (xm_u2 A 37 g 0) (eF _ (by rw [if_pos h79, if_pos h36, if_pos hN])) ((((kF.rf 0 g S A).si 5 g 7 0 (fun z => absurd z (by decide)) (fun _ => rfl)).u 37 g 0 (fun z => absurd z.1 (by decide)) (fun _ => rfl)).w (by decide) (by decide) (by decide)) ?_ ?_ ?_ (Or.inr ⟨rfl, htp, fun c' z => (notri c' z).elim⟩)
          · exact (((xi_si (by decide))).trans g6).trans ((y_off (by omega))).symm
          · exact (xi_same).trans ((y_same _ _ _ _)).symm
          · exact (((xi_si (by decide))).trans g8).trans ((y_off (by omega))).symm
        · have htp : ¬ xm_r S 5 g 9 = some p := fun z => ht4 (e4.symm.trans z)
          have h79 : A 79 p = 0 := f79 (fun z => htp (x2.mp z))
          have h36 : ¬ A 36 g = 0 := fun z => h0 (g6.trans z)
          refine leaf _ A (eF _ (by rw [if_pos h79, if_neg h36])) ((kF.rf 0 g S A).w (by decide) (by decide) (by decide)) ?_ ?_ ?_ (Or.inr ⟨rfl, htp, tri2⟩)
          · exact g6
          · exact g7
          · exact g8
      · refine ⟨fun ht4 S7 e7 S9 e9 S11 e11 => ?_, fun ht4 => ⟨fun h0 S19 e19 => ⟨fun hz => ?_, fun hz => ?_⟩, fun h0 => ?_⟩⟩
        · have htp : xm_r S 5 g 9 = some p := e4.trans ht4
          have h79 : ¬ A 79 p = 0 := by rw [x2.mpr htp]; decide
          subst e7 e9 e11
          refine leaf _ (xm_u2 (xm_u2 A 36 g 1) 38 g (A 0 0 + A 33 g)) (eF _ (by rw [if_neg h79, if_neg hN])) (((((((kF.rf 0 g S A).sr 5 g 9 none (fun z => absurd z (by decide)) (fun _ => rfl)).si 5 g 6 1 (fun z => absurd z (by decide)) (fun _ => rfl)).si 5 g 8 _ (fun z => absurd z (by decide)) (fun _ => rfl)).u 36 g 1 (fun z => absurd z.1 (by decide)) (fun _ => rfl)).u 38 g (A 0 0 + A 33 g) (fun z => absurd z.1 (by decide)) (fun _ => rfl)).w (by decide) (by decide) (by decide)) ?_ ?_ ?_ (Or.inl ⟨xr_si.trans (xr_si.trans xr_same), htp⟩)
          · exact (((xi_si (by decide)).trans xi_same)).trans (((y_off (by omega)).trans (y_same _ _ _ _))).symm
          · exact ((((xi_si (by decide)).trans ((xi_si (by decide)).trans xi_sr))).trans g7).trans (((y_off (by omega)).trans (y_off (by omega)))).symm
          · refine (xi_same).trans ?_
            rw [ht, g3]
            exact ((y_same _ _ _ _)).symm
        · intro S110 e110 S112 e112
          have htp : ¬ xm_r S 5 g 9 = some p := fun z => ht4 (e4.symm.trans z)
          have h79 : A 79 p = 0 := f79 (fun z => htp (x2.mp z))
          have h36 : A 36 g = 0 := g6.symm.trans h0
          have notri : ∀ c', xm_r S 5 g 9 = some c' → False := fun c' z => by have := tri2 c' z; rw [h36] at this; exact absurd this (by decide)
          have hz' : A 37 g + 1 = A 32 g := by rw [← g7, ← g2]; exact hz
          subst e19 e110 e112
          refine leaf _ (xm_u2 (xm_u2 (xm_u2 A 37 g (A 37 g + 1)) 36 g 1) 38 g (A 0 0 + A 33 g)) (eF _ (by rw [if_pos h79, if_pos h36, if_neg hN, if_pos hz'])) ((((((((kF.rf 0 g S A).si 5 g 7 _ (fun z => absurd z (by decide)) (fun _ => rfl)).si 5 g 6 1 (fun z => absurd z (by decide)) (fun _ => rfl)).si 5 g 8 _ (fun z => absurd z (by decide)) (fun _ => rfl)).u 37 g (A 37 g + 1) (fun z => absurd z.1 (by decide)) (fun _ => rfl)).u 36 g 1 (fun z => absurd z.1 (by decide)) (fun _ => rfl)).u 38 g (A 0 0 + A 33 g) (fun z => absurd z.1 (by decide)) (fun _ => rfl)).w (by decide) (by decide) (by decide)) ?_ ?_ ?_ (Or.inr ⟨rfl, htp, fun c' z => (notri c' z).elim⟩)
          · exact (((xi_si (by decide)).trans xi_same)).trans (((y_off (by omega)).trans (y_same _ _ _ _))).symm
          · refine (((xi_si (by decide)).trans ((xi_si (by decide)).trans xi_same))).trans ?_
            rw [g7]
            exact (((y_off (by omega)).trans ((y_off (by omega)).trans (y_same _ _ _ _)))).symm
          · refine (xi_same).trans ?_
            rw [ht, g3]
            exact ((y_same _ _ _ _)).symm
        · have htp : ¬ xm_r S 5 g 9 = some p := fun z => ht4 (e4.symm.trans z)
          have h79 : A 79 p = 0 := f79 (fun z => htp (x2.mp z))
          have h36 : A 36 g = 0 := g6.symm.trans h0
          have notri : ∀ c', xm_r S 5 g 9 = some c' → False := fun c' z => by have := tri2 c' z; rw [h36] at this; exact absurd this (by decide)
          have hz' : ¬ A 37 g + 1 = A 32 g := by rw [← g7, ← g2]; exact hz
          subst e19
          refine leaf _ (xm_u2 A 37 g (A 37 g + 1)) (eF _ (by rw [if_pos h79, if_pos h36, if_neg hN, if_neg hz'])) ((((kF.rf 0 g S A).si 5 g 7 _ (fun z => absurd z (by decide)) (fun _ => rfl)).u 37 g (A 37 g + 1) (fun z => absurd z.1 (by decide)) (fun _ => rfl)).w (by decide) (by decide) (by decide)) ?_ ?_ ?_ (Or.inr ⟨rfl, htp, fun c' z => (notri c' z).elim⟩)
          · exact (((xi_si (by decide))).trans g6).trans ((y_off (by omega))).symm
          · refine (xi_same).trans ?_
            rw [g7]
            exact ((y_same _ _ _ _)).symm
          · exact (((xi_si (by decide))).trans g8).trans ((y_off (by omega))).symm
        · have htp : ¬ xm_r S 5 g 9 = some p := fun z => ht4 (e4.symm.trans z)
          have h79 : A 79 p = 0 := f79 (fun z => htp (x2.mp z))
          have h36 : ¬ A 36 g = 0 := fun z => h0 (g6.trans z)
          refine leaf _ A (eF _ (by rw [if_pos h79, if_neg h36])) ((kF.rf 0 g S A).w (by decide) (by decide) (by decide)) ?_ ?_ ?_ (Or.inr ⟨rfl, htp, tri2⟩)
          · exact g6
          · exact g7
          · exact g8
end
