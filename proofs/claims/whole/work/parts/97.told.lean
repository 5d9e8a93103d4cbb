/-! ===== A PARENT IS TOLD: limit, deadline, bulkhead (printed by wip/whole/gen97.py) ===== -/
section
theorem kEN.up {Nm : Prop} {D D' e : Nat} (h : kEN Nm D e) (hd : D ≤ D') : kEN Nm D' e := fun S A X E hb rb nb t w e1 e2 c o rest a1 a2 a3 a4 a5 a6 a7 a8 a9 a10 => by
  obtain ⟨i1, i2⟩ := h S A X E hb rb nb t w e1 e2 c o rest a1 a2 a3 a4 a5 a6 a7 a8 a9 a10
  exact ⟨fun v b z1 z2 z3 => (i1 v b z1 z2 z3).up hd, fun f b z1 z2 z3 z4 => (i2 f b z1 z2 z3 z4).up hd⟩
/-- ends as the inner one did: as the class says it -/
theorem c_al {Nm : Prop} {D e : Nat} (IH : kEN Nm D e) {S S2 : xm_S} {A A2 : y_A} {X E : Nat → Prop} {hb rb nb t w p c o : Nat} {rest : List y_J} (hL : kL S S2 A A2) (hM : kM S2 A2 X (fun k => E k ∨ k = p) (fun _ => False) hb rb nb t w 0 0) (ht : kTp Nm S2 A2 p c e o) (hX : kXd S2 X) (hD : kDl S2 A2 E) (h75 : ¬ A2 75 p = 1) (hlen : rest.length + 10 * e + 110 + kC Nm ≤ 20000) (e8 : xm_i S 2 c 8 = xm_i S2 2 c 8) (e9 : xm_i S 2 c 9 = xm_i S2 2 c 9) (e10 : xm_i S 2 c 10 = xm_i S2 2 c 10) (e11 : xm_r S 2 c 11 = xm_r S2 2 c 11) :
    (xm_i S 2 c 8 = 1 → xc D 30 [.inr (some (0, 0)), .inr (some (2, p)), .inl (xm_i S 2 c 9), .inl (xm_i S 2 c 10)] S2 (fun r S12 => r = none ∧ xk_C S12 ∧ kPo S A A2 (((1 : Int32), nI p, A2 69 c, A2 70 c, if A2 71 c = 0 then (0 : Int32) else 1) :: rest) rest X E hb rb nb t w none S12)) ∧ (¬ xm_i S 2 c 8 = 1 → ∀ t14, xm_r S 2 c 11 = t14 → xc D 22 [.inr (some (0, 0)), .inr (some (2, p)), .inr (xo 4 t14)] S2 (fun r S16 => r = none ∧ xk_C S16 ∧ kPo S A A2 (((1 : Int32), nI p, A2 69 c, A2 70 c, if A2 71 c = 0 then (0 : Int32) else 1) :: rest) rest X E hb rb nb t w none S16)) := by
  obtain ⟨i1, i2⟩ := c_alike IH hM ht hX hD h75 hlen
  have up : ∀ r S', kPo S2 A2 A2 (((1 : Int32), nI p, A2 69 c, A2 70 c, if A2 71 c = 0 then (0 : Int32) else 1) :: rest) rest X E hb rb nb t w r S' → r = none ∧ xk_C S' ∧ kPo S A A2 (((1 : Int32), nI p, A2 69 c, A2 70 c, if A2 71 c = 0 then (0 : Int32) else 1) :: rest) rest X E hb rb nb t w none S' := fun r S' z => by
    obtain ⟨z1, z2, A', z3, z4, z5⟩ := z
    exact ⟨z1, z2, rfl, z2, A', z3, z4, hL.tr z5⟩
  rw [e8, e9, e10, e11]
  refine ⟨fun z => xc.mono (i1 z) up, fun z t14 e14 => ?_⟩
  obtain ⟨f, f1, f2, f3, f4⟩ := i2 z
  rw [f1] at e14
  rw [← e14]
  exact xc.mono f4 up
theorem k_alike {A : y_A} {p c : Nat} {js : List y_J} (hc : c < 4400) (hlen : js.length < 20000) : rg_alike (nI p) (nI c) A js := ⟨y_in_nI hc (by decide), fun _ => ⟨hlen, trivial⟩, fun _ => ⟨hlen, trivial⟩⟩
theorem k_told_1 {A : y_A} {p c g : Nat} {js : List y_J} (hp : p < 4400) (hc : c < 4400) (hg : g < 24) (hG : A 65 p = nI g) (hs : A 31 g = 1) : rf_told (nI p) (nI c) A js = (xm_u2 (xm_u2 A 77 p 0) 39 g (A 39 g - 1), ((1 : Int32), nI p, A 69 c, A 70 c, if A 71 c = 0 then (0 : Int32) else 1) :: js) ∧ (rg_alike (nI p) (nI c) (xm_u2 (xm_u2 A 77 p 0) 39 g (A 39 g - 1)) js → rg_told (nI p) (nI c) A js) := by
  have ixp : y_ix (nI p) = p := y_ix_nI (by omega)
  have ixc : y_ix (nI c) = c := y_ix_nI (by omega)
  have ixg : y_ix (nI g) = g := y_ix_nI (by omega)
  unfold rf_told rg_told
  rw [ixp, hG, ixg]
  refine ⟨?_, fun z => ?_⟩
  · rw [if_neg (show ¬ A 31 g = 0 by rw [hs]; decide), if_pos hs]
    rw [ixc]
  · exact ⟨y_in_nI hp (by decide), y_in_nI hg (by decide), ⟨fun z2 => absurd z2 (by rw [hs]; decide), fun _ => ⟨fun _ => ⟨z, trivial⟩, fun z => absurd hs z⟩⟩⟩
theorem k_told_2 {A : y_A} {p c g : Nat} {js : List y_J} (hp : p < 4400) (hc : c < 4400) (hg : g < 24) (hG : A 65 p = nI g) (hs : A 31 g = 2) : rf_told (nI p) (nI c) A js = (A, ((1 : Int32), nI p, A 69 c, A 70 c, if A 71 c = 0 then (0 : Int32) else 1) :: js) ∧ (rg_alike (nI p) (nI c) A js → rg_told (nI p) (nI c) A js) := by
  have ixp : y_ix (nI p) = p := y_ix_nI (by omega)
  have ixc : y_ix (nI c) = c := y_ix_nI (by omega)
  have ixg : y_ix (nI g) = g := y_ix_nI (by omega)
  unfold rf_told rg_told
  rw [ixp, hG, ixg]
  refine ⟨?_, fun z => ?_⟩
  · rw [if_neg (show ¬ A 31 g = 0 by rw [hs]; decide), if_neg (show ¬ A 31 g = 1 by rw [hs]; decide), if_pos hs]
    rw [ixc]
  · exact ⟨y_in_nI hp (by decide), y_in_nI hg (by decide), ⟨fun z2 => absurd z2 (by rw [hs]; decide), fun _ => ⟨fun z2 => absurd z2 (by rw [hs]; decide), fun _ => ⟨fun _ => ⟨z, trivial⟩, fun z => absurd hs z⟩⟩⟩⟩
theorem k_told_3 {A : y_A} {p c g : Nat} {js : List y_J} (hp : p < 4400) (hc : c < 4400) (hg : g < 24) (hG : A 65 p = nI g) (hs : A 31 g = 3) : rf_told (nI p) (nI c) A js = (A, ((1 : Int32), nI p, A 69 c, A 70 c, if A 71 c = 0 then (0 : Int32) else 1) :: js) ∧ (rg_alike (nI p) (nI c) A js → rg_told (nI p) (nI c) A js) := by
  have ixp : y_ix (nI p) = p := y_ix_nI (by omega)
  have ixc : y_ix (nI c) = c := y_ix_nI (by omega)
  have ixg : y_ix (nI g) = g := y_ix_nI (by omega)
  unfold rf_told rg_told
  rw [ixp, hG, ixg]
  refine ⟨?_, fun z => ?_⟩
  · rw [if_neg (show ¬ A 31 g = 0 by rw [hs]; decide), if_neg (show ¬ A 31 g = 1 by rw [hs]; decide), if_neg (show ¬ A 31 g = 2 by rw [hs]; decide), if_pos hs]
    rw [ixc]
  · exact ⟨y_in_nI hp (by decide), y_in_nI hg (by decide), ⟨fun z2 => absurd z2 (by rw [hs]; decide), fun _ => ⟨fun z2 => absurd z2 (by rw [hs]; decide), fun _ => ⟨fun z2 => absurd z2 (by rw [hs]; decide), fun _ => ⟨fun _ => ⟨z, trivial⟩, fun z => absurd hs z⟩⟩⟩⟩⟩
theorem k_told_0 {A : y_A} {p c g : Nat} {js : List y_J} (hp : p < 4400) (hc : c < 4400) (hg : g < 24) (hG : A 65 p = nI g) (hs : A 31 g = 0) : rf_told (nI p) (nI c) A js = (rf_fuseTold (nI p) (nI c) (nI g) A, ((1 : Int32), nI p, (rf_fuseTold (nI p) (nI c) (nI g) A) 69 c, (rf_fuseTold (nI p) (nI c) (nI g) A) 70 c, if (rf_fuseTold (nI p) (nI c) (nI g) A) 71 c = 0 then (0 : Int32) else 1) :: js) ∧ (rg_fuseTold (nI p) (nI c) (nI g) A ∧ rg_alike (nI p) (nI c) (rf_fuseTold (nI p) (nI c) (nI g) A) js → rg_told (nI p) (nI c) A js) := by
  have ixp : y_ix (nI p) = p := y_ix_nI (by omega)
  have ixc : y_ix (nI c) = c := y_ix_nI (by omega)
  have ixg : y_ix (nI g) = g := y_ix_nI (by omega)
  unfold rf_told rg_told
  rw [ixp, hG, ixg]
  refine ⟨?_, fun z => ?_⟩
  · rw [if_pos hs]
    rw [ixc]
  · exact ⟨y_in_nI hp (by decide), y_in_nI hg (by decide), ⟨fun _ => ⟨z.1, z.2, trivial⟩, fun z => absurd hs z⟩⟩
theorem k_told_4 {A : y_A} {p c g : Nat} {js : List y_J} (hp : p < 4400) (hc : c < 4400) (hg : g < 24) (hG : A 65 p = nI g) (hs : A 31 g = 4) : rf_told (nI p) (nI c) A js = rf_retryTold (nI p) (nI c) (nI g) A js ∧ (rg_retryTold (nI p) (nI c) (nI g) A js → rg_told (nI p) (nI c) A js) := by
  have ixp : y_ix (nI p) = p := y_ix_nI (by omega)
  have ixc : y_ix (nI c) = c := y_ix_nI (by omega)
  have ixg : y_ix (nI g) = g := y_ix_nI (by omega)
  unfold rf_told rg_told
  rw [ixp, hG, ixg]
  refine ⟨?_, fun z => ?_⟩
  · rw [if_neg (show ¬ A 31 g = 0 by rw [hs]; decide), if_neg (show ¬ A 31 g = 1 by rw [hs]; decide), if_neg (show ¬ A 31 g = 2 by rw [hs]; decide), if_neg (show ¬ A 31 g = 3 by rw [hs]; decide), if_pos hs]
  · exact ⟨y_in_nI hp (by decide), y_in_nI hg (by decide), ⟨fun z2 => absurd z2 (by rw [hs]; decide), fun _ => ⟨fun z2 => absurd z2 (by rw [hs]; decide), fun _ => ⟨fun z2 => absurd z2 (by rw [hs]; decide), fun _ => ⟨fun z2 => absurd z2 (by rw [hs]; decide), fun _ => ⟨fun _ => ⟨z, trivial⟩, fun z => absurd hs z⟩⟩⟩⟩⟩⟩
theorem k_told_5 {A : y_A} {p c g : Nat} {js : List y_J} (hp : p < 4400) (hc : c < 4400) (hg : g < 24) (hG : A 65 p = nI g) (hs : A 31 g = 5) : rf_told (nI p) (nI c) A js = rf_hedgeTold (nI p) (nI c) A js ∧ (rg_hedgeTold (nI p) (nI c) A js → rg_told (nI p) (nI c) A js) := by
  have ixp : y_ix (nI p) = p := y_ix_nI (by omega)
  have ixc : y_ix (nI c) = c := y_ix_nI (by omega)
  have ixg : y_ix (nI g) = g := y_ix_nI (by omega)
  unfold rf_told rg_told
  rw [ixp, hG, ixg]
  refine ⟨?_, fun z => ?_⟩
  · rw [if_neg (show ¬ A 31 g = 0 by rw [hs]; decide), if_neg (show ¬ A 31 g = 1 by rw [hs]; decide), if_neg (show ¬ A 31 g = 2 by rw [hs]; decide), if_neg (show ¬ A 31 g = 3 by rw [hs]; decide), if_neg (show ¬ A 31 g = 4 by rw [hs]; decide), if_pos hs]
  · exact ⟨y_in_nI hp (by decide), y_in_nI hg (by decide), ⟨fun z2 => absurd z2 (by rw [hs]; decide), fun _ => ⟨fun z2 => absurd z2 (by rw [hs]; decide), fun _ => ⟨fun z2 => absurd z2 (by rw [hs]; decide), fun _ => ⟨fun z2 => absurd z2 (by rw [hs]; decide), fun _ => ⟨fun z2 => absurd z2 (by rw [hs]; decide), fun _ => ⟨fun _ => ⟨z, trivial⟩, fun z => absurd hs z⟩⟩⟩⟩⟩⟩⟩
theorem k_told_6 {A : y_A} {p c g : Nat} {js : List y_J} (hp : p < 4400) (hc : c < 4400) (hg : g < 24) (hG : A 65 p = nI g) (hs : A 31 g = 6) : rf_told (nI p) (nI c) A js = rf_fallbackTold (nI p) (nI c) (nI g) A js ∧ (rg_fallbackTold (nI p) (nI c) (nI g) A js → rg_told (nI p) (nI c) A js) := by
  have ixp : y_ix (nI p) = p := y_ix_nI (by omega)
  have ixc : y_ix (nI c) = c := y_ix_nI (by omega)
  have ixg : y_ix (nI g) = g := y_ix_nI (by omega)
  unfold rf_told rg_told
  rw [ixp, hG, ixg]
  refine ⟨?_, fun z => ?_⟩
  · rw [if_neg (show ¬ A 31 g = 0 by rw [hs]; decide), if_neg (show ¬ A 31 g = 1 by rw [hs]; decide), if_neg (show ¬ A 31 g = 2 by rw [hs]; decide), if_neg (show ¬ A 31 g = 3 by rw [hs]; decide), if_neg (show ¬ A 31 g = 4 by rw [hs]; decide), if_neg (show ¬ A 31 g = 5 by rw [hs]; decide), if_pos hs]
  · exact ⟨y_in_nI hp (by decide), y_in_nI hg (by decide), ⟨fun z2 => absurd z2 (by rw [hs]; decide), fun _ => ⟨fun z2 => absurd z2 (by rw [hs]; decide), fun _ => ⟨fun z2 => absurd z2 (by rw [hs]; decide), fun _ => ⟨fun z2 => absurd z2 (by rw [hs]; decide), fun _ => ⟨fun z2 => absurd z2 (by rw [hs]; decide), fun _ => ⟨fun z2 => absurd z2 (by rw [hs]; decide), fun _ => ⟨fun _ => ⟨z, trivial⟩, fun z => absurd hs z⟩⟩⟩⟩⟩⟩⟩⟩
theorem kTN.s2 {Nm : Prop} {D e : Nat} (IH : kEN Nm D e) : kTN Nm (D + 3) e 2 := by
  intro S A X E hb rb nb t w p c o g rest hM hT hX hD hEp hg hs hon hch hlat hlen
  have hTT := hT
  obtain ⟨t1, t2, t3, t4, t5, t6, t7, t8, t9⟩ := hT
  have hbd := hM.1.2.2.1
  unfold k_bnd at hbd
  have hgn := hM.gb p g t2 hg
  have hG : A 65 p = nI g := by
    have := (hM.1.2.2.2.2.2.2.2.1 p t2).2.2.2.2.2.2.2.2.2.2.2.1
    rw [hg] at this
    exact this
  have s1 : xm_i S 5 g 1 = 2 := ((hM.1.2.2.2.2.2.2.2.2.1 g hgn).2.1).trans hs
  obtain ⟨r1, r2⟩ := k_told_2 (A := A) (c := c) (js := rest) (by omega) (by omega) (by omega) hG hs
  have h75 : ¬ A 75 p = 1 := fun z => by
    obtain ⟨g', y1, y2⟩ := (hM.2.2.2.2.2.2.2.2.2.1 p t2).2.1 (Or.inl z)
    rw [← Option.some.inj (hg.symm.trans y1), hs] at y2
    exact absurd y2 (by decide)
  have hM2 : kM S A X (fun k => E k ∨ k = p) (fun _ => False) hb rb nb t w 0 0 := by
    have := hM.exm t2 (fun k hk hkp h0 => absurd (hs.symm.trans (hch k hk hkp h0)) (by decide)) (fun g' hg' => by rw [← Option.some.inj (hg.symm.trans hg'), hs]; decide)
    have e : (fun k => (E k ∨ (k = p ∧ A 31 g = 3)) ∨ k = p) = (fun k => E k ∨ k = p) := by
      funext k
      exact propext ⟨fun z => by
        rcases z with (z | z) | z
        · exact Or.inl z
        · exact Or.inr z.1
        · exact Or.inr z, fun z => z.imp Or.inl id⟩
    rw [e] at this
    exact this
  refine ⟨_, _, r1, r2 (k_alike (by omega) (by omega)), xc.up (d := D + 2) (cw_tell (d := D) hM.1.1 (fun t1' e1 => ⟨fun z => ?_, fun g' z => ?_⟩)) (by omega)⟩
  · rw [hg, z] at e1; cases e1
  · rw [hg, z] at e1
    obtain rfl := Option.some.inj e1
    exact ⟨fun _ => ⟨fun z => absurd (s1.symm.trans z) (by decide), fun _ => ⟨fun z => absurd (s1.symm.trans z) (by decide), fun _ => ⟨fun _ => c_al IH hM.later hM2 hTT hX hD h75 (by omega) rfl rfl rfl rfl, fun z => absurd s1 z⟩⟩⟩, fun z => absurd t4 z⟩
theorem kTN.s3 {Nm : Prop} {D e : Nat} (IH : kEN Nm D e) : kTN Nm (D + 3) e 3 := by
  intro S A X E hb rb nb t w p c o g rest hM hT hX hD hEp hg hs hon hch hlat hlen
  have hTT := hT
  obtain ⟨t1, t2, t3, t4, t5, t6, t7, t8, t9⟩ := hT
  have hbd := hM.1.2.2.1
  unfold k_bnd at hbd
  have hgn := hM.gb p g t2 hg
  have hG : A 65 p = nI g := by
    have := (hM.1.2.2.2.2.2.2.2.1 p t2).2.2.2.2.2.2.2.2.2.2.2.1
    rw [hg] at this
    exact this
  have s1 : xm_i S 5 g 1 = 3 := ((hM.1.2.2.2.2.2.2.2.2.1 g hgn).2.1).trans hs
  obtain ⟨r1, r2⟩ := k_told_3 (A := A) (c := c) (js := rest) (by omega) (by omega) (by omega) hG hs
  have h75 : ¬ A 75 p = 1 := fun z => by
    obtain ⟨g', y1, y2⟩ := (hM.2.2.2.2.2.2.2.2.2.1 p t2).2.1 (Or.inl z)
    rw [← Option.some.inj (hg.symm.trans y1), hs] at y2
    exact absurd y2 (by decide)
  have hM2 : kM S A X (fun k => E k ∨ k = p) (fun _ => False) hb rb nb t w 0 0 := by
    have := hM.exm t2 (fun k hk hkp h0 => absurd (hs.symm.trans (hch k hk hkp h0)) (by decide)) (fun g' hg' => by rw [← Option.some.inj (hg.symm.trans hg'), hs]; decide)
    have e : (fun k => (E k ∨ (k = p ∧ A 31 g = 3)) ∨ k = p) = (fun k => E k ∨ k = p) := by
      funext k
      exact propext ⟨fun z => by
        rcases z with (z | z) | z
        · exact Or.inl z
        · exact Or.inr z.1
        · exact Or.inr z, fun z => z.imp Or.inl id⟩
    rw [e] at this
    exact this
  refine ⟨_, _, r1, r2 (k_alike (by omega) (by omega)), xc.up (d := D + 2) (cw_tell (d := D) hM.1.1 (fun t1' e1 => ⟨fun z => ?_, fun g' z => ?_⟩)) (by omega)⟩
  · rw [hg, z] at e1; cases e1
  · rw [hg, z] at e1
    obtain rfl := Option.some.inj e1
    exact ⟨fun _ => ⟨fun z => absurd (s1.symm.trans z) (by decide), fun _ => ⟨fun z => absurd (s1.symm.trans z) (by decide), fun _ => ⟨fun z => absurd (s1.symm.trans z) (by decide), fun _ => ⟨fun _ => c_al IH hM.later hM2 hTT hX hD h75 (by omega) rfl rfl rfl rfl, fun z => absurd s1 z⟩⟩⟩⟩, fun z => absurd t4 z⟩
theorem kTN.s1 {Nm : Prop} {D e : Nat} (IH : kEN Nm D e) : kTN Nm (D + 3) e 1 := by
  intro S A X E hb rb nb t w p c o g rest hM hT hX hD hEp hg hs hon hch hlat hlen
  have hTT := hT
  obtain ⟨t1, t2, t3, t4, t5, t6, t7, t8, t9⟩ := hT
  have hbd := hM.1.2.2.1
  unfold k_bnd at hbd
  have hgn := hM.gb p g t2 hg
  have hG : A 65 p = nI g := by
    have := (hM.1.2.2.2.2.2.2.2.1 p t2).2.2.2.2.2.2.2.2.2.2.2.1
    rw [hg] at this
    exact this
  have s1 : xm_i S 5 g 1 = 1 := ((hM.1.2.2.2.2.2.2.2.2.1 g hgn).2.1).trans hs
  obtain ⟨r1, r2⟩ := k_told_1 (A := A) (c := c) (js := rest) (by omega) (by omega) (by omega) hG hs
  have hEq : (fun k => E k ∨ (k = p ∧ A 31 g = 3)) = E := by
    funext k
    exact propext ⟨fun z => z.resolve_right (fun y => absurd (hs.symm.trans y.2) (by decide)), Or.inl⟩
  rw [hEq] at hM
  have h75 : ¬ A 75 p = 1 := fun z => by
    obtain ⟨q, q1, -⟩ := (hM.1.2.2.2.2.2.2.2.2.1 g hgn).2.2.2.2.2.2.2.2.2.2.2.2.1
    obtain ⟨i, i1, i2⟩ := (hM.2.2.2.2.2.2.2.2.2.2.2.1 g q hgn q1).2.2 p t2 (Or.inl t4) hg z
    have h16 := ((hM.2.2.2.2.2.2.2.2.2.2.2.1 g q hgn q1).1 i p i1 i2).2.2.2
    obtain ⟨m1, m2, n, n1, n2, n3, n4⟩ := (hM.2.2.2.2.2.2.2.2.1).1 p t2
    have hn0 : n = 0 := (nI_eq (a := n) (b := 0) (by omega) (by decide)).mp (n2.symm.trans h16)
    exact m1 (n3.mp hn0) c t1 t3
  refine ⟨_, _, r1, r2 (k_alike (by omega) (by omega)), xc.up (d := D + 2) (cw_tell (d := D) hM.1.1 (fun t1' e1 => ⟨fun z => ?_, fun g' z => ?_⟩)) (by omega)⟩
  · rw [hg, z] at e1; cases e1
  · rw [hg, z] at e1
    obtain rfl := Option.some.inj e1
    refine ⟨fun _ => ⟨fun z => absurd (s1.symm.trans z) (by decide), fun _ => ⟨fun _ S9 e9 => ?_, fun z => absurd s1 z⟩⟩, fun z => absurd t4 z⟩
    have hF : kF p g [(5, 10)] [] [39, 77] S S9 A (xm_u2 (xm_u2 A 77 p 0) 39 g (A 39 g - 1)) := by
      subst e9
      exact (((kF.rf p g S A).si 5 g 10 _ (fun z => absurd z (by decide)) (fun _ => rfl)).u 77 p 0 (fun _ => rfl) (fun z => absurd z.2 (by decide))).u 39 g _ (fun z => absurd z.1 (by decide)) (fun _ => rfl)
    have hF' := hF.w (I' := [(5, 10)]) (R' := []) (Z' := [77, 39]) (by decide) (by decide) (by decide)
    have hM2 := hM.bulk t2 hg (fun k hk hkp h0 => absurd (hs.symm.trans (hch k hk hkp h0)) (by decide)) hF' (by
      subst e9
      refine xi_same.trans ?_
      rw [y_same, (hM.1.2.2.2.2.2.2.2.2.1 g hgn).2.2.2.2.2.2.2.2.2.1]) ((y_off (by omega)).trans (y_same _ _ _ _)) hs
    have hL := hF'.L hM (by decide) (by decide) (by decide)
    have I : ∀ j k, xm_i S9 2 k j = xm_i S 2 k j := fun j k => by subst e9; exact xi_si (fun z => absurd z.1 (by decide))
    have R : ∀ j k, xm_r S9 2 k j = xm_r S 2 k j := fun j k => by subst e9; rfl
    have n6 : xm_n S9 1 6 = xm_n S 1 6 := by rw [hF'.1]
    have a := fun x (hx : x ≠ 77 ∧ x ≠ 39) k => hF'.2.2.2.2.1 x (by simp only [List.mem_cons, List.not_mem_nil, or_false]; omega) k
    exact c_al IH hL hM2 ⟨by omega, by omega, (R _ _).trans t3, (I _ _).trans t4, by rw [a 69 (by decide)]; exact t5, by rw [a 68 (by decide), a 0 (by decide)]; exact t6, (I _ _).trans t7, (R _ _).trans t8, t9.L hL⟩ (hX.L hL) (hD.L hL hM.gb) (by rw [a 75 (by decide)]; exact h75) (by omega) (I _ _).symm (I _ _).symm (I _ _).symm (R _ _).symm
end
