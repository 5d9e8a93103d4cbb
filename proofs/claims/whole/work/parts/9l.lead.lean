/-! ===== ONE THAT LEADS ENDS (printed by wip/whole/gen9l.py) ===== -/
section
/-- two that lead in one order and are under way are one -/
theorem k_lu {S : xm_S} {A : y_A} {X E B : Nat → Prop} {hb rb nb t w e1 e2 c k o : Nat} (hM : kM S A X E B hb rb nb t w e1 e2) (hc : c < xm_n S 1 6) (hk : k < xm_n S 1 6) (c0 : xm_i S 2 c 8 = 0) (k0 : xm_i S 2 k 8 = 0) (c14 : xm_i S 2 c 14 = 1) (k14 : xm_i S 2 k 14 = 1) (co : xm_r S 2 c 1 = some o) (ko : xm_r S 2 k 1 = some o) : k = c := by
  have h2 := hM.1.2.2.2.2.2.2.2.1
  have h3 := hM.1.2.2.2.2.2.2.2.2.1
  have j7 := hM.2.2.2.2.2.2.2.2.2.1
  have j11 := hM.2.2.2.2.2.2.2.2.2.2.2.2.2.1
  have j1 := hM.2.2.2.1
  have ho : o < xm_n S 1 5 := by
    obtain ⟨o', y1, y2, -⟩ := (h2 c hc).2.2.2.2.2.2.2.2.2.1
    rw [← Option.some.inj (y1.symm.trans co)]; exact y2
  have lead : ∀ x, x < xm_n S 1 6 → xm_i S 2 x 14 = 1 → xm_r S 2 x 1 = some o → ∃ g e, xm_r S 2 x 4 = some g ∧ xm_i S 5 g 1 = 8 ∧ k_tw S o e g := fun x hx x14 xo => by
    have h78 : A 78 x = 1 := (h2 x hx).2.2.2.2.2.2.2.1.symm.trans x14
    obtain ⟨g, y1, y2⟩ := (j7 x hx).2.2.2.2.1 (Or.inl h78)
    obtain ⟨e, x1, x2, x3⟩ := (j1 x hx).2.2.2
    exact ⟨g, e, y1, (h3 g (hM.gb x g hx y1)).2.1.trans y2, x3 g o y1 xo⟩
  obtain ⟨g, e, a1, a2, a3⟩ := lead c hc c14 co
  obtain ⟨g', e', b1, b2, b3⟩ := lead k hk k14 ko
  have := (k_tw.u hM ho a3 b3 (a2.trans b2.symm)).2
  exact j11.1 k c hk hc k0 c0 k14 c14 (by rw [a1, b1, this]) ⟨o, o, ko, co, rfl, rfl, rfl⟩
/-- behind the end of one that led: no one leads in its order -/
theorem k_lNl {S S1 : xm_S} {A A1 : y_A} {X E B : Nat → Prop} {hb rb nb t w e1 e2 c o : Nat} (hM : kM S A X E B hb rb nb t w e1 e2) (hc : c < xm_n S 1 6) (c0 : xm_i S 2 c 8 = 0) (c14 : xm_i S 2 c 14 = 1) (co : xm_r S 2 c 1 = some o) (hl : kL S S1 A A1) (hn : xm_i S1 2 c 8 ≠ 0) : kNl S1 o := fun k hk k0 k14 ko => by
  by_cases e : k < xm_n S 1 6
  · have hk' := hl.2.2.1 k e
    have := k_lu hM hc e c0 (hk'.2.2.2.2.2.2.1 k0) c14 (hk'.2.2.2.2.1.symm.trans k14) co (hk'.1.symm.trans ko)
    rw [this] at k0
    exact hn k0
  · rw [(hl.2.2.2.1 k (by omega) hk).2] at k14
    exact absurd k14 (by decide)
/-- and no one alike -/
theorem k_lLN {S S1 : xm_S} {A A1 : y_A} {X E B : Nat → Prop} {hb rb nb t w e1 e2 c : Nat} (hM : kM S A X E B hb rb nb t w e1 e2) (hc : c < xm_n S 1 6) (c0 : xm_i S 2 c 8 = 0) (c14 : xm_i S 2 c 14 = 1) (hl : kL S S1 A A1) (hn : xm_i S1 2 c 8 ≠ 0) : kLN S1 c := fun k hk k0 k14 k4 kl => by
  by_cases e : k < xm_n S 1 6
  · have hk' := hl.2.2.1 k e
    have := (hM.2.2.2.2.2.2.2.2.2.2.2.2.2.1).1 k c e hc (hk'.2.2.2.2.2.2.1 k0) c0 (hk'.2.2.2.2.1.symm.trans k14) c14 (by rw [← hk'.2.2.1, ← (hl.2.2.1 c hc).2.2.1]; exact k4) (k_lik.L hM.1 hl e hc kl)
    rw [this] at k0
    exact hn k0
  · rw [(hl.2.2.2.1 k (by omega) hk).2] at k14
    exact absurd k14 (by decide)
theorem kJN.up {D D' : Nat} (h : kJN D) (hd : D ≤ D') : kJN D' := fun S A X E hb rb nb t w L rest a1 a2 a3 a4 a5 a6 a7 => (h S A X E hb rb nb t w L rest a1 a2 a3 a4 a5 a6 a7).up hd
/-- the contract -/
def kEL (D e : Nat) : Prop := ∀ (S : xm_S) (A : y_A) (X E : Nat → Prop) (hb rb nb t w e1 e2 c o : Nat) (rest : List y_J), kM S A X (fun k => E k ∨ k = c) (fun _ => False) hb rb nb t w e1 e2 → c < xm_n S 1 6 → xm_i S 2 c 8 = 0 → ¬ A 75 c = 1 → kXd S X → kDl S A E → xm_i S 2 c 3 = nI e → xm_r S 2 c 1 = some o → xm_i S 2 c 14 = 1 → rest.length + 10 * e + 310 ≤ 20000 →
  (∀ v b : Int32, (b = 0 ∨ b = 1) → e1 ≤ 1 → e2 = 0 → xc D 30 [.inr (some (0, 0)), .inr (some (2, c)), .inl v, .inl b] S (kPo S A A (((1 : Int32), nI c, 1, v, b) :: ((3 : Int32), nI c, (-1 : Int32), (0 : Int32), (0 : Int32)) :: rest) rest X E hb rb nb t w)) ∧
  (∀ (f : Nat) (b : Int32), f < xm_n S 1 8 → (b = 0 ∨ b = 1) → e1 = 0 → e2 ≤ 1 → xc D 22 [.inr (some (0, 0)), .inr (some (2, c)), .inr (some (4, f))] S (kPo S A A (((1 : Int32), nI c, 2, nI f, b) :: ((3 : Int32), nI c, (-1 : Int32), (0 : Int32), (0 : Int32)) :: rest) rest X E hb rb nb t w))
theorem kEL.of {D e : Nat} (IH : ∀ ep, ep + 1 = e → ∀ s, kTN True D ep s) (hJN : kJN D) : kEL (D + 2) e := by
  intro S A X E hb rb nb t w e1 e2 c o rest hM hc h0 h75 hX hD he ho h14 hlen
  have hC := hM.1.1
  have hNN : ∀ S1 A1, kL S S1 A A1 → xm_i S1 2 c 8 ≠ 0 → True → kNl S1 o := fun S1 A1 hL hn _ => k_lNl hM hc h0 h14 ho hL hn
  have hJJ : ∀ h : Int32, (h = 1 ∨ h = 2) → ∀ S1 A1, kM S1 A1 X E (fun _ => False) hb rb nb t w 0 0 → kL S S1 A A1 → xm_i S1 2 c 8 = h → xc D 36 [.inr (some (0, 0)), .inr (some (2, c))] S1 (kPo S1 A1 A1 (((3 : Int32), nI c, (-1 : Int32), (0 : Int32), (0 : Int32)) :: rest) rest X E hb rb nb t w) := fun h hh S1 A1 hM1 hL z => by
    have hn : xm_i S1 2 c 8 ≠ 0 := by
      rw [z]
      rcases hh with y | y
      · rw [y]; decide
      · rw [y]; decide
    have hc1 : c < xm_n S1 1 6 := by
      have := hL.1.2.1
      omega
    have h69 : ¬ A1 69 c = 3 := by
      rw [← (hM1.1.2.2.2.2.2.2.2.1 c hc1).2.2.2.2.1, z]
      rcases hh with y | y
      · rw [y]; decide
      · rw [y]; decide
    have := hJN S1 A1 X E hb rb nb t w c rest hM1 hc1 hn (hX.L hL) (hD.L hL hM.gb) (k_lLN hM hc h0 h14 hL hn) (by omega)
    rw [if_neg h69] at this
    exact this
  have hll : (((3 : Int32), nI c, (-1 : Int32), (0 : Int32), (0 : Int32)) :: rest).length + 10 * e + 110 + kC True ≤ 20000 := by
    rw [List.length_cons, kC.t]
    omega
  refine ⟨fun v b hb1 z1 z2 => cw_endGood hC ⟨fun _ S2 e2' S4 e4 => ⟨hb1, fun S7 e7 => ?_⟩, fun z => absurd h0 z⟩, fun f b hf hb1 z1 z2 => cw_endFailed (a2 := some f) hC ⟨fun _ S2 e2' S4 e4 => ?_, fun z => absurd h0 z⟩⟩
  · subst e2' e4 e7
    refine xc.mono (c_fin (Nm := True) (fun ep hep => ⟨IH ep hep, kTJ.N⟩) hM hc h0 h75 hX hD he ho hNN (Or.inr ⟨h14, hJJ 1 (Or.inl rfl)⟩) hll (kEd.g S c hb1) hC rfl ((xi_si (by decide)).trans ((xi_si (by decide)).trans (xi_si (by decide)))) ((xi_si (by decide)).trans ((xi_si (by decide)).trans (xi_si (by decide)))) hb1 (if_pos rfl).symm (Or.inl ⟨rfl, by omega, by omega⟩)) ?_
    rintro r S' w
    exact ⟨w.1, w.2.1, rfl, w.2⟩
  · subst e2' e4
    refine xc.mono (c_fin (Nm := True) (fun ep hep => ⟨IH ep hep, kTJ.N⟩) hM hc h0 h75 hX hD he ho hNN (Or.inr ⟨h14, hJJ 2 (Or.inr rfl)⟩) hll (kEd.f S c hf) hC ((xr_sr (by decide)).trans rfl) (xi_sr.trans (xi_si (by decide))) (xi_sr.trans (xi_si (by decide))) hb1 (if_neg (by decide)).symm (Or.inr ⟨rfl, by omega, by omega⟩)) ?_
    rintro r S' w
    exact ⟨w.1, w.2.1, rfl, w.2⟩
theorem k_told_8 {A : y_A} {p c g : Nat} {js : List y_J} (hp : p < 4400) (hc : c < 4400) (hg : g < 24) (hG : A 65 p = nI g) (hs : A 31 g = 8) (hlen : js.length + 2 ≤ 20000) : rf_told (nI p) (nI c) A js = (A, ((1 : Int32), nI p, A 69 c, A 70 c, if A 71 c = 0 then (0 : Int32) else 1) :: ((3 : Int32), nI p, (-1 : Int32), (0 : Int32), (0 : Int32)) :: js) ∧ rg_told (nI p) (nI c) A js := by
  have ixp : y_ix (nI p) = p := y_ix_nI (by omega)
  have ixc : y_ix (nI c) = c := y_ix_nI (by omega)
  have ixg : y_ix (nI g) = g := y_ix_nI (by omega)
  unfold rf_told rg_told
  rw [ixp, hG, ixg]
  refine ⟨?_, ?_⟩
  · rw [if_neg (show ¬ A 31 g = 0 by rw [hs]; decide), if_neg (show ¬ A 31 g = 1 by rw [hs]; decide), if_neg (show ¬ A 31 g = 2 by rw [hs]; decide), if_neg (show ¬ A 31 g = 3 by rw [hs]; decide), if_neg (show ¬ A 31 g = 4 by rw [hs]; decide), if_neg (show ¬ A 31 g = 5 by rw [hs]; decide), if_neg (show ¬ A 31 g = 6 by rw [hs]; decide), if_neg (show ¬ A 31 g = 7 by rw [hs]; decide), if_pos hs]
    rw [ixc]
  · exact ⟨y_in_nI hp (by decide), y_in_nI hg (by decide), ⟨fun z2 => absurd z2 (by rw [hs]; decide), fun _ => ⟨fun z2 => absurd z2 (by rw [hs]; decide), fun _ => ⟨fun z2 => absurd z2 (by rw [hs]; decide), fun _ => ⟨fun z2 => absurd z2 (by rw [hs]; decide), fun _ => ⟨fun z2 => absurd z2 (by rw [hs]; decide), fun _ => ⟨fun z2 => absurd z2 (by rw [hs]; decide), fun _ => ⟨fun z2 => absurd z2 (by rw [hs]; decide), fun _ => ⟨fun z2 => absurd z2 (by rw [hs]; decide), fun _ => ⟨fun _ => ⟨by omega, k_alike hc (by rw [List.length_cons]; omega), trivial⟩, fun z => absurd hs z⟩⟩⟩⟩⟩⟩⟩⟩⟩⟩
theorem kTJ.G {D e : Nat} (IH : kEL D e) : kTJ False (D + 2) e := by
  intro S A X E hb rb nb t w p c o g rest hM hc hp hcp hp0 hh he ho hNl hl hX hD hEp hg hs hch hlen
  rw [kC.f] at hlen
  have hbd := hM.1.2.2.1
  unfold k_bnd at hbd
  have hgn := hM.gb p g hp hg
  have h2 := hM.1.2.2.2.2.2.2.2.1
  have hG : A 65 p = nI g := by
    have := (h2 p hp).2.2.2.2.2.2.2.2.2.2.2.1
    rw [hg] at this
    exact this
  have s1 : xm_i S 5 g 1 = 8 := ((hM.1.2.2.2.2.2.2.2.2.1 g hgn).2.1).trans hs
  obtain ⟨r1, r2⟩ := k_told_8 (A := A) (c := c) (js := rest) (by omega) (by omega) (by omega) hG hs (by omega)
  have h75 : ¬ A 75 p = 1 := fun z => by
    obtain ⟨g', y1, y2⟩ := (hM.2.2.2.2.2.2.2.2.2.1 p hp).2.1 (Or.inl z)
    rw [← Option.some.inj (hg.symm.trans y1), hs] at y2
    exact absurd y2 (by decide)
  have hM2 := hM.exm hp hch (fun g' hg' => by rw [← Option.some.inj (hg.symm.trans hg'), hs]; decide)
  obtain ⟨i1, i2⟩ := IH S A X E hb rb nb t w 0 0 p o rest hM2 hp hp0 h75 hX hD he ho hl (by omega)
  have hcc := h2 c hc
  have h8 := hcc.2.2.2.2.1
  have h9 := hcc.2.2.2.2.2.2.2.2.2.2.2.2.2.2.1
  have h11 := hcc.2.2.2.2.2.2.2.2.2.2.2.2.2.2.2.1
  have h10 := hcc.2.2.2.2.2.1
  have h71 := hcc.2.2.2.2.2.2.2.2.2.2.2.2.2.2.2.2.1
  have hfb := hcc.2.2.2.2.2.2.2.2.2.2.2.2.2.2.2.2.2.2.2.2.2.2.2.2.2.2.2
  have up : ∀ r S', kPo S A A (((1 : Int32), nI p, A 69 c, A 70 c, if A 71 c = 0 then (0 : Int32) else 1) :: ((3 : Int32), nI p, (-1 : Int32), (0 : Int32), (0 : Int32)) :: rest) rest X E hb rb nb t w r S' → r = none ∧ xk_C S' ∧ kPo S A A (((1 : Int32), nI p, A 69 c, A 70 c, if A 71 c = 0 then (0 : Int32) else 1) :: ((3 : Int32), nI p, (-1 : Int32), (0 : Int32), (0 : Int32)) :: rest) rest X E hb rb nb t w none S' := fun r S' z => by
    obtain ⟨z1, z2, z3⟩ := z
    exact ⟨z1, z2, rfl, z2, z3⟩
  refine ⟨_, _, r1, r2, cw_tell (d := D) hM.1.1 (fun t1' e1 => ⟨fun z => ?_, fun g' z => ?_⟩)⟩
  · rw [hg, z] at e1; cases e1
  · rw [hg, z] at e1
    obtain rfl := Option.some.inj e1
    refine ⟨fun _ => ⟨fun z => absurd (s1.symm.trans z) (by decide), fun _ => ⟨fun z => absurd (s1.symm.trans z) (by decide), fun _ => ⟨fun z => absurd (s1.symm.trans z) (by decide), fun _ => ⟨fun z => absurd (s1.symm.trans z) (by decide), fun _ => ⟨fun z => absurd (s1.symm.trans z) (by decide), fun _ => ⟨fun z => absurd (s1.symm.trans z) (by decide), fun _ => ⟨fun z => absurd (s1.symm.trans z) (by decide), fun _ => ⟨fun z => absurd (s1.symm.trans z) (by decide), fun _ => ⟨fun _ => ⟨fun z => ?_, fun z t50 e50 => ?_⟩, fun z => absurd s1 z⟩⟩⟩⟩⟩⟩⟩⟩⟩, fun z => absurd hp0 z⟩
    · have z69 : A 69 c = 1 := by rw [← h8]; exact z
      rw [z69, if_pos rfl] at h9
      have := i1 (A 70 c) (A 71 c) h71 (by omega) rfl
      have e : (if A 71 c = 0 then (0 : Int32) else 1) = A 71 c := by
        rcases h71 with y | y
        · rw [y, if_pos rfl]
        · rw [y, if_neg (by decide)]
      rw [h9, h10]
      refine xc.mono this (fun r S' y => up r S' ?_)
      rw [e, z69]
      exact y
    · have z69 : A 69 c = 2 := hh.resolve_left (fun y => z (by rw [h8]; exact y))
      have h82 : xm_i S 2 c 8 = 2 := by rw [h8]; exact z69
      obtain ⟨f, hf⟩ := ((hM.2.2.2.2.2.2.2.2.2.2.2.2.2.2.1).2.2.choose_spec.2.2.2 c hc).2.1 h82
      rw [z69, if_pos rfl, hf] at h11
      have hfn := hfb f hf
      have hbb : (if A 71 c = 0 then (0 : Int32) else 1) = 0 ∨ (if A 71 c = 0 then (0 : Int32) else 1) = 1 := by
        by_cases y : A 71 c = 0
        · exact Or.inl (if_pos y)
        · exact Or.inr (if_neg y)
      rw [hf] at e50
      rw [← e50]
      refine xc.mono (i2 f _ hfn hbb rfl (by omega)) (fun r S' y => up r S' ?_)
      rw [z69, ← h11]
      exact y
end
