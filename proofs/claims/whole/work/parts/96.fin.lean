/-! ===== A CALL ENDS: out of what its parent does ===== -/
section
/-- the only inner one -/
theorem k_only {S : xm_S} {A : y_A} {X E B : Nat → Prop} {hb rb nb t w e1 e2 c p g : Nat} (h : kM S A X E B hb rb nb t w e1 e2) (hc : c < xm_n S 1 6) (h0 : xm_i S 2 c 8 = 0) (hp : xm_r S 2 c 2 = some p) (hg : xm_r S 2 p 4 = some g) : (A 31 g ≠ 4 → A 31 g ≠ 5 → A 31 g ≠ 6 → ∀ k, k < xm_n S 1 6 → xm_r S 2 k 2 = some p → k = c) ∧ (A 31 g ≠ 5 → ∀ k, k < xm_n S 1 6 → xm_r S 2 k 2 = some p → k ≠ c → xm_i S 2 k 8 ≠ 0) ∧ (A 31 g ≠ 5 → xm_r S 2 p 17 = some c) := by
  obtain ⟨hE, -, -, ⟨j1, -, -, -, -, j6, -, -, -, j10, -⟩⟩ := h
  have hpc := (hE.2.2.2.2.2.2.2.1 c hc).2.2.2.2.2.2.2.2.2.2.2.2.2.2.2.2.2.2.2.2.2.2.2.2.2.1 p hp
  have hpn : p < xm_n S 1 6 := by omega
  have hp0 : xm_i S 2 p 8 = 0 := ((j1 c hc).2.2.1 p hp).2.2.2 h0
  obtain ⟨y1, y6, y2, y3, y4, y5⟩ := j10.2 p g hpn hp0 hg
  obtain ⟨m1, m2, n, n1, n2, n3, n4⟩ := j6.1 p hpn
  rcases hl : xm_r S 2 p 17 with _ | l
  · exact absurd hp (m1 hl c hc)
  obtain ⟨l1, l2, l3⟩ := m2 l hl
  have one : xm_i S 2 p 16 = 0 ∨ xm_i S 2 p 16 = 1 → ∀ k, k < xm_n S 1 6 → xm_r S 2 k 2 = some p → k = c := fun z => by
    have hn : n = 1 := by
      rcases z with z | z
      · have : n = 0 := (nI_eq (a := n) (b := 0) (by omega) (by decide)).mp (n2.symm.trans z)
        have := n3.mp this
        rw [hl] at this
        cases this
      · exact (nI_eq (a := n) (b := 1) (by omega) (by decide)).mp (n2.symm.trans z)
    have hlb := (n4 l hl).1.mp hn
    have hone : ∀ x, x < xm_n S 1 6 → xm_r S 2 x 2 = some p → x = l := fun x hx hxp => by
      have x1 := l3 x hx hxp
      have x2 := (j6.2 l p l1 l2).1 hlb x hx hxp
      omega
    exact fun k hk hkp => (hone k hk hkp).trans (hone c hc hp).symm
  have lat : A 31 g ≠ 5 → l = c := fun h5 => by
    by_cases s : A 31 g = 4 ∨ A 31 g = 6
    · exact Classical.byContradiction fun z => by
        have := y6 s c hc hp (fun y => z (Option.some.inj (hl.symm.trans y)))
        rw [h0] at this
        exact absurd this (by decide)
    · exact one (y4 (fun z => s (Or.inl z)) h5 (fun z => s (Or.inr z))) l l1 l2
  refine ⟨fun a b d => one (y4 a b d), fun h5 k hk hkp hkc => ?_, fun h5 => by rw [lat h5]⟩
  by_cases s : A 31 g = 4 ∨ A 31 g = 6
  · rw [y6 s k hk hkp (fun y => hkc (by rw [← lat h5]; exact (Option.some.inj (hl.symm.trans y)).symm))]
    decide
  · exact absurd (one (y4 (fun z => s (Or.inl z)) h5 (fun z => s (Or.inr z))) k hk hkp) hkc
theorem c_fin {Nm : Prop} {D e : Nat} (IH : ∀ ep, ep + 1 = e → (∀ s, kTN Nm D ep s) ∧ kTJ Nm D ep) {S S7 : xm_S} {A : y_A} {X E : Nat → Prop} {hb rb nb t w e1 e2 c o : Nat} {h v b b' : Int32} {rest js' : List y_J} (hM : kM S A X (fun k => E k ∨ k = c) (fun _ => False) hb rb nb t w e1 e2) (hc : c < xm_n S 1 6) (h0 : xm_i S 2 c 8 = 0) (h75 : ¬ A 75 c = 1) (hX : kXd S X) (hD : kDl S A E) (he : xm_i S 2 c 3 = nI e) (ho : xm_r S 2 c 1 = some o) (hN : ∀ S1 A1, kL S S1 A A1 → xm_i S1 2 c 8 ≠ 0 → Nm → kNl S1 o) (hJ : (xm_i S 2 c 14 = 0 ∧ js' = rest) ∨ (xm_i S 2 c 14 = 1 ∧ ∀ S1 A1, kM S1 A1 X E (fun _ => False) hb rb nb t w 0 0 → kL S S1 A A1 → xm_i S1 2 c 8 = h → xc D 36 [.inr (some (0, 0)), .inr (some (2, c))] S1 (kPo S1 A1 A1 js' rest X E hb rb nb t w))) (hlen : js'.length + 10 * e + 110 + kC Nm ≤ 20000)
    (hd : kEd S (xm_si S7 2 c 7 (xm_i S7 0 0 13)) c h v b) (hC7 : xk_C S7) (r7 : xm_r S7 2 c 2 = xm_r S 2 c 2) (i7 : xm_i S7 2 c 14 = xm_i S 2 c 14) (j7 : xm_i S7 0 0 14 = xm_i S 0 0 14) (hb' : b' = 0 ∨ b' = 1) (hbb : b = if h = 1 then b' else 0) (hee : (h = 1 ∧ e1 ≤ 0 + 1 ∧ e2 ≤ 0) ∨ (h = 2 ∧ e1 ≤ 0 ∧ e2 ≤ 0 + 1)) :
    xc (D + 1) 23 [.inr (some (0, 0)), .inr (some (2, c))] S7 (kPo S A A (((1 : Int32), nI c, h, v, b') :: js') rest X E hb rb nb t w) := by
  have hMM := hM
  obtain ⟨hE, hS, hgr, ⟨j1, j2, j3, j4, j5, j6, -, -, -, j10, -⟩⟩ := hM
  obtain ⟨hC, hcnt, hbd, hl, ht, hv, h1, h2, h3, h4, h5, h6, -⟩ := hE
  have hbb2 := hbd
  unfold k_bnd at hbb2
  have hcc := h2 c hc
  have h69 : A 69 c = 0 := by rw [← hcc.2.2.2.2.1]; exact h0
  have hh : h = 1 ∨ h = 2 := hee.imp (fun z => z.1) (fun z => z.1)
  have hXc : ¬ X c := fun z => (hX c z).2 h0
  obtain ⟨o', ho1, ho2, ho3⟩ := hcc.2.2.2.2.2.2.2.2.2.1
  obtain rfl : o' = o := Option.some.inj (ho1.symm.trans ho)
  have h64 := hcc.2.2.2.2.2.2.2.2.2.2.1
  obtain ⟨ke1, ke2⟩ := k_ends (A := A) (c := c) (h := h) (v := v) (b' := b') (js := js') (by omega) h69 hh hb'
  rw [← hbb] at ke1 ke2
  have hne12 : xm_i (xm_si S7 2 c 7 (xm_i S7 0 0 13)) 2 c 8 = 1 ∨ xm_i (xm_si S7 2 c 7 (xm_i S7 0 0 13)) 2 c 8 = 2 := by
    rw [hd.2.1]; exact hh
  refine cw_finish hC7 ?_
  intro S1 eS1 t3 e3
  rw [r7] at e3
  refine ⟨fun hn S6 e6 => ?_, fun p hp => ?_⟩
  · -- the first call
    have hpn : xm_r S 2 c 2 = none := e3.trans hn
    rw [hpn] at h64
    have hneg : A 64 c < 0 := by rw [h64]; decide
    obtain ⟨k1, k2⟩ := ke1 o' (by omega) hneg ho3
    have hR := hMM.endr hd hc h0 h75 hXc hpn ho hee
    subst eS1
    rw [j7] at e6
    subst e6
    have hF0 := (kA0.F (o := o') (hd.1 A) h v b (k_how h b)).si 0 0 14 (xm_i S 0 0 14 + 1) (fun z => absurd z (by decide)) (fun z => absurd z (by decide))
    have hF := hF0.w (I' := [(2, 8), (2, 9), (2, 10), (2, 7), (0, 14)]) (R' := [(2, 11)]) (Z' := [69, 70, 71, 68, 58, 59, 57, 60]) (by decide) (by decide) (by decide)
    have hL : kL S (xm_si (xm_si S7 2 c 7 (xm_i S7 0 0 13)) 0 0 14 (xm_i S 0 0 14 + 1)) A (kA0 A c o' h v b (k_how h b)) := by
      refine kEd.L (h := h) (v := v) (b := b) (S' := S) hMM hF h0 ?_ ?_
      · rcases hne12 with z | z
        · exact Or.inl ((xi_si (by decide)).trans z)
        · exact Or.inr ((xi_si (by decide)).trans z)
      · rw [xi_same, show kA0 A c o' h v b (k_how h b) 60 0 = A 60 0 + 1 from y_same _ _ _ _, Int32.add_assoc, Int32.add_comm 1]
    have hy : y_to A (((1 : Int32), nI c, h, v, b') :: js') (kA0 A c o' h v b (k_how h b)) js' := y_to.s (by rw [y_ok_1]; exact k2) (by rw [y_do_1]; exact k1) (y_to.rf _ _)
    refine ⟨fun hz => ?_, fun hz => ?_⟩
    · rcases hJ with ⟨-, hj⟩ | ⟨hj, -⟩
      · rw [hj] at hy
        exact ⟨rfl, hR.1.1, _, by rw [hj]; exact hy, hR, hL⟩
      · rw [i7, hj] at hz; exact absurd hz (by decide)
    · rcases hJ with ⟨hj, -⟩ | ⟨-, hj⟩
      · exact absurd (i7.trans hj) hz
      · refine xc.mono (hj _ _ hR hL ((xi_si (by decide)).trans hd.2.1)) ?_
        rintro r S11 ⟨w1, w2, A', w3, w4, w5⟩
        exact ⟨w1, w2, rfl, w2, A', hy.tr w3, w4, hL.tr w5⟩
  · -- an inner call
    have hpp : xm_r S 2 c 2 = some p := e3.trans hp
    have hpc : p < c := hcc.2.2.2.2.2.2.2.2.2.2.2.2.2.2.2.2.2.2.2.2.2.2.2.2.2.1 p hpp
    obtain ⟨q1, q2, ⟨g, hg⟩, q4⟩ := (j1 c hc).2.2.1 p hpp
    have hp0 : xm_i S 2 p 8 = 0 := q4 h0
    have hpn : p < xm_n S 1 6 := by omega
    rw [hpp] at h64
    have hEp : ¬ (E p ∨ p = c) := k_sts.ne j10 hc h0 hpp
    obtain ⟨ep, ep1, ep2, -⟩ := (j1 p hpn).2.2.2
    have hep : ep + 1 = e := by
      rw [he, ep2, nI_1] at q2
      have hel : e < 2 ^ 31 := by omega
      exact ((nI_eq hel (by omega)).mp q2).symm
    have hR := hMM.end (e1' := 0) (e2' := 0) hd hc h0 h75 hXc hpp hee
    subst eS1
    have hF0 := kA1.F (hd.1 A) h v b
    have hF := hF0.w (I' := [(2, 8), (2, 9), (2, 10), (2, 7), (0, 14)]) (R' := [(2, 11)]) (Z' := [69, 70, 71, 68, 58, 59, 57, 60]) (by decide) (by decide) (by decide)
    have hL1 : kL S (xm_si S7 2 c 7 (xm_i S7 0 0 13)) A (kA1 A c h v b) := by
      refine kEd.L (h := h) (v := v) (b := b) (S' := S) hMM hF h0 hne12 ?_
      rw [hF0.2.2.1 0 14 (by decide)]
      rfl
    have hEq : (fun k => E k ∨ (xm_r S 2 c 2 = some k ∧ ∃ g, xm_r S 2 k 4 = some g ∧ A 31 g = 3)) = (fun k => E k ∨ (k = p ∧ kA1 A c h v b 31 g = 3)) := by
      funext k
      refine propext (or_congr_right ⟨fun z => ?_, fun z => ?_⟩)
      · obtain ⟨z1, g', z2, z3⟩ := z
        have hk : k = p := (Option.some.inj (hpp.symm.trans z1)).symm
        refine ⟨hk, ?_⟩
        rw [hk, hg] at z2
        rw [Option.some.inj z2]
        exact z3
      · rw [z.1]
        exact ⟨hpp, g, hg, z.2⟩
    rw [hEq] at hR
    obtain ⟨on1, on2, on3⟩ := k_only hMM hc h0 hpp hg
    obtain ⟨kv1, kv2, kv3, kv4⟩ := kA1.v A c h v b
    generalize xm_si S7 2 c 7 (xm_i S7 0 0 13) = S1 at *
    have n6 : xm_n S1 1 6 = xm_n S 1 6 := by rw [hF0.1]
    have R : ∀ j, (2, j) ∉ [(2, 11)] → ∀ k, xm_r S1 2 k j = xm_r S 2 k j := fun j hj k => hF0.2.2.2.1 2 j hj k
    have hpne : p ≠ c := by omega
    have i8p : xm_i S1 2 p 8 = xm_i S 2 p 8 := (hF0.2.2.2.2.2.1 p 8 hpne).1
    have a0 : kA1 A c h v b 0 0 = A 0 0 := hF0.2.2.2.2.1 0 (by decide) 0
    have a31 : ∀ g, kA1 A c h v b 31 g = A 31 g := fun g => hF0.2.2.2.2.1 31 (by decide) g
    have hne0 : xm_i S1 2 c 8 ≠ 0 := by
      rcases hne12 with z | z
      · rw [z]; decide
      · rw [z]; decide
    have hN1 := hN S1 _ hL1 hne0
    have hch : ∀ k, k < xm_n S1 1 6 → xm_r S1 2 k 2 = some p → xm_i S1 2 k 8 = 0 → kA1 A c h v b 31 g = 5 := fun k hk hkp hk0 => Classical.byContradiction fun z => by
      have hkc : k ≠ c := fun y => by
        rw [y] at hk0
        exact hne0 hk0
      refine on2 (by rw [← a31 g]; exact z) k (by omega) ((R 2 (by decide) k).symm.trans hkp) hkc ?_
      rw [← (hF0.2.2.2.2.2.1 k 8 hkc).1]; exact hk0
    have told : ∃ A2 js2, rf_told (nI p) (nI c) (kA1 A c h v b) js' = (A2, js2) ∧ rg_told (nI p) (nI c) (kA1 A c h v b) js' ∧ xc D 24 [.inr (some (0, 0)), .inr (some (2, p)), .inr (some (2, c))] S1 (kPo S1 (kA1 A c h v b) A2 js2 js' X E hb rb nb t w) := by
      by_cases hlp : xm_i S1 2 p 14 = 1
      · have h78 : kA1 A c h v b 78 p = 1 := (hR.1.2.2.2.2.2.2.2.1 p (by omega)).2.2.2.2.2.2.2.1.symm.trans hlp
        obtain ⟨g', y1, y2⟩ := (hR.2.2.2.2.2.2.2.2.2.1 p (by omega)).2.2.2.2.1 (Or.inl h78)
        obtain rfl : g = g' := Option.some.inj (((R 4 (by decide) p).trans hg).symm.trans y1)
        have hEq8 : (fun k => E k ∨ (k = p ∧ kA1 A c h v b 31 g = 3)) = E := by
          funext k
          exact propext ⟨fun z => z.resolve_right (fun y => absurd (y2.symm.trans y.2) (by decide)), Or.inl⟩
        rw [hEq8] at hR
        exact (IH ep hep).2 S1 (kA1 A c h v b) X E hb rb nb t w p c o' g js' hR (by omega) (by omega) ((R 2 (by decide) c).trans hpp) (i8p.trans hp0) (by rw [kv1]; exact hh) (by rw [hF0.2.2.1 2 3 (by decide)]; exact ep2) ((R 1 (by decide) p).trans (q1.trans ho)) hN1 hlp (hX.L hL1) (hD.L hL1 hMM.gb) (fun z => hEp (Or.inl z)) y1 y2 (fun k hk hkp hk0 => absurd (y2.symm.trans (hch k hk hkp hk0)) (by decide)) (by omega)
      · exact (IH ep hep).1 (A 31 g) S1 (kA1 A c h v b) X E hb rb nb t w p c o' g js' hR ⟨by omega, by omega, (R 2 (by decide) c).trans hpp, i8p.trans hp0, by rw [kv1]; exact hh, by rw [kv4, a0], by rw [hF0.2.2.1 2 3 (by decide)]; exact ep2, (R 1 (by decide) p).trans (q1.trans ho), by omega, hlp, hN1⟩ (hX.L hL1) (hD.L hL1 hMM.gb) (fun z => hEp (Or.inl z)) ((R 4 (by decide) p).trans hg) (a31 g) (fun z1 z2 z3 k hk hkp => on1 (by rw [← a31 g]; exact z1) (by rw [← a31 g]; exact z2) (by rw [← a31 g]; exact z3) k (by omega) ((R 2 (by decide) k).symm.trans hkp)) hch (fun z => (R 17 (by decide) p).trans (on3 (by rw [← a31 g]; exact z))) (by omega)
    obtain ⟨A2, js2, t1, t2, t3'⟩ := told
    obtain ⟨k1, k2⟩ := ke2 p A2 js2 h64 (by omega) t1 t2
    refine xc.mono t3' ?_
    rintro r S11 ⟨w1, w2, A', w3, w4, w5⟩
    have hld' : xm_i S11 2 c 14 = xm_i S 2 c 14 := by
      rw [(w5.2.2.1 c (by omega)).2.2.2.2.1, hF0.2.2.1 2 14 (by decide)]
    have hy : y_to A (((1 : Int32), nI c, h, v, b') :: js') A' js' := y_to.s (by rw [y_ok_1]; exact k2) (by rw [y_do_1]; exact k1) w3
    refine ⟨w1, w2, fun hz => ?_, fun hz => ?_⟩
    · rcases hJ with ⟨-, hj⟩ | ⟨hj, -⟩
      · rw [hj] at hy
        exact ⟨rfl, w2, A', by rw [hj]; exact hy, w4, hL1.tr w5⟩
      · rw [hld', hj] at hz; exact absurd hz (by decide)
    · rcases hJ with ⟨hj, -⟩ | ⟨-, hj⟩
      · exact absurd (hld'.trans hj) hz
      · refine xc.mono (hj S11 A' w4 (hL1.tr w5) (((w5.2.2.1 c (by omega)).2.2.2.2.2.2.2 hne0).1.trans hd.2.1)) ?_
        rintro r S14 ⟨x1, x2, A3, x3, x4, x5⟩
        exact ⟨x1, x2, rfl, x2, A3, hy.tr x3, x4, (hL1.tr w5).tr x5⟩
theorem kEN.of {Nm : Prop} {D e : Nat} (IH : ∀ ep, ep + 1 = e → (∀ s, kTN Nm D ep s) ∧ kTJ Nm D ep) : kEN Nm (D + 2) e := by
  intro S A X E hb rb nb t w e1 e2 c o rest hM hc h0 h75 hX hD he ho hN hlen
  have hC := hM.1.1
  have hJ : xm_i S 2 c 14 = 0 := by
    have z := (hM.1.2.2.2.2.2.2.2.1 c hc).2.2.2.2.2.2.2.1
    rcases (hM.1.2.2.2.2.2.2.2.1 c hc).2.2.2.2.2.2.2.2.2.2.2.2.2.2.2.2.2.1 with y | y
    · rw [z]; exact y
    · exact absurd (z.trans y) hN.2.1
  have hNN : ∀ S1 A1, kL S S1 A A1 → xm_i S1 2 c 8 ≠ 0 → Nm → kNl S1 o := fun S1 A1 hL _ z => (hN.2.2 z).L hL
  refine ⟨fun v b hb1 z1 z2 => cw_endGood hC ⟨fun _ S2 e2' S4 e4 => ⟨hb1, fun S7 e7 => ?_⟩, fun z => absurd h0 z⟩, fun f b hf hb1 z1 z2 => cw_endFailed (a2 := some f) hC ⟨fun _ S2 e2' S4 e4 => ?_, fun z => absurd h0 z⟩⟩
  · subst e2' e4 e7
    refine xc.mono (c_fin IH hM hc h0 h75 hX hD he ho hNN (Or.inl ⟨hJ, rfl⟩) hlen (kEd.g S c hb1) hC rfl ((xi_si (by decide)).trans ((xi_si (by decide)).trans (xi_si (by decide)))) ((xi_si (by decide)).trans ((xi_si (by decide)).trans (xi_si (by decide)))) hb1 (if_pos rfl).symm (Or.inl ⟨rfl, by omega, by omega⟩)) ?_
    rintro r S' w
    exact ⟨w.1, w.2.1, rfl, w.2⟩
  · subst e2' e4
    refine xc.mono (c_fin IH hM hc h0 h75 hX hD he ho hNN (Or.inl ⟨hJ, rfl⟩) hlen (kEd.f S c hf) hC ((xr_sr (by decide)).trans rfl) (xi_sr.trans (xi_si (by decide))) (xi_sr.trans (xi_si (by decide))) hb1 (if_neg (by decide)).symm (Or.inr ⟨rfl, by omega, by omega⟩)) ?_
    rintro r S' w
    exact ⟨w.1, w.2.1, rfl, w.2⟩
end
