/-! ===== ENTER: bulkhead, limit, memory, join (printed by wip/whole/gen9s.py) ===== -/
section
theorem kBp.pre {S S2 S' : xm_S} {A A2 A0 : y_A} {js rest : List y_J} {hb rb nb t w N : Nat} {gs : List Nat} {r : Option xm_V} (h : kBp S2 A2 A0 js rest hb rb nb t w N gs r S') (hB : kB N gs S S2 A A2) : kBp S A A0 js rest hb rb nb t w N gs r S' := by
  obtain ⟨z1, z2, A', z3, z4, z5⟩ := h
  exact ⟨z1, z2, A', z3, z4, hB.tr z5⟩
theorem c_ent2 {D : Nat} {gs : List Nat} (hD : 90 ≤ D) (IH : kBG D gs) {S : xm_S} {A : y_A} {hb rb nb t w n o dp g tw q : Nat} {rest : List y_J} (hM : kM S A (fun _ => False) (fun k => False ∨ k = n) (fun k => k = n ∧ (A 31 g = 3 ∨ A 31 g = 5)) hb rb nb t w 0 0) (h : kIn S A n o dp g tw q gs) (hz : kIz S A n) (hlen : rest.length + 400 ≤ 20000) (hs : A 31 g = 2) : kEo (D + 3) S A hb rb nb t w n g gs rest := by
  have hI := h
  obtain ⟨i1, i2, i3, i4, i5, i6, i7, i8, i9, i10, i11, i12, i13, i14⟩ := h
  obtain ⟨x77, x79, x15, x14⟩ := hz
  have hn : n < xm_n S 1 6 := by omega
  have hC := hM.1.1
  have hbb := hM.1.2.2.1
  unfold k_bnd at hbb
  have ht := hM.1.2.2.2.2.1.1
  have h2 := hM.1.2.2.2.2.2.2.2.1
  have hgn := hM.gb n g hn i5
  have h3 := hM.1.2.2.2.2.2.2.2.2.1 g hgn
  have s1 : xm_i S 5 g 1 = 2 := h3.2.1.trans hs
  have ixn : y_ix (nI n) = n := y_ix_nI (by omega)
  have ixg : y_ix (nI g) = g := y_ix_nI (by omega)
  have yn : y_in (nI n) 4400 := y_in_nI (by omega) (by decide)
  have yg : y_in (nI g) 24 := y_in_nI (by omega) (by decide)
  have x75 : A 75 n = 0 := (h2 n hn).2.2.2.2.2.2.2.2.2.2.2.2.2.2.2.2.2.2.1.resolve_right i7
  have hB0 : ¬ (A 31 g = 3 ∨ A 31 g = 5) → (fun k => k = n ∧ (A 31 g = 3 ∨ A 31 g = 5)) = (fun _ => False) := fun z => by
    funext k
    exact propext ⟨fun y => z y.2, fun y => y.elim⟩
  rw [hB0 (by rw [hs]; decide)] at hM
  obtain ⟨a1, a2, -⟩ := (hM.2.2.1 g hgn).2.2.2.2.2.2.1 hs
  obtain ⟨b1, b2⟩ := (hM.2.2.1 g hgn).2.2.2.2.2.2.2.2.2.2.2 hs
  obtain ⟨z, z1, z2, z3⟩ := k_rg (x := A 32 g) (a := 1) (b := 100) (by decide) a1 a2
  obtain ⟨y, y1, y2, y3⟩ := k_rg (x := A 42 g) (a := 0) (b := z) (by omega) b1 (by rw [← z1]; exact b2) (by omega)
  have e13 := h3.2.2.2.2.2.2.2.2.2.2.2.1 hs
  by_cases c0 : A 42 g = 0
  · skip
    have ent : rf_entered (nI n) (nI g) A rest = (A, ((2 : Int32), nI n, (11 : Int32), (0 : Int32), (0 : Int32)) :: rest) ∧ rg_entered (nI n) (nI g) A rest := by
      unfold rf_entered rg_entered
      rw [ixn, ixg]
      refine ⟨?_, yn, yg, ⟨fun z2 => absurd z2 (by rw [hs]; decide), fun _ => ⟨fun z2 => absurd z2 (by rw [hs]; decide), fun _ => ⟨fun _ => ⟨fun _ => ⟨by omega, trivial⟩, fun z => absurd c0 z⟩, fun z => absurd hs z⟩⟩⟩⟩
      rw [if_neg (show ¬ A 31 g = 0 by rw [hs]; decide), if_neg (show ¬ A 31 g = 1 by rw [hs]; decide), if_pos hs, if_pos c0]
    exact ⟨_, _, ent.1, ent.2, cw_enter (d := D + 1) hC ⟨fun z => absurd (s1.symm.trans z) (by decide), fun _ => ⟨fun z => absurd (s1.symm.trans z) (by decide), fun _ => ⟨fun _ => xc.mono (cw_enterLimit (d := D) (Q := kBp S A A (((2 : Int32), nI n, (11 : Int32), (0 : Int32), (0 : Int32)) :: rest) rest hb rb nb t w n (g :: gs)) hC ⟨fun _ => c_failN (d := D) (by omega) hM hI x14 (by decide) hlen, fun z => absurd (by rw [e13, c0]; decide) z⟩) (fun r S' z => z.nn), fun z => absurd s1 z⟩⟩⟩⟩
  · skip
    have ent : rf_entered (nI n) (nI g) A rest = (xm_u2 A 42 g (A 42 g - 1), ((0 : Int32), A 62 n, A 63 n + 1, nI n, (-1 : Int32)) :: rest) ∧ rg_entered (nI n) (nI g) A rest := by
      unfold rf_entered rg_entered
      rw [ixn, ixg]
      refine ⟨?_, yn, yg, ⟨fun z2 => absurd z2 (by rw [hs]; decide), fun _ => ⟨fun z2 => absurd z2 (by rw [hs]; decide), fun _ => ⟨fun _ => ⟨fun z => absurd z c0, fun _ => ⟨⟨yn, by omega, trivial⟩, trivial⟩⟩, fun z => absurd hs z⟩⟩⟩⟩
      rw [if_neg (show ¬ A 31 g = 0 by rw [hs]; decide), if_neg (show ¬ A 31 g = 1 by rw [hs]; decide), if_pos hs, if_neg c0]
    have hy : y ≠ 0 := fun x => c0 (by rw [y1, x]; rfl)
    obtain ⟨y', rfl⟩ : ∃ x, y = x + 1 := ⟨y - 1, by omega⟩
    have hp : ¬ nI (y' + 1) ≤ nI 0 := nI_ge (by omega) (by omega)
    have e42 : A 42 g - 1 = nI y' := by rw [y1, nI_pred]
    refine ⟨_, _, ent.1, ent.2, cw_enter (d := D + 1) hC ⟨fun z => absurd (s1.symm.trans z) (by decide), fun _ => ⟨fun z => absurd (s1.symm.trans z) (by decide), fun _ => ⟨fun _ => xc.mono ?_ (fun r S' z => kBp.nn z), fun z => absurd s1 z⟩⟩⟩⟩
    refine cw_enterLimit (d := D) (Q := kBp S A (xm_u2 A 42 g (A 42 g - 1)) (((0 : Int32), A 62 n, A 63 n + 1, nI n, (-1 : Int32)) :: rest) rest hb rb nb t w n (g :: gs)) hC ⟨fun z => absurd (by rw [e13, y1] at z; exact z) hp, fun _ S7 e7 t9 e9 => ?_⟩
    rw [i3] at e9
    rw [← e9]
    have hF : kF n g [(5, 13)] [] [42] S S7 A (xm_u2 A 42 g (A 42 g - 1)) := by
      subst e7
      exact ((kF.rf n g S A).si 5 g 13 _ (fun z => absurd z (by decide)) (fun _ => rfl)).u 42 g _ (fun z => absurd z.1 (by decide)) (fun _ => rfl)
    have hM1 := hM.left hgn hF (by subst e7; rw [xi_same, y_same, e13]) (fun _ => by rw [y_same, e42, z1]; exact ⟨nI_pos' (by omega), nI_le (by omega) (by omega)⟩)
    have hM2 : kM S7 (xm_u2 A 42 g (A 42 g - 1)) (fun _ => False) (fun _ => False) (fun k => k = n ∧ False) hb rb nb t w 0 0 := by
      have e : (fun k => k = n ∧ False) = (fun _ => False : Nat → Prop) := funext fun k => propext ⟨fun y => y.2, fun y => y.elim⟩
      rw [e]
      exact hM1.un (g := g) (by rw [hF.2.2.2.1 2 4 (by decide)]; exact i5) (fun y => absurd ((hF.2.2.2.2.1 31 (by decide) g).symm.trans y) (by rw [hs]; decide)) (by rw [hF.2.2.2.2.1 79 (by decide), x79]; decide) (fun y => absurd ((hF.2.2.2.2.1 31 (by decide) g).symm.trans y) (by rw [hs]; decide))
    have hg2 := c_goIn IH hM2 (hI.F hF (by decide) (by decide) (by decide)) (fun y => absurd ((hF.2.2.2.2.1 31 (by decide) g).symm.trans y) (by rw [hs]; decide)) hlen
    rw [hF.2.2.2.2.1 62 (by decide), hF.2.2.2.2.1 63 (by decide)] at hg2
    refine xc.mono hg2 ?_
    intro r S' y
    exact y.go (by rw [hF.1]; omega) (hF.B (Nat.le_refl n) (by decide) (by decide) (by decide))
theorem c_ent7 {D : Nat} {gs : List Nat} (hD : 90 ≤ D) (IH : kBG D gs) {S : xm_S} {A : y_A} {hb rb nb t w n o dp g tw q : Nat} {rest : List y_J} (hM : kM S A (fun _ => False) (fun k => False ∨ k = n) (fun k => k = n ∧ (A 31 g = 3 ∨ A 31 g = 5)) hb rb nb t w 0 0) (h : kIn S A n o dp g tw q gs) (hz : kIz S A n) (hlen : rest.length + 400 ≤ 20000) (hs : A 31 g = 7) : kEo (D + 3) S A hb rb nb t w n g gs rest := by
  have hI := h
  obtain ⟨i1, i2, i3, i4, i5, i6, i7, i8, i9, i10, i11, i12, i13, i14⟩ := h
  obtain ⟨x77, x79, x15, x14⟩ := hz
  have hn : n < xm_n S 1 6 := by omega
  have hC := hM.1.1
  have hbb := hM.1.2.2.1
  unfold k_bnd at hbb
  have ht := hM.1.2.2.2.2.1.1
  have h2 := hM.1.2.2.2.2.2.2.2.1
  have hgn := hM.gb n g hn i5
  have h3 := hM.1.2.2.2.2.2.2.2.2.1 g hgn
  have s1 : xm_i S 5 g 1 = 7 := h3.2.1.trans hs
  have ixn : y_ix (nI n) = n := y_ix_nI (by omega)
  have ixg : y_ix (nI g) = g := y_ix_nI (by omega)
  have yn : y_in (nI n) 4400 := y_in_nI (by omega) (by decide)
  have yg : y_in (nI g) 24 := y_in_nI (by omega) (by decide)
  have x75 : A 75 n = 0 := (h2 n hn).2.2.2.2.2.2.2.2.2.2.2.2.2.2.2.2.2.2.1.resolve_right i7
  have hB0 : ¬ (A 31 g = 3 ∨ A 31 g = 5) → (fun k => k = n ∧ (A 31 g = 3 ∨ A 31 g = 5)) = (fun _ => False) := fun z => by
    funext k
    exact propext ⟨fun y => z y.2, fun y => y.elim⟩
  rw [hB0 (by rw [hs]; decide)] at hM
  obtain ⟨o', o1, o2, o3⟩ := (h2 n hn).2.2.2.2.2.2.2.2.2.1
  obtain rfl : o = o' := Option.some.inj (i3.symm.trans o1)
  obtain ⟨-, -, ⟨s, q1, q2, q3⟩, q4, -⟩ := hM.1.2.2.2.2.2.2.2.2.2.2.2.1 o o2
  have ixo : y_ix (nI o) = o := y_ix_nI (by omega)
  have yo : y_in (nI o) 60 := y_in_nI (by omega) (by decide)
  have ex : (8 : Int32) * nI g + nI s = nI (8 * g + s) := by rw [show (8 : Int32) = nI 8 from rfl, nI_mulc, nI_add]
  have ix8 : y_ix (nI (8 * g + s)) = 8 * g + s := y_ix_nI (by omega)
  have y8 : y_in (nI (8 * g + s)) 192 := y_in_nI (by omega) (by decide)
  have k0 := (hM.1.2.2.2.2.2.2.1 s q2).1
  have k14 := h3.2.2.2.2.2.2.2.2.2.2.2.2.2.1
  have k25 := h3.2.2.2.2.2.2.2.2.2.2.2.2.2.2.1
  have hmem := h3.2.2.2.2.2.2.2.2.2.2.2.2.2.2.2 s (by omega)
  have hM2 : kM S A (fun _ => False) (fun _ => False) (fun k => k = n ∧ False) hb rb nb t w 0 0 := by
    have e : (fun k => k = n ∧ False) = (fun _ => False : Nat → Prop) := funext fun k => propext ⟨fun y => y.2, fun y => y.elim⟩
    rw [e]
    exact hM.un i5 (fun z => absurd (hs.symm.trans z) (by decide)) (by rw [x79]; decide) (fun z => absurd (hs.symm.trans z) (by decide))
  have go : xc D 16 [.inr (some (0, 0)), .inr (some (6, o)), .inr (some (2, n))] S (fun r S' => r = none ∧ xk_C S' ∧ kBp S A A (((0 : Int32), A 62 n, A 63 n + 1, nI n, (-1 : Int32)) :: rest) rest hb rb nb t w n (g :: gs) none S') := by
    refine xc.mono (c_goIn IH hM2 hI (fun z => absurd (hs.symm.trans z) (by decide)) hlen) ?_
    intro r S' z
    exact z.sf (by omega) hM.later
  by_cases cA : A 53 o = 0
  · rcases hmem with ⟨m1, m2⟩ | ⟨c, m1, m2, m3, m4, m5, m6, m7⟩
    · skip
      have cB : A 45 (8 * g + s) < 0 := by rw [m2]; decide
      have ent : rf_entered (nI n) (nI g) A rest = (A, ((0 : Int32), A 62 n, A 63 n + 1, nI n, (-1 : Int32)) :: rest) ∧ rg_entered (nI n) (nI g) A rest := by
        unfold rf_entered rg_entered
        rw [ixn, ixg, o3, ixo, q3, ex, ix8]
        refine ⟨?_, yn, yg, ⟨fun z2 => absurd z2 (by rw [hs]; decide), fun _ => ⟨fun z2 => absurd z2 (by rw [hs]; decide), fun _ => ⟨fun z2 => absurd z2 (by rw [hs]; decide), fun _ => ⟨fun z2 => absurd z2 (by rw [hs]; decide), fun _ => ⟨fun z2 => absurd z2 (by rw [hs]; decide), fun _ => ⟨fun z2 => absurd z2 (by rw [hs]; decide), fun _ => ⟨fun z2 => absurd z2 (by rw [hs]; decide), fun _ => ⟨fun _ => ⟨yo, fun _ => ⟨y8, fun _ => ⟨⟨yn, by omega, trivial⟩, trivial⟩, fun z => absurd cB z⟩, fun z => absurd cA z⟩, fun z => absurd hs z⟩⟩⟩⟩⟩⟩⟩⟩⟩
        rw [if_neg (show ¬ A 31 g = 0 by rw [hs]; decide), if_neg (show ¬ A 31 g = 1 by rw [hs]; decide), if_neg (show ¬ A 31 g = 2 by rw [hs]; decide), if_neg (show ¬ A 31 g = 3 by rw [hs]; decide), if_neg (show ¬ A 31 g = 4 by rw [hs]; decide), if_neg (show ¬ A 31 g = 5 by rw [hs]; decide), if_neg (show ¬ A 31 g = 6 by rw [hs]; decide), if_pos hs, if_pos cA, if_pos cB]
      exact ⟨_, _, ent.1, ent.2, cw_enter (d := D + 1) hC ⟨fun z => absurd (s1.symm.trans z) (by decide), fun _ => ⟨fun z => absurd (s1.symm.trans z) (by decide), fun _ => ⟨fun z => absurd (s1.symm.trans z) (by decide), fun _ => ⟨fun z => absurd (s1.symm.trans z) (by decide), fun _ => ⟨fun z => absurd (s1.symm.trans z) (by decide), fun _ => ⟨fun z => absurd (s1.symm.trans z) (by decide), fun _ => ⟨fun z => absurd (s1.symm.trans z) (by decide), fun _ => ⟨fun _ => xc.mono (cw_enterMemory (d := D) (Q := kBp S A A (((0 : Int32), A 62 n, A 63 n + 1, nI n, (-1 : Int32)) :: rest) rest hb rb nb t w n (g :: gs)) hC (fun t1 e1 => ⟨o, e1.symm.trans i3, fun t4 e4 => ⟨s, e4.symm.trans q1, fun z => absurd z (by rw [k0]; exact nI_pos (by omega)), fun _ t13 e13 => ⟨g, e13.symm.trans k14, fun z => absurd z (by rw [k0, k25]; exact nI_ge (by omega) (by decide)), fun _ => ⟨by rw [k0, k25]; exact y_in_nI (by omega) (by decide), fun t23 e23 => ⟨fun hact => ⟨fun _ => go, fun k26 hsome => ⟨fun _ => go, fun _ => absurd (show xm_r S 15 g s = some k26 by rw [k0, y_ix_nI (by omega)] at e23; exact e23.trans hsome) (by rw [m1]; intro q; cases q)⟩⟩, fun z => absurd (q4.trans cA) z⟩⟩⟩⟩⟩)) (fun r S' z => z.nn), fun z => absurd s1 z⟩⟩⟩⟩⟩⟩⟩⟩⟩
    · skip
      have cB : ¬ A 45 (8 * g + s) < 0 := by
        rw [m5]
        exact Int32.not_lt.mpr m7
      have hcc := h2 c m2
      have h7 := hcc.2.2.2.1
      have h9 := hcc.2.2.2.2.2.2.2.2.2.2.2.2.2.2.1
      rw [m3, if_pos rfl] at h9
      have h10 := hcc.2.2.2.2.2.1
      have h71 := hcc.2.2.2.2.2.2.2.2.2.2.2.2.2.2.2.2.1
      have hk26 : ∀ {t23 : Option Nat} {k26 : Nat}, xm_r S 15 g (y_ix (xm_i S 9 s 0)) = t23 → t23 = some k26 → k26 = c := fun e1 e2 => by
        rw [k0, y_ix_nI (by omega), m1] at e1
        rw [← e1] at e2
        exact (Option.some.inj e2).symm
      have hno : ∀ {t23 : Option Nat}, xm_r S 15 g (y_ix (xm_i S 9 s 0)) = t23 → t23 ≠ none := fun e1 e2 => by
        rw [k0, y_ix_nI (by omega), m1] at e1
        rw [← e1] at e2
        cases e2
      have hlt : ∀ k, k = c → (xm_i S 5 g 2 < xm_i S 0 0 13 - xm_i S 2 k 7 ↔ A 32 g < A 0 0 - A 45 (8 * g + s)) := fun k hk => by rw [hk, h3.2.2.1, ht, h7, m5]
      by_cases cC : A 32 g < A 0 0 - A 45 (8 * g + s)
      · skip
        have ent : rf_entered (nI n) (nI g) A rest = (A, ((0 : Int32), A 62 n, A 63 n + 1, nI n, (-1 : Int32)) :: rest) ∧ rg_entered (nI n) (nI g) A rest := by
          unfold rf_entered rg_entered
          rw [ixn, ixg, o3, ixo, q3, ex, ix8]
          refine ⟨?_, yn, yg, ⟨fun z2 => absurd z2 (by rw [hs]; decide), fun _ => ⟨fun z2 => absurd z2 (by rw [hs]; decide), fun _ => ⟨fun z2 => absurd z2 (by rw [hs]; decide), fun _ => ⟨fun z2 => absurd z2 (by rw [hs]; decide), fun _ => ⟨fun z2 => absurd z2 (by rw [hs]; decide), fun _ => ⟨fun z2 => absurd z2 (by rw [hs]; decide), fun _ => ⟨fun z2 => absurd z2 (by rw [hs]; decide), fun _ => ⟨fun _ => ⟨yo, fun _ => ⟨y8, fun z => absurd z cB, fun _ => ⟨fun _ => ⟨⟨yn, by omega, trivial⟩, trivial⟩, fun z => absurd cC z⟩⟩, fun z => absurd cA z⟩, fun z => absurd hs z⟩⟩⟩⟩⟩⟩⟩⟩⟩
          rw [if_neg (show ¬ A 31 g = 0 by rw [hs]; decide), if_neg (show ¬ A 31 g = 1 by rw [hs]; decide), if_neg (show ¬ A 31 g = 2 by rw [hs]; decide), if_neg (show ¬ A 31 g = 3 by rw [hs]; decide), if_neg (show ¬ A 31 g = 4 by rw [hs]; decide), if_neg (show ¬ A 31 g = 5 by rw [hs]; decide), if_neg (show ¬ A 31 g = 6 by rw [hs]; decide), if_pos hs, if_pos cA, if_neg cB, if_pos cC]
        exact ⟨_, _, ent.1, ent.2, cw_enter (d := D + 1) hC ⟨fun z => absurd (s1.symm.trans z) (by decide), fun _ => ⟨fun z => absurd (s1.symm.trans z) (by decide), fun _ => ⟨fun z => absurd (s1.symm.trans z) (by decide), fun _ => ⟨fun z => absurd (s1.symm.trans z) (by decide), fun _ => ⟨fun z => absurd (s1.symm.trans z) (by decide), fun _ => ⟨fun z => absurd (s1.symm.trans z) (by decide), fun _ => ⟨fun z => absurd (s1.symm.trans z) (by decide), fun _ => ⟨fun _ => xc.mono (cw_enterMemory (d := D) (Q := kBp S A A (((0 : Int32), A 62 n, A 63 n + 1, nI n, (-1 : Int32)) :: rest) rest hb rb nb t w n (g :: gs)) hC (fun t1 e1 => ⟨o, e1.symm.trans i3, fun t4 e4 => ⟨s, e4.symm.trans q1, fun z => absurd z (by rw [k0]; exact nI_pos (by omega)), fun _ t13 e13 => ⟨g, e13.symm.trans k14, fun z => absurd z (by rw [k0, k25]; exact nI_ge (by omega) (by decide)), fun _ => ⟨by rw [k0, k25]; exact y_in_nI (by omega) (by decide), fun t23 e23 => ⟨fun hact => ⟨fun _ => go, fun k26 hsome => ⟨fun _ => go, fun z => absurd ((hlt k26 (hk26 e23 hsome)).mpr cC) z⟩⟩, fun z => absurd (q4.trans cA) z⟩⟩⟩⟩⟩)) (fun r S' z => z.nn), fun z => absurd s1 z⟩⟩⟩⟩⟩⟩⟩⟩⟩
      · skip
        have fin : ∀ b : Int32, A 46 (8 * g + s) = b → xc (D + 1) 30 [.inr (some (0, 0)), .inr (some (2, n)), .inl (xm_i S 2 c 9), .inl (xm_i S 2 c 10)] S (fun r S' => r = none ∧ xk_C S' ∧ kBp S A A (((1 : Int32), nI n, (1 : Int32), A 44 (8 * g + s), b) :: rest) rest hb rb nb t w n (g :: gs) none S') := fun b hb' => by
          rw [h9, h10, ← hb', m4, m6]
          obtain ⟨f1, -⟩ := kEN.all dp (by omega) S A (fun _ => False) (fun _ => False) hb rb nb t w 0 0 n o rest hM hn i2 i7 (fun k z => z.elim) (fun k z => z.elim) i4 i3 ⟨hn, by rw [x14]; decide, fun z => z.elim⟩ (by rw [kC.f]; omega)
          refine xc.up (xc.mono (f1 (A 70 c) (A 71 c) h71 (by omega) rfl) ?_) (show 90 ≤ D + 1 by omega)
          rintro r S16 ⟨v1, v2, A', v3, v4, v5⟩
          exact ⟨v1, v2, rfl, v2, A', v3, v4, v5.B (by omega) _⟩
        by_cases cD : A 46 (8 * g + s) = 0
        · skip
          have ent : rf_entered (nI n) (nI g) A rest = (A, ((1 : Int32), nI n, (1 : Int32), A 44 (8 * g + s), (0 : Int32)) :: rest) ∧ rg_entered (nI n) (nI g) A rest := by
            unfold rf_entered rg_entered
            rw [ixn, ixg, o3, ixo, q3, ex, ix8]
            refine ⟨?_, yn, yg, ⟨fun z2 => absurd z2 (by rw [hs]; decide), fun _ => ⟨fun z2 => absurd z2 (by rw [hs]; decide), fun _ => ⟨fun z2 => absurd z2 (by rw [hs]; decide), fun _ => ⟨fun z2 => absurd z2 (by rw [hs]; decide), fun _ => ⟨fun z2 => absurd z2 (by rw [hs]; decide), fun _ => ⟨fun z2 => absurd z2 (by rw [hs]; decide), fun _ => ⟨fun z2 => absurd z2 (by rw [hs]; decide), fun _ => ⟨fun _ => ⟨yo, fun _ => ⟨y8, fun z => absurd z cB, fun _ => ⟨fun z => absurd z cC, fun _ => ⟨fun _ => ⟨by omega, trivial⟩, fun z => absurd cD z⟩⟩⟩, fun z => absurd cA z⟩, fun z => absurd hs z⟩⟩⟩⟩⟩⟩⟩⟩⟩
            rw [if_neg (show ¬ A 31 g = 0 by rw [hs]; decide), if_neg (show ¬ A 31 g = 1 by rw [hs]; decide), if_neg (show ¬ A 31 g = 2 by rw [hs]; decide), if_neg (show ¬ A 31 g = 3 by rw [hs]; decide), if_neg (show ¬ A 31 g = 4 by rw [hs]; decide), if_neg (show ¬ A 31 g = 5 by rw [hs]; decide), if_neg (show ¬ A 31 g = 6 by rw [hs]; decide), if_pos hs, if_pos cA, if_neg cB, if_neg cC, if_pos cD]
          exact ⟨_, _, ent.1, ent.2, cw_enter (d := D + 1) hC ⟨fun z => absurd (s1.symm.trans z) (by decide), fun _ => ⟨fun z => absurd (s1.symm.trans z) (by decide), fun _ => ⟨fun z => absurd (s1.symm.trans z) (by decide), fun _ => ⟨fun z => absurd (s1.symm.trans z) (by decide), fun _ => ⟨fun z => absurd (s1.symm.trans z) (by decide), fun _ => ⟨fun z => absurd (s1.symm.trans z) (by decide), fun _ => ⟨fun z => absurd (s1.symm.trans z) (by decide), fun _ => ⟨fun _ => xc.mono (cw_enterMemory (d := D) (Q := kBp S A A (((1 : Int32), nI n, (1 : Int32), A 44 (8 * g + s), (0 : Int32)) :: rest) rest hb rb nb t w n (g :: gs)) hC (fun t1 e1 => ⟨o, e1.symm.trans i3, fun t4 e4 => ⟨s, e4.symm.trans q1, fun z => absurd z (by rw [k0]; exact nI_pos (by omega)), fun _ t13 e13 => ⟨g, e13.symm.trans k14, fun z => absurd z (by rw [k0, k25]; exact nI_ge (by omega) (by decide)), fun _ => ⟨by rw [k0, k25]; exact y_in_nI (by omega) (by decide), fun t23 e23 => ⟨fun hact => ⟨fun z => absurd z (hno e23), fun k26 hsome => ⟨fun z => absurd ((hlt k26 (hk26 e23 hsome)).mp z) cC, fun _ => by rw [hk26 e23 hsome]; exact fin 0 cD⟩⟩, fun z => absurd (q4.trans cA) z⟩⟩⟩⟩⟩)) (fun r S' z => z.nn), fun z => absurd s1 z⟩⟩⟩⟩⟩⟩⟩⟩⟩
        · skip
          have cE : A 46 (8 * g + s) = 1 := by rw [m6]; rw [m6] at cD; exact h71.resolve_left cD
          have ent : rf_entered (nI n) (nI g) A rest = (A, ((1 : Int32), nI n, (1 : Int32), A 44 (8 * g + s), (1 : Int32)) :: rest) ∧ rg_entered (nI n) (nI g) A rest := by
            unfold rf_entered rg_entered
            rw [ixn, ixg, o3, ixo, q3, ex, ix8]
            refine ⟨?_, yn, yg, ⟨fun z2 => absurd z2 (by rw [hs]; decide), fun _ => ⟨fun z2 => absurd z2 (by rw [hs]; decide), fun _ => ⟨fun z2 => absurd z2 (by rw [hs]; decide), fun _ => ⟨fun z2 => absurd z2 (by rw [hs]; decide), fun _ => ⟨fun z2 => absurd z2 (by rw [hs]; decide), fun _ => ⟨fun z2 => absurd z2 (by rw [hs]; decide), fun _ => ⟨fun z2 => absurd z2 (by rw [hs]; decide), fun _ => ⟨fun _ => ⟨yo, fun _ => ⟨y8, fun z => absurd z cB, fun _ => ⟨fun z => absurd z cC, fun _ => ⟨fun z => absurd z cD, fun _ => ⟨by omega, trivial⟩⟩⟩⟩, fun z => absurd cA z⟩, fun z => absurd hs z⟩⟩⟩⟩⟩⟩⟩⟩⟩
            rw [if_neg (show ¬ A 31 g = 0 by rw [hs]; decide), if_neg (show ¬ A 31 g = 1 by rw [hs]; decide), if_neg (show ¬ A 31 g = 2 by rw [hs]; decide), if_neg (show ¬ A 31 g = 3 by rw [hs]; decide), if_neg (show ¬ A 31 g = 4 by rw [hs]; decide), if_neg (show ¬ A 31 g = 5 by rw [hs]; decide), if_neg (show ¬ A 31 g = 6 by rw [hs]; decide), if_pos hs, if_pos cA, if_neg cB, if_neg cC, if_neg cD]
          exact ⟨_, _, ent.1, ent.2, cw_enter (d := D + 1) hC ⟨fun z => absurd (s1.symm.trans z) (by decide), fun _ => ⟨fun z => absurd (s1.symm.trans z) (by decide), fun _ => ⟨fun z => absurd (s1.symm.trans z) (by decide), fun _ => ⟨fun z => absurd (s1.symm.trans z) (by decide), fun _ => ⟨fun z => absurd (s1.symm.trans z) (by decide), fun _ => ⟨fun z => absurd (s1.symm.trans z) (by decide), fun _ => ⟨fun z => absurd (s1.symm.trans z) (by decide), fun _ => ⟨fun _ => xc.mono (cw_enterMemory (d := D) (Q := kBp S A A (((1 : Int32), nI n, (1 : Int32), A 44 (8 * g + s), (1 : Int32)) :: rest) rest hb rb nb t w n (g :: gs)) hC (fun t1 e1 => ⟨o, e1.symm.trans i3, fun t4 e4 => ⟨s, e4.symm.trans q1, fun z => absurd z (by rw [k0]; exact nI_pos (by omega)), fun _ t13 e13 => ⟨g, e13.symm.trans k14, fun z => absurd z (by rw [k0, k25]; exact nI_ge (by omega) (by decide)), fun _ => ⟨by rw [k0, k25]; exact y_in_nI (by omega) (by decide), fun t23 e23 => ⟨fun hact => ⟨fun z => absurd z (hno e23), fun k26 hsome => ⟨fun z => absurd ((hlt k26 (hk26 e23 hsome)).mp z) cC, fun _ => by rw [hk26 e23 hsome]; exact fin 1 cE⟩⟩, fun z => absurd (q4.trans cA) z⟩⟩⟩⟩⟩)) (fun r S' z => z.nn), fun z => absurd s1 z⟩⟩⟩⟩⟩⟩⟩⟩⟩
  · skip
    have ent : rf_entered (nI n) (nI g) A rest = (A, ((0 : Int32), A 62 n, A 63 n + 1, nI n, (-1 : Int32)) :: rest) ∧ rg_entered (nI n) (nI g) A rest := by
      unfold rf_entered rg_entered
      rw [ixn, ixg, o3, ixo, q3, ex, ix8]
      refine ⟨?_, yn, yg, ⟨fun z2 => absurd z2 (by rw [hs]; decide), fun _ => ⟨fun z2 => absurd z2 (by rw [hs]; decide), fun _ => ⟨fun z2 => absurd z2 (by rw [hs]; decide), fun _ => ⟨fun z2 => absurd z2 (by rw [hs]; decide), fun _ => ⟨fun z2 => absurd z2 (by rw [hs]; decide), fun _ => ⟨fun z2 => absurd z2 (by rw [hs]; decide), fun _ => ⟨fun z2 => absurd z2 (by rw [hs]; decide), fun _ => ⟨fun _ => ⟨yo, fun z => absurd z cA, fun _ => ⟨⟨yn, by omega, trivial⟩, trivial⟩⟩, fun z => absurd hs z⟩⟩⟩⟩⟩⟩⟩⟩⟩
      rw [if_neg (show ¬ A 31 g = 0 by rw [hs]; decide), if_neg (show ¬ A 31 g = 1 by rw [hs]; decide), if_neg (show ¬ A 31 g = 2 by rw [hs]; decide), if_neg (show ¬ A 31 g = 3 by rw [hs]; decide), if_neg (show ¬ A 31 g = 4 by rw [hs]; decide), if_neg (show ¬ A 31 g = 5 by rw [hs]; decide), if_neg (show ¬ A 31 g = 6 by rw [hs]; decide), if_pos hs, if_neg cA]
    exact ⟨_, _, ent.1, ent.2, cw_enter (d := D + 1) hC ⟨fun z => absurd (s1.symm.trans z) (by decide), fun _ => ⟨fun z => absurd (s1.symm.trans z) (by decide), fun _ => ⟨fun z => absurd (s1.symm.trans z) (by decide), fun _ => ⟨fun z => absurd (s1.symm.trans z) (by decide), fun _ => ⟨fun z => absurd (s1.symm.trans z) (by decide), fun _ => ⟨fun z => absurd (s1.symm.trans z) (by decide), fun _ => ⟨fun z => absurd (s1.symm.trans z) (by decide), fun _ => ⟨fun _ => xc.mono (cw_enterMemory (d := D) (Q := kBp S A A (((0 : Int32), A 62 n, A 63 n + 1, nI n, (-1 : Int32)) :: rest) rest hb rb nb t w n (g :: gs)) hC (fun t1 e1 => ⟨o, e1.symm.trans i3, fun t4 e4 => ⟨s, e4.symm.trans q1, fun z => absurd z (by rw [k0]; exact nI_pos (by omega)), fun _ t13 e13 => ⟨g, e13.symm.trans k14, fun z => absurd z (by rw [k0, k25]; exact nI_ge (by omega) (by decide)), fun _ => ⟨by rw [k0, k25]; exact y_in_nI (by omega) (by decide), fun t23 e23 => ⟨fun hact => ⟨fun _ => go, fun k26 hsome => ⟨fun _ => go, fun _ => absurd (q4.symm.trans hact) cA⟩⟩, fun _ => go⟩⟩⟩⟩⟩)) (fun r S' z => z.nn), fun z => absurd s1 z⟩⟩⟩⟩⟩⟩⟩⟩⟩
end
