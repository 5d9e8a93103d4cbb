/-! ===== ENTER: bulkhead, join (printed by wip/whole/gen9t.py) ===== -/
section
theorem c_ent1 {D : Nat} {gs : List Nat} (hD : 90 ≤ D) (IH : kBG D gs) {S : xm_S} {A : y_A} {hb rb nb t w n o dp g tw q : Nat} {rest : List y_J} (hM : kM S A (fun _ => False) (fun k => False ∨ k = n) (fun k => k = n ∧ (A 31 g = 3 ∨ A 31 g = 5)) hb rb nb t w 0 0) (h : kIn S A n o dp g tw q gs) (hz : kIz S A n) (hlen : rest.length + 400 ≤ 20000) (hs : A 31 g = 1) : kEo (D + 3) S A hb rb nb t w n g gs rest := by
  have hI := h
  obtain ⟨i1, i2, i3, i4, i5, i6, i7, i8, i9, i10, i11, i12, i13, i14⟩ := h
  obtain ⟨x77, x79, x15, x14⟩ := hz
  have hn : n < xm_n S 1 6 := by omega
  have hC := hM.1.1
  have hbb := hM.1.2.2.1
  unfold k_bnd at hbb
  have ht := hM.1.2.2.2.2.1.1
  have h2 := hM.1.2.2.2.2.2.2.2.1
  have hgn := hM.gb n g hn i5
  have h3 := hM.1.2.2.2.2.2.2.2.2.1 g hgn
  have s1 : xm_i S 5 g 1 = 1 := h3.2.1.trans hs
  have ixn : y_ix (nI n) = n := y_ix_nI (by omega)
  have ixg : y_ix (nI g) = g := y_ix_nI (by omega)
  have yn : y_in (nI n) 4400 := y_in_nI (by omega) (by decide)
  have yg : y_in (nI g) 24 := y_in_nI (by omega) (by decide)
  have x75 : A 75 n = 0 := (h2 n hn).2.2.2.2.2.2.2.2.2.2.2.2.2.2.2.2.2.2.1.resolve_right i7
  have hB0 : ¬ (A 31 g = 3 ∨ A 31 g = 5) → (fun k => k = n ∧ (A 31 g = 3 ∨ A 31 g = 5)) = (fun _ => False) := fun z => by
    funext k
    exact propext ⟨fun y => z y.2, fun y => y.elim⟩
  rw [hB0 (by rw [hs]; decide)] at hM
  obtain ⟨q', y1, y2, y3, y4, y5, y6⟩ := h3.2.2.2.2.2.2.2.2.2.2.2.2.1
  have e2 := h3.2.2.1
  have e3 := h3.2.2.2.1
  have e10 := h3.2.2.2.2.2.2.2.2.2.1
  have e11 := h3.2.2.2.2.2.2.2.2.2.2.1
  have ex : (10 : Int32) * nI g + A 40 g = nI (10 * g + xm_n S 1 q') := by rw [y4, show (10 : Int32) = nI 10 from rfl, nI_mulc, nI_add]
  have ix10 : y_ix (nI (10 * g + xm_n S 1 q')) = 10 * g + xm_n S 1 q' := y_ix_nI (by omega)
  obtain ⟨-, -, b1, b2⟩ := (hM.2.2.1 g hgn).2.2.2.2.2.1 hs
  obtain ⟨z, z1, z2, z3⟩ := k_rg (x := A 33 g) (a := 0) (b := 10) (by decide) b1 b2
  have refuse : ∀ S6, S6 = xm_si S 5 g 11 (xm_i S 5 g 11 + 1) → xc (D + 1) 21 [.inr (some (0, 0)), .inl (10 : Int32), .inr (some (5, g)), .inr none] S6 (fun r S8 => ∃ t10 : Option Nat, r = some (.inr (xo 4 t10)) ∧ xk_C S8 ∧ (xc (D + 1) 22 [.inr (some (0, 0)), .inr (some (2, n)), .inr (xo 4 t10)] S8 (fun r S11 => r = none ∧ xk_C S11 ∧ kBp S A (xm_u2 A 41 g (A 41 g + 1)) (((2 : Int32), nI n, (10 : Int32), (0 : Int32), (0 : Int32)) :: rest) rest hb rb nb t w n (g :: gs) none S11))) := fun S6 e6 => by
    have hF : kF n g [(5, 11)] [] [41] S S6 A (xm_u2 A 41 g (A 41 g + 1)) := by
      subst e6
      exact ((kF.rf n g S A).si 5 g 11 _ (fun z => absurd z (by decide)) (fun _ => rfl)).u 41 g _ (fun z => absurd z.1 (by decide)) (fun _ => rfl)
    have hM1 := hM.ref hgn hF (by subst e6; rw [xi_same, y_same, e11])
    refine xc.mono (c_failN (d := D) (gs' := g :: gs) (kd := 10) (by omega) hM1 (hI.F hF (by decide) (by decide) (by decide)) (by rw [hF.2.2.1 2 14 (by decide)]; exact x14) (by decide) hlen) ?_
    rintro r S8 ⟨t10, u1, u2, u3⟩
    refine ⟨t10, u1, u2, xc.mono u3 ?_⟩
    rintro r S11 ⟨v1, v2, v3⟩
    exact ⟨v1, v2, v3.pre (hF.B (Nat.le_refl n) (by decide) (by decide) (by decide))⟩
  have wait : xm_n S 1 q' < 10 → ∀ S13, S13 = xm_si S 2 n 13 1 → xm_n S13 2 q' ≠ 0 ∧ xm_n S13 1 q' < 100000 ∧ ∀ S17, S17 = xm_push q' (2, n) S13 → kBp S A (xm_u2 (xm_u2 (xm_u2 A 75 n 1) 43 (10 * g + xm_n S 1 q') (nI n)) 40 g (A 40 g + 1)) rest rest hb rb nb t w n (g :: gs) none S17 := fun hlt S13 e13 => by
    have hcap : xm_n S 2 q' ≠ 0 := (hM.2.2.2.2.2.2.2.1).1 q' y3
    subst e13
    refine ⟨hcap, show xm_n S 1 q' < 100000 by omega, fun S17 e17 => ?_⟩
    obtain ⟨c2, c100, c101, b, ep, -, hcp⟩ := xm_push_x (xm_si S 2 n 13 1) q' (2, n) hcap
    rw [ep] at e17
    have hA : ∀ x e, (xm_u2 (xm_u2 (xm_u2 A 75 n 1) 43 (10 * g + xm_n S 1 q') (nI n)) 40 g (A 40 g + 1)) x e = if x = 40 ∧ e = g then nI (xm_n S 1 q' + 1) else if x = 43 ∧ e = 10 * g + xm_n S 1 q' then nI n else if x = 75 ∧ e = n then 1 else A x e := fun x e => by
      rw [y4, nI_1]
      rfl
    have hM1 := hM.wait (c100 := c100) (c101 := c101) (b := b) hn (Or.inr rfl) i2 i6 i5 hs i7 y1 hlt hcp hA
    rw [← e17] at hM1
    have a31 : ∀ g', (xm_u2 (xm_u2 (xm_u2 A 75 n 1) 43 (10 * g + xm_n S 1 q') (nI n)) 40 g (A 40 g + 1)) 31 g' = A 31 g' := fun g' => by rw [hA, if_neg (by omega), if_neg (by omega), if_neg (by omega)]
    have r4 : xm_r S17 = xm_r S := by rw [e17]; rfl
    have a75 : (xm_u2 (xm_u2 (xm_u2 A 75 n 1) 43 (10 * g + xm_n S 1 q') (nI n)) 40 g (A 40 g + 1)) 75 n = 1 := by rw [hA, if_neg (by omega), if_neg (by omega), if_pos ⟨rfl, rfl⟩]
    have a77 : (xm_u2 (xm_u2 (xm_u2 A 75 n 1) 43 (10 * g + xm_n S 1 q') (nI n)) 40 g (A 40 g + 1)) 77 n = 0 := by rw [hA, if_neg (by omega), if_neg (by omega), if_neg (by omega)]; exact x77
    have a79 : (xm_u2 (xm_u2 (xm_u2 A 75 n 1) 43 (10 * g + xm_n S 1 q') (nI n)) 40 g (A 40 g + 1)) 79 n = 0 := by rw [hA, if_neg (by omega), if_neg (by omega), if_neg (by omega)]; exact x79
    have hM2 := hM1.un (g := g) (by rw [r4]; exact i5) (fun _ => by rw [a77, a75]; decide) (by rw [a79]; decide) (fun y => absurd ((a31 g).symm.trans y) (by rw [hs]; decide))
    refine ⟨rfl, hM2.1.1, _, y_to.rf _ _, hM2, ?_⟩
    have fI : ∀ x e j, ¬ (x = 2 ∧ e = n) → xm_i S17 x e j = xm_i S x e j := fun x e j z => by rw [e17]; exact xi_sk z
    have nn : ∀ x r, xm_n S17 x r = if x = 1 ∧ r = q' then xm_n S 1 q' + 1 else if x = 2 ∧ r = q' then c2 else if x = 0 ∧ r = 100 then c100 else if x = 0 ∧ r = 101 then c101 else xm_n S x r := fun x r => by rw [e17]; rfl
    have ll : ∀ r i, xm_l S17 r i = if r = q' ∧ i = xm_n S 1 q' then (2, n) else xm_l S r i := fun r i => by rw [e17]; rfl
    have n1 : ∀ r, r ≠ q' → xm_n S17 1 r = xm_n S 1 r := fun r hr => by rw [nn, if_neg (fun z => hr z.2), if_neg (by omega), if_neg (by omega), if_neg (by omega)]
    refine ⟨⟨fun r hr => n1 r (by omega), by rw [n1 6 (by omega)]; exact Nat.le_refl _, by rw [n1 7 (by omega)]; exact Nat.le_refl _⟩, fun i _ => by rw [ll, if_neg (by omega)], fun k hk => ?_, fun g' hg' => ⟨a31 g', fI 5 g' 1 (by omega), fun q2 hq2 => ⟨by rw [r4]; exact hq2, fun hno => ?_⟩⟩, ⟨by rw [hA, if_neg (by omega), if_neg (by omega), if_neg (by omega)], fI 0 0 13 (by omega)⟩, by rw [fI 0 0 14 (by omega), hA, if_neg (by omega), if_neg (by omega), if_neg (by omega)]⟩
    · have hkn : ¬ (2 = 2 ∧ k = n) := by omega
      rw [kLc, r4, fI 2 k 3 hkn, fI 2 k 14 hkn, fI 2 k 8 hkn, fI 2 k 9 hkn, fI 2 k 10 hkn, fI 2 k 7 hkn, fI 2 k 19 hkn]
      exact ⟨rfl, rfl, rfl, rfl, rfl, rfl, id, fun _ => ⟨rfl, rfl, rfl, rfl, rfl, rfl⟩⟩
    · rw [n1 q2 (fun y => hno ?_)]
      · exact Nat.le_refl _
      · rw [y] at hq2
        rw [(hM.2.2.2.2.2.1).1 g' g q' hg' hgn hq2 y1]
        exact List.mem_cons_self
  have cc2 : xm_i S 5 g 3 ≤ nI (xm_n S 1 q') ↔ A 33 g ≤ A 40 g := by rw [e3, y4]
  have lt10 : ¬ A 33 g ≤ A 40 g → xm_n S 1 q' < 10 := fun y => by
    rw [z1, y4] at y
    have : ¬ z ≤ xm_n S 1 q' := fun x => y (nI_le x (by omega))
    omega
  by_cases c1 : A 32 g ≤ A 39 g
  · have c1' : xm_i S 5 g 2 ≤ xm_i S 5 g 10 := by rw [e2, e10]; exact c1
    by_cases c2 : A 33 g ≤ A 40 g
    · skip
      have ent : rf_entered (nI n) (nI g) A rest = (xm_u2 A 41 g (A 41 g + 1), ((2 : Int32), nI n, (10 : Int32), (0 : Int32), (0 : Int32)) :: rest) ∧ rg_entered (nI n) (nI g) A rest := by
        unfold rf_entered rg_entered
        rw [ixn, ixg]
        refine ⟨?_, yn, yg, ⟨fun z2 => absurd z2 (by rw [hs]; decide), fun _ => ⟨fun _ => ⟨fun _ => ⟨fun _ => ⟨by omega, trivial⟩, fun z => absurd c2 z⟩, fun z => absurd c1 z⟩, fun z => absurd hs z⟩⟩⟩
        rw [if_neg (show ¬ A 31 g = 0 by rw [hs]; decide), if_pos hs, if_pos c1, if_pos c2]
      refine ⟨_, _, ent.1, ent.2, cw_enter (d := D + 1) hC ⟨fun z => absurd (s1.symm.trans z) (by decide), fun _ => ⟨fun _ => xc.mono ?_ (fun r S' z => kBp.nn z), fun z => absurd s1 z⟩⟩⟩
      exact cw_enterBulkhead (d := D) (Q := kBp S A (xm_u2 A 41 g (A 41 g + 1)) (((2 : Int32), nI n, (10 : Int32), (0 : Int32), (0 : Int32)) :: rest) rest hb rb nb t w n (g :: gs)) hC ⟨fun _ t2 e2' => ⟨q', e2'.symm.trans y1, fun _ S6 e6 => refuse S6 e6, fun z => absurd (cc2.mpr c2) z⟩, fun z => absurd c1' z⟩
    · skip
      have ent : rf_entered (nI n) (nI g) A rest = (xm_u2 (xm_u2 (xm_u2 A 75 n 1) 43 (10 * g + xm_n S 1 q') (nI n)) 40 g (A 40 g + 1), rest) ∧ rg_entered (nI n) (nI g) A rest := by
        unfold rf_entered rg_entered
        rw [ixn, ixg]
        refine ⟨?_, yn, yg, ⟨fun z2 => absurd z2 (by rw [hs]; decide), fun _ => ⟨fun _ => ⟨fun _ => ⟨fun z => absurd z c2, fun _ => ⟨by rw [ex]; exact y_in_nI (by have := lt10 c2; omega) (by decide), trivial⟩⟩, fun z => absurd c1 z⟩, fun z => absurd hs z⟩⟩⟩
        rw [if_neg (show ¬ A 31 g = 0 by rw [hs]; decide), if_pos hs, if_pos c1, if_neg c2, ex, ix10]
      refine ⟨_, _, ent.1, ent.2, cw_enter (d := D + 1) hC ⟨fun z => absurd (s1.symm.trans z) (by decide), fun _ => ⟨fun _ => xc.mono ?_ (fun r S' z => kBp.nn z), fun z => absurd s1 z⟩⟩⟩
      exact cw_enterBulkhead (d := D) (Q := kBp S A (xm_u2 (xm_u2 (xm_u2 A 75 n 1) 43 (10 * g + xm_n S 1 q') (nI n)) 40 g (A 40 g + 1)) rest rest hb rb nb t w n (g :: gs)) hC ⟨fun _ t2 e2' => ⟨q', e2'.symm.trans y1, fun z => absurd (cc2.mp z) c2, fun _ => wait (lt10 c2)⟩, fun z => absurd c1' z⟩
  · have c1' : ¬ xm_i S 5 g 2 ≤ xm_i S 5 g 10 := by rw [e2, e10]; exact c1
    by_cases c0 : A 40 g = 0
    · have c0' : xm_n S 1 q' = 0 := (nI_eq (a := xm_n S 1 q') (b := 0) (by omega) (by decide)).mp (y4.symm.trans c0)
      have ent : rf_entered (nI n) (nI g) A rest = (xm_u2 (xm_u2 A 77 n 1) 39 g (A 39 g + 1), ((0 : Int32), A 62 n, A 63 n + 1, nI n, (-1 : Int32)) :: rest) ∧ rg_entered (nI n) (nI g) A rest := by
        unfold rf_entered rg_entered
        rw [ixn, ixg]
        refine ⟨?_, yn, yg, ⟨fun z2 => absurd z2 (by rw [hs]; decide), fun _ => ⟨fun _ => ⟨fun z => absurd z c1, fun _ => ⟨fun _ => ⟨⟨yn, yg, ⟨yn, by omega, trivial⟩, trivial⟩, trivial⟩, fun z => absurd c0 z⟩⟩, fun z => absurd hs z⟩⟩⟩
        rw [if_neg (show ¬ A 31 g = 0 by rw [hs]; decide), if_pos hs, if_neg c1, if_pos c0]
      refine ⟨_, _, ent.1, ent.2, cw_enter (d := D + 1) hC ⟨fun z => absurd (s1.symm.trans z) (by decide), fun _ => ⟨fun _ => xc.mono ?_ (fun r S' z => kBp.nn z), fun z => absurd s1 z⟩⟩⟩
      refine cw_enterBulkhead (d := D) (Q := kBp S A (xm_u2 (xm_u2 A 77 n 1) 39 g (A 39 g + 1)) (((0 : Int32), A 62 n, A 63 n + 1, nI n, (-1 : Int32)) :: rest) rest hb rb nb t w n (g :: gs)) hC ⟨fun z => absurd z c1', fun _ t19 e19 => ⟨q', e19.symm.trans y1, fun _ S23 e23 t25 e25 => ?_, fun z => absurd c0' z⟩⟩
      rw [i3] at e25
      rw [← e25]
      have hF0 : kF n g [(5, 10)] [] [39, 77] S S23 A (xm_u2 (xm_u2 A 77 n 1) 39 g (A 39 g + 1)) := by
        subst e23
        exact (((kF.rf n g S A).si 5 g 10 _ (fun z => absurd z (by decide)) (fun _ => rfl)).u 77 n 1 (fun _ => rfl) (fun z => absurd z.2 (by decide))).u 39 g _ (fun z => absurd z.1 (by decide)) (fun _ => rfl)
      have hF := hF0.w (I' := [(5, 10)]) (R' := []) (Z' := [77, 39]) (by decide) (by decide) (by decide)
      have v77 : (xm_u2 (xm_u2 A 77 n 1) 39 g (A 39 g + 1)) 77 n = 1 := (y_off (by omega)).trans (y_same _ _ _ _)
      have hM1 := hM.work hn i5 hs hF (by subst e23; rw [xi_same, y_same, e10]) v77
      have hM2 : kM S23 (xm_u2 (xm_u2 A 77 n 1) 39 g (A 39 g + 1)) (fun _ => False) (fun _ => False) (fun k => k = n ∧ False) hb rb nb t w 0 0 := by
        have e : (fun k => k = n ∧ False) = (fun _ => False : Nat → Prop) := funext fun k => propext ⟨fun y => y.2, fun y => y.elim⟩
        rw [e]
        exact hM1.un (g := g) (by rw [hF.2.2.2.1 2 4 (by decide)]; exact i5) (fun _ => by rw [v77, hF.2.2.2.2.1 75 (by decide), x75]; decide) (by rw [hF.2.2.2.2.1 79 (by decide), x79]; decide) (fun y => absurd ((hF.2.2.2.2.1 31 (by decide) g).symm.trans y) (by rw [hs]; decide))
      have hg2 := c_goIn IH hM2 (hI.F hF (by decide) (by decide) (by decide)) (fun y => absurd ((hF.2.2.2.2.1 31 (by decide) g).symm.trans y) (by rw [hs]; decide)) hlen
      rw [hF.2.2.2.2.1 62 (by decide), hF.2.2.2.2.1 63 (by decide)] at hg2
      refine xc.mono hg2 ?_
      intro r S' y
      exact y.go (by rw [hF.1]; omega) (hF.B (Nat.le_refl n) (by decide) (by decide) (by decide))
    · have c0' : ¬ xm_n S 1 q' = 0 := fun x => c0 (by rw [y4, x]; rfl)
      by_cases c2 : A 33 g ≤ A 40 g
      · skip
        have ent : rf_entered (nI n) (nI g) A rest = (xm_u2 A 41 g (A 41 g + 1), ((2 : Int32), nI n, (10 : Int32), (0 : Int32), (0 : Int32)) :: rest) ∧ rg_entered (nI n) (nI g) A rest := by
          unfold rf_entered rg_entered
          rw [ixn, ixg]
          refine ⟨?_, yn, yg, ⟨fun z2 => absurd z2 (by rw [hs]; decide), fun _ => ⟨fun _ => ⟨fun z => absurd z c1, fun _ => ⟨fun z => absurd z c0, fun _ => ⟨fun _ => ⟨by omega, trivial⟩, fun z => absurd c2 z⟩⟩⟩, fun z => absurd hs z⟩⟩⟩
          rw [if_neg (show ¬ A 31 g = 0 by rw [hs]; decide), if_pos hs, if_neg c1, if_neg c0, if_pos c2]
        refine ⟨_, _, ent.1, ent.2, cw_enter (d := D + 1) hC ⟨fun z => absurd (s1.symm.trans z) (by decide), fun _ => ⟨fun _ => xc.mono ?_ (fun r S' z => kBp.nn z), fun z => absurd s1 z⟩⟩⟩
        exact cw_enterBulkhead (d := D) (Q := kBp S A (xm_u2 A 41 g (A 41 g + 1)) (((2 : Int32), nI n, (10 : Int32), (0 : Int32), (0 : Int32)) :: rest) rest hb rb nb t w n (g :: gs)) hC ⟨fun z => absurd z c1', fun _ t19 e19 => ⟨q', e19.symm.trans y1, fun z => absurd z c0', fun _ => ⟨fun _ S6 e6 => refuse S6 e6, fun z => absurd (cc2.mpr c2) z⟩⟩⟩
      · skip
        have ent : rf_entered (nI n) (nI g) A rest = (xm_u2 (xm_u2 (xm_u2 A 75 n 1) 43 (10 * g + xm_n S 1 q') (nI n)) 40 g (A 40 g + 1), rest) ∧ rg_entered (nI n) (nI g) A rest := by
          unfold rf_entered rg_entered
          rw [ixn, ixg]
          refine ⟨?_, yn, yg, ⟨fun z2 => absurd z2 (by rw [hs]; decide), fun _ => ⟨fun _ => ⟨fun z => absurd z c1, fun _ => ⟨fun z => absurd z c0, fun _ => ⟨fun z => absurd z c2, fun _ => ⟨by rw [ex]; exact y_in_nI (by have := lt10 c2; omega) (by decide), trivial⟩⟩⟩⟩, fun z => absurd hs z⟩⟩⟩
          rw [if_neg (show ¬ A 31 g = 0 by rw [hs]; decide), if_pos hs, if_neg c1, if_neg c0, if_neg c2, ex, ix10]
        refine ⟨_, _, ent.1, ent.2, cw_enter (d := D + 1) hC ⟨fun z => absurd (s1.symm.trans z) (by decide), fun _ => ⟨fun _ => xc.mono ?_ (fun r S' z => kBp.nn z), fun z => absurd s1 z⟩⟩⟩
        exact cw_enterBulkhead (d := D) (Q := kBp S A (xm_u2 (xm_u2 (xm_u2 A 75 n 1) 43 (10 * g + xm_n S 1 q') (nI n)) 40 g (A 40 g + 1)) rest rest hb rb nb t w n (g :: gs)) hC ⟨fun z => absurd z c1', fun _ t19 e19 => ⟨q', e19.symm.trans y1, fun z => absurd z c0', fun _ => ⟨fun z => absurd (cc2.mp z) c2, fun _ => wait (lt10 c2)⟩⟩⟩
theorem c_ent8 {D : Nat} {gs : List Nat} (hD : 90 ≤ D) (IH : kBG D gs) {S : xm_S} {A : y_A} {hb rb nb t w n o dp g tw q : Nat} {rest : List y_J} (hM : kM S A (fun _ => False) (fun k => False ∨ k = n) (fun k => k = n ∧ (A 31 g = 3 ∨ A 31 g = 5)) hb rb nb t w 0 0) (h : kIn S A n o dp g tw q gs) (hz : kIz S A n) (hlen : rest.length + 400 ≤ 20000) (hs : A 31 g = 8) : kEo (D + 3) S A hb rb nb t w n g gs rest := by
  have hI := h
  obtain ⟨i1, i2, i3, i4, i5, i6, i7, i8, i9, i10, i11, i12, i13, i14⟩ := h
  obtain ⟨x77, x79, x15, x14⟩ := hz
  have hn : n < xm_n S 1 6 := by omega
  have hC := hM.1.1
  have hbb := hM.1.2.2.1
  unfold k_bnd at hbb
  have ht := hM.1.2.2.2.2.1.1
  have h2 := hM.1.2.2.2.2.2.2.2.1
  have hgn := hM.gb n g hn i5
  have h3 := hM.1.2.2.2.2.2.2.2.2.1 g hgn
  have s1 : xm_i S 5 g 1 = 8 := h3.2.1.trans hs
  have ixn : y_ix (nI n) = n := y_ix_nI (by omega)
  have ixg : y_ix (nI g) = g := y_ix_nI (by omega)
  have yn : y_in (nI n) 4400 := y_in_nI (by omega) (by decide)
  have yg : y_in (nI g) 24 := y_in_nI (by omega) (by decide)
  have x75 : A 75 n = 0 := (h2 n hn).2.2.2.2.2.2.2.2.2.2.2.2.2.2.2.2.2.2.1.resolve_right i7
  have hB0 : ¬ (A 31 g = 3 ∨ A 31 g = 5) → (fun k => k = n ∧ (A 31 g = 3 ∨ A 31 g = 5)) = (fun _ => False) := fun z => by
    funext k
    exact propext ⟨fun y => z y.2, fun y => y.elim⟩
  rw [hB0 (by rw [hs]; decide)] at hM
  have h61 : A 61 0 = nI (n + 1) := by rw [hM.1.2.1.2.2.2.2.2.2.1, ← i1]
  obtain ⟨o', o1, o2, o3⟩ := (h2 n hn).2.2.2.2.2.2.2.2.2.1
  obtain rfl : o = o' := Option.some.inj (i3.symm.trans o1)
  have hal : ∀ k, k < n → rg_isAlike (A 62 k) (nI o) A := fun k hk => (k_ldA.S hM hgn hn (show k < xm_n S 1 6 by omega) i3).2
  have h74 : A 74 n = -1 := by
    have := (h2 n hn).2.2.2.2.2.2.2.2.2.2.2.2.2.1
    rw [x15] at this
    exact this
  have l14 : ∀ k, k < xm_n S 1 6 → ¬ xm_i S 2 k 14 = 0 → xm_i S 2 k 14 = 1 := fun k hk z => by
    have e := (h2 k hk).2.2.2.2.2.2.2.1
    rcases (h2 k hk).2.2.2.2.2.2.2.2.2.2.2.2.2.2.2.2.2.1 with y | y
    · exact absurd (e.trans y) z
    · exact e.trans y
  have uni : ∀ k l, k < xm_n S 1 6 → l < xm_n S 1 6 → k_ldS S g n k → k_ldS S g n l → k = l := fun k l hk hl a b => by
    obtain ⟨a1, a2, a3, ⟨u, v, p1, p2, p3, p4, p5⟩⟩ := a
    obtain ⟨b1, b2, b3, ⟨x, y, r1, r2, r3, r4, r5⟩⟩ := b
    rw [← Option.some.inj (p2.symm.trans r2)] at r3 r4 r5
    exact (hM.2.2.2.2.2.2.2.2.2.2.2.2.2.1).1 k l hk hl a1 b1 (l14 k hk a3) (l14 l hl b3) (a2.trans b2.symm) ⟨u, x, p1, r1, p3.trans r3.symm, p4.trans r4.symm, p5.trans r5.symm⟩
  have esub : nI (n + 1) - 1 = nI (n + 1) + (-1) := Int32.sub_eq_add_neg _ _
  by_cases hex : ∃ l, l < xm_n S 1 6 ∧ k_ldS S g n l
  · obtain ⟨l, hl, hls⟩ := hex
    have hln : l ≠ n := fun z => hls.2.2.1 (by rw [z]; exact x14)
    have hln' : l < n := by omega
    obtain ⟨t1, t2⟩ := k_ld_hit (n := n) (g := g) (o := o) (l := l) (by omega) hln' hal ((k_ldA.S hM hgn hn hl i3).1.mpr hls) (fun k hk z => uni k l (by omega) hl ((k_ldA.S hM hgn hn (show k < xm_n S 1 6 by omega) i3).1.mp z) hls) (n + 1) 20000 (by omega) (by omega) (by omega)
    have cN : ¬ (xm_u2 A 74 n (nI l)) 74 n < 0 := by rw [y_same]; exact nI_pos (by omega)
    have ent : rf_entered (nI n) (nI g) A rest = (xm_u2 A 74 n (nI l), rest) ∧ rg_entered (nI n) (nI g) A rest := by
      unfold rf_entered rg_entered
      rw [ixn, ixg, o3, h61, esub, t1]
      refine ⟨?_, yn, yg, ⟨fun z2 => absurd z2 (by rw [hs]; decide), fun _ => ⟨fun z2 => absurd z2 (by rw [hs]; decide), fun _ => ⟨fun z2 => absurd z2 (by rw [hs]; decide), fun _ => ⟨fun z2 => absurd z2 (by rw [hs]; decide), fun _ => ⟨fun z2 => absurd z2 (by rw [hs]; decide), fun _ => ⟨fun z2 => absurd z2 (by rw [hs]; decide), fun _ => ⟨fun z2 => absurd z2 (by rw [hs]; decide), fun _ => ⟨fun z2 => absurd z2 (by rw [hs]; decide), fun _ => ⟨fun _ => ⟨t2, fun z => absurd z cN, fun _ => trivial⟩, fun z => absurd hs z⟩⟩⟩⟩⟩⟩⟩⟩⟩⟩
      rw [if_neg (show ¬ A 31 g = 0 by rw [hs]; decide), if_neg (show ¬ A 31 g = 1 by rw [hs]; decide), if_neg (show ¬ A 31 g = 2 by rw [hs]; decide), if_neg (show ¬ A 31 g = 3 by rw [hs]; decide), if_neg (show ¬ A 31 g = 4 by rw [hs]; decide), if_neg (show ¬ A 31 g = 5 by rw [hs]; decide), if_neg (show ¬ A 31 g = 6 by rw [hs]; decide), if_neg (show ¬ A 31 g = 7 by rw [hs]; decide), if_pos hs, if_neg cN]
    refine ⟨_, _, ent.1, ent.2, cw_enter (d := D + 1) hC ⟨fun z => absurd (s1.symm.trans z) (by decide), fun _ => ⟨fun z => absurd (s1.symm.trans z) (by decide), fun _ => ⟨fun z => absurd (s1.symm.trans z) (by decide), fun _ => ⟨fun z => absurd (s1.symm.trans z) (by decide), fun _ => ⟨fun z => absurd (s1.symm.trans z) (by decide), fun _ => ⟨fun z => absurd (s1.symm.trans z) (by decide), fun _ => ⟨fun z => absurd (s1.symm.trans z) (by decide), fun _ => ⟨fun z => absurd (s1.symm.trans z) (by decide), fun _ => ⟨fun _ => xc.mono ?_ (fun r S' z => kBp.nn z), fun z => absurd s1 z⟩⟩⟩⟩⟩⟩⟩⟩⟩⟩
    refine cw_enterJoin (d := D) (Q := kBp S A (xm_u2 A 74 n (nI l)) rest rest hb rb nb t w n (g :: gs)) hC (c_leaderFor hM hn i3 (fun z => absurd hls (z l hl)) (fun l' hl' hls' => ?_))
    obtain rfl := uni l' l hl' hl hls' hls
    refine ⟨some l', rfl, hC, (fun z => by cases z), fun k4 e4 S11 e11 S13 e13 => ?_⟩
    obtain rfl := Option.some.inj e4
    have hF : kF n 0 [(2, 13)] [(2, 15)] [74] S S13 A (xm_u2 A 74 n (nI l')) := by
      subst e11 e13
      exact (((kF.rf n 0 S A).si 2 n 13 3 (fun _ => rfl) (fun z => absurd z (by decide))).sr 2 n 15 (some l') (fun _ => rfl) (fun z => absurd z (by decide))).u 74 n _ (fun _ => rfl) (fun z => absurd z.2 (by decide))
    have hM1 := hM.join (l := l') hn i5 hs i7 i8 hln' hls.2.1 (by
      obtain ⟨u, v, p1, p2, p3, p4, p5⟩ := hls.2.2.2
      exact ⟨v, u, p2, p1, p3.symm, p4.symm, p5.symm⟩) (l14 l' hl hls.2.2.1) x14 i6 hF (by subst e11 e13; exact xi_sr.trans xi_same) (by subst e11 e13; exact xr_same) (y_same _ _ _ _)
    have hM2 := hM1.un (g := g) (by rw [hF.2.2.2.1 2 4 (by decide)]; exact i5) (fun y => absurd ((hF.2.2.2.2.1 31 (by decide) g).symm.trans y) (by rw [hs]; decide)) (by rw [hF.2.2.2.2.1 79 (by decide), x79]; decide) (fun y => absurd ((hF.2.2.2.2.1 31 (by decide) g).symm.trans y) (by rw [hs]; decide))
    exact ⟨rfl, hM2.1.1, _, y_to.rf _ _, hM2, hF.B (Nat.le_refl n) (by decide) (by decide) (by decide)⟩
  · have hno : ∀ k, k < xm_n S 1 6 → ¬ k_ldS S g n k := fun k hk z => hex ⟨k, hk, z⟩
    obtain ⟨t1, t2⟩ := k_ld_no (n := n) (g := g) (o := o) (by omega) (n + 1) 20000 A (by omega) (by omega) hal (fun k hk hkn z => hno k (by omega) ((k_ldA.S hM hgn hn (show k < xm_n S 1 6 by omega) i3).1.mp z))
    have cN : A 74 n < 0 := by rw [h74]; decide
    have ent : rf_entered (nI n) (nI g) A rest = (xm_u2 A 78 n 1, ((0 : Int32), A 62 n, A 63 n + 1, nI n, (-1 : Int32)) :: rest) ∧ rg_entered (nI n) (nI g) A rest := by
      unfold rf_entered rg_entered
      rw [ixn, ixg, o3, h61, esub, t1]
      refine ⟨?_, yn, yg, ⟨fun z2 => absurd z2 (by rw [hs]; decide), fun _ => ⟨fun z2 => absurd z2 (by rw [hs]; decide), fun _ => ⟨fun z2 => absurd z2 (by rw [hs]; decide), fun _ => ⟨fun z2 => absurd z2 (by rw [hs]; decide), fun _ => ⟨fun z2 => absurd z2 (by rw [hs]; decide), fun _ => ⟨fun z2 => absurd z2 (by rw [hs]; decide), fun _ => ⟨fun z2 => absurd z2 (by rw [hs]; decide), fun _ => ⟨fun z2 => absurd z2 (by rw [hs]; decide), fun _ => ⟨fun _ => ⟨t2, fun _ => ⟨⟨yn, by omega, trivial⟩, trivial⟩, fun z => absurd cN z⟩, fun z => absurd hs z⟩⟩⟩⟩⟩⟩⟩⟩⟩⟩
      rw [if_neg (show ¬ A 31 g = 0 by rw [hs]; decide), if_neg (show ¬ A 31 g = 1 by rw [hs]; decide), if_neg (show ¬ A 31 g = 2 by rw [hs]; decide), if_neg (show ¬ A 31 g = 3 by rw [hs]; decide), if_neg (show ¬ A 31 g = 4 by rw [hs]; decide), if_neg (show ¬ A 31 g = 5 by rw [hs]; decide), if_neg (show ¬ A 31 g = 6 by rw [hs]; decide), if_neg (show ¬ A 31 g = 7 by rw [hs]; decide), if_pos hs, if_pos cN]
      dsimp only
      rw [o3]
    refine ⟨_, _, ent.1, ent.2, cw_enter (d := D + 1) hC ⟨fun z => absurd (s1.symm.trans z) (by decide), fun _ => ⟨fun z => absurd (s1.symm.trans z) (by decide), fun _ => ⟨fun z => absurd (s1.symm.trans z) (by decide), fun _ => ⟨fun z => absurd (s1.symm.trans z) (by decide), fun _ => ⟨fun z => absurd (s1.symm.trans z) (by decide), fun _ => ⟨fun z => absurd (s1.symm.trans z) (by decide), fun _ => ⟨fun z => absurd (s1.symm.trans z) (by decide), fun _ => ⟨fun z => absurd (s1.symm.trans z) (by decide), fun _ => ⟨fun _ => xc.mono ?_ (fun r S' z => kBp.nn z), fun z => absurd s1 z⟩⟩⟩⟩⟩⟩⟩⟩⟩⟩
    refine cw_enterJoin (d := D) (Q := kBp S A (xm_u2 A 78 n 1) (((0 : Int32), A 62 n, A 63 n + 1, nI n, (-1 : Int32)) :: rest) rest hb rb nb t w n (g :: gs)) hC (c_leaderFor hM hn i3 (fun _ => ?_) (fun l' hl' hls' => absurd hls' (hno l' hl')))
    refine ⟨none, rfl, hC, fun _ S5 e5 t7 e7 => ?_, (fun k4 e4 => by cases e4)⟩
    rw [i3] at e7
    rw [← e7]
    have hF : kF n 0 [(2, 14)] [] [78] S S5 A (xm_u2 A 78 n 1) := by
      subst e5
      exact ((kF.rf n 0 S A).si 2 n 14 1 (fun _ => rfl) (fun z => absurd z (by decide))).u 78 n _ (fun _ => rfl) (fun z => absurd z.2 (by decide))
    have v14 : xm_i S5 2 n 14 = 1 := by subst e5; exact xi_same
    have hM1 := hM.leads hn i5 hs x15 (fun k hk k0 k14 k4 z => hno k hk ⟨k0, k4, by rw [k14]; decide, z⟩) hF v14 (y_same _ _ _ _)
    have hM2 : kM S5 (xm_u2 A 78 n 1) (fun _ => False) (fun _ => False) (fun k => k = n ∧ False) hb rb nb t w 0 0 := by
      have e : (fun k => k = n ∧ False) = (fun _ => False : Nat → Prop) := funext fun k => propext ⟨fun y => y.2, fun y => y.elim⟩
      rw [e]
      exact hM1.un (g := g) (by rw [hF.2.2.2.1 2 4 (by decide)]; exact i5) (fun y => absurd ((hF.2.2.2.2.1 31 (by decide) g).symm.trans y) (by rw [hs]; decide)) (by rw [hF.2.2.2.2.1 79 (by decide), x79]; decide) (fun y => absurd ((hF.2.2.2.2.1 31 (by decide) g).symm.trans y) (by rw [hs]; decide))
    have hg2 := c_goIn IH hM2 (hI.F hF (by decide) (by decide) (by decide)) (fun _ => v14) hlen
    rw [hF.2.2.2.2.1 62 (by decide), hF.2.2.2.2.1 63 (by decide)] at hg2
    refine xc.mono hg2 ?_
    intro r S' y
    exact y.go (by rw [hF.1]; omega) (hF.B (Nat.le_refl n) (by decide) (by decide) (by decide))
end
