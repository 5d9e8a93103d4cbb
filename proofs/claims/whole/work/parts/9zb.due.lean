/-! ===== DEADLINES, HEDGES, RETRIES THAT ARE DUE (printed by wip/whole/gen9zb.py) ===== -/
section
theorem xsi_id {S : xm_S} {c k j : Nat} {x : Int32} (h : xm_i S c k j = x) : xm_si S c k j x = S := by
  refine Prod.ext ?_ rfl
  funext p q r
  show xm_i (xm_si S c k j x) p q r = xm_i S p q r
  by_cases e : p = c ∧ q = k
  · by_cases e2 : r = j
    · rw [e.1, e.2, e2, xi_same, h]
    · exact xi_si (fun y => e2 y.2)
  · exact xi_sk e
/-- one that has ended need not be exempt -/
theorem kM.une {S : xm_S} {A : y_A} {X E B : Nat → Prop} {hb rb nb t w e1 e2 p : Nat} (h : kM S A X (fun k => E k ∨ k = p) B hb rb nb t w e1 e2) (hp0 : xm_i S 2 p 8 ≠ 0) (hX : ¬ X p) : kM S A X E B hb rb nb t w e1 e2 := by
  obtain ⟨hE, hS, hgr, ⟨j1, j2, j3, j4, j5, j6, j7, j8, j9, ⟨z1, z2⟩, j11, j12, j13, j14, j15, j16, j17, j18⟩⟩ := h
  refine ⟨hE, hS, hgr, ⟨j1, j2, j3, j4, j5, j6, fun k hk => ?_, fun g' c hg' hc => ?_, j9, ⟨fun k c hk hc hcp => z1 k c (Or.inl hk) hc hcp, fun k g hk h0 hg => ?_⟩, j11, j12, j13, j14, j15, j16, j17, j18⟩⟩
  · obtain ⟨y1, y2, y3, y4, y5, y6⟩ := j7 k hk
    refine ⟨y1, y2, y3, y4, y5, fun g' hg' a1 a2 => ?_⟩
    by_cases e : k = p
    · rw [e] at a1
      exact absurd a1 (fun z => z.elim hp0 hX)
    · exact y6 g' hg' a1 (fun z => z.elim a2 e)
  · obtain ⟨y1, y2, y3, y4⟩ := j8 g' c hg' hc
    exact ⟨y1, y2, fun z => y3 (Or.inl z), y4⟩
  · obtain ⟨y1, y2⟩ := z2 k g hk h0 hg
    refine ⟨fun x1 x2 x3 => y1 (fun z => z.elim x1 (fun e => hp0 (by rw [← e]; exact h0))) x2 x3, y2⟩
theorem k_lt_hit {A : y_A} {n l c : Nat} {js : List y_J} (h61 : A 61 0 = nI n) (hn : n ≤ 4400) (hl : l < n) (h64 : A 64 l = nI c) (h69 : A 69 l = 0) : ∀ (r i N : Nat), i + r = l → r < N → (∀ e, i ≤ e → e < l → ¬ (A 64 e = nI c ∧ A 69 e = 0)) → rf_late_12 N (nI c) (nI i) A js = ((rf_takeBack (nI l) (-1) A js).2.1, (rf_takeBack (nI l) (-1) A js).2.2) ∧ (rg_takeBack (nI l) (-1) A js → rg_late_12 N (nI c) (nI i) A js) := by
  intro r
  induction r with
  | zero =>
    intro i N hi hN hno
    obtain ⟨N, rfl⟩ : ∃ x, N = x + 1 := ⟨N - 1, by omega⟩
    obtain rfl : i = l := by omega
    have cc : ¬ A 61 0 ≤ nI i := by rw [h61]; exact nI_ge (by omega) (by omega)
    have ixi : y_ix (nI i) = i := y_ix_nI (by omega)
    have yi : y_in (nI i) 4400 := y_in_nI (by omega) (by decide)
    unfold rf_late_12 rg_late_12
    rw [if_neg cc, ixi, if_pos h64, if_pos h69]
    exact ⟨rfl, fun z => ⟨fun y => absurd y cc, fun _ => ⟨yi, fun _ => ⟨fun _ => ⟨z, trivial⟩, fun y => absurd h69 y⟩, fun y => absurd h64 y⟩⟩⟩
  | succ r ih =>
    intro i N hi hN hno
    obtain ⟨N, rfl⟩ : ∃ x, N = x + 1 := ⟨N - 1, by omega⟩
    have cc : ¬ A 61 0 ≤ nI i := by rw [h61]; exact nI_ge (by omega) (by omega)
    have ixi : y_ix (nI i) = i := y_ix_nI (by omega)
    have yi : y_in (nI i) 4400 := y_in_nI (by omega) (by decide)
    obtain ⟨i1, i2⟩ := ih (i + 1) N (by omega) (by omega) (fun m h1 h2 => hno m (by omega) h2)
    have hno' := hno i (Nat.le_refl _) (by omega)
    unfold rf_late_12 rg_late_12
    rw [if_neg cc, ixi, nI_1]
    refine ⟨?_, fun z => ⟨fun y => absurd y cc, fun _ => ⟨yi, fun c1 => ⟨fun c2 => absurd ⟨c1, c2⟩ hno', fun _ => i2 z⟩, fun _ => i2 z⟩⟩⟩
    by_cases c1 : A 64 i = nI c
    · rw [if_pos c1]
      by_cases c2 : A 69 i = 0
      · exact absurd ⟨c1, c2⟩ hno'
      · rw [if_neg c2]; exact i1
    · rw [if_neg c1]; exact i1
/-- a DEADLINE is due -/
theorem c_expire {d : Nat} (hd : 90 ≤ d) {S : xm_S} {A : y_A} {hb rb nb t c g : Nat} (hM : kM S A (fun _ => False) (fun _ => False) (fun _ => False) hb rb nb t 0 0 0) (hc : c < xm_n S 1 6) (h0 : xm_i S 2 c 8 = 0) (hg : xm_r S 2 c 4 = some g) (hs : A 31 g = 3) :
    ∃ A2 js2, rf_late (nI c) A [] = (A2, js2) ∧ rg_late (nI c) A [] ∧ xc (d + 1) 57 [.inr (some (0, 0)), .inr (some (2, c))] S (kPo S A A2 js2 [] (fun _ => False) (fun _ => False) hb rb nb t 0) := by
  have hC := hM.1.1
  have hbb := hM.1.2.2.1
  unfold k_bnd at hbb
  have h2 := hM.1.2.2.2.2.2.2.2.1
  have hgn := hM.gb c g hc hg
  obtain ⟨o, o1, o2, o3⟩ := (h2 c hc).2.2.2.2.2.2.2.2.2.1
  obtain ⟨e, a1, a2, -⟩ := (hM.2.2.2.1 c hc).2.2.2
  obtain ⟨-, l, l1, l2⟩ := ((hM.2.2.2.2.2.2.2.2.2.2.2.2.1).2 c g hc h0 hg).1 id id hs
  obtain ⟨m1, m2, -⟩ := (hM.2.2.2.2.2.2.2.2.1).1 c hc
  obtain ⟨ln, lp, -⟩ := m2 l l1
  obtain ⟨on, -, -⟩ := k_only hM ln l2 lp hg
  have h61 : A 61 0 = nI (xm_n S 1 6) := hM.1.2.1.2.2.2.2.2.2.1
  have h64 : A 64 l = nI c := by
    have := (h2 l ln).2.2.2.2.2.2.2.2.2.2.1
    rw [lp] at this
    exact this
  have h69 : A 69 l = 0 := (h2 l ln).2.2.2.2.1.symm.trans l2
  obtain ⟨A1, J1, v, b1, b2, b3⟩ := kTB.G kJN.all S A (fun _ => False) (fun _ => False) hb rb nb t 0 l c o [((2 : Int32), nI c, (12 : Int32), (0 : Int32), (0 : Int32))] hM ln l2 lp o1 (fun k z => z.elim) (fun k z => z.elim) (fun z => z.elim) (by rw [kC.f]; simp only [List.length_cons, List.length_nil]; omega)
  obtain ⟨t1, t2⟩ := k_lt_hit (js := [((2 : Int32), nI c, (12 : Int32), (0 : Int32), (0 : Int32))]) h61 (by omega) ln h64 h69 l 0 20000 (by omega) (by omega) (fun k _ hk z => by
    have hkn : k < xm_n S 1 6 := by omega
    have hkp : xm_r S 2 k 2 = some c := by
      have h64k := (h2 k hkn).2.2.2.2.2.2.2.2.2.2.1
      rw [z.1] at h64k
      rcases hz : xm_r S 2 k 2 with _ | p
      · rw [hz] at h64k
        exact absurd (show (0 : Int32) ≤ nI c from nI_pos' (by omega)) (by rw [h64k]; decide)
      · rw [hz] at h64k
        have hpk := (h2 k hkn).2.2.2.2.2.2.2.2.2.2.2.2.2.2.2.2.2.2.2.2.2.2.2.2.2.1 p hz
        rw [(nI_eq (a := c) (b := p) (by omega) (by omega)).mp h64k]
    have := on (by rw [hs]; decide) (by rw [hs]; decide) (by rw [hs]; decide) k hkn hkp
    omega)
  rw [show nI 0 = (0 : Int32) from rfl] at t1 t2
  refine ⟨A1, J1, ?_, ⟨by decide, t2 b2⟩, cw_expire hC (fun t1' e1 => ⟨fun z => ?_, fun k3 e3 => ?_⟩)⟩
  · unfold rf_late
    rw [t1, b1]
  · rw [l1, z] at e1; cases e1
  · rw [l1, e3] at e1
    rw [← Option.some.inj e1]
    refine xc.up (xc.mono b3 ?_) (show 38 ≤ d by omega)
    rintro r S12 ⟨x, x1, x2, A', x3, x4, x5, -⟩
    refine ⟨x, x1, x2, ?_⟩
    have eE : (fun k => False ∨ (xm_r S 2 l 2 = some k ∧ ∃ g, xm_r S 2 k 4 = some g ∧ A 31 g = 3)) = (fun k => False ∨ k = c) := by
      funext k
      refine propext (or_congr_right ⟨fun z => (Option.some.inj (lp.symm.trans z.1)).symm, fun z => ?_⟩)
      rw [z]
      exact ⟨lp, g, hg, hs⟩
    rw [eE] at x4
    have hLc := x5.2.2.1 c hc
    have hc' : c < xm_n S12 1 6 := by
      have := x5.1.2.1
      omega
    have hg' : xm_r S12 2 c 4 = some g := hLc.2.2.1.trans hg
    have hs' : A' 31 g = 3 := (x5.2.2.2.2.1 g hgn).1.trans hs
    have hcc := x4.1.2.2.2.2.2.2.2.1 c hc'
    have hbb' := x4.1.2.2.1
    unfold k_bnd at hbb'
    have ixc : y_ix (nI c) = c := y_ix_nI (by omega)
    have yc : y_in (nI c) 4400 := y_in_nI (by omega) (by decide)
    refine ⟨fun h0' t16 e16 => ?_, fun h0' => ?_⟩
    · rw [hg'] at e16
      rw [← e16]
      have nosort : ∀ (P : Prop) (n : Int32), (P → ∃ g', xm_r S12 2 c 4 = some g' ∧ A' 31 g' = n) → n ≠ 3 → ¬ P := fun P n H hn z => by
        obtain ⟨g', y1, y2⟩ := H z
        rw [← Option.some.inj (hg'.symm.trans y1), hs'] at y2
        exact hn y2.symm
      have j7 := x4.2.2.2.2.2.2.2.2.2.1 c hc'
      have h75 : ¬ A' 75 c = 1 := nosort _ 1 (fun z => j7.2.1 (Or.inl z)) (by decide)
      have h14 : ¬ xm_i S12 2 c 14 = 1 := fun z => nosort (A' 78 c = 1) 8 (fun z => j7.2.2.2.2.1 (Or.inl z)) (by decide) (hcc.2.2.2.2.2.2.2.1.symm.trans z)
      obtain ⟨c1, c2, c3⟩ := c_addFailure (d := d - 1) (kd := 12) (gd := some g) (st := none) x4 hc' h0' (by decide) (fun g' z => by rw [← Option.some.inj z]; exact x4.gb c g hc' hg') (fun s z => by cases z)
      rw [show d - 1 + 1 = d by omega] at c1
      refine xc.mono c1 ?_
      rintro r S13 ⟨w1, w2, w3⟩
      refine ⟨some (xm_n S12 1 8), w1, w2.1.1, ?_⟩
      have hL1 : kL S12 S13 A' (kAf A' (xm_n S12 1 8) 12 (kn (some g)) (kn none)) := w3.L x4 (Or.inl rfl) (fun x k hx => kAf.o (by omega) (by omega))
      have q2 := (x4.2.2.2.2.2.2.1).2.2.2.2.1
      have hc2 : ∀ k j, k < xm_n S12 1 6 → xm_i S13 2 k j = xm_i S12 2 k j ∧ xm_r S13 2 k j = xm_r S12 2 k j := fun k j hk => w3.1 2 k j (by decide) (by omega)
      have n8 : xm_n S13 1 8 = xm_n S12 1 8 + 1 := w3.2.2.2
      have n6 : xm_n S13 1 6 = xm_n S12 1 6 := w3.2.1 6 (by decide)
      obtain ⟨-, i2⟩ := kEN.all e a1 S13 _ (fun _ => False) (fun _ => False) hb rb nb t 0 0 1 c o [] w2 (by omega) ((hc2 c 8 hc').1.trans h0') (by rw [kAf.o (by omega) (by decide)]; exact h75) (fun k z => z.elim) (fun k z => z.elim) ((hc2 c 3 hc').1.trans (hLc.2.2.2.1.trans a2)) ((hc2 c 1 hc').2.trans (hLc.1.trans o1)) ⟨by omega, by rw [(hc2 c 14 hc').1]; exact h14, fun z => z.elim⟩ (by rw [kC.f]; simp; omega)
      refine xc.up (xc.mono (i2 (xm_n S12 1 8) 0 (by omega) (Or.inl rfl) rfl (by omega)) ?_) (show 90 ≤ d by omega)
      rintro r S16 ⟨v1, v2, A3, v3, v4, v5⟩
      refine ⟨v1, v2, rfl, v2, A3, x3.tr ?_, v4, (x5.tr hL1).tr v5⟩
      have h65 : A' 65 c = nI g := by
        have := hcc.2.2.2.2.2.2.2.2.2.2.2.1
        rw [hg'] at this
        exact this
      have h69' : A' 69 c = 0 := hcc.2.2.2.2.1.symm.trans h0'
      refine y_to.s (B := kAf A' (xm_n S12 1 8) 12 (kn (some g)) (kn none)) (ks := ((1 : Int32), nI c, (2 : Int32), nI (xm_n S12 1 8), (0 : Int32)) :: []) ?_ ?_ v3
      · rw [y_ok_2]
        unfold rg_failsNow
        rw [ixc, h65]
        exact ⟨yc, fun _ => ⟨c3, by decide, trivial⟩, fun z => absurd h69' z⟩
      · rw [y_do_2]
        have w8 := x4.1.2.1.2.2.2.2.2.2.2.1
        unfold rf_failsNow kAf
        rw [ixc, if_pos h69', h65, w8, y_ix_nI (show xm_n S12 1 8 < 2 ^ 31 by omega), nI_1, nI_pred]
        rfl
    · have h69' : ¬ A' 69 c = 0 := fun z => h0' (hcc.2.2.2.2.1.trans z)
      have x6 := x4.une h0' id
      refine ⟨rfl, x2, A', x3.tr (y_to.s (B := A') (ks := []) ?_ ?_ (y_to.rf _ _)), x6, x5⟩
      · rw [y_ok_2]
        unfold rg_failsNow
        rw [ixc]
        exact ⟨yc, fun z => absurd z h69', fun _ => trivial⟩
      · rw [y_do_2]
        unfold rf_failsNow
        rw [ixc, if_neg h69']
/-- a call p goes in -/
theorem c_goPar {S : xm_S} {A : y_A} {hb rb nb t p o e g : Nat} (hM : kM S A (fun _ => False) (fun _ => False) (fun _ => False) hb rb nb t 0 0 0) (hp : p < xm_n S 1 6) (ho : xm_r S 2 p 1 = some o) (he : xm_i S 2 p 3 = nI e) (he5 : e ≤ 5) (hg : xm_r S 2 p 4 = some g) (hnp : kNp S A (fun _ => False) hb o (e + 1) p) (hm : ∀ g m, xm_r S 2 p 4 = some g → xm_i S 2 p 16 = nI m → m ≤ 5 → m < k_mul S g) :
    ∃ gs : List Nat, g ∉ gs ∧ xc 120 16 [.inr (some (0, 0)), .inr (some (6, o)), .inr (some (2, p))] S (kBp S A A (((0 : Int32), A 62 p, A 63 p + 1, nI p, (-1 : Int32)) :: []) [] hb rb nb t 0 (xm_n S 1 6) gs) := by
  have hcc := hM.1.2.2.2.2.2.2.2.1 p hp
  obtain ⟨o', o1, o2, o3⟩ := hcc.2.2.2.2.2.2.2.2.2.1
  obtain rfl : o = o' := Option.some.inj (ho.symm.trans o1)
  obtain ⟨e', a1, a2, a3⟩ := (hM.2.2.2.1 p hp).2.2.2
  obtain rfl : e' = e := (nI_eq (a := e') (b := e) (by omega) (by omega)).mp (a2.symm.trans he)
  obtain ⟨tw, q, t1, t2, t3, t4⟩ := a3 g o hg ho
  obtain ⟨tw', u1, u2, u3⟩ := (hM.1.2.2.2.2.2.2.2.2.2.2.2.1 o o2).2.1
  obtain rfl : tw = tw' := Option.some.inj (t1.symm.trans u1)
  obtain ⟨q', q1, q2, q3, q4, q5, q6⟩ := hM.1.2.2.2.2.2.2.2.2.2.2.2.2.2.2.2.1 tw u2
  obtain rfl : q = q' := Option.some.inj (t2.symm.trans q1)
  obtain ⟨gs, gl, ge⟩ := k_gls hM u2 t2 (xm_n S 1 q - (e' + 1)) (e' + 1) (by omega)
  refine ⟨gs, fun hmem => ?_, ?_⟩
  · obtain ⟨i, hi, hgi⟩ := List.getElem_of_mem hmem
    have := ge i hi
    rw [hgi] at this
    exact (hM.2.2.2.2.1) tw q (by omega) t2 e' (e' + 1 + i) g g (by omega) (by omega) t4 this rfl
  · have main := kBG.all gs (by omega) S A (fun _ => False) hb rb nb t 0 0 o (e' + 1) tw q (some p) [] hM (fun k z => z.elim) o2 t1 t2 (by omega) ge (fun p' z => by
      rw [← Option.some.inj z]
      exact ⟨rfl, hnp, hm⟩) (fun z => by cases z) (by decide)
    have e62 : A 62 p = nI o := o3
    have e63 : A 63 p + 1 = nI (e' + 1) := by rw [← hcc.2.1, he, nI_1]
    rw [e62, e63]
    exact main
/-- what rests on nothing -/
theorem k_norest {S : xm_S} {A : y_A} {X E B : Nat → Prop} {hb rb nb t w e1 e2 k g : Nat} (hM : kM S A X E B hb rb nb t w e1 e2) (hk : k < xm_n S 1 6) (h0 : xm_i S 2 k 8 = 0) (hg : xm_r S 2 k 4 = some g) (hs1 : A 31 g ≠ 1) (hs8 : A 31 g ≠ 8) : ¬ A 75 k = 1 ∧ xm_r S 2 k 15 = none ∧ xm_i S 2 k 13 = (if A 76 k = 1 then 2 else 0) := by
  have j7 := hM.2.2.2.2.2.2.2.2.2.1 k hk
  have h75 : ¬ A 75 k = 1 := fun z => by
    obtain ⟨g', y1, y2⟩ := j7.2.1 (Or.inl z)
    rw [← Option.some.inj (hg.symm.trans y1)] at y2
    exact hs1 y2
  have h15 : xm_r S 2 k 15 = none := Classical.byContradiction fun z => by
    obtain ⟨g', y1, y2⟩ := j7.2.2.2.2.1 (Or.inr z)
    rw [← Option.some.inj (hg.symm.trans y1)] at y2
    exact hs8 y2
  refine ⟨h75, h15, ?_⟩
  have := j7.1 (Or.inl h0)
  unfold k_rest at this
  rw [this, if_neg h75, if_pos h15]
/-- a HEDGE is due -/
theorem c_hedgeDue {S : xm_S} {A : y_A} {rb nb t k g : Nat} (hM : kM S A (fun _ => False) (fun _ => False) (fun _ => False) k rb nb t 0 0 0) (hk : k < xm_n S 1 6) (h0 : xm_i S 2 k 8 = 0) (hg : xm_r S 2 k 4 = some g) (hs : A 31 g = 5) (hdue : A 72 k = A 0 0) :
    A 73 k = 1 ∧ ∃ o, xm_r S 2 k 1 = some o ∧ ∀ S31, S31 = xm_si S 2 k 13 0 → ∃ gs : List Nat, xc 120 16 [.inr (some (0, 0)), .inr (some (6, o)), .inr (some (2, k))] S31 (kBp S A A (((0 : Int32), A 62 k, A 63 k + 1, nI k, (-1 : Int32)) :: []) [] (k + 1) rb nb t 0 (xm_n S 1 6) gs) := by
  have hcc := hM.1.2.2.2.2.2.2.2.1 k hk
  obtain ⟨o, o1, o2, o3⟩ := hcc.2.2.2.2.2.2.2.2.2.1
  obtain ⟨e, a1, a2, a3⟩ := (hM.2.2.2.1 k hk).2.2.2
  obtain ⟨y1, y6, y2, y3, y4, y5⟩ := (hM.2.2.2.2.2.2.2.2.2.2.2.2.1).2 k g hk h0 hg
  have h16 : xm_i S 2 k 16 = 1 := by
    rcases y3 hs with z | z | z
    · exact z.2.elim
    · exact z
    · rcases z.2 with y | y
      · rw [hdue] at y
        exact (Int32.lt_irrefl y).elim
      · exact absurd y.2 (Nat.lt_irrefl _)
  obtain ⟨n75, n15, n13⟩ := k_norest hM hk h0 hg (by rw [hs]; decide) (by rw [hs]; decide)
  have n76 : ¬ A 76 k = 1 := fun z => by
    obtain ⟨g', x1, x2⟩ := (hM.2.2.2.2.2.2.2.2.2.1 k hk).2.2.1 z
    rw [← Option.some.inj (hg.symm.trans x1), hs] at x2
    exact absurd x2 (by decide)
  rw [if_neg n76] at n13
  refine ⟨hcc.2.2.2.2.2.2.2.2.1.symm.trans h16, o, o1, fun S31 e31 => ?_⟩
  rw [xsi_id n13] at e31
  rw [e31]
  have hM2 := hM.mono (hb' := k + 1) (rb' := rb) (nb' := nb) (by omega) (Nat.le_refl _) (Nat.le_refl _) (fun _ _ z => z)
  have hnp : kNp S A (fun _ => False) (k + 1) o (e + 1) k := ⟨hk, h0, o1, by rw [a2, nI_1], id, n75, g, 1, hg, h16, by omega, fun _ z _ => absurd hs z, fun z => (z.elim (fun z => absurd (hs.symm.trans z) (by decide)) (fun z => absurd (hs.symm.trans z) (by decide))), fun z => absurd (hs.symm.trans z) (by decide), fun _ => Or.inr ⟨rfl, Or.inr ⟨hdue, by omega⟩⟩, fun z => absurd (hs.symm.trans z) (by decide), fun z => absurd (hs.symm.trans z) (by decide)⟩
  obtain ⟨gs, -, m2⟩ := c_goPar hM2 hk o1 a2 a1 hg hnp (fun g' m hg' hm hm5 => by
    have : m = 1 := (nI_eq (a := m) (b := 1) (by omega) (by decide)).mp (hm.symm.trans h16)
    rw [this, ← Option.some.inj (hg.symm.trans hg')]
    unfold k_mul
    have s5 : xm_i S 5 g 1 = 5 := (hM.1.2.2.2.2.2.2.2.2.1 g (hM.gb k g hk hg)).2.1.trans hs
    rw [if_neg (by rw [s5]; decide), if_pos s5]
    decide)
  exact ⟨gs, m2⟩
/-- a RETRY goes on -/
theorem kM.resume {S S' : xm_S} {A A' : y_A} {X E : Nat → Prop} {hb rb nb t w e1 e2 p g : Nat} (h : kM S A X E (fun _ => False) hb rb nb t w e1 e2) (hp : p < xm_n S 1 6) (hp0 : xm_i S 2 p 8 = 0) (hg : xm_r S 2 p 4 = some g) (hsort : A 31 g = 4) (hrb : A 72 p = A 0 0 ∧ p < rb) (h75 : ¬ A 75 p = 1) (h15 : xm_r S 2 p 15 = none) (hF : kF p 0 [(2, 13)] [] [76] S S' A A') (v13 : xm_i S' 2 p 13 = 0) (v76 : A' 76 p = 0) : kM S' A' X E (fun _ => False) hb rb nb t w e1 e2 := by
  obtain ⟨⟨hC, hcnt, hb', hl, ht, hv, h1, h2, h3, h4, h5, h6, h7, h8, h9, h10, h11, h12⟩, hS, hgr, ⟨j1, j2, j3, j4, j5, j6, j7, j8, j9, j10, j11, j12, j13, j14, j15, j16, j17, j18⟩⟩ := h
  have hN : ∀ {r k : Nat}, k < xm_n S' 1 r → k < xm_n S 1 r := fun z => by rw [hF.1] at z; exact z
  refine ⟨⟨xk_C.F hF (by decide) hC, k_cnt.F hF (by decide) (by decide) (by decide) (by decide) (by decide) (by decide) (by decide) (by decide) (by decide) (by decide) (by decide) hcnt, k_bnd.F hF hb', k_lst.F hF hl, k_top.F hF (by decide) (by decide) (by decide) ht, k_live.F hF (by decide) hv, fun k hk => ks.F hF (by decide) (by decide) (by decide) (by decide) (by decide) (by decide) (by decide) (h1 k (hN hk)), ?_, fun k hk => kg.F hF (by decide) (by decide) (by decide) (by decide) (by decide) (by decide) (by decide) (by decide) (by decide) (by decide) (by decide) (by decide) (by decide) (by decide) (by decide) (by decide) (by decide) (by decide) (by decide) (by decide) (by decide) (by decide) (by decide) (by decide) (by decide) (by decide) (by decide) (by decide) (by decide) (by decide) (by decide) (by decide) (by decide) (by decide) (by decide) (h3 k (hN hk)), fun k hk => kf.F hF (by decide) (by decide) (by decide) (by decide) (by decide) (by decide) (by decide) (by decide) (by decide) (by decide) (by decide) (by decide) (by decide) (h4 k (hN hk)), fun k hk => ke.F hF (by decide) (by decide) (by decide) (by decide) (by decide) (by decide) (by decide) (by decide) (by decide) (by decide) (h5 k (hN hk)), fun k hk => ko.F hF (by decide) (by decide) (by decide) (by decide) (by decide) (by decide) (by decide) (by decide) (by decide) (by decide) (by decide) (h6 k (hN hk)), fun k hk => kp.F hF (by decide) (by decide) (by decide) (by decide) (by decide) (by decide) (by decide) (by decide) (by decide) (by decide) (by decide) (by decide) (by decide) (by decide) (by decide) (by decide) (by decide) (by decide) (by decide) (by decide) (by decide) (by decide) (by decide) (by decide) (h7 k (hN hk)), fun k hk => ka.F hF (by decide) (by decide) (by decide) (by decide) (by decide) (by decide) (by decide) (by decide) (by decide) (by decide) (by decide) (by decide) (h8 k (hN hk)), by rw [hF.1]; exact kt.F hF (by decide) (by decide) (by decide) h9, fun k hk => kt.F hF (by decide) (by decide) (by decide) (h10 k (hN hk)), fun k hk => kw.F1 hF (by decide) (by decide) (by decide) (by decide) (by decide) (by decide) (by decide) (by decide) (by decide) (by decide) (h11 k (hN hk)), fun k hk => kw.F2 hF (by decide) (by decide) (by decide) (by decide) (by decide) (by decide) (by decide) (by decide) (by decide) (by decide) (h12 k (hN hk))⟩, kS.F hF (by decide) hS, fun k hk => kgr.F hF (by decide) (by decide) (by decide) (by decide) (by decide) (by decide) (hgr k (hN hk)), ⟨k_par.F hF (by decide) (by decide) (by decide) (by decide) (by decide) (by decide) (by decide) (by decide) (by decide) j1, k_dst.F hF (by decide) (by decide) j2, k_own.F hF (by decide) (by decide) j3, k_obj.F hF j4, k_cap.F hF j5, k_chn.F hF (by decide) (by decide) (by decide) (by decide) j6, ?_, k_tri.F hF (by decide) (by decide) (by decide) (by decide) (by decide) j8, k_que.F hF (by decide) (by decide) (by decide) (by decide) (by decide) j9, ?_, k_uni.F hF (by decide) (by decide) (by decide) (by decide) (by decide) (by decide) (by decide) (by decide) (by decide) (by decide) j11, k_num.F hF (by decide) (by decide) (by decide) (by decide) (by decide) (by decide) j12, k_pot.F hF (by decide) (by decide) (by decide) (by decide) (by decide) (by decide) (by decide) (by decide) j13, k_pln.F hF (by decide) (by decide) (by decide) (by decide) (by decide) (by decide) (by decide) (by decide) (by decide) (by decide) j14, (hF.2.2.2.2.1 0 (by decide) 0).trans j15, j16, fun k k1 k2 => by rw [hF.2.2.2.2.1 72 (by decide), hF.2.2.2.2.1 0 (by decide)]; exact j17 k k1 (hN k2), fun k hk => kof.F hF (by decide) (by decide) (by decide) (by decide) (by decide) (by decide) (by decide) (by decide) (by decide) (by decide) (by decide) (by decide) (j18 k (hN hk))⟩⟩
  · intro k hk
    by_cases e : k = p
    · subst e
      obtain ⟨z1, z2, z3, z4, z5, z6, z7, z8, z9, z10, z11, z12, z13, z14, z15, z16, z17, z18, z19, z20, z21, z22⟩ := h2 k hp
      obtain ⟨a1, a2, a3, a4, a5, -⟩ := hF
      unfold kc
      rw [v76]
      simp only [a1, a3 2 0 (by decide), a3 2 3 (by decide), a3 2 5 (by decide), a3 2 7 (by decide), a3 2 8 (by decide), a3 2 9 (by decide), a3 2 10 (by decide), a3 2 12 (by decide), a3 2 14 (by decide), a3 2 16 (by decide), a4 2 1 (by decide), a4 2 2 (by decide), a4 2 4 (by decide), a4 2 6 (by decide), a4 2 11 (by decide), a4 2 15 (by decide), a5 62 (by decide), a5 63 (by decide), a5 64 (by decide), a5 65 (by decide), a5 66 (by decide), a5 67 (by decide), a5 68 (by decide), a5 69 (by decide), a5 70 (by decide), a5 71 (by decide), a5 72 (by decide), a5 73 (by decide), a5 74 (by decide), a5 75 (by decide), a5 77 (by decide), a5 78 (by decide), a5 79 (by decide)]
      exact ⟨z1, z2, z3, z4, z5, z6, z7, z8, z9, z10, z11, z12, z13, z14, z15, z16, z17, z18, z19, Or.inl trivial, z21, z22⟩
    · exact kc.O hF e (h2 k (hN hk))
  · intro k hk
    have hk' := hN hk
    obtain ⟨a1, a2, a3, a4, a5, a6, a7, a8, a9⟩ := hF
    obtain ⟨z1, z2, z3, z4, z5, z6⟩ := j7 k hk'
    have act : k_act S' X k ↔ k_act S X k := by unfold k_act; rw [a3 2 8 (by decide)]
    simp only [act, a4 2 4 (by decide), a4 2 15 (by decide), a4 5 9 (by decide), a5 75 (by decide), a5 77 (by decide), a5 78 (by decide), a5 79 (by decide), a5 31 (by decide)]
    refine ⟨fun y => ?_, z2, fun y => ?_, z4, z5, z6⟩
    · by_cases e : k = p
      · unfold k_rest
        rw [e, v13, v76, a5 75 (by decide), if_neg h75, if_neg (by decide), a4 2 15 (by decide), if_pos h15]
      · have := z1 y
        unfold k_rest at this ⊢
        rw [(a6 k 13 e).1, a8 76 k (by decide) e, a5 75 (by decide), a4 2 15 (by decide)]
        exact this
    · by_cases e : k = p
      · rw [e, v76] at y; exact absurd y (by decide)
      · rw [a8 76 k (by decide) e] at y; exact z3 y
  · obtain ⟨z1, z2⟩ := j10
    obtain ⟨a1, a2, a3, a4, a5, a6, a7, a8, a9⟩ := hF
    unfold k_sts
    simp only [a1, a3 2 8 (by decide), a3 2 16 (by decide), a4 2 2 (by decide), a4 2 4 (by decide), a4 2 17 (by decide), a5 31 (by decide), a5 72 (by decide), a5 73 (by decide), a5 32 (by decide), a5 0 (by decide)]
    refine ⟨z1, fun k g' hk h0 hg' => ?_⟩
    obtain ⟨y1, y6, y2, y3, y4, y5⟩ := z2 k g' hk h0 hg'
    by_cases e : k = p
    · subst e
      refine ⟨y1, y6, fun x => ⟨fun z => ?_, Or.inr (Or.inr hrb)⟩, y3, y4, y5⟩
      rw [v76] at z
      exact absurd z (by decide)
    · rw [a8 76 k (by decide) e]
      exact ⟨y1, y6, y2, y3, y4, y5⟩
/-- a RETRY is due -/
theorem c_retryDue {S : xm_S} {A : y_A} {hb nb t k g : Nat} (hM : kM S A (fun _ => False) (fun _ => False) (fun _ => False) hb k nb t 0 0 0) (hk : k < xm_n S 1 6) (h0 : xm_i S 2 k 8 = 0) (hg : xm_r S 2 k 4 = some g) (hs : A 31 g = 4) (hdue : A 72 k = A 0 0) :
    ¬ A 76 k = 0 ∧ ∃ o, xm_r S 2 k 1 = some o ∧ ∀ S31, S31 = xm_si S 2 k 13 0 → ∃ gs : List Nat, xc 120 16 [.inr (some (0, 0)), .inr (some (6, o)), .inr (some (2, k))] S31 (kBp S A (xm_u2 A 76 k 0) (((0 : Int32), A 62 k, A 63 k + 1, nI k, (-1 : Int32)) :: []) [] hb (k + 1) nb t 0 (xm_n S 1 6) gs) := by
  have hcc := hM.1.2.2.2.2.2.2.2.1 k hk
  obtain ⟨o, o1, o2, o3⟩ := hcc.2.2.2.2.2.2.2.2.2.1
  obtain ⟨e, a1, a2, a3⟩ := (hM.2.2.2.1 k hk).2.2.2
  have hgn := hM.gb k g hk hg
  obtain ⟨y1, y6, y2, y3, y4, y5⟩ := (hM.2.2.2.2.2.2.2.2.2.2.2.2.1).2 k g hk h0 hg
  obtain ⟨x1, x2⟩ := y2 hs
  have h76 : A 76 k = 1 := by
    rcases x2 with z | z | z
    · exact z
    · rw [hdue] at z
      exact (Int32.lt_irrefl z).elim
    · exact absurd z.2 (Nat.lt_irrefl _)
  obtain ⟨n75, n15, n13⟩ := k_norest hM hk h0 hg (by rw [hs]; decide) (by rw [hs]; decide)
  obtain ⟨lt, late⟩ := x1 h76
  obtain ⟨m1, m2, m, mm1, mm2, -⟩ := (hM.2.2.2.2.2.2.2.2.1).1 k hk
  obtain ⟨b1, b2, -⟩ := (hM.2.2.1 g hgn).2.2.2.2.2.2.2.2.1 hs
  obtain ⟨z, z1, z2, z3⟩ := k_rg (x := A 32 g) (a := 2) (b := 6) (by decide) b1 b2
  have h73 : A 73 k = nI m := hcc.2.2.2.2.2.2.2.2.1.symm.trans mm2
  have hmz : m < z := by
    rw [h73, z1] at lt
    exact (nI_ltI (by omega) (by omega)).mp lt
  refine ⟨by rw [h76]; decide, o, o1, fun S31 e31 => ?_⟩
  have hF : kF k 0 [(2, 13)] [] [76] S S31 A (xm_u2 A 76 k 0) := by
    rw [e31]
    exact ((kF.rf k 0 S A).si 2 k 13 0 (fun _ => rfl) (fun z => absurd z (by decide))).u 76 k 0 (fun _ => rfl) (fun z => absurd z.2 (by decide))
  have hM2 := hM.mono (hb' := hb) (rb' := k + 1) (nb' := nb) (Nat.le_refl _) (by omega) (Nat.le_refl _) (fun _ _ z => z)
  have hM3 := hM2.resume hk h0 hg hs ⟨hdue, by omega⟩ n75 n15 hF (by rw [e31]; exact xi_same) (y_same _ _ _ _)
  obtain ⟨f1, f2, f3, f4, f5, -⟩ := hF
  have hF : kF k 0 [(2, 13)] [] [76] S S31 A (xm_u2 A 76 k 0) := by
    rw [e31]
    exact ((kF.rf k 0 S A).si 2 k 13 0 (fun _ => rfl) (fun z => absurd z (by decide))).u 76 k 0 (fun _ => rfl) (fun z => absurd z.2 (by decide))
  have i8 : xm_i S31 2 k 8 = 0 := (f3 2 8 (by decide) k).trans h0
  have s31 : (xm_u2 A 76 k 0) 31 g = 4 := (f5 31 (by decide) g).trans hs
  have hnp : kNp S31 (xm_u2 A 76 k 0) (fun _ => False) hb o (e + 1) k := ⟨by rw [f1]; exact hk, i8, by rw [f4 2 1 (by decide)]; exact o1, by rw [f3 2 3 (by decide), a2, nI_1], id, by rw [f5 75 (by decide)]; exact n75, g, m, by rw [f4 2 4 (by decide)]; exact hg, by rw [f3 2 16 (by decide)]; exact mm2, by omega, fun z => absurd s31 z, fun _ c hc => by
    rw [f4 2 17 (by decide)] at hc
    rw [f3 2 8 (by decide)]
    exact late c hc, fun _ => by rw [y_same]; decide, fun z => absurd (s31.symm.trans z) (by decide), fun z => absurd (s31.symm.trans z) (by decide), fun z => absurd (s31.symm.trans z) (by decide)⟩
  obtain ⟨gs, -, m4⟩ := c_goPar hM3 (by rw [f1]; exact hk) (by rw [f4 2 1 (by decide)]; exact o1) (by rw [f3 2 3 (by decide)]; exact a2) a1 (by rw [f4 2 4 (by decide)]; exact hg) hnp (fun g' m' hg' hm' hm5 => by
    rw [f4 2 4 (by decide)] at hg'
    rw [f3 2 16 (by decide)] at hm'
    have : m' = m := (nI_eq (a := m') (b := m) (by omega) (by omega)).mp (hm'.symm.trans mm2)
    rw [this, ← Option.some.inj (hg.symm.trans hg')]
    have s4 : xm_i S31 5 g 1 = 4 := (f3 5 1 (by decide) g).trans ((hM.1.2.2.2.2.2.2.2.2.1 g hgn).2.1.trans hs)
    unfold k_mul
    rw [if_pos s4, f3 5 2 (by decide), (hM.1.2.2.2.2.2.2.2.2.1 g hgn).2.2.1, z1, y_ix_nI (by omega)]
    exact hmz)
  refine ⟨gs, xc.mono m4 ?_⟩
  rintro r S' ⟨v1, v2, A', v3, v4, v5⟩
  rw [f5 62 (by decide), f5 63 (by decide)] at v3
  refine ⟨v1, v2, A', v3, v4, ?_⟩
  rw [f1] at v5
  have hb0 : kB (xm_n S 1 6) gs S S31 A (xm_u2 A 76 k 0) := by
    refine (hF.L hM (by decide) (by decide) (by decide)).B (Nat.le_refl _) gs
  exact hb0.tr v5
end
