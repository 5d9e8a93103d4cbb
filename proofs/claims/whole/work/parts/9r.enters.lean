/-! ===== ENTER, SORT BY SORT (printed by wip/whole/gen9r.py) ===== -/
section
/-- a call that has just been made -/
def kIz (S : xm_S) (A : y_A) (n : Nat) : Prop := A 77 n = 0 ∧ A 79 n = 0 ∧ xm_r S 2 n 15 = none ∧ xm_i S 2 n 14 = 0
/-- entered -/
def kEo (D : Nat) (S : xm_S) (A : y_A) (hb rb nb t w n g : Nat) (gs : List Nat) (rest : List y_J) : Prop := ∃ A2 js2, rf_entered (nI n) (nI g) A rest = (A2, js2) ∧ rg_entered (nI n) (nI g) A rest ∧ xc D 19 [.inr (some (0, 0)), .inr (some (2, n)), .inr (some (5, g))] S (kBp S A A2 js2 rest hb rb nb t w n (g :: gs))
theorem k_u2id {A : y_A} {x k : Nat} {v : Int32} (h : A x k = v) : xm_u2 A x k v = A := by
  funext y e
  by_cases c : y = x ∧ e = k
  · rw [c.1, c.2, y_same, h]
  · exact y_off c
theorem kBp.nn {S S' : xm_S} {A A0 : y_A} {js rest : List y_J} {hb rb nb t w n : Nat} {gs : List Nat} {r : Option xm_V} (h : kBp S A A0 js rest hb rb nb t w n gs r S') : r = none ∧ xk_C S' ∧ kBp S A A0 js rest hb rb nb t w n gs none S' := ⟨h.1, h.2.1, rfl, h.2⟩
theorem kBp.go {S S2 S' : xm_S} {A A2 : y_A} {js rest : List y_J} {hb rb nb t w n g : Nat} {gs : List Nat} {r : Option xm_V} (h : kBp S2 A2 A2 js rest hb rb nb t w (xm_n S2 1 6) gs r S') (hn : n ≤ xm_n S2 1 6) (hB : kB n (g :: gs) S S2 A A2) : r = none ∧ xk_C S' ∧ kBp S A A2 js rest hb rb nb t w n (g :: gs) none S' := by
  obtain ⟨z1, z2, A', z3, z4, z5⟩ := h
  exact ⟨z1, z2, rfl, z2, A', z3, z4, hB.tr (z5.w hn (fun x hx => List.mem_cons_of_mem _ hx))⟩
theorem kBp.sf {S S' : xm_S} {A : y_A} {js rest : List y_J} {hb rb nb t w n g : Nat} {gs : List Nat} {r : Option xm_V} (h : kBp S A A js rest hb rb nb t w (xm_n S 1 6) gs r S') (hn : n ≤ xm_n S 1 6) (hL : kL S S A A) : r = none ∧ xk_C S' ∧ kBp S A A js rest hb rb nb t w n (g :: gs) none S' := h.go hn (hL.B hn _)
theorem c_ent4 {D : Nat} {gs : List Nat} (hD : 90 ≤ D) (IH : kBG D gs) {S : xm_S} {A : y_A} {hb rb nb t w n o dp g tw q : Nat} {rest : List y_J} (hM : kM S A (fun _ => False) (fun k => False ∨ k = n) (fun k => k = n ∧ (A 31 g = 3 ∨ A 31 g = 5)) hb rb nb t w 0 0) (h : kIn S A n o dp g tw q gs) (hz : kIz S A n) (hlen : rest.length + 400 ≤ 20000) (hs : A 31 g = 4) : kEo (D + 3) S A hb rb nb t w n g gs rest := by
  have hI := h
  obtain ⟨i1, i2, i3, i4, i5, i6, i7, i8, i9, i10, i11, i12, i13, i14⟩ := h
  obtain ⟨x77, x79, x15, x14⟩ := hz
  have hn : n < xm_n S 1 6 := by omega
  have hC := hM.1.1
  have hbb := hM.1.2.2.1
  unfold k_bnd at hbb
  have ht := hM.1.2.2.2.2.1.1
  have h2 := hM.1.2.2.2.2.2.2.2.1
  have hgn := hM.gb n g hn i5
  have h3 := hM.1.2.2.2.2.2.2.2.2.1 g hgn
  have s1 : xm_i S 5 g 1 = 4 := h3.2.1.trans hs
  have ixn : y_ix (nI n) = n := y_ix_nI (by omega)
  have ixg : y_ix (nI g) = g := y_ix_nI (by omega)
  have yn : y_in (nI n) 4400 := y_in_nI (by omega) (by decide)
  have yg : y_in (nI g) 24 := y_in_nI (by omega) (by decide)
  have x75 : A 75 n = 0 := (h2 n hn).2.2.2.2.2.2.2.2.2.2.2.2.2.2.2.2.2.2.1.resolve_right i7
  have hB0 : ¬ (A 31 g = 3 ∨ A 31 g = 5) → (fun k => k = n ∧ (A 31 g = 3 ∨ A 31 g = 5)) = (fun _ => False) := fun z => by
    funext k
    exact propext ⟨fun y => z y.2, fun y => y.elim⟩
  have hM2 := hM.un i5 (fun z => absurd (hs.symm.trans z) (by decide)) (by rw [x79]; decide) (fun z => ⟨rfl, Or.inl z⟩)
  have ent : rf_entered (nI n) (nI g) A rest = (A, ((0 : Int32), A 62 n, A 63 n + 1, nI n, (-1 : Int32)) :: rest) ∧ rg_entered (nI n) (nI g) A rest := by
    unfold rf_entered rg_entered
    rw [ixn, ixg]
    refine ⟨?_, yn, yg, ⟨fun z2 => absurd z2 (by rw [hs]; decide), fun _ => ⟨fun z2 => absurd z2 (by rw [hs]; decide), fun _ => ⟨fun z2 => absurd z2 (by rw [hs]; decide), fun _ => ⟨fun z2 => absurd z2 (by rw [hs]; decide), fun _ => ⟨fun _ => ⟨⟨yn, by omega, trivial⟩, trivial⟩, fun z => absurd hs z⟩⟩⟩⟩⟩⟩
    rw [if_neg (show ¬ A 31 g = 0 by rw [hs]; decide), if_neg (show ¬ A 31 g = 1 by rw [hs]; decide), if_neg (show ¬ A 31 g = 2 by rw [hs]; decide), if_neg (show ¬ A 31 g = 3 by rw [hs]; decide), if_pos hs]
  refine ⟨_, _, ent.1, ent.2, cw_enter (d := D + 1) hC ⟨fun z => absurd (s1.symm.trans z) (by decide), fun _ => ⟨fun z => absurd (s1.symm.trans z) (by decide), fun _ => ⟨fun z => absurd (s1.symm.trans z) (by decide), fun _ => ⟨fun z => absurd (s1.symm.trans z) (by decide), fun _ => ⟨fun _ => fun t18 e18 => ?_, fun z => absurd s1 z⟩⟩⟩⟩⟩⟩
  rw [i3] at e18
  rw [← e18]
  refine xc.up (xc.mono (c_goIn IH hM2 hI (fun z => absurd (hs.symm.trans z) (by decide)) hlen) ?_) (show D ≤ D + 1 by omega)
  intro r S' z
  exact z.sf (by omega) hM.later
theorem c_ent6 {D : Nat} {gs : List Nat} (hD : 90 ≤ D) (IH : kBG D gs) {S : xm_S} {A : y_A} {hb rb nb t w n o dp g tw q : Nat} {rest : List y_J} (hM : kM S A (fun _ => False) (fun k => False ∨ k = n) (fun k => k = n ∧ (A 31 g = 3 ∨ A 31 g = 5)) hb rb nb t w 0 0) (h : kIn S A n o dp g tw q gs) (hz : kIz S A n) (hlen : rest.length + 400 ≤ 20000) (hs : A 31 g = 6) : kEo (D + 3) S A hb rb nb t w n g gs rest := by
  have hI := h
  obtain ⟨i1, i2, i3, i4, i5, i6, i7, i8, i9, i10, i11, i12, i13, i14⟩ := h
  obtain ⟨x77, x79, x15, x14⟩ := hz
  have hn : n < xm_n S 1 6 := by omega
  have hC := hM.1.1
  have hbb := hM.1.2.2.1
  unfold k_bnd at hbb
  have ht := hM.1.2.2.2.2.1.1
  have h2 := hM.1.2.2.2.2.2.2.2.1
  have hgn := hM.gb n g hn i5
  have h3 := hM.1.2.2.2.2.2.2.2.2.1 g hgn
  have s1 : xm_i S 5 g 1 = 6 := h3.2.1.trans hs
  have ixn : y_ix (nI n) = n := y_ix_nI (by omega)
  have ixg : y_ix (nI g) = g := y_ix_nI (by omega)
  have yn : y_in (nI n) 4400 := y_in_nI (by omega) (by decide)
  have yg : y_in (nI g) 24 := y_in_nI (by omega) (by decide)
  have x75 : A 75 n = 0 := (h2 n hn).2.2.2.2.2.2.2.2.2.2.2.2.2.2.2.2.2.2.1.resolve_right i7
  have hB0 : ¬ (A 31 g = 3 ∨ A 31 g = 5) → (fun k => k = n ∧ (A 31 g = 3 ∨ A 31 g = 5)) = (fun _ => False) := fun z => by
    funext k
    exact propext ⟨fun y => z y.2, fun y => y.elim⟩
  have hM2 := hM.un i5 (fun z => absurd (hs.symm.trans z) (by decide)) (by rw [x79]; decide) (fun z => ⟨rfl, Or.inl z⟩)
  have ent : rf_entered (nI n) (nI g) A rest = (A, ((0 : Int32), A 62 n, A 63 n + 1, nI n, (-1 : Int32)) :: rest) ∧ rg_entered (nI n) (nI g) A rest := by
    unfold rf_entered rg_entered
    rw [ixn, ixg]
    refine ⟨?_, yn, yg, ⟨fun z2 => absurd z2 (by rw [hs]; decide), fun _ => ⟨fun z2 => absurd z2 (by rw [hs]; decide), fun _ => ⟨fun z2 => absurd z2 (by rw [hs]; decide), fun _ => ⟨fun z2 => absurd z2 (by rw [hs]; decide), fun _ => ⟨fun z2 => absurd z2 (by rw [hs]; decide), fun _ => ⟨fun z2 => absurd z2 (by rw [hs]; decide), fun _ => ⟨fun _ => ⟨⟨yn, by omega, trivial⟩, trivial⟩, fun z => absurd hs z⟩⟩⟩⟩⟩⟩⟩⟩
    rw [if_neg (show ¬ A 31 g = 0 by rw [hs]; decide), if_neg (show ¬ A 31 g = 1 by rw [hs]; decide), if_neg (show ¬ A 31 g = 2 by rw [hs]; decide), if_neg (show ¬ A 31 g = 3 by rw [hs]; decide), if_neg (show ¬ A 31 g = 4 by rw [hs]; decide), if_neg (show ¬ A 31 g = 5 by rw [hs]; decide), if_pos hs]
  refine ⟨_, _, ent.1, ent.2, cw_enter (d := D + 1) hC ⟨fun z => absurd (s1.symm.trans z) (by decide), fun _ => ⟨fun z => absurd (s1.symm.trans z) (by decide), fun _ => ⟨fun z => absurd (s1.symm.trans z) (by decide), fun _ => ⟨fun z => absurd (s1.symm.trans z) (by decide), fun _ => ⟨fun z => absurd (s1.symm.trans z) (by decide), fun _ => ⟨fun z => absurd (s1.symm.trans z) (by decide), fun _ => ⟨fun _ => fun t18 e18 => ?_, fun z => absurd s1 z⟩⟩⟩⟩⟩⟩⟩⟩
  rw [i3] at e18
  rw [← e18]
  refine xc.up (xc.mono (c_goIn IH hM2 hI (fun z => absurd (hs.symm.trans z) (by decide)) hlen) ?_) (show D ≤ D + 1 by omega)
  intro r S' z
  exact z.sf (by omega) hM.later
theorem c_ent9 {D : Nat} {gs : List Nat} (hD : 90 ≤ D) (IH : kBG D gs) {S : xm_S} {A : y_A} {hb rb nb t w n o dp g tw q : Nat} {rest : List y_J} (hM : kM S A (fun _ => False) (fun k => False ∨ k = n) (fun k => k = n ∧ (A 31 g = 3 ∨ A 31 g = 5)) hb rb nb t w 0 0) (h : kIn S A n o dp g tw q gs) (hz : kIz S A n) (hlen : rest.length + 400 ≤ 20000) (hs : A 31 g = 9) : kEo (D + 3) S A hb rb nb t w n g gs rest := by
  have hI := h
  obtain ⟨i1, i2, i3, i4, i5, i6, i7, i8, i9, i10, i11, i12, i13, i14⟩ := h
  obtain ⟨x77, x79, x15, x14⟩ := hz
  have hn : n < xm_n S 1 6 := by omega
  have hC := hM.1.1
  have hbb := hM.1.2.2.1
  unfold k_bnd at hbb
  have ht := hM.1.2.2.2.2.1.1
  have h2 := hM.1.2.2.2.2.2.2.2.1
  have hgn := hM.gb n g hn i5
  have h3 := hM.1.2.2.2.2.2.2.2.2.1 g hgn
  have s1 : xm_i S 5 g 1 = 9 := h3.2.1.trans hs
  have ixn : y_ix (nI n) = n := y_ix_nI (by omega)
  have ixg : y_ix (nI g) = g := y_ix_nI (by omega)
  have yn : y_in (nI n) 4400 := y_in_nI (by omega) (by decide)
  have yg : y_in (nI g) 24 := y_in_nI (by omega) (by decide)
  have x75 : A 75 n = 0 := (h2 n hn).2.2.2.2.2.2.2.2.2.2.2.2.2.2.2.2.2.2.1.resolve_right i7
  have hB0 : ¬ (A 31 g = 3 ∨ A 31 g = 5) → (fun k => k = n ∧ (A 31 g = 3 ∨ A 31 g = 5)) = (fun _ => False) := fun z => by
    funext k
    exact propext ⟨fun y => z y.2, fun y => y.elim⟩
  have hM2 := hM.un i5 (fun z => absurd (hs.symm.trans z) (by decide)) (by rw [x79]; decide) (fun z => ⟨rfl, Or.inl z⟩)
  have ent : rf_entered (nI n) (nI g) A rest = (A, ((0 : Int32), A 62 n, A 63 n + 1, nI n, (-1 : Int32)) :: rest) ∧ rg_entered (nI n) (nI g) A rest := by
    unfold rf_entered rg_entered
    rw [ixn, ixg]
    refine ⟨?_, yn, yg, ⟨fun z2 => absurd z2 (by rw [hs]; decide), fun _ => ⟨fun z2 => absurd z2 (by rw [hs]; decide), fun _ => ⟨fun z2 => absurd z2 (by rw [hs]; decide), fun _ => ⟨fun z2 => absurd z2 (by rw [hs]; decide), fun _ => ⟨fun z2 => absurd z2 (by rw [hs]; decide), fun _ => ⟨fun z2 => absurd z2 (by rw [hs]; decide), fun _ => ⟨fun z2 => absurd z2 (by rw [hs]; decide), fun _ => ⟨fun z2 => absurd z2 (by rw [hs]; decide), fun _ => ⟨fun z2 => absurd z2 (by rw [hs]; decide), fun _ => ⟨⟨yn, by omega, trivial⟩, trivial⟩⟩⟩⟩⟩⟩⟩⟩⟩⟩⟩
    rw [if_neg (show ¬ A 31 g = 0 by rw [hs]; decide), if_neg (show ¬ A 31 g = 1 by rw [hs]; decide), if_neg (show ¬ A 31 g = 2 by rw [hs]; decide), if_neg (show ¬ A 31 g = 3 by rw [hs]; decide), if_neg (show ¬ A 31 g = 4 by rw [hs]; decide), if_neg (show ¬ A 31 g = 5 by rw [hs]; decide), if_neg (show ¬ A 31 g = 6 by rw [hs]; decide), if_neg (show ¬ A 31 g = 7 by rw [hs]; decide), if_neg (show ¬ A 31 g = 8 by rw [hs]; decide)]
  refine ⟨_, _, ent.1, ent.2, cw_enter (d := D + 1) hC ⟨fun z => absurd (s1.symm.trans z) (by decide), fun _ => ⟨fun z => absurd (s1.symm.trans z) (by decide), fun _ => ⟨fun z => absurd (s1.symm.trans z) (by decide), fun _ => ⟨fun z => absurd (s1.symm.trans z) (by decide), fun _ => ⟨fun z => absurd (s1.symm.trans z) (by decide), fun _ => ⟨fun z => absurd (s1.symm.trans z) (by decide), fun _ => ⟨fun z => absurd (s1.symm.trans z) (by decide), fun _ => ⟨fun z => absurd (s1.symm.trans z) (by decide), fun _ => ⟨fun z => absurd (s1.symm.trans z) (by decide), fun _ => fun t18 e18 => ?_⟩⟩⟩⟩⟩⟩⟩⟩⟩⟩
  rw [i3] at e18
  rw [← e18]
  refine xc.up (xc.mono (c_goIn IH hM2 hI (fun z => absurd (hs.symm.trans z) (by decide)) hlen) ?_) (show D ≤ D + 1 by omega)
  intro r S' z
  exact z.sf (by omega) hM.later
theorem c_ent3 {D : Nat} {gs : List Nat} (hD : 90 ≤ D) (IH : kBG D gs) {S : xm_S} {A : y_A} {hb rb nb t w n o dp g tw q : Nat} {rest : List y_J} (hM : kM S A (fun _ => False) (fun k => False ∨ k = n) (fun k => k = n ∧ (A 31 g = 3 ∨ A 31 g = 5)) hb rb nb t w 0 0) (h : kIn S A n o dp g tw q gs) (hz : kIz S A n) (hlen : rest.length + 400 ≤ 20000) (hs : A 31 g = 3) : kEo (D + 3) S A hb rb nb t w n g gs rest := by
  have hI := h
  obtain ⟨i1, i2, i3, i4, i5, i6, i7, i8, i9, i10, i11, i12, i13, i14⟩ := h
  obtain ⟨x77, x79, x15, x14⟩ := hz
  have hn : n < xm_n S 1 6 := by omega
  have hC := hM.1.1
  have hbb := hM.1.2.2.1
  unfold k_bnd at hbb
  have ht := hM.1.2.2.2.2.1.1
  have h2 := hM.1.2.2.2.2.2.2.2.1
  have hgn := hM.gb n g hn i5
  have h3 := hM.1.2.2.2.2.2.2.2.2.1 g hgn
  have s1 : xm_i S 5 g 1 = 3 := h3.2.1.trans hs
  have ixn : y_ix (nI n) = n := y_ix_nI (by omega)
  have ixg : y_ix (nI g) = g := y_ix_nI (by omega)
  have yn : y_in (nI n) 4400 := y_in_nI (by omega) (by decide)
  have yg : y_in (nI g) 24 := y_in_nI (by omega) (by decide)
  have x75 : A 75 n = 0 := (h2 n hn).2.2.2.2.2.2.2.2.2.2.2.2.2.2.2.2.2.2.1.resolve_right i7
  have hB0 : ¬ (A 31 g = 3 ∨ A 31 g = 5) → (fun k => k = n ∧ (A 31 g = 3 ∨ A 31 g = 5)) = (fun _ => False) := fun z => by
    funext k
    exact propext ⟨fun y => z y.2, fun y => y.elim⟩
  obtain ⟨a1, a2⟩ := (hM.2.2.1 g hgn).2.2.2.2.2.2.2.1 hs
  obtain ⟨z, z1, z2, z3⟩ := k_rg (x := A 32 g) (a := 1) (b := 1000) (by decide) a1 a2
  have j15 := hM.2.2.2.2.2.2.2.2.2.2.2.2.2.2.2.2.2.1
  have j16 := hM.2.2.2.2.2.2.2.2.2.2.2.2.2.2.2.2.2.2.1
  have hne : A 0 0 + A 32 g ≠ A 0 0 := fun y => by
    rw [j15, z1, nI_add] at y
    have := (nI_eq (a := t + z) (b := t) (by omega) (by omega)).mp y
    omega
  have ent : rf_entered (nI n) (nI g) A rest = (xm_u2 A 72 n (A 0 0 + A 32 g), ((0 : Int32), A 62 n, A 63 n + 1, nI n, (-1 : Int32)) :: rest) ∧ rg_entered (nI n) (nI g) A rest := by
    unfold rf_entered rg_entered
    rw [ixn, ixg]
    refine ⟨?_, yn, yg, ⟨fun z2 => absurd z2 (by rw [hs]; decide), fun _ => ⟨fun z2 => absurd z2 (by rw [hs]; decide), fun _ => ⟨fun z2 => absurd z2 (by rw [hs]; decide), fun _ => ⟨fun _ => ⟨⟨yn, by omega, trivial⟩, trivial⟩, fun z => absurd hs z⟩⟩⟩⟩⟩
    rw [if_neg (show ¬ A 31 g = 0 by rw [hs]; decide), if_neg (show ¬ A 31 g = 1 by rw [hs]; decide), if_neg (show ¬ A 31 g = 2 by rw [hs]; decide), if_pos hs]
  refine ⟨_, _, ent.1, ent.2, cw_enter (d := D + 1) hC ⟨fun z => absurd (s1.symm.trans z) (by decide), fun _ => ⟨fun z => absurd (s1.symm.trans z) (by decide), fun _ => ⟨fun z => absurd (s1.symm.trans z) (by decide), fun _ => ⟨fun _ => fun S11 e11 t13 e13 => ?_, fun z => absurd s1 z⟩⟩⟩⟩⟩
  rw [i3] at e13
  rw [← e13]
  have hF : kF n 0 [(2, 12)] [] [72] S S11 A (xm_u2 A 72 n (A 0 0 + A 32 g)) := by
    subst e11
    exact ((kF.rf n 0 S A).si 2 n 12 _ (fun _ => rfl) (fun z => absurd z (by decide))).u 72 n _ (fun _ => rfl) (fun z => absurd z.2 (by decide))
  have hM1 := hM.due hn i5 (fun y => absurd (hs.symm.trans y) (by decide)) (fun y => ⟨i6, rfl, Or.inr y⟩) hF (by subst e11; rw [xi_same, y_same, ht, h3.2.2.1]) (by rw [y_same]; exact hne)
  have hM2 := hM1.un (g := g) (by rw [hF.2.2.2.1 2 4 (by decide)]; exact i5) (fun y => absurd ((hF.2.2.2.2.1 31 (by decide) g).symm.trans y) (by rw [hs]; decide)) (by rw [hF.2.2.2.2.1 79 (by decide), x79]; decide) (fun y => ⟨rfl, Or.inl ((hF.2.2.2.2.1 31 (by decide) g).symm.trans y)⟩)
  have hg2 := c_goIn IH hM2 (hI.F hF (by decide) (by decide) (by decide)) (fun y => absurd ((hF.2.2.2.2.1 31 (by decide) g).symm.trans y) (by rw [hs]; decide)) hlen
  rw [hF.2.2.2.2.1 62 (by decide), hF.2.2.2.2.1 63 (by decide)] at hg2
  refine xc.up (xc.mono hg2 ?_) (show D ≤ D + 1 by omega)
  intro r S' y
  exact y.go (by rw [hF.1]; omega) (hF.B (Nat.le_refl n) (by decide) (by decide) (by decide))
theorem c_ent5 {D : Nat} {gs : List Nat} (hD : 90 ≤ D) (IH : kBG D gs) {S : xm_S} {A : y_A} {hb rb nb t w n o dp g tw q : Nat} {rest : List y_J} (hM : kM S A (fun _ => False) (fun k => False ∨ k = n) (fun k => k = n ∧ (A 31 g = 3 ∨ A 31 g = 5)) hb rb nb t w 0 0) (h : kIn S A n o dp g tw q gs) (hz : kIz S A n) (hlen : rest.length + 400 ≤ 20000) (hs : A 31 g = 5) : kEo (D + 3) S A hb rb nb t w n g gs rest := by
  have hI := h
  obtain ⟨i1, i2, i3, i4, i5, i6, i7, i8, i9, i10, i11, i12, i13, i14⟩ := h
  obtain ⟨x77, x79, x15, x14⟩ := hz
  have hn : n < xm_n S 1 6 := by omega
  have hC := hM.1.1
  have hbb := hM.1.2.2.1
  unfold k_bnd at hbb
  have ht := hM.1.2.2.2.2.1.1
  have h2 := hM.1.2.2.2.2.2.2.2.1
  have hgn := hM.gb n g hn i5
  have h3 := hM.1.2.2.2.2.2.2.2.2.1 g hgn
  have s1 : xm_i S 5 g 1 = 5 := h3.2.1.trans hs
  have ixn : y_ix (nI n) = n := y_ix_nI (by omega)
  have ixg : y_ix (nI g) = g := y_ix_nI (by omega)
  have yn : y_in (nI n) 4400 := y_in_nI (by omega) (by decide)
  have yg : y_in (nI g) 24 := y_in_nI (by omega) (by decide)
  have x75 : A 75 n = 0 := (h2 n hn).2.2.2.2.2.2.2.2.2.2.2.2.2.2.2.2.2.2.1.resolve_right i7
  have hB0 : ¬ (A 31 g = 3 ∨ A 31 g = 5) → (fun k => k = n ∧ (A 31 g = 3 ∨ A 31 g = 5)) = (fun _ => False) := fun z => by
    funext k
    exact propext ⟨fun y => z y.2, fun y => y.elim⟩
  obtain ⟨a1, a2⟩ := (hM.2.2.1 g hgn).2.2.2.2.2.2.2.2.2.1 hs
  obtain ⟨z, z1, z2, z3⟩ := k_rg (x := A 32 g) (a := 1) (b := 100) (by decide) a1 a2
  have j15 := hM.2.2.2.2.2.2.2.2.2.2.2.2.2.2.2.2.2.1
  have j16 := hM.2.2.2.2.2.2.2.2.2.2.2.2.2.2.2.2.2.2.1
  have hne : A 0 0 + A 32 g ≠ A 0 0 := fun y => by
    rw [j15, z1, nI_add] at y
    have := (nI_eq (a := t + z) (b := t) (by omega) (by omega)).mp y
    omega
  have ent : rf_entered (nI n) (nI g) A rest = (xm_u2 A 72 n (A 0 0 + A 32 g), ((0 : Int32), A 62 n, A 63 n + 1, nI n, (-1 : Int32)) :: rest) ∧ rg_entered (nI n) (nI g) A rest := by
    unfold rf_entered rg_entered
    rw [ixn, ixg]
    refine ⟨?_, yn, yg, ⟨fun z2 => absurd z2 (by rw [hs]; decide), fun _ => ⟨fun z2 => absurd z2 (by rw [hs]; decide), fun _ => ⟨fun z2 => absurd z2 (by rw [hs]; decide), fun _ => ⟨fun z2 => absurd z2 (by rw [hs]; decide), fun _ => ⟨fun z2 => absurd z2 (by rw [hs]; decide), fun _ => ⟨fun _ => ⟨⟨yn, by omega, trivial⟩, trivial⟩, fun z => absurd hs z⟩⟩⟩⟩⟩⟩⟩
    rw [if_neg (show ¬ A 31 g = 0 by rw [hs]; decide), if_neg (show ¬ A 31 g = 1 by rw [hs]; decide), if_neg (show ¬ A 31 g = 2 by rw [hs]; decide), if_neg (show ¬ A 31 g = 3 by rw [hs]; decide), if_neg (show ¬ A 31 g = 4 by rw [hs]; decide), if_pos hs]
  refine ⟨_, _, ent.1, ent.2, cw_enter (d := D + 1) hC ⟨fun z => absurd (s1.symm.trans z) (by decide), fun _ => ⟨fun z => absurd (s1.symm.trans z) (by decide), fun _ => ⟨fun z => absurd (s1.symm.trans z) (by decide), fun _ => ⟨fun z => absurd (s1.symm.trans z) (by decide), fun _ => ⟨fun z => absurd (s1.symm.trans z) (by decide), fun _ => ⟨fun _ => fun S11 e11 t13 e13 => ?_, fun z => absurd s1 z⟩⟩⟩⟩⟩⟩⟩
  rw [i3] at e13
  rw [← e13]
  have hF : kF n 0 [(2, 12)] [] [72] S S11 A (xm_u2 A 72 n (A 0 0 + A 32 g)) := by
    subst e11
    exact ((kF.rf n 0 S A).si 2 n 12 _ (fun _ => rfl) (fun z => absurd z (by decide))).u 72 n _ (fun _ => rfl) (fun z => absurd z.2 (by decide))
  have hM1 := hM.due hn i5 (fun y => absurd (hs.symm.trans y) (by decide)) (fun y => ⟨i6, rfl, Or.inr y⟩) hF (by subst e11; rw [xi_same, y_same, ht, h3.2.2.1]) (by rw [y_same]; exact hne)
  have hM2 := hM1.un (g := g) (by rw [hF.2.2.2.1 2 4 (by decide)]; exact i5) (fun y => absurd ((hF.2.2.2.2.1 31 (by decide) g).symm.trans y) (by rw [hs]; decide)) (by rw [hF.2.2.2.2.1 79 (by decide), x79]; decide) (fun y => ⟨rfl, Or.inl ((hF.2.2.2.2.1 31 (by decide) g).symm.trans y)⟩)
  have hg2 := c_goIn IH hM2 (hI.F hF (by decide) (by decide) (by decide)) (fun y => absurd ((hF.2.2.2.2.1 31 (by decide) g).symm.trans y) (by rw [hs]; decide)) hlen
  rw [hF.2.2.2.2.1 62 (by decide), hF.2.2.2.2.1 63 (by decide)] at hg2
  refine xc.up (xc.mono hg2 ?_) (show D ≤ D + 1 by omega)
  intro r S' y
  exact y.go (by rw [hF.1]; omega) (hF.B (Nat.le_refl n) (by decide) (by decide) (by decide))
theorem c_ent0 {D : Nat} {gs : List Nat} (hD : 90 ≤ D) (IH : kBG D gs) {S : xm_S} {A : y_A} {hb rb nb t w n o dp g tw q : Nat} {rest : List y_J} (hM : kM S A (fun _ => False) (fun k => False ∨ k = n) (fun k => k = n ∧ (A 31 g = 3 ∨ A 31 g = 5)) hb rb nb t w 0 0) (h : kIn S A n o dp g tw q gs) (hz : kIz S A n) (hlen : rest.length + 400 ≤ 20000) (hs : A 31 g = 0) : kEo (D + 3) S A hb rb nb t w n g gs rest := by
  have hI := h
  obtain ⟨i1, i2, i3, i4, i5, i6, i7, i8, i9, i10, i11, i12, i13, i14⟩ := h
  obtain ⟨x77, x79, x15, x14⟩ := hz
  have hn : n < xm_n S 1 6 := by omega
  have hC := hM.1.1
  have hbb := hM.1.2.2.1
  unfold k_bnd at hbb
  have ht := hM.1.2.2.2.2.1.1
  have h2 := hM.1.2.2.2.2.2.2.2.1
  have hgn := hM.gb n g hn i5
  have h3 := hM.1.2.2.2.2.2.2.2.2.1 g hgn
  have s1 : xm_i S 5 g 1 = 0 := h3.2.1.trans hs
  have ixn : y_ix (nI n) = n := y_ix_nI (by omega)
  have ixg : y_ix (nI g) = g := y_ix_nI (by omega)
  have yn : y_in (nI n) 4400 := y_in_nI (by omega) (by decide)
  have yg : y_in (nI g) 24 := y_in_nI (by omega) (by decide)
  have x75 : A 75 n = 0 := (h2 n hn).2.2.2.2.2.2.2.2.2.2.2.2.2.2.2.2.2.2.1.resolve_right i7
  have hB0 : ¬ (A 31 g = 3 ∨ A 31 g = 5) → (fun k => k = n ∧ (A 31 g = 3 ∨ A 31 g = 5)) = (fun _ => False) := fun z => by
    funext k
    exact propext ⟨fun y => z y.2, fun y => y.elim⟩
  rw [hB0 (by rw [hs]; decide)] at hM
  have e6 := h3.2.2.2.2.2.2.1
  have e8 := h3.2.2.2.2.2.2.2.2.1
  have fl := fun rest hl => c_failN (d := D) (gs' := g :: gs) (kd := 9) (rest := rest) (by omega) hM hI x14 (by decide) hl
  by_cases c2 : A 36 g = 2
  · skip
    have ent : rf_entered (nI n) (nI g) A rest = (A, ((2 : Int32), nI n, (9 : Int32), (0 : Int32), (0 : Int32)) :: rest) ∧ rg_entered (nI n) (nI g) A rest := by
      unfold rf_entered rg_entered
      rw [ixn, ixg]
      refine ⟨?_, yn, yg, ⟨fun _ => ⟨fun _ => ⟨by omega, trivial⟩, fun z => absurd c2 z⟩, fun z => absurd hs z⟩⟩
      rw [if_pos hs, if_pos c2]
    exact ⟨_, _, ent.1, ent.2, cw_enter (d := D + 1) hC ⟨fun _ => cw_enterFuse (d := D) hC ⟨fun _ => fl rest hlen, fun z => absurd (e6.trans c2) z⟩ |> fun y => xc.mono y (fun r S' z => z.nn), fun z => absurd s1 z⟩⟩
  by_cases c1 : A 36 g = 1
  · by_cases c3 : A 38 g ≤ A 0 0
    · skip
      have ent : rf_entered (nI n) (nI g) A rest = (xm_u2 (xm_u2 A 79 n 1) 36 g 2, ((0 : Int32), A 62 n, A 63 n + 1, nI n, (-1 : Int32)) :: rest) ∧ rg_entered (nI n) (nI g) A rest := by
        unfold rf_entered rg_entered
        rw [ixn, ixg]
        refine ⟨?_, yn, yg, ⟨fun _ => ⟨fun z => absurd z c2, fun _ => ⟨fun _ => ⟨fun _ => ⟨⟨yn, by omega, trivial⟩, trivial⟩, fun z => absurd c3 z⟩, fun z => absurd c1 z⟩⟩, fun z => absurd hs z⟩⟩
        rw [if_pos hs, if_neg c2, if_pos c1, if_pos c3]
      refine ⟨_, _, ent.1, ent.2, cw_enter (d := D + 1) hC ⟨fun _ => xc.mono ?_ (fun r S' z => z), fun z => absurd s1 z⟩⟩
      refine cw_enterFuse (d := D) (Q := fun r S2 => r = none ∧ xk_C S2 ∧ kBp S A (xm_u2 (xm_u2 A 79 n 1) 36 g 2) (((0 : Int32), A 62 n, A 63 n + 1, nI n, (-1 : Int32)) :: rest) rest hb rb nb t w n (g :: gs) none S2) hC ⟨fun z => absurd (e6.symm.trans z) c2, fun _ => ⟨fun _ => ⟨fun _ S9 e9 S11 e11 t13 e13 => ?_, fun z => absurd (by rw [e8, ht]; exact c3) z⟩, fun z => absurd (e6.trans c1) z⟩⟩
      rw [i3] at e13
      rw [← e13]
      have hF0 : kF n g [(5, 6)] [(5, 9)] [36, 79] S S11 A (xm_u2 (xm_u2 A 79 n 1) 36 g 2) := by
        subst e9 e11
        exact ((((kF.rf n g S A).si 5 g 6 2 (fun z => absurd z (by decide)) (fun _ => rfl)).sr 5 g 9 (some n) (fun z => absurd z (by decide)) (fun _ => rfl)).u 79 n 1 (fun _ => rfl) (fun z => absurd z.2 (by decide))).u 36 g 2 (fun z => absurd z.1 (by decide)) (fun _ => rfl)
      have hM2 := hM.trial hn id i2 i5 hs c2 hF0 (by subst e9 e11; exact (xi_sr.trans xi_same).trans (y_same _ _ _ _).symm) (by subst e9 e11; exact xr_same) (y_same _ _ _ _) ((y_off (by omega)).trans (y_same _ _ _ _))
      rw [show (fun _ => False : Nat → Prop) = (fun k => k = n ∧ False) from funext fun k => propext ⟨fun y => y.elim, fun y => y.2⟩] at hM2
      have hM3 : kM S11 (xm_u2 (xm_u2 A 79 n 1) 36 g 2) (fun _ => False) (fun _ => False) (fun k => k = n ∧ False) hb rb nb t w 0 0 := by
        have e : (fun k => k = n ∧ False) = (fun _ => False : Nat → Prop) := funext fun k => propext ⟨fun y => y.2, fun y => y.elim⟩
        rw [e] at hM2 ⊢
        exact hM2
      have hg2 := c_goIn IH hM3 (hI.F hF0 (by decide) (by decide) (by decide)) (fun y => absurd ((hF0.2.2.2.2.1 31 (by decide) g).symm.trans y) (by rw [hs]; decide)) hlen
      rw [hF0.2.2.2.2.1 62 (by decide), hF0.2.2.2.2.1 63 (by decide)] at hg2
      refine xc.mono hg2 ?_
      intro r S' y
      have := y.go (n := n) (g := g) (by rw [hF0.1]; omega) (hF0.B (Nat.le_refl n) (by decide) (by decide) (by decide))
      exact ⟨this.1, this.2.1, rfl, this.2.1, this.2.2⟩
    · skip
      have ent : rf_entered (nI n) (nI g) A rest = (A, ((2 : Int32), nI n, (9 : Int32), (0 : Int32), (0 : Int32)) :: rest) ∧ rg_entered (nI n) (nI g) A rest := by
        unfold rf_entered rg_entered
        rw [ixn, ixg]
        refine ⟨?_, yn, yg, ⟨fun _ => ⟨fun z => absurd z c2, fun _ => ⟨fun _ => ⟨fun z => absurd z c3, fun _ => ⟨by omega, trivial⟩⟩, fun z => absurd c1 z⟩⟩, fun z => absurd hs z⟩⟩
        rw [if_pos hs, if_neg c2, if_pos c1, if_neg c3]
      exact ⟨_, _, ent.1, ent.2, cw_enter (d := D + 1) hC ⟨fun _ => cw_enterFuse (d := D) hC ⟨fun z => absurd (e6.symm.trans z) c2, fun _ => ⟨fun _ => ⟨fun z => absurd (by rw [← e8, ← ht]; exact z) c3, fun _ => fl rest hlen⟩, fun z => absurd (e6.trans c1) z⟩⟩ |> fun y => xc.mono y (fun r S' z => z.nn), fun z => absurd s1 z⟩⟩
  · skip
    have ent : rf_entered (nI n) (nI g) A rest = (xm_u2 A 79 n 0, ((0 : Int32), A 62 n, A 63 n + 1, nI n, (-1 : Int32)) :: rest) ∧ rg_entered (nI n) (nI g) A rest := by
      unfold rf_entered rg_entered
      rw [ixn, ixg]
      refine ⟨?_, yn, yg, ⟨fun _ => ⟨fun z => absurd z c2, fun _ => ⟨fun z => absurd z c1, fun _ => ⟨⟨yn, by omega, trivial⟩, trivial⟩⟩⟩, fun z => absurd hs z⟩⟩
      rw [if_pos hs, if_neg c2, if_neg c1]
    rw [k_u2id x79] at ent
    have hM2 : kM S A (fun _ => False) (fun _ => False) (fun k => k = n ∧ False) hb rb nb t w 0 0 := by
      have e : (fun k => k = n ∧ False) = (fun _ => False : Nat → Prop) := funext fun k => propext ⟨fun y => y.2, fun y => y.elim⟩
      rw [e]
      exact hM.un i5 (fun z => absurd (hs.symm.trans z) (by decide)) (by rw [x79]; decide) (fun z => absurd (hs.symm.trans z) (by decide))
    refine ⟨_, _, ent.1, ent.2, cw_enter (d := D + 1) hC ⟨fun _ => xc.mono ?_ (fun r S' z => z), fun z => absurd s1 z⟩⟩
    refine cw_enterFuse (d := D) (Q := fun r S2 => r = none ∧ xk_C S2 ∧ kBp S A A (((0 : Int32), A 62 n, A 63 n + 1, nI n, (-1 : Int32)) :: rest) rest hb rb nb t w n (g :: gs) none S2) hC ⟨fun z => absurd (e6.symm.trans z) c2, fun _ => ⟨fun z => absurd (e6.symm.trans z) c1, fun _ t22 e22 => ?_⟩⟩
    rw [i3] at e22
    rw [← e22]
    refine xc.mono (c_goIn IH hM2 hI (fun z => absurd (hs.symm.trans z) (by decide)) hlen) ?_
    intro r S' z
    have := z.sf (n := n) (g := g) (by omega) hM.later
    exact ⟨this.1, this.2.1, rfl, this.2.1, this.2.2⟩
end
