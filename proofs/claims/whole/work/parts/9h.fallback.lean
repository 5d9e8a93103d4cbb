/-! ===== A TRY BEGINS; A FALLBACK IS TOLD (printed by wip/whole/gen9h.py) ===== -/
section
theorem kNs.po0' {S S' : xm_S} {A : y_A} {X E B : Nat → Prop} {hb rb nb t w e1 e2 o d : Nat} {par gd st : Option Nat} {T D : Int32} (hM : kM S A X E B hb rb nb t w e1 e2) (hs : kNs S S' o d par gd st T D) (h1 : par = none) (h2 : d = 0) (ho : o < xm_n S 1 5) (hgd : ∀ g, gd = some g → k_tw S o d g) : k_po S' (xm_n S 1 6) ≤ 66 := by
  subst h1 h2
  exact kNs.po0 hM hs ho hgd
theorem c_newTry {d : Nat} {S : xm_S} {A : y_A} {X E B : Nat → Prop} {hb rb nb t w w' e1 e2 o dp s : Nat} {par : Option Nat} (hM : kM S A X E B hb rb nb t w e1 e2) (hX : ∀ k, X k → k < (xm_n S 1 6)) (hEx : ∀ k, E k → k < (xm_n S 1 6)) (hB : ∀ k, B k → par = some k) (ho : o < xm_n S 1 5) (hd : dp ≤ 5) (hs : s < xm_n S 1 0)
    (hpar : ∀ p, par = some p → w' = w ∧ kNp S A E hb o dp p ∧ ∀ S' T D, kNs S S' o dp par none (some s) T D → 1 + k_po S' (xm_n S 1 6) + k_po S' p ≤ k_po S p) (hnone : par = none → w = w' + 1 ∧ o + w = xm_n S 1 5 ∧ dp = 0 ∧ xm_r S 6 o 6 = none ∧ A 58 o = 0 ∧ A 56 o = A 0 0 ∧ A 57 o = -1) :
    rg_tryEnd (nI s) (A 53 o) (kAd A (xm_n S 1 6) (nI o) (nI dp) par (-1) (nI s)) ∧ xc (d + 1) 17 [.inr (some (0, 0)), .inr (some (6, o)), .inr (xo 2 par), .inr none] S (fun r S1 => r = some (.inr (some (2, (xm_n S 1 6)))) ∧ xk_C S1 ∧ xm_r S1 6 o 2 = xm_r S 6 o 2 ∧ xc (d + 1) 18 [.inr (some (0, 0)), .inr (some (2, (xm_n S 1 6))), .inr (some (9, s))] S1 (fun r S' => r = none ∧ xk_C S' ∧ kM S' (xm_u2 (kAd A (xm_n S 1 6) (nI o) (nI dp) par (-1) (nI s)) 72 (xm_n S 1 6) (rf_tryEnd (nI s) (A 53 o) (kAd A (xm_n S 1 6) (nI o) (nI dp) par (-1) (nI s)))) X E (fun _ => False) hb rb nb t w' e1 e2 ∧ kL S S' A (xm_u2 (kAd A (xm_n S 1 6) (nI o) (nI dp) par (-1) (nI s)) 72 (xm_n S 1 6) (rf_tryEnd (nI s) (A 53 o) (kAd A (xm_n S 1 6) (nI o) (nI dp) par (-1) (nI s)))))) := by
  have hp : ∀ p, par = some p → p < (xm_n S 1 6) := fun p z => (hpar p z).2.1.1
  have hbb := hM.1.2.2.1
  unfold k_bnd at hbb
  have na := kAd.na (A := A) (n := (xm_n S 1 6)) (o := o) (d := dp) (par := par) (gd := none) (st := some s) hp
  have aB : ∀ x k, x < 61 ∨ 80 ≤ x → (kAd A (xm_n S 1 6) (nI o) (nI dp) par (-1) (nI s)) x k = A x k := fun x k hx => na.1 x k (by omega) (by omega) (by omega)
  obtain ⟨k1, k2, k3, k4, k5, k6⟩ := hM.1.2.2.2.2.2.2.1 s hs
  obtain ⟨x, x1, x2, x3⟩ := k_rg (x := A 4 s) (a := 1) (b := 100) (by decide) k5 k6
  have j15 := hM.2.2.2.2.2.2.2.2.2.2.2.2.2.2.2.2.2.1
  have j16 := hM.2.2.2.2.2.2.2.2.2.2.2.2.2.2.2.2.2.2.1
  have j14 := hM.2.2.2.2.2.2.2.2.2.2.2.2.2.2.2.2.1
  have ht := hM.1.2.2.2.2.1.1
  have w3 := hM.1.2.1.2.2.1
  have h12 := hM.1.2.2.2.2.2.2.2.2.2.2.2.2.2.2.2.2.2
  have o3 := (hM.1.2.2.2.2.2.2.2.2.2.2.2.1 o ho).2.2.2.1
  have ixs : y_ix (nI s) = s := y_ix_nI (by omega)
  have eT : rf_tryEnd (nI s) (A 53 o) (kAd A (xm_n S 1 6) (nI o) (nI dp) par (-1) (nI s)) = (rf_tryEnd_15 20000 (nI s) (A 53 o) (A 0 0 + nI x) (nI 0) (kAd A (xm_n S 1 6) (nI o) (nI dp) par (-1) (nI s))).1 := by
    unfold rf_tryEnd
    rw [ixs, aB 0 0 (by decide), aB 4 s (by decide), x1]
    rfl
  have main : ∀ S1, kNs S S1 o dp par none none (A 0 0) (-1) → xk_C S1 → _ := fun S1 hs1 hC1 => c_try (d := d) (S := S) (S1 := S1) (A := A) (A1 := (kAd A (xm_n S 1 6) (nI o) (nI dp) par (-1) (nI s))) (n := (xm_n S 1 6)) (s := s) (m := xm_n S 1 2) (o := o) (t := t) (act := A 53 o) hC1 rfl (by omega) (by omega) hs1.2.2.2.2.1.2.1 ((hs1.1 6 o 3 (fun y => absurd y.1 (by decide)) (fun y => absurd y.1 (by decide))).trans o3) h12 j14.1.2.2.1 (by omega) j15 ((hs1.1 0 0 13 (fun y => absurd y.1 (by decide)) (fun y => absurd y.1 (by decide))).trans ht) w3 (by rw [hs1.2.2.1.2.1, if_neg (by decide)]) (fun i => by rw [hs1.2.2.2.1, if_neg (by omega)]) (fun q j => hs1.1 8 q j (fun y => absurd y.1 (by decide)) (fun y => absurd y.1 (by decide))) (fun q j => hs1.2.1 8 q j (fun y => absurd y.1 (by decide)) (fun y => absurd y.1 (by decide)) (fun y => absurd y.1 (by decide))) (fun x k hx => aB x k (Or.inl hx)) (xm_n S 1 2) 0 20000 x (by omega) (by omega) x2 (by omega)
  have hadd := c_addCall (d := d) (o := o) (dp := dp) (par := par) (gd := none) hM hp (fun z => (hnone z).2.2.1) (fun p z => (hpar p z).2.1.2.2.2.1)
  refine ⟨?_, ?_⟩
  · obtain ⟨-, r, S1, -, -, hC1, hs1⟩ := hadd
    obtain ⟨m1, -, -⟩ := main S1 hs1 hC1
    unfold rg_tryEnd
    rw [ixs, aB 0 0 (by decide), aB 4 s (by decide), x1]
    exact ⟨y_in_nI (by omega) (by decide), m1, trivial⟩
  · refine xc.mono hadd ?_
    rintro r S1 ⟨rfl, hC1, hs1⟩
    obtain ⟨-, ⟨y, m2, m3, m4⟩, m5⟩ := main S1 hs1 hC1
    refine ⟨rfl, hC1, hs1.2.1 6 o 2 (fun y => absurd y.1 (by decide)) (fun y => absurd y.1 (by decide)) (fun y => absurd y.2.2.1 (by decide)), cw_startTry hC1 ?_⟩
    have e9 : xm_i S1 9 s 2 = nI x := (hs1.1 9 s 2 (fun y => absurd y.1 (by decide)) (fun y => absurd y.1 (by decide))).trans (k3.trans x1)
    rw [e9]
    refine m5 _ ?_
    rw [← eT]
    rw [← eT] at m2
    have hs2 := hs1.try (D := rf_tryEnd (nI s) (A 53 o) (kAd A (xm_n S 1 6) (nI o) (nI dp) par (-1) (nI s))) (s := s) hp
    have ha2 := na.due (D := rf_tryEnd (nI s) (A 53 o) (kAd A (xm_n S 1 6) (nI o) (nI dp) par (-1) (nI s)))
    have hD : rf_tryEnd (nI s) (A 53 o) (kAd A (xm_n S 1 6) (nI o) (nI dp) par (-1) (nI s)) ≠ A 0 0 := fun z => by
      rw [z, j15, nI_add] at m2
      have := (nI_eq (a := t) (b := t + y) (by omega) (by omega)).mp m2
      omega
    have hN := hM.newc hs2 ha2 hX hEx ho hd (fun g z => by cases z) (fun s' z => by rw [← Option.some.inj z]; exact hs) (fun _ => ⟨s, rfl⟩) hD (fun g z => by cases z) (w' := w') (fun p z => by
      obtain ⟨z1, z2, z3⟩ := hpar p z
      exact ⟨z1, z2, z3 _ _ _ hs2⟩) (fun z => by
      obtain ⟨z1, z2, z3, z4, z5, z6, z7⟩ := hnone z
      exact ⟨z1, z2, z3, kNs.po0' hM hs2 z z3 ho (fun g y => by cases y), z4, z5, z6, z7⟩)
    have eE : (fun k => E k ∨ (k = (xm_n S 1 6) ∧ (none : Option Nat) ≠ none)) = E := by
      funext k
      exact propext ⟨fun z => z.resolve_right (fun y => y.2 rfl), Or.inl⟩
    have eB : (fun k => (B k ∧ par ≠ some k) ∨ (k = (xm_n S 1 6) ∧ ∃ g, (none : Option Nat) = some g ∧ (A 31 g = 3 ∨ A 31 g = 5))) = (fun _ => False) := by
      funext k
      refine propext ⟨fun z => ?_, False.elim⟩
      rcases z with z | ⟨-, g, z, -⟩
      · exact z.2 (hB k z.1)
      · cases z
    rw [eE, eB] at hN
    exact ⟨rfl, hN.1.1, hN, kNs.L hM hs2 hp (fun x k hx => (y_off (by omega)).trans (aB x k hx))⟩
end
