/-! ===== LATER: what stays while calls end ===== -/
section
/-- an old call -/
def kLc (S S' : xm_S) (k : Nat) : Prop := xm_r S' 2 k 1 = xm_r S 2 k 1 ∧ xm_r S' 2 k 2 = xm_r S 2 k 2 ∧ xm_r S' 2 k 4 = xm_r S 2 k 4 ∧ xm_i S' 2 k 3 = xm_i S 2 k 3 ∧ xm_i S' 2 k 14 = xm_i S 2 k 14 ∧ xm_r S' 2 k 15 = xm_r S 2 k 15 ∧ (xm_i S' 2 k 8 = 0 → xm_i S 2 k 8 = 0) ∧ (xm_i S 2 k 8 ≠ 0 → xm_i S' 2 k 8 = xm_i S 2 k 8 ∧ xm_i S' 2 k 9 = xm_i S 2 k 9 ∧ xm_i S' 2 k 10 = xm_i S 2 k 10 ∧ xm_r S' 2 k 11 = xm_r S 2 k 11 ∧ xm_i S' 2 k 7 = xm_i S 2 k 7 ∧ xm_i S' 2 k 19 = xm_i S 2 k 19)
theorem kLc.rf (S : xm_S) (k : Nat) : kLc S S k := ⟨rfl, rfl, rfl, rfl, rfl, rfl, id, fun _ => ⟨rfl, rfl, rfl, rfl, rfl, rfl⟩⟩
theorem kLc.tr {S S' S'' : xm_S} {k : Nat} (h : kLc S S' k) (g : kLc S' S'' k) : kLc S S'' k := by
  obtain ⟨a1, a2, a3, a4, a5, a6, a7, a8⟩ := h
  obtain ⟨b1, b2, b3, b4, b5, b6, b7, b8⟩ := g
  refine ⟨b1.trans a1, b2.trans a2, b3.trans a3, b4.trans a4, b5.trans a5, b6.trans a6, fun z => a7 (b7 z), fun z => ?_⟩
  obtain ⟨c1, c2, c3, c4, c5, c6⟩ := a8 z
  obtain ⟨d1, d2, d3, d4, d5, d6⟩ := b8 (by rw [c1]; exact z)
  exact ⟨d1.trans c1, d2.trans c2, d3.trans c3, d4.trans c4, d5.trans c5, d6.trans c6⟩
/-- takings: none of the old numbers is given again -/
def kLt (S S' : xm_S) : Prop := ∃ T T', xm_i S 0 0 15 = nI T ∧ xm_i S' 0 0 15 = nI T' ∧ T ≤ T' ∧ T' < 2 ^ 31 ∧ ∀ k s, k < xm_n S 1 6 → s ≤ T → xm_i S' 2 k 19 = nI s → xm_i S 2 k 19 = nI s
def kL (S S' : xm_S) (A A' : y_A) : Prop :=
  ((∀ r, r < 6 ∨ r = 10 ∨ r = 11 → xm_n S' 1 r = xm_n S 1 r) ∧ xm_n S 1 6 ≤ xm_n S' 1 6 ∧ xm_n S 1 7 ≤ xm_n S' 1 7 ∧ xm_n S 1 8 ≤ xm_n S' 1 8) ∧
  (∀ i, i < xm_n S 1 7 → xm_l S' 7 i = xm_l S 7 i) ∧ (∀ k, k < xm_n S 1 6 → kLc S S' k) ∧ (∀ k, xm_n S 1 6 ≤ k → k < xm_n S' 1 6 → xm_r S' 2 k 15 = none ∧ xm_i S' 2 k 14 = 0) ∧
  (∀ g, g < xm_n S 1 3 → A' 31 g = A 31 g ∧ xm_i S' 5 g 1 = xm_i S 5 g 1 ∧ ∀ q, xm_r S 5 g 12 = some q → xm_r S' 5 g 12 = some q ∧ xm_n S' 1 q ≤ xm_n S 1 q) ∧
  (∀ o, o < xm_n S 1 5 → xm_r S' 6 o 2 = xm_r S 6 o 2 ∧ xm_i S' 6 o 3 = xm_i S 6 o 3 ∧ xm_i S' 6 o 4 = xm_i S 6 o 4) ∧
  (A' 0 0 = A 0 0 ∧ xm_i S' 0 0 13 = xm_i S 0 0 13) ∧ xm_i S' 0 0 14 + A 60 0 = xm_i S 0 0 14 + A' 60 0 ∧ (k_hows S 3 ≤ k_hows S' 3 ∧ ∀ i, i < k_hows S 3 → A' 81 i = A 81 i) ∧ kLt S S'
theorem kL.rf {S : xm_S} {A : y_A} {T : Nat} (hT : xm_i S 0 0 15 = nI T) (hb : T < 2 ^ 31) : kL S S A A := ⟨⟨fun _ _ => rfl, Nat.le_refl _, Nat.le_refl _, Nat.le_refl _⟩, fun _ _ => rfl, fun k _ => kLc.rf S k, fun k h1 h2 => absurd h2 (by omega), fun g _ => ⟨rfl, rfl, fun q hq => ⟨hq, Nat.le_refl _⟩⟩, fun o _ => ⟨rfl, rfl, rfl⟩, ⟨rfl, rfl⟩, rfl, ⟨Nat.le_refl _, fun _ _ => rfl⟩, ⟨T, T, hT, hT, Nat.le_refl _, hb, fun _ _ _ _ h => h⟩⟩
theorem kM.T {S : xm_S} {A : y_A} {X E B : Nat → Prop} {hb rb nb t w e1 e2 : Nat} (h : kM S A X E B hb rb nb t w e1 e2) : ∃ T, xm_i S 0 0 15 = nI T ∧ T < 2 ^ 31 ∧ T ≤ k_hows S 3 := by
  obtain ⟨hE, -, -, hI⟩ := h
  obtain ⟨-, -, T, z3, z4, -⟩ := hI.2.2.2.2.2.2.2.2.2.2.2.1
  have hb6 := hE.2.2.1
  unfold k_bnd at hb6
  have : k_hows S 3 ≤ xm_n S 1 6 := by
    unfold k_hows
    refine xs_le1 (fun k => ?_)
    by_cases e : xm_i S 2 k 8 = 3
    · simp only [e, if_true]; exact Nat.le_refl _
    · simp only [e, if_false]; exact Nat.zero_le _
  exact ⟨T, z3, by omega, z4⟩
theorem kM.later {S : xm_S} {A : y_A} {X E B : Nat → Prop} {hb rb nb t w e1 e2 : Nat} (h : kM S A X E B hb rb nb t w e1 e2) : kL S S A A := by
  obtain ⟨T, h1, h2, -⟩ := h.T
  exact kL.rf h1 h2
theorem kL.tr {S S' S'' : xm_S} {A A' A'' : y_A} (h : kL S S' A A') (g : kL S' S'' A' A'') : kL S S'' A A'' := by
  obtain ⟨⟨a1, a2, a3, a4⟩, a5, a6, a7, a8, a9, ⟨a10, a10'⟩, a11, ⟨a12, a13⟩, ⟨T, T', t1, t2, t3, t4, t5⟩⟩ := h
  obtain ⟨⟨b1, b2, b3, b4⟩, b5, b6, b7, b8, b9, ⟨b10, b10'⟩, b11, ⟨b12, b13⟩, ⟨U, U', u1, u2, u3, u4, u5⟩⟩ := g
  have hTU : T' = U := (nI_eq t4 (by omega)).mp (t2.symm.trans u1)
  refine ⟨⟨fun r hr => (b1 r hr).trans (a1 r hr), by omega, by omega, by omega⟩, fun i hi => (b5 i (by omega)).trans (a5 i hi), fun k hk => (a6 k hk).tr (b6 k (by omega)), fun k h1 h2 => ?_, fun g hg => ?_, fun o ho => ?_, ⟨b10.trans a10, b10'.trans a10'⟩, ?_, ⟨by omega, fun i hi => (b13 i (by omega)).trans (a13 i hi)⟩, ⟨T, U', t1, u2, by omega, u4, fun k s hk hs z => t5 k s hk hs (u5 k s (by omega) (by omega) z)⟩⟩
  · by_cases hk : k < xm_n S' 1 6
    · obtain ⟨c1, c2⟩ := a7 k h1 hk
      have c3 := b6 k hk
      exact ⟨c3.2.2.2.2.2.1.trans c1, c3.2.2.2.2.1.trans c2⟩
    · exact b7 k (by omega) h2
  · have hg' : g < xm_n S' 1 3 := by rw [a1 3 (by decide)]; exact hg
    obtain ⟨c1, c2, c3⟩ := a8 g hg
    obtain ⟨d1, d2, d3⟩ := b8 g hg'
    refine ⟨d1.trans c1, d2.trans c2, fun q hq => ?_⟩
    obtain ⟨c4, c5⟩ := c3 q hq
    obtain ⟨d4, d5⟩ := d3 q c4
    exact ⟨d4, by omega⟩
  · have ho' : o < xm_n S' 1 5 := by rw [a1 5 (by decide)]; exact ho
    obtain ⟨c1, c2, c3⟩ := a9 o ho
    obtain ⟨d1, d2, d3⟩ := b9 o ho'
    exact ⟨d1.trans c1, d2.trans c2, d3.trans c3⟩
  · have e : xm_i S'' 0 0 14 + A 60 0 + A' 60 0 = xm_i S 0 0 14 + A'' 60 0 + A' 60 0 := by
      rw [Int32.add_assoc, Int32.add_comm (A 60 0), ← Int32.add_assoc, b11, Int32.add_assoc, Int32.add_comm (A'' 60 0), ← Int32.add_assoc, a11, Int32.add_assoc, Int32.add_comm (A' 60 0), ← Int32.add_assoc]
    exact (Int32.add_left_inj _).mp e
/-- no one that leads is under way in the order -/
def kNl (S : xm_S) (o : Nat) : Prop := ∀ e, e < xm_n S 1 6 → xm_i S 2 e 8 = 0 → xm_i S 2 e 14 = 1 → xm_r S 2 e 1 ≠ some o
theorem kNl.L {S S' : xm_S} {A A' : y_A} {o : Nat} (h : kL S S' A A') (n : kNl S o) : kNl S' o := fun e he h0 h1 z => by
  obtain ⟨-, -, a6, a7, -⟩ := h
  by_cases hk : e < xm_n S 1 6
  · obtain ⟨c1, -, -, -, c5, -, c7, -⟩ := a6 e hk
    exact n e hk (c7 h0) (c5.symm.trans h1) (c1.symm.trans z)
  · rw [(a7 e (by omega) he).2] at h1
    exact absurd h1 (by decide)
/-- fields alone -/
theorem kF.L {c g : Nat} {I R : List (Nat × Nat)} {Z : List Nat} {S S' : xm_S} {A A' : y_A} (h : kF c g I R Z S S' A A') {X E B : Nat → Prop} {hb rb nb t w e1 e2 : Nat} (hM : kM S A X E B hb rb nb t w e1 e2) (hI : ∀ x ∈ [(2, 3), (2, 14), (2, 8), (2, 9), (2, 10), (2, 7), (2, 19), (5, 1), (6, 3), (6, 4), (0, 13), (0, 14), (0, 15)], x ∉ I) (hR : ∀ x ∈ [(2, 1), (2, 2), (2, 4), (2, 15), (2, 11), (5, 12), (6, 2)], x ∉ R) (hZ : ∀ x ∈ [0, 31, 60, 81], x ∉ Z) : kL S S' A A' := by
  obtain ⟨T, t1, t2, -⟩ := hM.T
  obtain ⟨a1, a2, a3, a4, a5, -⟩ := h
  have hw : k_hows S' 3 = k_hows S 3 := by
    unfold k_hows
    rw [a1]
    exact xs_congr (fun k _ => by rw [a3 2 8 (hI _ (by decide))])
  refine ⟨⟨fun r _ => by rw [a1], by rw [a1]; exact Nat.le_refl _, by rw [a1]; exact Nat.le_refl _, by rw [a1]; exact Nat.le_refl _⟩, fun i _ => by rw [a2], fun k _ => ⟨a4 2 1 (hR _ (by decide)) k, a4 2 2 (hR _ (by decide)) k, a4 2 4 (hR _ (by decide)) k, a3 2 3 (hI _ (by decide)) k, a3 2 14 (hI _ (by decide)) k, a4 2 15 (hR _ (by decide)) k, fun z => (a3 2 8 (hI _ (by decide)) k).symm.trans z, fun _ => ⟨a3 2 8 (hI _ (by decide)) k, a3 2 9 (hI _ (by decide)) k, a3 2 10 (hI _ (by decide)) k, a4 2 11 (hR _ (by decide)) k, a3 2 7 (hI _ (by decide)) k, a3 2 19 (hI _ (by decide)) k⟩⟩, fun k z1 z2 => absurd z2 (by rw [a1]; omega), fun g _ => ⟨a5 31 (hZ _ (by decide)) g, a3 5 1 (hI _ (by decide)) g, fun q hq => ⟨(a4 5 12 (hR _ (by decide)) g).trans hq, by rw [a1]; exact Nat.le_refl _⟩⟩, fun o _ => ⟨a4 6 2 (hR _ (by decide)) o, a3 6 3 (hI _ (by decide)) o, a3 6 4 (hI _ (by decide)) o⟩, ⟨a5 0 (hZ _ (by decide)) 0, a3 0 13 (hI _ (by decide)) 0⟩, by rw [a3 0 14 (hI _ (by decide)) 0, a5 60 (hZ _ (by decide)) 0], ⟨by rw [hw]; exact Nat.le_refl _, fun i _ => a5 81 (hZ _ (by decide)) i⟩, ⟨T, T, t1, (a3 0 15 (hI _ (by decide)) 0).trans t1, Nat.le_refl _, t2, fun k s _ _ z => (a3 2 19 (hI _ (by decide)) k).symm.trans z⟩⟩
/-- a call's end -/
theorem kEd.L {S S' S'' : xm_S} {A A' : y_A} {c : Nat} {h v b : Int32} {X E B : Nat → Prop} {hb rb nb t w e1 e2 : Nat} (hM : kM S A X E B hb rb nb t w e1 e2) (hF : kF c 0 [(2, 8), (2, 9), (2, 10), (2, 7), (0, 14)] [(2, 11)] [69, 70, 71, 68, 58, 59, 57, 60] S S'' A A') (h0 : xm_i S 2 c 8 = 0) (hne : xm_i S'' 2 c 8 = 1 ∨ xm_i S'' 2 c 8 = 2) (he : xm_i S'' 0 0 14 + A 60 0 = xm_i S 0 0 14 + A' 60 0) : kL S S'' A A' := by
  obtain ⟨T, t1, t2, -⟩ := hM.T
  obtain ⟨a1, a2, a3, a4, a5, a6, -⟩ := hF
  have hw : k_hows S'' 3 = k_hows S 3 := by
    unfold k_hows
    rw [a1]
    refine xs_congr (fun k _ => ?_)
    by_cases hk : k = c
    · rw [hk, h0, if_neg (show ¬ (0 : Int32) = 3 by decide), if_neg]
      rcases hne with z | z
      · rw [z]; decide
      · rw [z]; decide
    · rw [(a6 k 8 hk).1]
  have hne0 : xm_i S'' 2 c 8 ≠ 0 := by
    rcases hne with z | z
    · rw [z]; decide
    · rw [z]; decide
  refine ⟨⟨fun r _ => by rw [a1], by rw [a1]; exact Nat.le_refl _, by rw [a1]; exact Nat.le_refl _, by rw [a1]; exact Nat.le_refl _⟩, fun i _ => by rw [a2], fun k _ => ⟨a4 2 1 (by decide) k, a4 2 2 (by decide) k, a4 2 4 (by decide) k, a3 2 3 (by decide) k, a3 2 14 (by decide) k, a4 2 15 (by decide) k, fun z => ?_, fun z => ?_⟩, fun k z1 z2 => absurd z2 (by rw [a1]; omega), fun g _ => ⟨a5 31 (by decide) g, a3 5 1 (by decide) g, fun q hq => ⟨(a4 5 12 (by decide) g).trans hq, by rw [a1]; exact Nat.le_refl _⟩⟩, fun o _ => ⟨a4 6 2 (by decide) o, a3 6 3 (by decide) o, a3 6 4 (by decide) o⟩, ⟨a5 0 (by decide) 0, a3 0 13 (by decide) 0⟩, he, ⟨by rw [hw]; exact Nat.le_refl _, fun i _ => a5 81 (by decide) i⟩, ⟨T, T, t1, (a3 0 15 (by decide) 0).trans t1, Nat.le_refl _, t2, fun k s _ _ z => (a3 2 19 (by decide) k).symm.trans z⟩⟩
  · have hk : k ≠ c := fun y => hne0 (by rw [← y]; exact z)
    rw [← (a6 k 8 hk).1]; exact z
  · have hk : k ≠ c := fun y => z (by rw [y]; exact h0)
    exact ⟨(a6 k 8 hk).1, (a6 k 9 hk).1, (a6 k 10 hk).1, (a6 k 11 hk).2, (a6 k 7 hk).1, (a6 k 19 hk).1⟩
/-- a failure or an effect more -/
theorem kSm.L {L : Nat} {S S' : xm_S} {A A' : y_A} (h : kSm L S S') {X E B : Nat → Prop} {hb rb nb t w e1 e2 : Nat} (hM : kM S A X E B hb rb nb t w e1 e2) (hL : L = 8 ∨ L = 9) (hZ : ∀ x k, x = 0 ∨ x = 31 ∨ x = 60 ∨ x = 81 → A' x k = A x k) : kL S S' A A' := by
  have hMM := hM
  obtain ⟨T, t1, t2, -⟩ := hM.T
  obtain ⟨hE, -, -, hI⟩ := hM
  obtain ⟨o9, o5, o10, o6, o2, -, -, -, -, -, -, -, o0, -⟩ := hI.2.2.2.1
  obtain ⟨a1, a2, a3, a4⟩ := h
  have c2 : ∀ k j, k < xm_n S 1 6 → xm_i S' 2 k j = xm_i S 2 k j ∧ xm_r S' 2 k j = xm_r S 2 k j := fun k j hk => a1 2 k j (by decide) (by omega)
  have c0 : ∀ j, xm_i S' 0 0 j = xm_i S 0 0 j := fun j => (a1 0 0 j (by decide) (by omega)).1
  have n6 : xm_n S' 1 6 = xm_n S 1 6 := a2 6 (by omega)
  have n7 : xm_n S' 1 7 = xm_n S 1 7 := a2 7 (by omega)
  have hw : k_hows S' 3 = k_hows S 3 := by
    unfold k_hows
    rw [n6]
    exact xs_congr (fun k hk => by rw [(c2 k 8 hk).1])
  refine ⟨⟨fun r hr => a2 r (by omega), by rw [n6]; exact Nat.le_refl _, by rw [n7]; exact Nat.le_refl _, ?_⟩, fun i _ => a3 7 i (by omega), fun k hk => ⟨(c2 k 1 hk).2, (c2 k 2 hk).2, (c2 k 4 hk).2, (c2 k 3 hk).1, (c2 k 14 hk).1, (c2 k 15 hk).2, fun z => (c2 k 8 hk).1.symm.trans z, fun _ => ⟨(c2 k 8 hk).1, (c2 k 9 hk).1, (c2 k 10 hk).1, (c2 k 11 hk).2, (c2 k 7 hk).1, (c2 k 19 hk).1⟩⟩, fun k z1 z2 => absurd z2 (by rw [n6]; omega), fun g hg => ⟨hZ 31 g (by decide), (a1 5 g 1 (by decide) (by omega)).1, fun q hq => ⟨(a1 5 g 12 (by decide) (by omega)).2.trans hq, ?_⟩⟩, fun o ho => ⟨(a1 6 o 2 (by decide) (by omega)).2, (a1 6 o 3 (by decide) (by omega)).1, (a1 6 o 4 (by decide) (by omega)).1⟩, ⟨hZ 0 0 (by decide), c0 13⟩, by rw [c0, hZ 60 0 (by decide)], ⟨by rw [hw]; exact Nat.le_refl _, fun i _ => hZ 81 i (by decide)⟩, ⟨T, T, t1, (c0 15).trans t1, Nat.le_refl _, t2, fun k s hk _ z => (c2 k 19 hk).1.symm.trans z⟩⟩
  · by_cases h8 : L = 8
    · subst h8; omega
    · rw [a2 8 (fun z => h8 z.symm)]; exact Nat.le_refl _
  · obtain ⟨q', y1, y2, y3, -⟩ := (hE.2.2.2.2.2.2.2.2.1 g hg).2.2.2.2.2.2.2.2.2.2.2.2.1
    rw [hq] at y1
    rw [a2 q (by have := Option.some.inj y1; omega)]
    exact Nat.le_refl _
end
