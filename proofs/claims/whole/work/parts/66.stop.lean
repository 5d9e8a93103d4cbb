/-! ===== STOP: a plan's own field alone is changed ===== -/
section
theorem k_cp_eq {S S' : xm_S} (h5 : xm_i S' 5 = xm_i S 5) (hl : xm_l S' = xm_l S) (q : Nat) : ∀ (m n : Nat), k_cp S' q n m = k_cp S q n m
  | 0, _ => rfl
  | m + 1, n => by
    unfold k_cp k_mul
    rw [k_cp_eq h5 hl q m (n + 1), h5, hl]
theorem k_po_eq {S S' : xm_S} (h5 : xm_i S' 5 = xm_i S 5) (h2 : xm_i S' 2 = xm_i S 2) (hr : xm_r S' = xm_r S) (hl : xm_l S' = xm_l S) (hn : xm_n S' = xm_n S) : k_po S' = k_po S := by
  funext k
  unfold k_po k_mul
  simp only [h5, h2, hr, hn, k_cp_eq h5 hl]
theorem kK.stop {S : xm_S} {A : y_A} {t p : Nat} (hp : p < xm_n S 1 10) (h0 : A 102 p = 0) (h : kK S A t) : kK (xm_si S 7 p 12 0) (xm_u2 A 102 p 1) t := by
  obtain ⟨⟨⟨⟨hC, hcnt, hb, hl, ht, hv, h1, h2, h3, h4, h5, h6, h7, h8, h9, h10, h11, h12⟩, ho, hr⟩, hS, hgr⟩, ⟨j1, j2, j3, j4, j5, j6, j7, j8, j9, j10, j11, j12, j13, j14, j15, j16, j17, j18⟩⟩ := h
  refine ⟨⟨⟨⟨hC, hcnt, hb, hl, ht, hv, h1, h2, h3, h4, h5, h6, ?_, h8, h9, h10, h11, h12⟩, ho, hr⟩, hS, hgr⟩, ⟨j1, j2, j3, j4, j5, j6, j7, j8, j9, j10, j11, j12, ?_, ?_, j15, j16, j17, j18⟩⟩
  · intro k hk
    have z := h7 k hk
    by_cases hkp : k = p
    · subst hkp
      obtain ⟨z1, z2, z3, z4, z5, z6, z7, z8, z9, z10, z11, z12, z13, z14⟩ := z
      refine ⟨z1, z2, ?_, ?_, ?_, ?_, ?_, ?_, ?_, ?_, ?_, ?_, ?_, z14⟩
      · exact (xi_si (by decide)).trans z3
      · exact (xi_si (by decide)).trans z4
      · exact (xi_si (by decide)).trans z5
      · exact (xi_si (by decide)).trans z6
      · exact (xi_si (by decide)).trans z7
      · exact (xi_si (by decide)).trans z8
      · exact (xi_si (by decide)).trans z9
      · exact (xi_si (by decide)).trans z10
      · exact (xi_si (by decide)).trans z11
      · rw [xi_same, y_same]
        decide
      · rw [y_same]
        exact Or.inr rfl
    · have e : ∀ j, xm_i (xm_si S 7 p 12 0) 7 k j = xm_i S 7 k j := fun j => if_neg (fun y => hkp y.2.1)
      have e2 : xm_u2 A 102 p 1 102 k = A 102 k := if_neg (fun y => hkp y.2)
      unfold kp at z ⊢
      simp only [e, e2]
      exact z
  · unfold k_pot at j13 ⊢
    rw [k_po_eq (S := S) (S' := xm_si S 7 p 12 0) rfl rfl rfl rfl rfl]
    exact j13
  · refine ⟨j14.1, fun k hk => ?_⟩
    obtain ⟨m, a, e, z1, z2, z3, z4, z5, z6⟩ := j14.2 k hk
    refine ⟨m, a, e, z1, z2, z3, z4, z5, fun y => ?_⟩
    by_cases hkp : k = p
    · subst hkp
      rw [xi_same] at y
      exact absurd y (by decide)
    · have e1 : ∀ j, xm_i (xm_si S 7 p 12 0) 7 k j = xm_i S 7 k j := fun j => if_neg (fun y => hkp y.2.1)
      rw [e1] at y ⊢
      exact z6 y
theorem p_stop : kPub 64 158 1 := by
  intro as hn S A t hK _
  obtain ⟨i, rfl⟩ := k_l1 hn
  have hKK := hK
  obtain ⟨⟨⟨⟨hC, hcnt, hb, hl, ht, hv, h1, h2, h3, h4, h5, h6, h7, h8, -⟩, -⟩, -⟩, -⟩ := hK
  have hN := hcnt.2.2.2.2.2.2.2.2.2.1
  have hbb := hb
  unfold k_bnd at hbb
  have fin : ∀ (f : Int32) (A' : y_A), rf_stop i A = (f, A') → rg_stop i A → xc 1 64 [.inr (some (0, 0)), .inl i] S (fun r S' => r = some (.inl f) ∧ kK S' A' t) → ∃ (f : Int32) (A' : y_A) (t' : Nat), t' ≤ t + 100 ∧ xc 1000 64 (.inr (some (0, 0)) :: [i].map .inl) S (fun r S' => r = some (.inl f) ∧ kK S' A' t') ∧ rc 20 158 (.inr (some (11, 0)) :: [i].map .inl) A [] (fun r A2 js => r = some (.inl f) ∧ A2 = A' ∧ js = []) := fun f A' e g x => by
    refine ⟨f, A', t, by omega, xc.up x (by decide), ra.up (ra.mono (rh_stop (d := 20) (js := []) (by decide) g) ?_) (Nat.le_refl _)⟩
    rintro r A2 js ⟨y1, y2, y3⟩
    rw [e] at y1 y2
    exact ⟨y1, y2, y3⟩
  unfold rf_stop rg_stop at fin
  rcases k_idx i (n := xm_n S 1 10) (by omega) with hi | ⟨hi, hi2, hi3⟩ | ⟨j, hj, rfl⟩
  · exact fin (-1) A (by rw [if_pos hi]) ⟨fun _ => trivial, fun z => absurd hi z⟩ (cw_stop hC ⟨fun _ => ⟨rfl, hKK⟩, fun z => absurd hi z⟩)
  · exact fin (-1) A (by rw [if_neg hi, hN, if_neg hi3]) ⟨fun _ => trivial, fun _ => ⟨fun z => absurd (hN ▸ z) hi3, fun _ => trivial⟩⟩ (cw_stop hC ⟨fun z => absurd z hi, fun _ => ⟨fun _ => ⟨rfl, hKK⟩, fun z => absurd hi2 z⟩⟩)
  · have e1 : ¬ nI j < 0 := nI_pos (by omega)
    have e2 : ¬ nI (xm_n S 1 10) ≤ nI j := nI_ge hj (by omega)
    have e3 : nI j < A 89 0 := by rw [hN]; exact nI_lt hj (by omega)
    have e4 : y_ix (nI j) = j := y_ix_nI (by omega)
    have hk := h7 j hj
    have hgo := hk.2.2.2.2.2.2.2.2.2.2.2.1
    rw [e4] at fin
    rcases hk.2.2.2.2.2.2.2.2.2.2.2.2.1 with z | z
    · rw [z, if_pos rfl] at hgo
      refine fin (A 98 j) (xm_u2 A 102 j 1) (by rw [if_neg e1, if_pos e3, if_pos z]) ⟨fun _ => trivial, fun _ => ⟨fun _ => ⟨y_in_nI (by omega) (by decide), fun _ => trivial, fun _ => trivial⟩, fun _ => trivial⟩⟩ (cw_stop hC ⟨fun y => absurd y e1, fun _ => ⟨fun y => absurd y e2, fun _ => ⟨y_in_nI hj (by omega), j, by rw [e4]; exact hl.2.2.2.2.2.2.2.1 j hj, fun y => absurd (hgo.symm.trans y) (by decide), fun _ S7 e7 => ?_⟩⟩⟩)
      subst e7
      exact ⟨by rw [hk.2.2.2.2.2.2.2.1], kK.stop hj z hKK⟩
    · rw [z, if_neg (by decide)] at hgo
      exact fin (-4) A (by rw [if_neg e1, if_pos e3, z, if_neg (by decide)]) ⟨fun _ => trivial, fun _ => ⟨fun _ => ⟨y_in_nI (by omega) (by decide), fun _ => trivial, fun _ => trivial⟩, fun _ => trivial⟩⟩ (cw_stop hC ⟨fun y => absurd y e1, fun _ => ⟨fun y => absurd y e2, fun _ => ⟨y_in_nI hj (by omega), j, by rw [e4]; exact hl.2.2.2.2.2.2.2.1 j hj, fun _ => ⟨rfl, hKK⟩, fun y => absurd hgo y⟩⟩⟩)
end
