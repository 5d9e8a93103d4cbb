/-! ===== ADDFAILURE ===== -/
section
def kAf (A : y_A) (n : Nat) (kd g s : Int32) : y_A := xm_u2 (xm_u2 (xm_u2 (xm_u2 (xm_u2 (xm_u2 (xm_u2 A 24 n kd) 25 n (A 0 0)) 26 n g) 27 n s) 28 n (-1)) 29 n (-1)) 23 0 (nI (n + 1))
theorem kAf.eq {A : y_A} {n : Nat} (h : A 23 0 = nI n) (hn : n < 2 ^ 31) (kd g s : Int32) : rf_fails kd g s A = (nI n, kAf A n kd g s) := by
  unfold rf_fails kAf
  rw [h, y_ix_nI hn, nI_1, nI_pred]
theorem kAf.o {A : y_A} {n : Nat} {kd g s : Int32} {x k : Nat} (h : ¬ (24 ≤ x ∧ x ≤ 29 ∧ k = n)) (h2 : x ≠ 23) : kAf A n kd g s x k = A x k := by
  unfold kAf xm_u2
  rw [if_neg (by omega), if_neg (by omega), if_neg (by omega), if_neg (by omega), if_neg (by omega), if_neg (by omega), if_neg (by omega)]
theorem k_num.same {S S' : xm_S} {A A' : y_A} {e1 e2 e1' e2' : Nat} (h : k_num S A e1 e2) (n6 : xm_n S' 1 6 = xm_n S 1 6) (h8 : ∀ k, k < xm_n S 1 6 → xm_i S' 2 k 8 = xm_i S 2 k 8 ∧ xm_i S' 2 k 19 = xm_i S 2 k 19 ∧ xm_i S' 2 k 10 = xm_i S 2 k 10 ∧ xm_r S' 2 k 11 = xm_r S 2 k 11) (h0 : xm_i S' 0 0 15 = xm_i S 0 0 15) (ha : A' 82 0 = A 82 0) (hn8 : xm_n S' 1 8 + e2 ≤ xm_n S 1 8 + e2') (hn9 : xm_n S' 1 9 + e1 ≤ xm_n S 1 9 + e1') : k_num S' A' e1' e2' := by
  obtain ⟨z1, z2, T, z3, z4, z5, z6⟩ := h
  have how : ∀ v, k_hows S' v = k_hows S v := fun v => by
    unfold k_hows
    rw [n6]
    exact xs_congr (fun i hi => by rw [(h8 i hi).1])
  unfold k_num
  rw [how, how, how, h0, ha, n6]
  refine ⟨by omega, by omega, T, z3, z4, z5, fun k hk => ?_⟩
  obtain ⟨y1, y2, y3, y4⟩ := h8 k hk
  rw [y1, y2, y3, y4]
  exact z6 k hk
theorem c_addFailure {d : Nat} {S : xm_S} {A : y_A} {X E B : Nat → Prop} {hb rb nb t w e1 c : Nat} {kd : Int32} {gd st : Option Nat} (h : kM S A X E B hb rb nb t w e1 0) (hc : c < xm_n S 1 6) (h0 : xm_i S 2 c 8 = 0) (hk : 0 ≤ kd ∧ kd ≤ 15) (hg : ∀ g, gd = some g → g < xm_n S 1 3) (hs : ∀ s, st = some s → s < xm_n S 1 0) :
    xc (d + 1) 21 [.inr (some (0, 0)), .inl kd, .inr (xo 5 gd), .inr (xo 9 st)] S (fun r S' => r = some (.inr (some (4, xm_n S 1 8))) ∧ kM S' (kAf A (xm_n S 1 8) kd (kn gd) (kn st)) X E B hb rb nb t w e1 1 ∧ kSm 8 S S') ∧ rf_fails kd (kn gd) (kn st) A = (nI (xm_n S 1 8), kAf A (xm_n S 1 8) kd (kn gd) (kn st)) ∧ rg_fails kd (kn gd) (kn st) A := by
  have hM := h
  obtain ⟨⟨hC, hcnt, hb', hl, ht, hv, h1, h2, h3, h4, h5, h6, -⟩, hS, hgr, ⟨-, -, jown, jobj, jcap, -, -, -, -, -, -, j12, -, j14, j15, j16, -⟩⟩ := h
  have hbb := hb'
  unfold k_bnd at hbb
  have o4 := jobj.2.2.2.2.2.1
  have o12 := jobj.2.2.2.2.2.2.2.2.2.2.2.1
  have w8 := hcnt.2.2.2.2.2.2.2.1
  have hlt : xm_n S 1 8 < xm_n S 1 6 := by
    have := j12.1
    have := k_hows.lt (v := 2) hc (by rw [h0]; decide)
    omega
  refine ⟨?_, kAf.eq w8 (by omega) kd _ _, by unfold rg_fails; rw [w8]; exact ⟨y_in_nI (by omega) (by decide), trivial⟩⟩
  refine cw_addFailure hC ?_
  intro k1 ek S3 eS
  subst ek eS
  refine cw_newFailure (S := xm_mk 4 7 S) hC ?_
  intro S1 e1 S3 e3 S5 e5 S7 e7 S9 e9 S11 e11 S13 e13
  have n : kN S S13 4 7 := by
    subst e1 e3 e5 e7 e9 e11 e13
    exact (((((((kN.mk S 4 7).sr 5 _).sr 6 _).si 0 _).si 1 _).si 2 _).sr 3 _).sr 4 _
  have f0 : xm_i S13 4 (xm_n S 0 4) 0 = nI (xm_n S 1 8) := by
    subst e1 e3 e5 e7 e9 e11 e13
    exact xi_sr.trans (xi_sr.trans ((xi_si (by decide)).trans ((xi_si (by decide)).trans xi_same)))
  have f1 : xm_i S13 4 (xm_n S 0 4) 1 = kd := by
    subst e1 e3 e5 e7 e9 e11 e13
    exact xi_sr.trans (xi_sr.trans ((xi_si (by decide)).trans xi_same))
  have f2 : xm_i S13 4 (xm_n S 0 4) 2 = xm_i S 0 0 13 := by
    subst e1 e3 e5 e7 e9 e11 e13
    exact xi_sr.trans (xi_sr.trans xi_same)
  have f3 : xm_r S13 4 (xm_n S 0 4) 3 = gd := by
    subst e1 e3 e5 e7 e9 e11 e13
    exact (xr_sr (by decide)).trans xr_same
  have f4 : xm_r S13 4 (xm_n S 0 4) 4 = st := by
    subst e1 e3 e5 e7 e9 e11 e13
    exact xr_same
  have f5 : xm_r S13 4 (xm_n S 0 4) 5 = none := by
    subst e1 e3 e5 e7 e9 e11 e13
    exact (xr_sr (by decide)).trans ((xr_sr (by decide)).trans (xr_si.trans (xr_si.trans (xr_si.trans ((xr_sr (by decide)).trans xr_same)))))
  have f6 : xm_r S13 4 (xm_n S 0 4) 6 = none := by
    subst e1 e3 e5 e7 e9 e11 e13
    exact (xr_sr (by decide)).trans ((xr_sr (by decide)).trans (xr_si.trans (xr_si.trans (xr_si.trans xr_same))))
  have hC13 : xk_C S13 := by
    subst e1 e3 e5 e7 e9 e11 e13
    exact hC
  have n1 : xm_n S13 1 8 = xm_n S 1 8 := by
    subst e1 e3 e5 e7 e9 e11 e13
    rfl
  have n2 : xm_n S13 2 8 = xm_n S 2 8 := by
    subst e1 e3 e5 e7 e9 e11 e13
    rfl
  have pl : k_pln S13 A t nb := by
    subst e1 e3 e5 e7 e9 e11 e13
    exact j14
  clear e1 e3 e5 e7 e9 e11 e13
  have h28 : xm_n S 2 8 ≠ 0 := jcap.1 8 (by omega)
  refine ⟨rfl, hC13, by rw [n2]; exact h28, by rw [n1]; omega, fun S16 e16 => ?_⟩
  obtain ⟨c2, c100, c101, b, ep, hc2, hcp⟩ := xm_push_x S13 8 (4, xm_n S 0 4) (by rw [n2]; exact h28)
  rw [ep] at e16
  subst e16
  rw [n1, n2] at hcp
  have N1 : ∀ r, xm_n (xk_psh S13 8 (4, xm_n S 0 4) c2 c100 c101 b) 1 r = if r = 8 then xm_n S 1 8 + 1 else xm_n S 1 r := fun r => by
    have e : ∀ r, xm_n S13 1 r = xm_n S 1 r := fun r => by
      rw [n.n, if_neg (by omega), if_neg (by omega), if_neg (by omega), if_neg (by omega), if_neg (by omega)]
    rw [xp_n1, e, e]
  have O : ∀ p q j, p ≠ 4 → xm_i (xk_psh S13 8 (4, xm_n S 0 4) c2 c100 c101 b) p q j = xm_i S p q j ∧ xm_r (xk_psh S13 8 (4, xm_n S 0 4) c2 c100 c101 b) p q j = xm_r S p q j := fun p q j hp => (n.1 p q j).resolve_left (fun z => hp z.1)
  refine ⟨by rw [o4], kM.new8 (w' := w) (e1' := e1) (e2' := 1) hM n hC13 hc2 hcp hlt (fun x k hx => ?_) ⟨y_same _ _ _ _, rfl, rfl, rfl, rfl, rfl, rfl, rfl, rfl, rfl, rfl⟩ ?_ ?_ (by rw [N1, if_neg (by decide)]; exact Nat.le_refl _) (by rw [N1, if_neg (by decide)]; omega) pl⟩
  · unfold kOlw at hx
    exact kAf.o (by omega) (by omega)
  · rw [← o4]
    refine ⟨f0.trans (by rw [o4]), ?_, ?_, ?_, ?_, ?_, ?_, fun g z => ?_, fun s z => ?_, fun m z => ?_, fun m z => ?_, ?_⟩
    · exact f1.trans (show kd = xm_u2 A 24 (xm_n S 0 4) kd 24 (xm_n S 0 4) from (y_same _ _ _ _).symm)
    · exact f2.trans (ht.1.trans (show A 0 0 = xm_u2 (xm_u2 A 24 (xm_n S 0 4) kd) 25 (xm_n S 0 4) (A 0 0) 25 (xm_n S 0 4) from (y_same _ _ _ _).symm))
    · rw [show xm_r (xk_psh S13 8 (4, xm_n S 0 4) c2 c100 c101 b) 4 (xm_n S 0 4) 3 = gd from f3]
      exact (y_same (xm_u2 (xm_u2 A 24 (xm_n S 0 4) kd) 25 (xm_n S 0 4) (A 0 0)) 26 (xm_n S 0 4) (kn gd))
    · rw [show xm_r (xk_psh S13 8 (4, xm_n S 0 4) c2 c100 c101 b) 4 (xm_n S 0 4) 4 = st from f4]
      exact (y_same (xm_u2 (xm_u2 (xm_u2 A 24 (xm_n S 0 4) kd) 25 (xm_n S 0 4) (A 0 0)) 26 (xm_n S 0 4) (kn gd)) 27 (xm_n S 0 4) (kn st))
    · rw [show xm_r (xk_psh S13 8 (4, xm_n S 0 4) c2 c100 c101 b) 4 (xm_n S 0 4) 5 = none from f5]
      exact (y_same (xm_u2 (xm_u2 (xm_u2 (xm_u2 A 24 (xm_n S 0 4) kd) 25 (xm_n S 0 4) (A 0 0)) 26 (xm_n S 0 4) (kn gd)) 27 (xm_n S 0 4) (kn st)) 28 (xm_n S 0 4) (-1))
    · rw [show xm_r (xk_psh S13 8 (4, xm_n S 0 4) c2 c100 c101 b) 4 (xm_n S 0 4) 6 = none from f6]
      exact (y_same (xm_u2 (xm_u2 (xm_u2 (xm_u2 (xm_u2 A 24 (xm_n S 0 4) kd) 25 (xm_n S 0 4) (A 0 0)) 26 (xm_n S 0 4) (kn gd)) 27 (xm_n S 0 4) (kn st)) 28 (xm_n S 0 4) (-1)) 29 (xm_n S 0 4) (-1))
    · rw [N1, if_neg (by decide)]
      exact hg g (f3.symm.trans z)
    · rw [N1, if_neg (by decide)]
      exact hs s (f4.symm.trans z)
    · exact absurd (f5.symm.trans z) (fun y => by cases y)
    · exact absurd (f6.symm.trans z) (fun y => by cases y)
    · rw [show kAf A (xm_n S 0 4) kd (kn gd) (kn st) 24 (xm_n S 0 4) = kd from y_same A 24 (xm_n S 0 4) kd]
      exact hk
  · exact k_num.same j12 (by rw [N1, if_neg (by decide)]) (fun k _ => ⟨(O 2 k 8 (by decide)).1, (O 2 k 19 (by decide)).1, (O 2 k 10 (by decide)).1, (O 2 k 11 (by decide)).2⟩) (O 0 0 15 (by decide)).1 rfl (by rw [N1, if_pos rfl]; omega) (by rw [N1, if_neg (by decide)]; omega)
end
