/-! ===== AN ORDER IS MADE; ORDER (printed by wip/whole/gen9v.py) ===== -/
section
def kAo (A : y_A) (n : Nat) (a1 a2 a3 a4 a5 : Int32) : y_A := xm_u2 (xm_u2 (xm_u2 (xm_u2 (xm_u2 (xm_u2 (xm_u2 (xm_u2 (xm_u2 (xm_u2 A 51 n a1) 52 n a2) 53 n a3) 54 n a4) 55 n a5) 56 n (A 0 0)) 57 n (-1 : Int32)) 58 n (0 : Int32)) 59 n (-1 : Int32)) 50 0 (nI (n + 1))
theorem kAo.o {A : y_A} {n : Nat} {a1 a2 a3 a4 a5 : Int32} {x k : Nat} (h1 : ¬ (x = 50 ∧ k = 0)) (h2 : ¬ (51 ≤ x ∧ x ≤ 59 ∧ k = n)) : kAo A n a1 a2 a3 a4 a5 x k = A x k := by
  unfold kAo
  rw [y_off (by omega), y_off (by omega), y_off (by omega), y_off (by omega), y_off (by omega), y_off (by omega), y_off (by omega), y_off (by omega), y_off (by omega), y_off (by omega)]
theorem kAo.v (A : y_A) (n : Nat) (a1 a2 a3 a4 a5 : Int32) : kAo A n a1 a2 a3 a4 a5 50 0 = nI (n + 1) ∧ kAo A n a1 a2 a3 a4 a5 51 n = a1 ∧ kAo A n a1 a2 a3 a4 a5 52 n = a2 ∧ kAo A n a1 a2 a3 a4 a5 53 n = a3 ∧ kAo A n a1 a2 a3 a4 a5 54 n = a4 ∧ kAo A n a1 a2 a3 a4 a5 55 n = a5 ∧ kAo A n a1 a2 a3 a4 a5 56 n = (A 0 0) ∧ kAo A n a1 a2 a3 a4 a5 57 n = (-1 : Int32) ∧ kAo A n a1 a2 a3 a4 a5 58 n = (0 : Int32) ∧ kAo A n a1 a2 a3 a4 a5 59 n = (-1 : Int32) :=
  ⟨y_same _ _ _ _, (y_off (by omega)).trans ((y_off (by omega)).trans ((y_off (by omega)).trans ((y_off (by omega)).trans ((y_off (by omega)).trans ((y_off (by omega)).trans ((y_off (by omega)).trans ((y_off (by omega)).trans ((y_off (by omega)).trans (y_same _ _ _ _))))))))), (y_off (by omega)).trans ((y_off (by omega)).trans ((y_off (by omega)).trans ((y_off (by omega)).trans ((y_off (by omega)).trans ((y_off (by omega)).trans ((y_off (by omega)).trans ((y_off (by omega)).trans (y_same _ _ _ _)))))))), (y_off (by omega)).trans ((y_off (by omega)).trans ((y_off (by omega)).trans ((y_off (by omega)).trans ((y_off (by omega)).trans ((y_off (by omega)).trans ((y_off (by omega)).trans (y_same _ _ _ _))))))), (y_off (by omega)).trans ((y_off (by omega)).trans ((y_off (by omega)).trans ((y_off (by omega)).trans ((y_off (by omega)).trans ((y_off (by omega)).trans (y_same _ _ _ _)))))), (y_off (by omega)).trans ((y_off (by omega)).trans ((y_off (by omega)).trans ((y_off (by omega)).trans ((y_off (by omega)).trans (y_same _ _ _ _))))), (y_off (by omega)).trans ((y_off (by omega)).trans ((y_off (by omega)).trans ((y_off (by omega)).trans (y_same _ _ _ _)))), (y_off (by omega)).trans ((y_off (by omega)).trans ((y_off (by omega)).trans (y_same _ _ _ _))), (y_off (by omega)).trans ((y_off (by omega)).trans (y_same _ _ _ _)), (y_off (by omega)).trans (y_same _ _ _ _)⟩
/-- behind it: what later loops need -/
def kOr (S S' : xm_S) (A A' : y_A) : Prop := (∀ r, r < 5 ∨ r = 10 ∨ r = 11 → xm_n S' 1 r = xm_n S 1 r) ∧ (A' 0 0 = A 0 0 ∧ xm_i S' 0 0 13 = xm_i S 0 0 13) ∧ xm_i S' 0 0 14 + A 60 0 = xm_i S 0 0 14 + A' 60 0
def kOq (S : xm_S) (A : y_A) (tw s : Nat) (a3 a4 a5 : Int32) (hb rb nb t : Nat) (x : Int32) (S' : xm_S) : Prop := x = nI (xm_n S 1 5) ∧ ∃ A', rg_made (nI tw) (nI s) a3 a4 a5 A [] ∧ rf_made (nI tw) (nI s) a3 a4 a5 A [] = (nI (xm_n S 1 5), A', []) ∧ kM S' A' (fun _ => False) (fun _ => False) (fun _ => False) hb rb nb t 0 0 0 ∧ kOr S S' A A'
theorem c_makeOrder {d : Nat} (hd : 120 ≤ d) {S : xm_S} {A : y_A} {hb rb nb t tw s : Nat} {a3 a4 a5 : Int32} (hM : kM S A (fun _ => False) (fun _ => False) (fun _ => False) hb rb nb t 0 0 0) (h60 : xm_n S 1 5 < 60) (htw : tw < xm_n S 1 4) (hs : s < xm_n S 1 0) (h3 : 0 ≤ a3 ∧ a3 ≤ 2) (h4 : 0 ≤ a4 ∧ a4 ≤ 1000000) :
    xc (d + 1) 102 [.inr (some (6, xm_n S 0 6)), .inl (nI (xm_n (xm_mk 6 7 S) 1 5)), .inr (some (10, tw)), .inr (some (9, s)), .inl a3, .inl a4, .inl a5] (xm_mk 6 7 S) (fun r S32 => r = none ∧ xk_C S32 ∧ (xc (d + 1) 15 [.inr (some (0, 0)), .inr (some (6, xm_n S 0 6))] S32 (fun r S34 => ∃ x36 : Int32, r = some (.inl x36) ∧ xk_C S34 ∧ kOq S A tw s a3 a4 a5 hb rb nb t x36 S34))) := by
  have hMM := hM
  obtain ⟨⟨hC, hcnt, hb', hl, ht, hv, h1, h2, h3', h4', h5, h6, h7, h8, h9, h10, h11, h12⟩, hS, hgr, ⟨-, -, jown, jobj, jcap, -, -, -, -, -, -, j12, -, j14, j15, j16, -⟩⟩ := hM
  have hbb := hb'
  unfold k_bnd at hbb
  have o6 := jobj.2.2.2.1
  have o12 := jobj.2.2.2.2.2.2.2.2.2.2.2.1
  have w6 : A 50 0 = nI (xm_n S 1 5) := hcnt.2.2.2.2.2.1
  refine cw_newOrder (S := xm_mk 6 7 S) hC ?_
  intro S1 e1 S3 e3 S5 e5 S7 e7 S9 e9 S11 e11 S13 e13
  have n : kN S S13 6 7 := by
    subst e1 e3 e5 e7 e9 e11 e13
    exact (((((((kN.mk S 6 7).sr 6 _).si 0 _).sr 1 _).sr 2 _).si 3 _).si 4 _).si 5 _
  have f0 : xm_i S13 6 (xm_n S 0 6) 0 = nI (xm_n S 1 5) := by
    subst e1 e3 e5 e7 e9 e11 e13
    exact (xi_si (by decide)).trans ((xi_si (by decide)).trans ((xi_si (by decide)).trans (xi_sr.trans (xi_sr.trans xi_same))))
  have f1 : xm_r S13 6 (xm_n S 0 6) 1 = some tw := by
    subst e1 e3 e5 e7 e9 e11 e13
    exact xr_si.trans (xr_si.trans (xr_si.trans ((xr_sr (by decide)).trans xr_same)))
  have f2 : xm_r S13 6 (xm_n S 0 6) 2 = some s := by
    subst e1 e3 e5 e7 e9 e11 e13
    exact xr_si.trans (xr_si.trans (xr_si.trans xr_same))
  have f3 : xm_i S13 6 (xm_n S 0 6) 3 = a3 := by
    subst e1 e3 e5 e7 e9 e11 e13
    exact (xi_si (by decide)).trans ((xi_si (by decide)).trans xi_same)
  have f4 : xm_i S13 6 (xm_n S 0 6) 4 = a4 := by
    subst e1 e3 e5 e7 e9 e11 e13
    exact (xi_si (by decide)).trans xi_same
  have f5 : xm_i S13 6 (xm_n S 0 6) 5 = a5 := by
    subst e1 e3 e5 e7 e9 e11 e13
    exact xi_same
  have f6 : xm_r S13 6 (xm_n S 0 6) 6 = none := by
    subst e1 e3 e5 e7 e9 e11 e13
    exact xr_si.trans (xr_si.trans (xr_si.trans ((xr_sr (by decide)).trans ((xr_sr (by decide)).trans (xr_si.trans xr_same)))))
  have hC13 : xk_C S13 := by
    subst e1 e3 e5 e7 e9 e11 e13
    exact hC
  have n1 : xm_n S13 1 5 = xm_n S 1 5 := by
    subst e1 e3 e5 e7 e9 e11 e13
    rfl
  have n2 : xm_n S13 2 5 = xm_n S 2 5 := by
    subst e1 e3 e5 e7 e9 e11 e13
    rfl
  clear e1 e3 e5 e7 e9 e11 e13
  have h25 : xm_n S 2 5 ≠ 0 := jcap.1 5 (by omega)
  refine ⟨rfl, hC13, cw_startOrder (d := d) hC13 ⟨by rw [n2]; exact h25, by rw [n1]; omega, fun S16 e16 => ?_⟩⟩
  obtain ⟨c2, c100, c101, b, ep, hc2, hcp⟩ := xm_push_x S13 5 (6, xm_n S 0 6) (by rw [n2]; exact h25)
  rw [ep] at e16
  rw [n1, n2] at hcp
  have N1 : ∀ r, xm_n (xk_psh S13 5 (6, xm_n S 0 6) c2 c100 c101 b) 1 r = if r = 5 then xm_n S 1 5 + 1 else xm_n S 1 r := fun r => by
    have e : ∀ r, xm_n S13 1 r = xm_n S 1 r := fun r => by
      rw [n.n, if_neg (by omega), if_neg (by omega), if_neg (by omega), if_neg (by omega), if_neg (by omega)]
    rw [xp_n1, e, e]
  have O : ∀ p q j, p ≠ 6 → xm_i (xk_psh S13 5 (6, xm_n S 0 6) c2 c100 c101 b) p q j = xm_i S p q j ∧ xm_r (xk_psh S13 5 (6, xm_n S 0 6) c2 c100 c101 b) p q j = xm_r S p q j := fun p q j hp => (n.1 p q j).resolve_left (fun z => hp z.1)
  obtain ⟨v50, v51, v52, v53, v54, v55, v56, v57, v58, v59⟩ := kAo.v A (xm_n S 1 5) (nI tw) (nI s) a3 a4 a5
  have aO : ∀ x k, ¬ (50 ≤ x ∧ x ≤ 59) → kAo A (xm_n S 1 5) (nI tw) (nI s) a3 a4 a5 x k = A x k := fun x k hx => kAo.o (by omega) (by omega)
  obtain ⟨hM1, hSm⟩ := kM.new5 (A' := kAo A (xm_n S 1 5) (nI tw) (nI s) a3 a4 a5) (c100 := c100) (c101 := c101) (b := b) (w' := 1) (e1' := 0) (e2' := 0) hMM n hC13 hc2 hcp h60 (fun x k hx => by
      unfold kOlw at hx
      exact kAo.o (by omega) (by omega)) ⟨v50, aO _ _ (by decide), aO _ _ (by decide), aO _ _ (by decide), aO _ _ (by decide), aO _ _ (by decide), aO _ _ (by decide), aO _ _ (by decide), aO _ _ (by decide), aO _ _ (by decide), aO _ _ (by decide)⟩ (by
      rw [o6] at f0 f1 f2 f3 f4 f5
      refine ⟨f0, ⟨tw, f1, by rw [N1, if_neg (by decide)]; exact htw, v51⟩, ⟨s, f2, by rw [N1, if_neg (by decide)]; exact hs, v52⟩, f3.trans v53.symm, f4.trans v54.symm, f5.trans v55.symm, ?_⟩
      rw [v53]
      exact h3) (k_num.same j12 (by rw [N1, if_neg (by decide)]) (fun k _ => ⟨(O 2 k 8 (by decide)).1, (O 2 k 19 (by decide)).1, (O 2 k 10 (by decide)).1, (O 2 k 11 (by decide)).2⟩) (O 0 0 15 (by decide)).1 (aO _ _ (by decide)) (by rw [N1, if_neg (by decide)]; omega) (by rw [N1, if_neg (by decide)]; omega)) (by rw [N1, if_pos rfl]; omega) (by rw [N1, if_pos rfl]; omega) (by
      obtain ⟨⟨p1, p2, p3, p4, p5⟩, p6⟩ := j14
      refine ⟨⟨fun k hk => ?_, fun k hk => ?_, fun k hk => ?_, fun k hk => ?_, fun k hk => ?_⟩, fun k hk => ?_⟩
      · rw [N1, if_neg (by decide)] at hk
        rw [aO _ _ (by decide), aO _ _ (by decide)]; exact p1 k hk
      · rw [N1, if_neg (by decide)] at hk
        rw [aO _ _ (by decide)]; exact p2 k hk
      · rw [N1, if_neg (by decide)] at hk
        rw [aO _ _ (by decide)]; exact p3 k hk
      · rw [N1, if_pos rfl] at hk
        by_cases e : k = xm_n S 1 5
        · rw [e, v54]; exact h4
        · rw [kAo.o (by omega) (by omega)]; exact p4 k (by omega)
      · rw [N1, if_neg (by decide)] at hk
        rw [aO _ _ (by decide)]; exact p5 k hk
      · rw [N1, if_neg (by decide)] at hk
        rw [aO _ _ (by decide), aO _ _ (by decide), (O 7 k 12 (by decide)).1, (O 7 k 7 (by decide)).1]; exact p6 k hk)
  have g1 : xm_r (xk_psh S13 5 (6, xm_n S 0 6) c2 c100 c101 b) 6 (xm_n S 1 5) 1 = some tw := by rw [← o6]; exact f1
  have g6 : xm_r (xk_psh S13 5 (6, xm_n S 0 6) c2 c100 c101 b) 6 (xm_n S 1 5) 6 = none := by rw [← o6]; exact f6
  rw [← e16] at hM1 N1 O g1 g6
  clear ep
  have N5 : xm_n S16 1 5 = xm_n S 1 5 + 1 := by rw [N1, if_pos rfl]
  have htw' : tw < xm_n S16 1 4 := by rw [N1, if_neg (by decide)]; exact htw
  obtain ⟨q, q1, q2, q3, q4, q5, q6⟩ := hM1.1.2.2.2.2.2.2.2.2.2.2.2.2.2.2.2.1 tw htw'
  obtain ⟨gs, gl, ge⟩ := k_gls hM1 htw' q1 (xm_n S16 1 q) 0 (by omega)
  have t0 : kAo A (xm_n S 1 5) (nI tw) (nI s) a3 a4 a5 0 0 = A 0 0 := aO _ _ (by decide)
  have main := kBG.all gs (by omega) S16 _ (fun _ => False) hb rb nb t 1 0 (xm_n S 1 5) 0 tw q none [] hM1 (fun k z => z.elim) (by omega) g1 q1 (by rw [gl]; omega) ge (fun p z => by cases z) (fun _ => ⟨rfl, by omega, rfl, g6, v58, by rw [v56, t0], v57⟩) (by decide)
  rw [← o6] at main
  refine xc.up (xc.mono main ?_) hd
  rintro r S' ⟨z1, z2, A', z3, z4, z5⟩
  have N5' : xm_n S' 1 5 = xm_n S 1 5 + 1 := (z5.1.1 5 (by decide)).trans N5
  have hnum := (z4.1.2.2.2.2.2.2.2.2.2.2.2.1 (xm_n S 1 5) (by omega)).1
  refine ⟨z1, z2, _, rfl, z2, by rw [o6]; exact hnum, A', ?_, ?_, z4, ?_⟩
  · unfold rg_made
    rw [w6, y_ix_nI (by omega), nI_1]
    rw [o6] at z3
    exact ⟨y_in_nI (by omega) (by decide), by decide, ⟨A', z3⟩, trivial⟩
  · unfold rf_made
    rw [w6, y_ix_nI (by omega), nI_1]
    rw [o6] at z3
    have := rf_work_eq z3
    unfold kAo at this
    rw [show nI 0 = (0 : Int32) from rfl, show kn none = (-1 : Int32) from rfl] at this
    rw [this]
  · refine ⟨fun r hr => (z5.1.1 r (by omega)).trans (by rw [N1, if_neg (by omega)]), ⟨z5.2.2.2.2.1.1.trans t0, z5.2.2.2.2.1.2.trans (O 0 0 13 (by decide)).1⟩, ?_⟩
    have := z5.2.2.2.2.2
    rw [o6] at this
    rw [(O 0 0 14 (by decide)).1, aO 60 0 (by decide)] at this
    exact this
theorem p_order : kPub 12 127 5 := by
  intro as hn S A t hK _
  obtain ⟨a1, a2, a3, a4, a5, rfl⟩ := k_l5 hn
  have hKK := hK
  obtain ⟨⟨⟨⟨hC, hcnt, hb, hl, ht, hv, h1, h2, h3, -⟩, -⟩, -⟩, -⟩ := hK
  have hbb := hb
  unfold k_bnd at hbb
  obtain ⟨w1, w2, w3, w4, w5, w6, w7, w8, w9, w10, w11⟩ := hcnt
  have hM := hKK.M
  have T : ∀ {p : Prop}, p → True := fun _ => trivial
  have hF : (nI (xm_n S 1 5) = (60 : Int32)) = ¬ (nI (xm_n S 1 5) < (60 : Int32)) := k_full (m := 60) (by omega) (by decide)
  have mk : y_ix a1 < xm_n S 1 4 → y_ix a2 < xm_n S 1 0 → xm_n S 1 5 < 60 → (0 ≤ a3 ∧ a3 ≤ 2) → (0 ≤ a4 ∧ a4 ≤ 1000000) → _ := fun p1 p2 p3 p4 p5 => c_makeOrder (d := 120) (a5 := a5) (by omega) hM p3 p1 p2 p4 p5
  have hmade : ¬ rf_isTower a1 A = 0 → ¬ rf_isStation a2 A = 0 → ¬ rf_isAct a3 A = 0 → ¬ rf_isAmount a3 a4 A = 0 → ¬ A 50 0 = 60 → rg_made a1 a2 a3 a4 a5 A [] := fun z1 z2 z3 z4 z6 => by
    have t1 : ¬ a1 < 0 := fun y => z1 (by unfold rf_isTower; rw [if_pos y])
    have t2 : ¬ nI (xm_n S 1 4) ≤ a1 := fun y => z1 (by unfold rf_isTower; rw [if_neg t1, w5, if_pos y])
    have s1 : ¬ a2 < 0 := fun y => z2 (by unfold rf_isStation; rw [if_pos y])
    have s2 : ¬ nI (xm_n S 1 0) ≤ a2 := fun y => z2 (by unfold rf_isStation; rw [if_neg s1, w1, if_pos y])
    have c1 : ¬ a3 < 0 := fun y => z3 (by unfold rf_isAct; rw [if_pos y])
    have c2 : ¬ 2 < a3 := fun y => z3 (by unfold rf_isAct; rw [if_neg c1, if_pos y])
    have d1 : ¬ a4 < 0 := fun y => z4 (by unfold rf_isAmount; rw [if_pos y])
    have d2 : a4 ≤ 1000000 := by
      by_cases c0 : a3 = 0
      · exact Int32.le_trans (Int32.not_lt.mp (fun y => z4 (by unfold rf_isAmount; rw [if_neg d1, if_pos c0, if_pos y]))) (show (0 : Int32) ≤ 1000000 by decide)
      · exact Int32.not_lt.mp (fun y => z4 (by unfold rf_isAmount; rw [if_neg d1, if_neg c0, if_pos y]))
    rw [w6, hF, Classical.not_not] at z6
    obtain ⟨-, y1, y1'⟩ := k_at t1 t2 (by omega)
    obtain ⟨-, y2, y2'⟩ := k_at s1 s2 (by omega)
    obtain ⟨-, r, S32, -, -, -, hx⟩ := mk y1 y2 ((nI_ltI (b := 60) (by omega) (by decide)).mp z6) ⟨Int32.not_lt.mp c1, Int32.not_lt.mp c2⟩ ⟨Int32.not_lt.mp d1, d2⟩
    obtain ⟨-, r', S34, -, x, -, -, -, A', x4, -⟩ := hx
    rw [← y1', ← y2'] at x4
    exact x4
  have G : rg_order a1 a2 a3 a4 a5 A [] := ⟨⟨T, fun _ => ⟨T, T⟩⟩, T, fun z1 => ⟨⟨T, fun _ => ⟨T, T⟩⟩, T, fun z2 => ⟨⟨T, fun _ => ⟨T, T⟩⟩, T, fun z3 => ⟨⟨T, fun _ => ⟨fun _ => ⟨T, T⟩, fun _ => ⟨T, T⟩⟩⟩, T, fun z4 => ⟨fun _ => ⟨T, fun z6 => ⟨hmade z1 z2 z3 z4 z6, trivial⟩⟩, T⟩⟩⟩⟩⟩
  have hjs : (rf_order a1 a2 a3 a4 a5 A []).2.2 = [] := by
    unfold rf_order rf_made rf_work
    repeat' (first | rfl | split)
  have lf : ∀ v A', rf_order a1 a2 a3 a4 a5 A [] = (v, A', []) → ∀ S', kK S' A' t → (some (.inl v) : Option xm_V) = some (.inl (rf_order a1 a2 a3 a4 a5 A []).1) ∧ kK S' (rf_order a1 a2 a3 a4 a5 A []).2.1 t := fun v A' e S' h => by
    rw [e]
    exact ⟨rfl, h⟩
  refine ⟨(rf_order a1 a2 a3 a4 a5 A []).1, (rf_order a1 a2 a3 a4 a5 A []).2.1, t, by omega, ?_, ra.up (ra.mono (rh_order (d := 20) (js := []) (by decide) G) (fun r A2 js y => ⟨y.1, y.2.1, y.2.2.trans hjs⟩)) (Nat.le_refl _)⟩
  refine xc.up (d := 122) (show xc 122 12 [.inr (some (0, 0)), .inl a1, .inl a2, .inl a3, .inl a4, .inl a5] S _ from ?_) (by decide)
  refine cw_order (d := 120) hC ?_
  refine ⟨fun c1 => ?_, fun c1 => ?_⟩
  · refine ⟨fun c2 => ?_, fun c2 => ?_⟩
    · exact lf (-1) A (by simp (decide := true) only [rf_order, rf_isStation, rf_isTower, rf_isAct, rf_isAmount, c1, c2, w1, w5, w6, hF, if_true, if_false, not_true_eq_false, not_false_eq_true]) S hKK
    · refine ⟨fun c3 => ?_, fun c3 => ?_⟩
      · exact lf (-1) A (by simp (decide := true) only [rf_order, rf_isStation, rf_isTower, rf_isAct, rf_isAmount, c1, c2, c3, w1, w5, w6, hF, if_true, if_false, not_true_eq_false, not_false_eq_true]) S hKK
      · obtain ⟨y4i, y4j, y4k⟩ := k_at c2 c3 (by omega)
        refine ⟨y4i, y_ix a2, hl.1 _ y4j, ?_⟩
        exact lf (-1) A (by simp (decide := true) only [rf_order, rf_isStation, rf_isTower, rf_isAct, rf_isAmount, c1, c2, c3, w1, w5, w6, hF, if_true, if_false, not_true_eq_false, not_false_eq_true]) S hKK
  · refine ⟨fun c5 => ?_, fun c5 => ?_⟩
    · refine ⟨fun c6 => ?_, fun c6 => ?_⟩
      · exact lf (-1) A (by simp (decide := true) only [rf_order, rf_isStation, rf_isTower, rf_isAct, rf_isAmount, c1, c5, c6, w1, w5, w6, hF, if_true, if_false, not_true_eq_false, not_false_eq_true]) S hKK
      · refine ⟨fun c7 => ?_, fun c7 => ?_⟩
        · exact lf (-1) A (by simp (decide := true) only [rf_order, rf_isStation, rf_isTower, rf_isAct, rf_isAmount, c1, c5, c6, c7, w1, w5, w6, hF, if_true, if_false, not_true_eq_false, not_false_eq_true]) S hKK
        · obtain ⟨y8i, y8j, y8k⟩ := k_at c6 c7 (by omega)
          refine ⟨y8i, y_ix a2, hl.1 _ y8j, ?_⟩
          exact lf (-1) A (by simp (decide := true) only [rf_order, rf_isStation, rf_isTower, rf_isAct, rf_isAmount, c1, c5, c6, c7, w1, w5, w6, hF, if_true, if_false, not_true_eq_false, not_false_eq_true]) S hKK
    · obtain ⟨y9i, y9j, y9k⟩ := k_at c1 c5 (by omega)
      refine ⟨y9i, y_ix a1, hl.2.2.1 _ y9j, ?_⟩
      refine ⟨fun c10 => ?_, fun c10 => ?_⟩
      · exact lf (-1) A (by simp (decide := true) only [rf_order, rf_isStation, rf_isTower, rf_isAct, rf_isAmount, c1, c5, c10, w1, w5, w6, hF, if_true, if_false, not_true_eq_false, not_false_eq_true]) S hKK
      · refine ⟨fun c11 => ?_, fun c11 => ?_⟩
        · exact lf (-1) A (by simp (decide := true) only [rf_order, rf_isStation, rf_isTower, rf_isAct, rf_isAmount, c1, c5, c10, c11, w1, w5, w6, hF, if_true, if_false, not_true_eq_false, not_false_eq_true]) S hKK
        · obtain ⟨y12i, y12j, y12k⟩ := k_at c10 c11 (by omega)
          refine ⟨y12i, y_ix a2, hl.1 _ y12j, ?_⟩
          refine ⟨fun c13 => ?_, fun c13 => ?_⟩
          · exact lf (-2) A (by simp (decide := true) only [rf_order, rf_isStation, rf_isTower, rf_isAct, rf_isAmount, c1, c5, c10, c11, c13, w1, w5, w6, hF, if_true, if_false, not_true_eq_false, not_false_eq_true]) S hKK
          · refine ⟨fun c14 => ?_, fun c14 => ?_⟩
            · exact lf (-2) A (by simp (decide := true) only [rf_order, rf_isStation, rf_isTower, rf_isAct, rf_isAmount, c1, c5, c10, c11, c13, c14, w1, w5, w6, hF, if_true, if_false, not_true_eq_false, not_false_eq_true]) S hKK
            · refine ⟨fun c15 => ?_, fun c15 => ?_⟩
              · refine ⟨fun c16 => ?_, fun c16 => ?_⟩
                · exact lf (-2) A (by simp (decide := true) only [rf_order, rf_isStation, rf_isTower, rf_isAct, rf_isAmount, c1, c5, c10, c11, c15, c16, w1, w5, w6, hF, if_true, if_false, not_true_eq_false, not_false_eq_true]) S hKK
                · refine ⟨fun c17 => ?_, fun c17 => ?_⟩
                  · exact lf (-2) A (by simp (decide := true) only [rf_order, rf_isStation, rf_isTower, rf_isAct, rf_isAmount, c1, c5, c10, c11, c15, c16, c17, w1, w5, w6, hF, if_true, if_false, not_true_eq_false, not_false_eq_true]) S hKK
                  · refine ⟨fun c18 => ?_, fun c18 => ?_⟩
                    · refine ⟨fun c19 => ?_, fun c19 => ?_⟩
                      · rintro k rfl S11 rfl
                        refine (mk y9j y12j ((nI_ltI (b := 60) (by omega) (by decide)).mp c19) ⟨Int32.not_lt.mp c13, Int32.not_lt.mp c14⟩ ⟨Int32.not_lt.mp c16, Int32.le_trans (Int32.not_lt.mp c17) (by decide)⟩).mono (fun r S32 y => ⟨y.1, y.2.1, y.2.2.mono (fun r S34 y => ?_)⟩)
                        obtain ⟨x, x1, x2, x3, A', x4, x5, x6, x7⟩ := y
                        rw [← y9k, ← y12k] at x5
                        refine ⟨x, x1, x2, ?_⟩
                        rw [x3]
                        subst c15
                        exact lf _ _ (by simp (decide := true) only [rf_order, rf_isStation, rf_isTower, rf_isAct, rf_isAmount, c1, c5, c10, c11, c16, c17, c18, c19, w1, w5, w6, hF, if_true, if_false, not_true_eq_false, not_false_eq_true, x5]) _ x6.K
                      · exact lf (-3) A (by simp (decide := true) only [rf_order, rf_isStation, rf_isTower, rf_isAct, rf_isAmount, c1, c5, c10, c11, c15, c16, c17, c18, c19, w1, w5, w6, hF, if_true, if_false, not_true_eq_false, not_false_eq_true]) S hKK
                    · exact lf (-2) A (by simp (decide := true) only [rf_order, rf_isStation, rf_isTower, rf_isAct, rf_isAmount, c1, c5, c10, c11, c15, c16, c17, c18, w1, w5, w6, hF, if_true, if_false, not_true_eq_false, not_false_eq_true]) S hKK
              · refine ⟨fun c20 => ?_, fun c20 => ?_⟩
                · exact lf (-2) A (by simp (decide := true) only [rf_order, rf_isStation, rf_isTower, rf_isAct, rf_isAmount, c1, c5, c10, c11, c13, c14, c15, c20, w1, w5, w6, hF, if_true, if_false, not_true_eq_false, not_false_eq_true]) S hKK
                · refine ⟨fun c21 => ?_, fun c21 => ?_⟩
                  · exact lf (-2) A (by simp (decide := true) only [rf_order, rf_isStation, rf_isTower, rf_isAct, rf_isAmount, c1, c5, c10, c11, c13, c14, c15, c20, c21, w1, w5, w6, hF, if_true, if_false, not_true_eq_false, not_false_eq_true]) S hKK
                  · refine ⟨fun c22 => ?_, fun c22 => ?_⟩
                    · refine ⟨fun c23 => ?_, fun c23 => ?_⟩
                      · rintro k rfl S11 rfl
                        refine (mk y9j y12j ((nI_ltI (b := 60) (by omega) (by decide)).mp c23) ⟨Int32.not_lt.mp c13, Int32.not_lt.mp c14⟩ ⟨Int32.not_lt.mp c20, Int32.not_lt.mp c21⟩).mono (fun r S32 y => ⟨y.1, y.2.1, y.2.2.mono (fun r S34 y => ?_)⟩)
                        obtain ⟨x, x1, x2, x3, A', x4, x5, x6, x7⟩ := y
                        rw [← y9k, ← y12k] at x5
                        refine ⟨x, x1, x2, ?_⟩
                        rw [x3]
                        exact lf _ _ (by simp (decide := true) only [rf_order, rf_isStation, rf_isTower, rf_isAct, rf_isAmount, c1, c5, c10, c11, c13, c14, c15, c20, c21, c22, c23, w1, w5, w6, hF, if_true, if_false, not_true_eq_false, not_false_eq_true, x5]) _ x6.K
                      · exact lf (-3) A (by simp (decide := true) only [rf_order, rf_isStation, rf_isTower, rf_isAct, rf_isAmount, c1, c5, c10, c11, c13, c14, c15, c20, c21, c22, c23, w1, w5, w6, hF, if_true, if_false, not_true_eq_false, not_false_eq_true]) S hKK
                    · exact lf (-2) A (by simp (decide := true) only [rf_order, rf_isStation, rf_isTower, rf_isAct, rf_isAmount, c1, c5, c10, c11, c13, c14, c15, c20, c21, c22, w1, w5, w6, hF, if_true, if_false, not_true_eq_false, not_false_eq_true]) S hKK
end
