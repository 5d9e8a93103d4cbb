/-! ===== A TRY ENDS: the ends, an effect (printed by wip/whole/gen9z.py) ===== -/
section
theorem c_endTry {S : xm_S} {A : y_A} {hb rb nb t e1 e2 c : Nat} {rest : List y_J} (hM : kM S A (fun _ => False) (fun _ => False) (fun _ => False) hb rb nb t 0 e1 e2) (hc : c < xm_n S 1 6) (h0 : xm_i S 2 c 8 = 0) (hg : xm_r S 2 c 4 = none) (hlen : rest.length + 400 ≤ 20000) :
    (∀ v b : Int32, (b = 0 ∨ b = 1) → e1 ≤ 1 → e2 = 0 → xc 90 30 [.inr (some (0, 0)), .inr (some (2, c)), .inl v, .inl b] S (kPo S A A (((1 : Int32), nI c, 1, v, b) :: rest) rest (fun _ => False) (fun _ => False) hb rb nb t 0)) ∧
    (∀ (f : Nat) (b : Int32), f < xm_n S 1 8 → (b = 0 ∨ b = 1) → e1 = 0 → e2 ≤ 1 → xc 90 22 [.inr (some (0, 0)), .inr (some (2, c)), .inr (some (4, f))] S (kPo S A A (((1 : Int32), nI c, 2, nI f, b) :: rest) rest (fun _ => False) (fun _ => False) hb rb nb t 0)) := by
  have j1 := hM.2.2.2.1
  have j7 := hM.2.2.2.2.2.2.2.2.2.1
  obtain ⟨o, o1, o2, o3⟩ := (hM.1.2.2.2.2.2.2.2.1 c hc).2.2.2.2.2.2.2.2.2.1
  obtain ⟨e, a1, a2, -⟩ := (j1 c hc).2.2.2
  have hM2 := hM.exm (p := c) hc (fun k hk hkp _ => by
    obtain ⟨g, y⟩ := ((j1 k hk).2.2.1 c hkp).2.2.1
    rw [hg] at y; cases y) (fun g y => by rw [hg] at y; cases y)
  refine kEN.all e a1 S A (fun _ => False) (fun _ => False) hb rb nb t 0 e1 e2 c o rest hM2 hc h0 (fun z => ?_) (fun k z => z.elim) (fun k z => z.elim) a2 o1 ⟨hc, fun z => ?_, fun z => z.elim⟩ (by rw [kC.f]; omega)
  · obtain ⟨g, y, -⟩ := (j7 c hc).2.1 (Or.inl z)
    rw [hg] at y; cases y
  · obtain ⟨g, y, -⟩ := (j7 c hc).2.2.2.2.1 (Or.inl ((hM.1.2.2.2.2.2.2.2.1 c hc).2.2.2.2.2.2.2.1.symm.trans z))
    rw [hg] at y; cases y
theorem c_failTry {d : Nat} (hd : 90 ≤ d + 1) {S : xm_S} {A : y_A} {hb rb nb t c s : Nat} {kd : Int32} {rest : List y_J} (hM : kM S A (fun _ => False) (fun _ => False) (fun _ => False) hb rb nb t 0 0 0) (hc : c < xm_n S 1 6) (h0 : xm_i S 2 c 8 = 0) (hg : xm_r S 2 c 4 = none) (hs : s < xm_n S 1 0) (hk : 0 ≤ kd ∧ kd ≤ 15) (hlen : rest.length + 400 ≤ 20000) :
    rg_fails kd (-1) (nI s) A ∧ xc (d + 1) 21 [.inr (some (0, 0)), .inl kd, .inr none, .inr (some (9, s))] S (fun r S2 => ∃ t4 : Option Nat, r = some (.inr (xo 4 t4)) ∧ xk_C S2 ∧ (xc (d + 1) 22 [.inr (some (0, 0)), .inr (some (2, c)), .inr (xo 4 t4)] S2 (fun r S5 => r = none ∧ xk_C S5 ∧ kPo S A (kAf A (xm_n S 1 8) kd (-1) (nI s)) (((1 : Int32), nI c, 2, nI (xm_n S 1 8), (0 : Int32)) :: rest) rest (fun _ => False) (fun _ => False) hb rb nb t 0 none S5))) := by
  have hbb := hM.1.2.2.1
  unfold k_bnd at hbb
  obtain ⟨a1, a2, a3⟩ := c_addFailure (d := d) (kd := kd) (gd := none) (st := some s) hM hc h0 hk (fun g z => by cases z) (fun s' z => by rw [← Option.some.inj z]; exact hs)
  refine ⟨a3, xc.mono a1 ?_⟩
  rintro r S13 ⟨w1, w2, w3⟩
  refine ⟨some (xm_n S 1 8), w1, w2.1.1, ?_⟩
  have hL1 : kL S S13 A (kAf A (xm_n S 1 8) kd (kn none) (kn (some s))) := w3.L hM (Or.inl rfl) (fun x k hx => kAf.o (by omega) (by omega))
  have o2 := (hM.2.2.2.2.2.2.1).2.2.2.2.1
  have hc2 : ∀ k j, k < xm_n S 1 6 → xm_i S13 2 k j = xm_i S 2 k j ∧ xm_r S13 2 k j = xm_r S 2 k j := fun k j hk => w3.1 2 k j (by decide) (by omega)
  have n8 : xm_n S13 1 8 = xm_n S 1 8 + 1 := w3.2.2.2
  have n6 : xm_n S13 1 6 = xm_n S 1 6 := w3.2.1 6 (by decide)
  obtain ⟨-, i2⟩ := c_endTry (rest := rest) w2 (by omega) ((hc2 c 8 hc).1.trans h0) ((hc2 c 4 hc).2.trans hg) hlen
  refine xc.up (xc.mono (i2 (xm_n S 1 8) 0 (by omega) (Or.inl rfl) rfl (by omega)) ?_) hd
  rintro r S16 ⟨v1, v2, A', v3, v4, v5⟩
  exact ⟨v1, v2, rfl, v2, A', v3, v4, hL1.tr v5⟩
theorem kM.level {S S' : xm_S} {A A' : y_A} {X E B : Nat → Prop} {hb rb nb t w e1 e2 s : Nat} (h : kM S A X E B hb rb nb t w e1 e2) (hF : kF 0 0 [(9, 3)] [] [2] S S' A A') (hI : ∀ k, k ≠ s → xm_i S' 9 k 3 = xm_i S 9 k 3) (hA : ∀ k, k ≠ s → A' 2 k = A 2 k) (v : xm_i S' 9 s 3 = A' 2 s) (vr : 0 ≤ A' 2 s ∧ A' 2 s ≤ A 3 s) : kM S' A' X E B hb rb nb t w e1 e2 := by
  obtain ⟨⟨hC, hcnt, hb', hl, ht, hv, h1, h2, h3, h4, h5, h6, h7, h8, h9, h10, h11, h12⟩, hS, hgr, ⟨j1, j2, j3, j4, j5, j6, j7, j8, j9, j10, j11, j12, j13, j14, j15, j16, j17, j18⟩⟩ := h
  have hN : ∀ {r k : Nat}, k < xm_n S' 1 r → k < xm_n S 1 r := fun z => by rw [hF.1] at z; exact z
  refine ⟨⟨xk_C.F hF (by decide) hC, k_cnt.F hF (by decide) (by decide) (by decide) (by decide) (by decide) (by decide) (by decide) (by decide) (by decide) (by decide) (by decide) hcnt, k_bnd.F hF hb', k_lst.F hF hl, k_top.F hF (by decide) (by decide) (by decide) ht, k_live.F hF (by decide) hv, ?_, fun k hk => kc.F hF (by decide) (by decide) (by decide) (by decide) (by decide) (by decide) (by decide) (by decide) (by decide) (by decide) (by decide) (by decide) (by decide) (by decide) (by decide) (by decide) (by decide) (by decide) (by decide) (by decide) (by decide) (by decide) (by decide) (by decide) (by decide) (by decide) (by decide) (by decide) (by decide) (by decide) (by decide) (by decide) (by decide) (by decide) (h2 k (hN hk)), fun k hk => kg.F hF (by decide) (by decide) (by decide) (by decide) (by decide) (by decide) (by decide) (by decide) (by decide) (by decide) (by decide) (by decide) (by decide) (by decide) (by decide) (by decide) (by decide) (by decide) (by decide) (by decide) (by decide) (by decide) (by decide) (by decide) (by decide) (by decide) (by decide) (by decide) (by decide) (by decide) (by decide) (by decide) (by decide) (by decide) (by decide) (h3 k (hN hk)), fun k hk => kf.F hF (by decide) (by decide) (by decide) (by decide) (by decide) (by decide) (by decide) (by decide) (by decide) (by decide) (by decide) (by decide) (by decide) (h4 k (hN hk)), fun k hk => ke.F hF (by decide) (by decide) (by decide) (by decide) (by decide) (by decide) (by decide) (by decide) (by decide) (by decide) (h5 k (hN hk)), fun k hk => ko.F hF (by decide) (by decide) (by decide) (by decide) (by decide) (by decide) (by decide) (by decide) (by decide) (by decide) (by decide) (h6 k (hN hk)), fun k hk => kp.F hF (by decide) (by decide) (by decide) (by decide) (by decide) (by decide) (by decide) (by decide) (by decide) (by decide) (by decide) (by decide) (by decide) (by decide) (by decide) (by decide) (by decide) (by decide) (by decide) (by decide) (by decide) (by decide) (by decide) (by decide) (h7 k (hN hk)), fun k hk => ka.F hF (by decide) (by decide) (by decide) (by decide) (by decide) (by decide) (by decide) (by decide) (by decide) (by decide) (by decide) (by decide) (h8 k (hN hk)), by rw [hF.1]; exact kt.F hF (by decide) (by decide) (by decide) h9, fun k hk => kt.F hF (by decide) (by decide) (by decide) (h10 k (hN hk)), fun k hk => kw.F1 hF (by decide) (by decide) (by decide) (by decide) (by decide) (by decide) (by decide) (by decide) (by decide) (by decide) (h11 k (hN hk)), fun k hk => kw.F2 hF (by decide) (by decide) (by decide) (by decide) (by decide) (by decide) (by decide) (by decide) (by decide) (by decide) (h12 k (hN hk))⟩, kS.F hF (by decide) hS, fun k hk => kgr.F hF (by decide) (by decide) (by decide) (by decide) (by decide) (by decide) (hgr k (hN hk)), ⟨k_par.F hF (by decide) (by decide) (by decide) (by decide) (by decide) (by decide) (by decide) (by decide) (by decide) j1, k_dst.F hF (by decide) (by decide) j2, k_own.F hF (by decide) (by decide) j3, k_obj.F hF j4, k_cap.F hF j5, k_chn.F hF (by decide) (by decide) (by decide) (by decide) j6, k_occ.F hF (by decide) (by decide) (by decide) (by decide) (by decide) (by decide) (by decide) (by decide) (by decide) (by decide) (by decide) j7, k_tri.F hF (by decide) (by decide) (by decide) (by decide) (by decide) j8, k_que.F hF (by decide) (by decide) (by decide) (by decide) (by decide) j9, k_sts.F hF (by decide) (by decide) (by decide) (by decide) (by decide) (by decide) (by decide) (by decide) (by decide) (by decide) (by decide) j10, k_uni.F hF (by decide) (by decide) (by decide) (by decide) (by decide) (by decide) (by decide) (by decide) (by decide) (by decide) j11, k_num.F hF (by decide) (by decide) (by decide) (by decide) (by decide) (by decide) j12, k_pot.F hF (by decide) (by decide) (by decide) (by decide) (by decide) (by decide) (by decide) (by decide) j13, ?_, (hF.2.2.2.2.1 0 (by decide) 0).trans j15, j16, fun k k1 k2 => by rw [hF.2.2.2.2.1 72 (by decide), hF.2.2.2.2.1 0 (by decide)]; exact j17 k k1 (hN k2), fun k hk => kof.F hF (by decide) (by decide) (by decide) (by decide) (by decide) (by decide) (by decide) (by decide) (by decide) (by decide) (by decide) (by decide) (j18 k (hN hk))⟩⟩
  · intro k hk
    obtain ⟨a1, a2, a3, a4, a5, -⟩ := hF
    rw [a1] at hk
    have z := h1 k hk
    unfold ks at z ⊢
    rw [a3 9 0 (by decide), a3 9 1 (by decide), a3 9 2 (by decide), a5 3 (by decide), a5 4 (by decide)]
    refine ⟨z.1, z.2.1, z.2.2.1, ?_, z.2.2.2.2⟩
    by_cases e : k = s
    · rw [e]; exact v
    · rw [hI k e, hA k e]; exact z.2.2.2.1
  · obtain ⟨a1, a2, a3, a4, a5, -⟩ := hF
    refine ⟨?_, fun p hp => ?_⟩
    · have z := j14.1
      unfold k_spn at z ⊢
      simp only [a1, a5 3 (by decide), a5 10 (by decide), a5 16 (by decide), a5 54 (by decide), a5 93 (by decide)]
      refine ⟨fun k hk => ?_, z.2⟩
      by_cases e : k = s
      · rw [e]
        rw [e] at hk
        exact ⟨vr.1, vr.2, (z.1 s hk).2.2⟩
      · rw [hA k e]; exact z.1 k hk
    · rw [a1] at hp
      rw [a5 97 (by decide), a5 94 (by decide), a3 7 12 (by decide), a3 7 7 (by decide)]
      exact j14.2 p hp
/-- the reference's state with one effect more -/
def kAe (A : y_A) (n s : Nat) (lev o key lit : Int32) : y_A := xm_u2 (xm_u2 (xm_u2 (xm_u2 (xm_u2 (xm_u2 (xm_u2 A 2 s lev) 18 n (nI s)) 19 n o) 20 n key) 21 n lit) 22 n (A 0 0)) 17 0 (nI (n + 1))
theorem kAe.o {A : y_A} {n s : Nat} {lev o key lit : Int32} {x k : Nat} (h1 : ¬ (x = 17 ∧ k = 0)) (h2 : ¬ (18 ≤ x ∧ x ≤ 22 ∧ k = n)) : kAe A n s lev o key lit x k = xm_u2 A 2 s lev x k := by
  unfold kAe
  rw [y_off (by omega), y_off (by omega), y_off (by omega), y_off (by omega), y_off (by omega), y_off (by omega)]
theorem c_effect {d : Nat} (hd : 90 ≤ d) {S : xm_S} {A : y_A} {hb rb nb t c s o : Nat} {lev lit : Int32} {rest : List y_J} (hM : kM S A (fun _ => False) (fun _ => False) (fun _ => False) hb rb nb t 0 0 0) (hc : c < xm_n S 1 6) (h0 : xm_i S 2 c 8 = 0) (hg : xm_r S 2 c 4 = none) (hs : s < xm_n S 1 0) (ho : o < xm_n S 1 5) (hv : 0 ≤ lev ∧ lev ≤ A 3 s) (hlen : rest.length + 400 ≤ 20000) :
    ∀ S11, S11 = xm_si S 9 s 3 lev → ∀ k13, k13 = xm_n S11 0 3 → ∀ S15, S15 = xm_mk 3 4 S11 → xc d 96 [.inr (some (3, k13)), .inr (some (9, s)), .inr (some (6, o)), .inl lit, .inl (xm_i S 0 0 13)] S15 (fun r S17 => r = none ∧ xk_C S17 ∧ (xm_n S17 2 9 ≠ 0 ∧ xm_n S17 1 9 < 100000 ∧ (∀ S21, S21 = xm_push 9 (3, k13) S17 → (xc d 30 [.inr (some (0, 0)), .inr (some (2, c)), .inl (xm_i S17 6 o 4), .inl (0 : Int32)] S21 (fun r S23 => r = none ∧ xk_C S23 ∧ kPo S A (kAe A (xm_n S 1 9) s lev (nI o) (A 55 o) lit) (((1 : Int32), nI c, 1, A 54 o, (0 : Int32)) :: rest) rest (fun _ => False) (fun _ => False) hb rb nb t 0 none S23))))) := by
  intro S11 e11 k13 e13 S15 e15
  have hF : kF 0 0 [(9, 3)] [] [2] S S11 A (xm_u2 A 2 s lev) := by
    rw [e11]
    exact ((kF.rf 0 0 S A).si 9 s 3 _ (fun z => absurd z (by decide)) (fun z => absurd z (by decide))).u 2 s _ (fun z => absurd z.1 (by decide)) (fun z => absurd z.1 (by decide))
  have hM1 := hM.level (s := s) hF (fun k hk => by rw [e11]; exact xi_sk (fun z => hk z.2)) (fun k hk => y_off (fun z => hk z.2)) (by rw [e11, xi_same, y_same]) (by rw [y_same]; exact hv)
  have hL0 : kL S S11 A (xm_u2 A 2 s lev) := hF.L hM (by decide) (by decide) (by decide)
  have i13 : xm_i S 0 0 13 = xm_i S11 0 0 13 := (hF.2.2.1 0 13 (by decide) 0).symm
  have hs1 : s < xm_n S11 1 0 := by rw [hF.1]; exact hs
  have ho1 : o < xm_n S11 1 5 := by rw [hF.1]; exact ho
  have h01 : xm_i S11 2 c 8 = 0 := (hF.2.2.1 2 8 (by decide) c).trans h0
  have hg1 : xm_r S11 2 c 4 = none := (hF.2.2.2.1 2 4 (by decide) c).trans hg
  have hc1 : c < xm_n S11 1 6 := by rw [hF.1]; exact hc
  have n9 : xm_n S 1 9 = xm_n S11 1 9 := by rw [hF.1]
  have A1 : ∀ x k, x ≠ 2 → xm_u2 A 2 s lev x k = A x k := fun x k z => y_off (fun y => z y.1)
  rw [i13, n9]
  have hA0 : A 0 0 = xm_u2 A 2 s lev 0 0 := (A1 0 0 (by decide)).symm
  have hMM := hM1
  clear e11 hM hF
  generalize hAz : xm_u2 A 2 s lev = Az at *
  obtain ⟨⟨hC, hcnt, hb', hl, ht, hv', h1, h2, h3', h4', h5, h6, -⟩, hS, hgr, ⟨-, -, jown, jobj, jcap, -, -, -, -, -, -, j12, -, j14, j15, j16, -⟩⟩ := hM1
  have hbb := hb'
  unfold k_bnd at hbb
  have o3 := jobj.2.2.2.2.2.2.1
  have o12 := jobj.2.2.2.2.2.2.2.2.2.2.2.1
  subst e13
  rw [e15]
  refine cw_newEffect (S := xm_mk 3 4 S11) hC ?_
  intro S1 e1 S3 e3 S5 e5 S7 e7
  have n : kN S11 S7 3 4 := by
    subst e1 e3 e5 e7
    exact ((((kN.mk S11 3 4).sr 0 _).sr 1 _).si 2 _).si 3 _
  have f0 : xm_r S7 3 (xm_n S11 0 3) 0 = some s := by
    subst e1 e3 e5 e7
    exact xr_si.trans (xr_si.trans ((xr_sr (by decide)).trans xr_same))
  have f1 : xm_r S7 3 (xm_n S11 0 3) 1 = some o := by
    subst e1 e3 e5 e7
    exact xr_si.trans (xr_si.trans xr_same)
  have f2 : xm_i S7 3 (xm_n S11 0 3) 2 = lit := by
    subst e1 e3 e5 e7
    exact (xi_si (by decide)).trans xi_same
  have f3 : xm_i S7 3 (xm_n S11 0 3) 3 = xm_i S11 0 0 13 := by
    subst e1 e3 e5 e7
    exact xi_same
  have f6 : xm_i S7 6 o 4 = A 54 o := by
    have : xm_i S7 6 o 4 = xm_i S11 6 o 4 := ((n.1 6 o 4).resolve_left (fun z => absurd z.1 (by decide))).1
    rw [this, (h6 o ho1).2.2.2.2.1, A1 54 o (by decide)]
  have hC7 : xk_C S7 := by
    subst e1 e3 e5 e7
    exact hC
  have n1 : xm_n S7 1 9 = xm_n S11 1 9 := by
    subst e1 e3 e5 e7
    rfl
  have n2 : xm_n S7 2 9 = xm_n S11 2 9 := by
    subst e1 e3 e5 e7
    rfl
  have pl : k_pln S7 Az t nb := by
    subst e1 e3 e5 e7
    exact j14
  clear e1 e3 e5 e7
  have h29 : xm_n S11 2 9 ≠ 0 := jcap.1 9 (by omega)
  have hlt : xm_n S11 1 9 < xm_n S11 1 6 := by
    have := j12.2.1
    have := k_hows.lt (v := 1) hc1 (by rw [h01]; decide)
    omega
  refine ⟨rfl, hC7, by rw [n2]; exact h29, by rw [n1]; omega, fun S21 e21 => ?_⟩
  obtain ⟨c2, c100, c101, b, ep, hc2, hcp⟩ := xm_push_x S7 9 (3, xm_n S11 0 3) (by rw [n2]; exact h29)
  rw [ep] at e21
  rw [n1, n2] at hcp
  have N1 : ∀ r, xm_n (xk_psh S7 9 (3, xm_n S11 0 3) c2 c100 c101 b) 1 r = if r = 9 then xm_n S11 1 9 + 1 else xm_n S11 1 r := fun r => by
    have e : ∀ r, xm_n S7 1 r = xm_n S11 1 r := fun r => by
      rw [n.n, if_neg (by omega), if_neg (by omega), if_neg (by omega), if_neg (by omega), if_neg (by omega)]
    rw [xp_n1, e, e]
  have O : ∀ p q j, p ≠ 3 → xm_i (xk_psh S7 9 (3, xm_n S11 0 3) c2 c100 c101 b) p q j = xm_i S11 p q j ∧ xm_r (xk_psh S7 9 (3, xm_n S11 0 3) c2 c100 c101 b) p q j = xm_r S11 p q j := fun p q j hp => (n.1 p q j).resolve_left (fun z => hp z.1)
  have eA : kAe A (xm_n S11 1 9) s lev (nI o) (A 55 o) lit = xm_u2 (xm_u2 (xm_u2 (xm_u2 (xm_u2 (xm_u2 Az 18 (xm_n S11 1 9) (nI s)) 19 (xm_n S11 1 9) (nI o)) 20 (xm_n S11 1 9) (A 55 o)) 21 (xm_n S11 1 9) lit) 22 (xm_n S11 1 9) (A 0 0)) 17 0 (nI (xm_n S11 1 9 + 1)) := by
    unfold kAe
    rw [hAz]
  have aO : ∀ x k, ¬ (x = 17 ∧ k = 0) → ¬ (18 ≤ x ∧ x ≤ 22 ∧ k = xm_n S11 1 9) → kAe A (xm_n S11 1 9) s lev (nI o) (A 55 o) lit x k = Az x k := fun x k z1 z2 => by rw [kAe.o z1 z2, hAz]
  have v17 : kAe A (xm_n S11 1 9) s lev (nI o) (A 55 o) lit 17 0 = nI (xm_n S11 1 9 + 1) := by rw [eA]; exact y_same _ _ _ _
  have v18 : kAe A (xm_n S11 1 9) s lev (nI o) (A 55 o) lit 18 (xm_n S11 1 9) = nI s := by
    rw [eA]; exact (y_off (by omega)).trans ((y_off (by omega)).trans ((y_off (by omega)).trans ((y_off (by omega)).trans ((y_off (by omega)).trans (y_same _ _ _ _)))))
  have v19 : kAe A (xm_n S11 1 9) s lev (nI o) (A 55 o) lit 19 (xm_n S11 1 9) = nI o := by
    rw [eA]; exact (y_off (by omega)).trans ((y_off (by omega)).trans ((y_off (by omega)).trans ((y_off (by omega)).trans (y_same _ _ _ _))))
  have v20 : kAe A (xm_n S11 1 9) s lev (nI o) (A 55 o) lit 20 (xm_n S11 1 9) = A 55 o := by
    rw [eA]; exact (y_off (by omega)).trans ((y_off (by omega)).trans ((y_off (by omega)).trans (y_same _ _ _ _)))
  have v21 : kAe A (xm_n S11 1 9) s lev (nI o) (A 55 o) lit 21 (xm_n S11 1 9) = lit := by
    rw [eA]; exact (y_off (by omega)).trans ((y_off (by omega)).trans (y_same _ _ _ _))
  have v22 : kAe A (xm_n S11 1 9) s lev (nI o) (A 55 o) lit 22 (xm_n S11 1 9) = A 0 0 := by
    rw [eA]; exact (y_off (by omega)).trans (y_same _ _ _ _)
  obtain ⟨hM2, hSm⟩ := kM.new9 (A' := kAe A (xm_n S11 1 9) s lev (nI o) (A 55 o) lit) (c100 := c100) (c101 := c101) (b := b) (w' := 0) (e1' := 1) (e2' := 0) hMM n hC7 hc2 hcp hlt (fun x k hx => by
      unfold kOlw at hx
      exact aO x k (by omega) (by omega)) ⟨v17, aO _ _ (by omega) (by omega), aO _ _ (by omega) (by omega), aO _ _ (by omega) (by omega), aO _ _ (by omega) (by omega), aO _ _ (by omega) (by omega), aO _ _ (by omega) (by omega), aO _ _ (by omega) (by omega), aO _ _ (by omega) (by omega), aO _ _ (by omega) (by omega), aO _ _ (by omega) (by omega)⟩ (by
      rw [o3] at f0 f1 f2 f3
      refine ⟨⟨s, f0, by rw [N1, if_neg (by decide)]; exact hs1, v18⟩, ⟨o, f1, by rw [N1, if_neg (by decide)]; exact ho1, v19, ?_⟩, f2.trans v21.symm, f3.trans (by rw [v22, hA0]; exact ht.1)⟩
      rw [(O 6 o 5 (by decide)).1, v20, (h6 o ho1).2.2.2.2.2.1, A1 55 o (by decide)]) (k_num.same j12 (by rw [N1, if_neg (by decide)]) (fun k _ => ⟨(O 2 k 8 (by decide)).1, (O 2 k 19 (by decide)).1, (O 2 k 10 (by decide)).1, (O 2 k 11 (by decide)).2⟩) (O 0 0 15 (by decide)).1 (aO _ _ (by omega) (by omega)) (by rw [N1, if_neg (by decide)]; omega) (by rw [N1, if_pos rfl]; omega)) (by rw [N1, if_neg (by decide)]; omega) (by rw [N1, if_neg (by decide)]; omega) (by
      obtain ⟨⟨p1, p2, p3, p4, p5⟩, p6⟩ := j14
      refine ⟨⟨fun k hk => ?_, fun k hk => ?_, fun k hk => ?_, fun k hk => ?_, fun k hk => ?_⟩, fun k hk => ?_⟩
      · rw [N1, if_neg (by decide)] at hk
        rw [aO _ _ (by omega) (by omega), aO _ _ (by omega) (by omega)]; exact p1 k hk
      · rw [N1, if_neg (by decide)] at hk
        rw [aO _ _ (by omega) (by omega)]; exact p2 k hk
      · rw [N1, if_neg (by decide)] at hk
        rw [aO _ _ (by omega) (by omega)]; exact p3 k hk
      · rw [N1, if_neg (by decide)] at hk
        rw [aO _ _ (by omega) (by omega)]; exact p4 k hk
      · rw [N1, if_neg (by decide)] at hk
        rw [aO _ _ (by omega) (by omega)]; exact p5 k hk
      · rw [N1, if_neg (by decide)] at hk
        rw [aO _ _ (by omega) (by omega), aO _ _ (by omega) (by omega), (O 7 k 12 (by decide)).1, (O 7 k 7 (by decide)).1]; exact p6 k hk)
  have hL1 := hSm.L hMM (Or.inr rfl) (A' := kAe A (xm_n S11 1 9) s lev (nI o) (A 55 o) lit) (fun x k hx => aO x k (by omega) (by omega))
  rw [← e21] at hM2 hL1 N1 O
  obtain ⟨i1, -⟩ := c_endTry (rest := rest) hM2 (by rw [N1, if_neg (by decide)]; exact hc1) ((O 2 c 8 (by decide)).1.trans h01) ((O 2 c 4 (by decide)).2.trans hg1) hlen
  rw [f6]
  refine xc.up (xc.mono (i1 (A 54 o) 0 (Or.inl rfl) (by omega) rfl) ?_) hd
  rintro r S16 ⟨v1, v2, A', v3, v4, v5⟩
  exact ⟨v1, v2, rfl, v2, A', v3, v4, (hL0.tr hL1).tr v5⟩
end
