/-! ===== PLANS (printed by wip/whole/gen9zg.py) ===== -/
section
theorem nI_toI {n : Nat} (h : n < 2 ^ 31) : (nI n).toInt = n := by
  show (Int32.ofNat n).toInt = n
  rw [Int32.toInt_ofNat']
  exact Int.bmod_eq_of_le (by unfold Int32.size; omega) (by unfold Int32.size; omega)
theorem nI_div {x e : Nat} (hx : x < 2 ^ 31) (he : e < 2 ^ 31) : nI x / nI e = nI (x / e) := by
  apply Int32.toInt_inj.mp
  have h1 : x / e < 2 ^ 31 := Nat.lt_of_le_of_lt (Nat.div_le_self x e) hx
  have h2 : (x : Int).tdiv (e : Int) = ((x / e : Nat) : Int) := by simp
  rw [Int32.toInt_div, nI_toI hx, nI_toI he, nI_toI h1, h2]
  generalize x / e = y at *
  exact Int.bmod_eq_of_le (by omega) (by omega)
theorem k_rem {t a e m : Nat} (h1 : 1 ≤ e) (h0 : a ≤ t) (h2 : t ≤ a + m * e) (h3 : a + m * e < t + e) : (t - a) - (t - a) / e * e = 0 ↔ t = a + m * e := by
  have hd : (t - a) / e * e + (t - a) % e = t - a := Nat.div_add_mod' _ _
  have hm := Nat.mod_lt (t - a) h1
  constructor
  · intro h
    have h4 : (t - a) / e * e = t - a := by omega
    have h5 : (t - a) / e = m := by
      have ha : (t - a) / e ≤ m := by
        apply Nat.le_of_mul_le_mul_right (c := e) _ h1
        omega
      have hb : ¬ (t - a) / e < m := fun z => by
        have : ((t - a) / e + 1) * e ≤ m * e := Nat.mul_le_mul_right e z
        rw [Nat.add_mul, Nat.one_mul] at this
        omega
      omega
    rw [h5] at h4
    omega
  · intro h
    have : t - a = m * e := by omega
    rw [this, Nat.mul_div_cancel _ h1]
    omega
theorem u2u2 {f : y_A} {a b : Nat} {x y : Int32} : xm_u2 (xm_u2 f a b x) a b y = xm_u2 f a b y := by
  funext p q
  unfold xm_u2
  by_cases c : p = a ∧ q = b
  · rw [if_pos c, if_pos c]
  · rw [if_neg c, if_neg c, if_neg c]
theorem kM.plan {S S' : xm_S} {A A' : y_A} {X E B : Nat → Prop} {hb rb nb nb' t w e1 e2 p : Nat} (h : kM S A X E B hb rb nb t w e1 e2) (hF : kF 0 0 [(7, 7), (7, 8), (7, 9), (7, 10), (7, 11)] [] [98, 99, 100, 101] S S' A A') (hI : ∀ k j, k ≠ p → xm_i S' 7 k j = xm_i S 7 k j) (hA : ∀ x k, k ≠ p → 98 ≤ x ∧ x ≤ 101 → A' x k = A x k) (e8 : xm_i S' 7 p 8 = A' 98 p) (e9 : xm_i S' 7 p 9 = A' 99 p) (e10 : xm_i S' 7 p 10 = A' 100 p) (e11 : xm_i S' 7 p 11 = A' 101 p) (hnb : nb ≤ nb') (pln : k_pln S' A' t nb') : kM S' A' X E B hb rb nb' t w e1 e2 := by
  obtain ⟨⟨hC, hcnt, hb', hl, ht, hv, h1, h2, h3, h4, h5, h6, h7, h8, h9, h10, h11, h12⟩, hS, hgr, ⟨j1, j2, j3, j4, j5, j6, j7, j8, j9, j10, j11, j12, j13, j14, j15, j16, j17, j18⟩⟩ := h
  have hN : ∀ {r k : Nat}, k < xm_n S' 1 r → k < xm_n S 1 r := fun z => by rw [hF.1] at z; exact z
  refine ⟨⟨xk_C.F hF (by decide) hC, k_cnt.F hF (by decide) (by decide) (by decide) (by decide) (by decide) (by decide) (by decide) (by decide) (by decide) (by decide) (by decide) hcnt, k_bnd.F hF hb', k_lst.F hF hl, k_top.F hF (by decide) (by decide) (by decide) ht, k_live.F hF (by decide) hv, fun k hk => ks.F hF (by decide) (by decide) (by decide) (by decide) (by decide) (by decide) (by decide) (h1 k (hN hk)), fun k hk => kc.F hF (by decide) (by decide) (by decide) (by decide) (by decide) (by decide) (by decide) (by decide) (by decide) (by decide) (by decide) (by decide) (by decide) (by decide) (by decide) (by decide) (by decide) (by decide) (by decide) (by decide) (by decide) (by decide) (by decide) (by decide) (by decide) (by decide) (by decide) (by decide) (by decide) (by decide) (by decide) (by decide) (by decide) (by decide) (h2 k (hN hk)), fun k hk => kg.F hF (by decide) (by decide) (by decide) (by decide) (by decide) (by decide) (by decide) (by decide) (by decide) (by decide) (by decide) (by decide) (by decide) (by decide) (by decide) (by decide) (by decide) (by decide) (by decide) (by decide) (by decide) (by decide) (by decide) (by decide) (by decide) (by decide) (by decide) (by decide) (by decide) (by decide) (by decide) (by decide) (by decide) (by decide) (by decide) (h3 k (hN hk)), fun k hk => kf.F hF (by decide) (by decide) (by decide) (by decide) (by decide) (by decide) (by decide) (by decide) (by decide) (by decide) (by decide) (by decide) (by decide) (h4 k (hN hk)), fun k hk => ke.F hF (by decide) (by decide) (by decide) (by decide) (by decide) (by decide) (by decide) (by decide) (by decide) (by decide) (h5 k (hN hk)), fun k hk => ko.F hF (by decide) (by decide) (by decide) (by decide) (by decide) (by decide) (by decide) (by decide) (by decide) (by decide) (by decide) (h6 k (hN hk)), ?_, fun k hk => ka.F hF (by decide) (by decide) (by decide) (by decide) (by decide) (by decide) (by decide) (by decide) (by decide) (by decide) (by decide) (by decide) (h8 k (hN hk)), by rw [hF.1]; exact kt.F hF (by decide) (by decide) (by decide) h9, fun k hk => kt.F hF (by decide) (by decide) (by decide) (h10 k (hN hk)), fun k hk => kw.F1 hF (by decide) (by decide) (by decide) (by decide) (by decide) (by decide) (by decide) (by decide) (by decide) (by decide) (h11 k (hN hk)), fun k hk => kw.F2 hF (by decide) (by decide) (by decide) (by decide) (by decide) (by decide) (by decide) (by decide) (by decide) (by decide) (h12 k (hN hk))⟩, kS.F hF (by decide) hS, fun k hk => kgr.F hF (by decide) (by decide) (by decide) (by decide) (by decide) (by decide) (hgr k (hN hk)), ⟨k_par.F hF (by decide) (by decide) (by decide) (by decide) (by decide) (by decide) (by decide) (by decide) (by decide) j1, k_dst.F hF (by decide) (by decide) j2, k_own.F hF (by decide) (by decide) j3, k_obj.F hF j4, k_cap.F hF j5, k_chn.F hF (by decide) (by decide) (by decide) (by decide) j6, k_occ.F hF (by decide) (by decide) (by decide) (by decide) (by decide) (by decide) (by decide) (by decide) (by decide) (by decide) (by decide) j7, k_tri.F hF (by decide) (by decide) (by decide) (by decide) (by decide) j8, k_que.F hF (by decide) (by decide) (by decide) (by decide) (by decide) j9, k_sts.F hF (by decide) (by decide) (by decide) (by decide) (by decide) (by decide) (by decide) (by decide) (by decide) (by decide) (by decide) j10, k_uni.F hF (by decide) (by decide) (by decide) (by decide) (by decide) (by decide) (by decide) (by decide) (by decide) (by decide) j11, k_num.F hF (by decide) (by decide) (by decide) (by decide) (by decide) (by decide) j12, k_pot.F hF (by decide) (by decide) (by decide) (by decide) (by decide) (by decide) (by decide) (by decide) j13, ?_, (hF.2.2.2.2.1 0 (by decide) 0).trans j15, j16, ?_, fun k hk => kof.F hF (by decide) (by decide) (by decide) (by decide) (by decide) (by decide) (by decide) (by decide) (by decide) (by decide) (by decide) (by decide) (j18 k (hN hk))⟩⟩
  · intro k hk
    obtain ⟨a1, a2, a3, a4, a5, -⟩ := hF
    rw [a1] at hk
    obtain ⟨z1, z2, z3, z4, z5, z6, z7, z8, z9, z10, z11, z12, z13, z14⟩ := h7 k hk
    unfold kp
    rw [a1, a3 7 2 (by decide), a3 7 3 (by decide), a3 7 4 (by decide), a3 7 5 (by decide), a3 7 6 (by decide), a3 7 12 (by decide), a4 7 0 (by decide), a4 7 1 (by decide), a5 90 (by decide), a5 91 (by decide), a5 92 (by decide), a5 93 (by decide), a5 94 (by decide), a5 95 (by decide), a5 96 (by decide), a5 102 (by decide)]
    by_cases e : k = p
    · rw [e]
      rw [e] at z1 z2 z3 z4 z5 z6 z7 z12 z13 z14
      exact ⟨z1, z2, z3, z4, z5, z6, z7, e8, e9, e10, e11, z12, z13, z14⟩
    · rw [hI k 8 e, hI k 9 e, hI k 10 e, hI k 11 e, hA 98 k e (by omega), hA 99 k e (by omega), hA 100 k e (by omega), hA 101 k e (by omega)]
      exact ⟨z1, z2, z3, z4, z5, z6, z7, z8, z9, z10, z11, z12, z13, z14⟩
  · exact pln
  · intro k k1 k2
    rw [hF.2.2.2.2.1 72 (by decide), hF.2.2.2.2.1 0 (by decide)]
    exact j17 k (by omega) (hN k2)
/-- one plan more is looked at -/
theorem k_pln.adv {S S' : xm_S} {A A' : y_A} {p t : Nat} (h : k_pln S A t (4500 + p)) (hn : xm_n S' = xm_n S) (hI12 : ∀ k, xm_i S' 7 k 12 = xm_i S 7 k 12) (hI7 : ∀ k, k ≠ p → xm_i S' 7 k 7 = xm_i S 7 k 7) (hA : ∀ x k, x ≤ 97 → A' x k = A x k) (hp : ∀ m a e, 1 ≤ e → e ≤ 1000 → a ≤ t → A 97 p = nI a → A 94 p = nI e → xm_i S 7 p 12 = 1 → xm_i S 7 p 7 = nI (a + m * e) → t ≤ a + m * e → a + m * e < t + e → (t ≠ a + m * e ∧ xm_i S' 7 p 7 = xm_i S 7 p 7) ∨ (t = a + m * e ∧ xm_i S' 7 p 7 = xm_i S 7 p 7 + A 94 p)) : k_pln S' A' t (4500 + p + 1) := by
  refine ⟨?_, fun k hk => ?_⟩
  · have z := h.1
    unfold k_spn at z ⊢
    simp only [hn, hA 2 _ (by decide), hA 3 _ (by decide), hA 10 _ (by decide), hA 16 _ (by decide), hA 54 _ (by decide), hA 93 _ (by decide)]
    exact z
  · rw [hn] at hk
    obtain ⟨m, a, e, z1, z2, z3, z4, z5, z6⟩ := h.2 k hk
    by_cases c : k = p
    · subst c
      by_cases on : xm_i S 7 k 12 = 1
      · obtain ⟨y1, y2, y3, y4⟩ := z6 on
        have y5 := y4 (Nat.le_refl _)
        rcases hp m a e z1 z2 z3 z4 z5 on y1 (by omega) y5 with ⟨q1, q2⟩ | ⟨q1, q2⟩
        · refine ⟨m, a, e, z1, z2, z3, by rw [hA 97 _ (by decide)]; exact z4, by rw [hA 94 _ (by decide)]; exact z5, fun _ => ⟨q2.trans y1, by omega, by omega, fun z => by omega⟩⟩
        · refine ⟨m + 1, a, e, z1, z2, z3, by rw [hA 97 _ (by decide)]; exact z4, by rw [hA 94 _ (by decide)]; exact z5, fun _ => ⟨?_, ?_, ?_, fun z => by omega⟩⟩
          · rw [q2, y1, z5, nI_add]
            congr 1
            rw [Nat.add_mul, Nat.one_mul]
            omega
          · rw [Nat.add_mul, Nat.one_mul]; omega
          · rw [Nat.add_mul, Nat.one_mul]; omega
      · exact ⟨m, a, e, z1, z2, z3, by rw [hA 97 _ (by decide)]; exact z4, by rw [hA 94 _ (by decide)]; exact z5, fun z => absurd ((hI12 k).symm.trans z) on⟩
    · refine ⟨m, a, e, z1, z2, z3, by rw [hA 97 _ (by decide)]; exact z4, by rw [hA 94 _ (by decide)]; exact z5, fun y => ?_⟩
      rw [hI12 k] at y
      obtain ⟨y1, y2, y3, y4⟩ := z6 y
      exact ⟨(hI7 k c).trans y1, by omega, y3, fun z => y4 (by omega)⟩
theorem kOr.rf (S : xm_S) (A : y_A) : kOr S S A A := ⟨fun _ _ => rfl, ⟨rfl, rfl⟩, rfl⟩
theorem kOr.tr {S S' S'' : xm_S} {A A' A'' : y_A} (h : kOr S S' A A') (g : kOr S' S'' A' A'') : kOr S S'' A A'' := ⟨fun r hr => (g.1 r hr).trans (h.1 r hr), ⟨g.2.1.1.trans h.2.1.1, g.2.1.2.trans h.2.1.2⟩, kW.tr h.2.2 g.2.2⟩
theorem kF.O {c g : Nat} {I R : List (Nat × Nat)} {Z : List Nat} {S S' : xm_S} {A A' : y_A} (h : kF c g I R Z S S' A A') (hI : ∀ x ∈ [(0, 13), (0, 14)], x ∉ I) (hZ : ∀ x ∈ [0, 60], x ∉ Z) : kOr S S' A A' := by
  obtain ⟨a1, a2, a3, a4, a5, -⟩ := h
  refine ⟨fun r _ => by rw [a1], ⟨a5 0 (hZ 0 (by decide)) 0, a3 0 13 (hI _ (by decide)) 0⟩, ?_⟩
  rw [a3 0 14 (hI _ (by decide)) 0, a5 60 (hZ 60 (by decide)) 0]
theorem k_made98 {A B : y_A} {p : Nat} {v x a1 a2 a3 a4 a5 : Int32} (hg : rg_made a1 a2 a3 a4 a5 (xm_u2 A 98 p v) []) (hf : rf_made a1 a2 a3 a4 a5 (xm_u2 A 98 p v) [] = (x, B, [])) : rg_made a1 a2 a3 a4 a5 A [] ∧ rf_made a1 a2 a3 a4 a5 A [] = (x, xm_u2 B 98 p (A 98 p), []) ∧ B 98 p = v := by
  unfold rg_made at hg
  unfold rf_made at hf
  simp only [r98, c98, ne_eq, Nat.reduceEqDiff, not_false_eq_true] at hg hf
  obtain ⟨g1, g2, ⟨C, hC⟩, -⟩ := hg
  rw [rf_work_eq hC] at hf
  obtain ⟨f1, f2⟩ := Prod.mk.inj hf
  have f3 : C = B := (Prod.mk.inj f2).1
  rw [f3] at hC
  have h2 := k98_to (p := p) (v := A 98 p) hC
  have hk := k98_keep (p := p) hC
  rw [y_same] at hk
  rw [u2u2, k_u2id ((y_off (by omega)).trans ((y_off (by omega)).trans ((y_off (by omega)).trans ((y_off (by omega)).trans ((y_off (by omega)).trans ((y_off (by omega)).trans ((y_off (by omega)).trans ((y_off (by omega)).trans ((y_off (by omega)).trans (y_off (by omega))))))))))) ] at h2
  refine ⟨?_, ?_, hk⟩
  · unfold rg_made
    exact ⟨g1, g2, ⟨_, h2⟩, trivial⟩
  · unfold rf_made
    rw [rf_work_eq h2, f1]
theorem c_lookAtPlan {d : Nat} (hd : 121 ≤ d) {S : xm_S} {A : y_A} {p t : Nat} (hM : kM S A (fun _ => False) (fun _ => False) (fun _ => False) 5000 5000 (4500 + p) t 0 0 0) (hp : p < xm_n S 1 10) : ∃ A', rf_planDue (nI p) A [] = (A', []) ∧ rg_planDue (nI p) A [] ∧ xc (d + 1) 59 [.inr (some (0, 0)), .inr (some (7, p))] S (fun r S' => r = none ∧ xk_C S' ∧ kM S' A' (fun _ => False) (fun _ => False) (fun _ => False) 5000 5000 (4500 + p + 1) t 0 0 0 ∧ kOr S S' A A') := by
  have hC := hM.1.1
  have hbb := hM.1.2.2.1
  unfold k_bnd at hbb
  have ht := hM.1.2.2.2.2.1.1
  obtain ⟨⟨tw, t1, t2, t3⟩, ⟨s, s1, s2, s3⟩, k2, k3, k4, k5, k6, k8, k9, k10, k11, k12, k13, k14⟩ := hM.1.2.2.2.2.2.2.2.2.2.2.2.2.1 p hp
  have hpl := hM.2.2.2.2.2.2.2.2.2.2.2.2.2.2.2.2.1
  have j15 := hM.2.2.2.2.2.2.2.2.2.2.2.2.2.2.2.2.2.1
  have j16 := hM.2.2.2.2.2.2.2.2.2.2.2.2.2.2.2.2.2.2.1
  have w6 : A 50 0 = nI (xm_n S 1 5) := hM.1.2.1.2.2.2.2.2.1
  obtain ⟨m, a, e, z1, z2, z3, z4, z5, z6⟩ := hpl.2 p hp
  have lev := (hM.1.2.2.2.2.2.2.1 s s2).2.2.2.1
  have ixp : y_ix (nI p) = p := y_ix_nI (by omega)
  have ixs : y_ix (nI s) = s := y_ix_nI (by omega)
  have yp : y_in (nI p) 12 := y_in_nI (by omega) (by decide)
  have ys : y_in (nI s) 8 := y_in_nI (by omega) (by decide)
  have he94 : ¬ A 94 p = 0 := by
    rw [z5]
    intro y
    have := (nI_eq (a := e) (b := 0) (by omega) (by decide)).mp y
    omega
  have hrem : (A 0 0 - A 97 p) - (A 0 0 - A 97 p) / A 94 p * A 94 p = nI ((t - a) - (t - a) / e * e) := by
    have e1 : nI t - nI a = nI (t - a) := by rw [Int32.sub_eq_add_neg, nI_sub z3]
    have hle : (t - a) / e * e ≤ t - a := Nat.div_mul_le_self _ _
    rw [j15, z4, z5, e1, nI_div (by omega) (by omega), nI_mulc, Int32.sub_eq_add_neg, nI_sub hle]
  have hlt : (t - a) - (t - a) / e * e < 2 ^ 31 := by omega
  have hrf : kF 0 0 [(7, 7), (7, 8), (7, 9), (7, 10), (7, 11)] [] [98, 99, 100, 101] S S A A := (kF.rf 0 0 S A).w (by decide) (by decide) (by decide)
  -- nothing is done
  have idle : (xm_i S 7 p 12 = 1 → xm_i S 7 p 7 ≠ xm_i S 0 0 13) → kM S A (fun _ => False) (fun _ => False) (fun _ => False) 5000 5000 (4500 + p + 1) t 0 0 0 := fun Z => hM.plan (p := p) hrf (fun _ _ _ => rfl) (fun _ _ _ _ => rfl) k8 k9 k10 k11 (by omega) (hpl.adv rfl (fun _ => rfl) (fun _ _ => rfl) (fun _ _ _ => rfl) (fun m' a' e' q1 q0 q2 q3 q4 q5 q6 q7 q8 => Or.inl ⟨fun q => Z q5 (by rw [q6, ht, j15, ← q]), rfl⟩))
  by_cases c102 : A 102 p = 0
  · rw [if_pos c102] at k12
    obtain ⟨y1, y2, y3, y4⟩ := z6 k12
    have y5 := y4 (Nat.le_refl _)
    have hrem0 : (A 0 0 - A 97 p) - (A 0 0 - A 97 p) / A 94 p * A 94 p = 0 ↔ xm_i S 7 p 7 = xm_i S 0 0 13 := by
      rw [hrem, y1, ht, j15]
      refine ⟨fun z => ?_, fun z => ?_⟩
      · rw [← (k_rem z1 z3 (by omega) y5).mp ((nI_eq (b := 0) hlt (by decide)).mp z)]
      · rw [(k_rem z1 z3 (by omega) y5).mpr ((nI_eq (by omega) (by omega)).mp z).symm]
        rfl
    have c12 : ¬ xm_i S 7 p 12 = 0 := by rw [k12]; decide
    by_cases cd : xm_i S 7 p 7 = xm_i S 0 0 13
    · have cd' := hrem0.mpr cd
      -- it is due
      have adv : ∀ (S9 : xm_S) (A' : y_A), kF 0 0 [(7, 7), (7, 8), (7, 9), (7, 10), (7, 11)] [] [98, 99, 100, 101] S S9 A A' → (∀ k j, k ≠ p → xm_i S9 7 k j = xm_i S 7 k j) → (∀ x k, k ≠ p → 98 ≤ x ∧ x ≤ 101 → A' x k = A x k) → xm_i S9 7 p 7 = xm_i S 7 p 7 + xm_i S 7 p 4 → xm_i S9 7 p 8 = A' 98 p → xm_i S9 7 p 9 = A' 99 p → xm_i S9 7 p 10 = A' 100 p → xm_i S9 7 p 11 = A' 101 p → kM S9 A' (fun _ => False) (fun _ => False) (fun _ => False) 5000 5000 (4500 + p + 1) t 0 0 0 := fun S9 A' f1 f2 f3 f4 f5 f6 f7 f8 => hM.plan f1 f2 f3 f5 f6 f7 f8 (by omega) (hpl.adv f1.1 (fun k => f1.2.2.1 7 12 (by decide) k) (fun k hk => f2 k 7 hk) (fun x k hx => f1.2.2.2.2.1 x (by intro y; simp at y; omega) k) (fun m' a' e' q1 q0 q2 q3 q4 q5 q6 q7 q8 => Or.inr ⟨((nI_eq (by omega) (by omega)).mp (j15.symm.trans (ht.symm.trans (cd.symm.trans q6)))), by rw [f4, k4]⟩))
      have hFs : ∀ (j : Nat) (x : Nat) (v u : Int32), (7, j) ∈ [(7, 8), (7, 9), (7, 10), (7, 11)] → x ∈ [98, 99, 100, 101] → kF 0 0 [(7, 7), (7, 8), (7, 9), (7, 10), (7, 11)] [] [98, 99, 100, 101] S (xm_si (xm_si S 7 p 7 (xm_i S 7 p 7 + xm_i S 7 p 4)) 7 p j v) A (xm_u2 A x p u) := fun j x v u hj hx => by
        have f0 := (((kF.rf 0 0 S A).si 7 p 7 (xm_i S 7 p 7 + xm_i S 7 p 4) (fun z => absurd z (by decide)) (fun z => absurd z (by decide))).si 7 p j v (fun z => absurd z (by decide)) (fun z => absurd z (by decide))).u x p u (fun z => by simp at hx; omega) (fun z => by simp at hx; omega)
        refine f0.w (fun y hy => ?_) (fun y hy => hy) (fun y hy => ?_)
        · simp at hy hj ⊢
          rcases hy with rfl | rfl
          · simp; omega
          · simp
        · simp at hy ⊢
          rw [hy]
          simp at hx
          exact hx
      have hoth : ∀ (j : Nat) (v : Int32) (k i : Nat), k ≠ p → xm_i (xm_si (xm_si S 7 p 7 (xm_i S 7 p 7 + xm_i S 7 p 4)) 7 p j v) 7 k i = xm_i S 7 k i := fun j v k i hk => (xi_sk (fun z => hk z.2)).trans (xi_sk (fun z => hk z.2))
      have hsame : ∀ (j : Nat) (v : Int32) (i : Nat), i ≠ j → i ≠ 7 → xm_i (xm_si (xm_si S 7 p 7 (xm_i S 7 p 7 + xm_i S 7 p 4)) 7 p j v) 7 p i = xm_i S 7 p i := fun j v i h1 h2 => (xi_si (fun z => h1 z.2)).trans (xi_si (fun z => h2 z.2))
      have h7v : ∀ (j : Nat) (v : Int32), j ≠ 7 → xm_i (xm_si (xm_si S 7 p 7 (xm_i S 7 p 7 + xm_i S 7 p 4)) 7 p j v) 7 p 7 = xm_i S 7 p 7 + xm_i S 7 p 4 := fun j v h1 => (xi_si (fun z => h1 z.2.symm)).trans xi_same
      have fin : ∀ A', (if A 2 s < A 95 p then ((xm_u2 A 101 p (A 101 p + 1)), ([] : List y_J)) else (if A 2 s ≤ A 96 p then (if A 50 0 = (60 : Int32) then ((xm_u2 A 100 p (A 100 p + 1)), []) else ((xm_u2 (xm_u2 (rf_made (nI tw) (nI s) (A 92 p) (A 93 p) (0 : Int32) A []).2.1 99 p (rf_made (nI tw) (nI s) (A 92 p) (A 93 p) (0 : Int32) A []).1) 98 p (((rf_made (nI tw) (nI s) (A 92 p) (A 93 p) (0 : Int32) A []).2.1 98 p) + (1 : Int32))), (rf_made (nI tw) (nI s) (A 92 p) (A 93 p) (0 : Int32) A []).2.2)) else ((xm_u2 A 101 p (A 101 p + 1)), []))) = (A', []) → (¬ A 2 s < A 95 p → A 2 s ≤ A 96 p → ¬ A 50 0 = (60 : Int32) → rg_made (nI tw) (nI s) (A 92 p) (A 93 p) (0 : Int32) A []) → xc (d + 1) 59 [.inr (some (0, 0)), .inr (some (7, p))] S (fun r S' => r = none ∧ xk_C S' ∧ kM S' A' (fun _ => False) (fun _ => False) (fun _ => False) 5000 5000 (4500 + p + 1) t 0 0 0 ∧ kOr S S' A A') → ∃ A', rf_planDue (nI p) A [] = (A', []) ∧ rg_planDue (nI p) A [] ∧ xc (d + 1) 59 [.inr (some (0, 0)), .inr (some (7, p))] S (fun r S' => r = none ∧ xk_C S' ∧ kM S' A' (fun _ => False) (fun _ => False) (fun _ => False) 5000 5000 (4500 + p + 1) t 0 0 0 ∧ kOr S S' A A') := fun A' h1 h2 h3 => by
        refine ⟨A', ?_, ?_, h3⟩
        · unfold rf_planDue
          rw [ixp, if_pos c102, if_pos cd', s3, ixs, t3]
          exact h1
        · unfold rg_planDue
          rw [ixp, s3, ixs, t3]
          exact ⟨yp, fun _ => ⟨he94, fun _ => ⟨ys, fun _ => trivial, fun a1 => ⟨fun a2 => ⟨fun _ => trivial, fun a3 => ⟨h2 a1 a2 a3, trivial⟩⟩, fun _ => trivial⟩⟩, fun z => absurd cd' z⟩, fun z => absurd c102 z⟩
      have pass : ∀ S9, S9 = xm_si (xm_si S 7 p 7 (xm_i S 7 p 7 + xm_i S 7 p 4)) 7 p 11 (xm_i S 7 p 11 + 1) → kM S9 (xm_u2 A 101 p (A 101 p + 1)) (fun _ => False) (fun _ => False) (fun _ => False) 5000 5000 (4500 + p + 1) t 0 0 0 ∧ kOr S S9 A (xm_u2 A 101 p (A 101 p + 1)) := fun S9 e9' => by
        have f := hFs 11 101 (xm_i S 7 p 11 + 1) (A 101 p + 1) (by decide) (by decide)
        rw [e9']
        exact ⟨adv _ _ f (hoth 11 _) (fun x k hk _ => y_off (fun z => hk z.2)) (h7v 11 _ (by decide)) ((hsame 11 _ 8 (by decide) (by decide)).trans (k8.trans (y_off (by omega)).symm)) ((hsame 11 _ 9 (by decide) (by decide)).trans (k9.trans (y_off (by omega)).symm)) ((hsame 11 _ 10 (by decide) (by decide)).trans (k10.trans (y_off (by omega)).symm)) (xi_same.trans (by rw [k11, y_same])), f.O (by decide) (by decide)⟩
      have hlow : xm_i S 9 s 3 < xm_i S 7 p 5 ↔ A 2 s < A 95 p := by rw [lev, k5]
      have hhigh : xm_i S 7 p 6 < xm_i S 9 s 3 ↔ ¬ A 2 s ≤ A 96 p := by rw [lev, k6]; exact Int32.not_le.symm
      by_cases c1 : A 2 s < A 95 p
      · refine fin _ (if_pos c1) (fun z => absurd c1 z) (cw_lookAtPlan hC ⟨fun z => absurd z c12, fun _ => ⟨fun _ S3 e3 t5 e5 => ⟨s, e5.symm.trans s1, fun _ S9 e9' => ?_, fun z => absurd (hlow.mpr c1) z⟩, fun z => absurd cd z⟩⟩)
        rw [e3] at e9'
        obtain ⟨p1, p2⟩ := pass S9 e9'
        exact ⟨rfl, p1.1.1, p1, p2⟩
      by_cases c2 : A 2 s ≤ A 96 p
      · by_cases c3 : A 50 0 = 60
        · have c3' : ¬ nI (xm_n S 1 5) < (60 : Int32) := by rw [← w6, c3]; decide
          refine fin _ (by rw [if_neg c1, if_pos c2, if_pos c3]) (fun _ _ z => absurd c3 z) (cw_lookAtPlan hC ⟨fun z => absurd z c12, fun _ => ⟨fun _ S3 e3 t5 e5 => ⟨s, e5.symm.trans s1, fun z => absurd (hlow.mp z) c1, fun _ => ⟨fun z => absurd c2 (hhigh.mp z), fun _ => ⟨fun z => absurd z c3', fun _ S30 e30 => ?_⟩⟩⟩, fun z => absurd cd z⟩⟩)
          rw [e3] at e30
          have f := hFs 10 100 (xm_i S 7 p 10 + 1) (A 100 p + 1) (by decide) (by decide)
          rw [e30]
          have p1 := adv _ _ f (hoth 10 _) (fun x k hk _ => y_off (fun z => hk z.2)) (h7v 10 _ (by decide)) ((hsame 10 _ 8 (by decide) (by decide)).trans (k8.trans (y_off (by omega)).symm)) ((hsame 10 _ 9 (by decide) (by decide)).trans (k9.trans (y_off (by omega)).symm)) (xi_same.trans (by rw [k10, y_same])) ((hsame 10 _ 11 (by decide) (by decide)).trans (k11.trans (y_off (by omega)).symm))
          exact ⟨rfl, p1.1.1, p1, f.O (by decide) (by decide)⟩
        · have h60 : xm_n S 1 5 < 60 := Nat.lt_of_le_of_ne (by omega) (fun z => c3 (by rw [w6, z]; rfl))
          have c3' : nI (xm_n S 1 5) < (60 : Int32) := nI_lt (b := 60) h60 (by decide)
          obtain ⟨S15, hS15⟩ : ∃ S15, S15 = xm_si (xm_si S 7 p 7 (xm_i S 7 p 7 + xm_i S 7 p 4)) 7 p 8 (xm_i S 7 p 8 + 1) := ⟨_, rfl⟩
          have f := hFs 8 98 (xm_i S 7 p 8 + 1) (A 98 p + 1) (by decide) (by decide)
          have hM15 := adv _ _ f (hoth 8 _) (fun x k hk _ => y_off (fun z => hk z.2)) (h7v 8 _ (by decide)) (xi_same.trans (by rw [k8, y_same])) ((hsame 8 _ 9 (by decide) (by decide)).trans (k9.trans (y_off (by omega)).symm)) ((hsame 8 _ 10 (by decide) (by decide)).trans (k10.trans (y_off (by omega)).symm)) ((hsame 8 _ 11 (by decide) (by decide)).trans (k11.trans (y_off (by omega)).symm))
          have O15 := f.O (by decide) (by decide)
          have n15 := f.1
          rw [← hS15] at hM15 O15 n15
          have mk := c_makeOrder (d := d - 1) (tw := tw) (s := s) (a3 := A 92 p) (a4 := A 93 p) (a5 := 0) (by omega) hM15 (by rw [n15]; exact h60) (by rw [n15]; exact t2) (by rw [n15]; exact s2) k14 (hpl.1.2.2.2.2 p hp)
          rw [show d - 1 + 1 = d by omega] at mk
          have mk2 := mk
          obtain ⟨-, r, S32, -, -, -, hx⟩ := mk2
          obtain ⟨-, r', S34, -, x, -, -, -, B, x4, x5, -, -⟩ := hx
          obtain ⟨g1, g2, g3⟩ := k_made98 x4 x5
          rw [n15] at g2 x5
          have hfin : xm_u2 (xm_u2 (xm_u2 B 98 p (A 98 p)) 99 p (nI (xm_n S 1 5))) 98 p ((xm_u2 B 98 p (A 98 p)) 98 p + 1) = xm_u2 B 99 p (nI (xm_n S 1 5)) := by
            rw [y_same, c98 (by decide), u2u2, k_u2id ((y_off (by omega)).trans g3)]
          refine fin (xm_u2 B 99 p (nI (xm_n S 1 5))) ?_ (fun _ _ _ => g1) (cw_lookAtPlan hC ⟨fun z => absurd z c12, fun _ => ⟨fun _ S3 e3 t5 e5 => ⟨s, e5.symm.trans s1, fun z => absurd (hlow.mp z) c1, fun _ => ⟨fun z => absurd c2 (hhigh.mp z), fun _ => ⟨fun _ S15' e15 k17 e17 S19 e19 t21 e21 => ?_, fun z => absurd c3' z⟩⟩⟩, fun z => absurd cd z⟩⟩)
          · rw [if_neg c1, if_pos c2, if_neg c3, g2]
            dsimp only
            rw [hfin]
          · rw [e3, ← hS15] at e15
            rw [t1] at e21
            rw [e17, e19, e15, ← e21, k2, k3]
            refine xc.mono mk ?_
            rintro r S23 ⟨a1, a2, a3⟩
            refine ⟨a1, a2, xc.mono a3 ?_⟩
            rintro r S25 ⟨x27, b1, b2, b3, B', b4, b5, b6, b7⟩
            rw [n15] at b3 b5
            obtain rfl : B' = B := congrArg (fun z => z.2.1) (b5.symm.trans x5)
            refine ⟨x27, b1, b2, fun S28 e28 => ?_⟩
            have hp25 : p < xm_n S25 1 10 := by rw [b7.1 10 (by decide), n15]; exact hp
            obtain ⟨-, -, -, -, -, -, -, r8, r9, r10, r11, -⟩ := b6.1.2.2.2.2.2.2.2.2.2.2.2.2.1 p hp25
            have f9 : kF 0 0 [(7, 9)] [] [99] S25 S28 B' (xm_u2 B' 99 p (nI (xm_n S 1 5))) := by
              rw [e28]
              exact ((kF.rf 0 0 S25 B').si 7 p 9 x27 (fun z => absurd z (by decide)) (fun z => absurd z (by decide))).u 99 p _ (fun z => absurd z.2 (by decide)) (fun z => absurd z.2 (by decide))
            have hM28 := b6.plan (p := p) (nb' := 4500 + p + 1) (f9.w (by decide) (by decide) (by decide)) (fun k j hk => by rw [e28]; exact xi_sk (fun z => hk z.2)) (fun x k hk _ => y_off (fun z => hk z.2)) (by rw [e28]; exact (xi_si (by decide)).trans (r8.trans (y_off (by omega)).symm)) (by rw [e28, xi_same, y_same, b3]) (by rw [e28]; exact (xi_si (by decide)).trans (r10.trans (y_off (by omega)).symm)) (by rw [e28]; exact (xi_si (by decide)).trans (r11.trans (y_off (by omega)).symm)) (Nat.le_refl _) (k_pln.F f9 (by decide) (by decide) (by decide) (by decide) (by decide) (by decide) (by decide) (by decide) (by decide) (by decide) (b6.2.2.2.2.2.2.2.2.2.2.2.2.2.2.2.2.1))
            exact ⟨rfl, hM28.1.1, hM28, (O15.tr b7).tr (f9.O (by decide) (by decide))⟩
      · refine fin _ (by rw [if_neg c1, if_neg c2]) (fun _ z => absurd z c2) (cw_lookAtPlan hC ⟨fun z => absurd z c12, fun _ => ⟨fun _ S3 e3 t5 e5 => ⟨s, e5.symm.trans s1, fun z => absurd (hlow.mp z) c1, fun _ => ⟨fun _ S12 e12' => ?_, fun z => absurd (hhigh.mpr c2) z⟩⟩, fun z => absurd cd z⟩⟩)
        rw [e3] at e12'
        obtain ⟨p1, p2⟩ := pass S12 e12'
        exact ⟨rfl, p1.1.1, p1, p2⟩
    · have cd' : ¬ (A 0 0 - A 97 p) - (A 0 0 - A 97 p) / A 94 p * A 94 p = 0 := fun z => cd (hrem0.mp z)
      refine ⟨A, ?_, ?_, cw_lookAtPlan hC ⟨fun z => absurd z c12, fun _ => ⟨fun z => absurd z cd, fun _ => ⟨rfl, hC, idle (fun _ => cd), kOr.rf _ _⟩⟩⟩⟩
      · unfold rf_planDue
        rw [ixp, if_pos c102, if_neg cd']
      · unfold rg_planDue
        rw [ixp]
        exact ⟨yp, fun _ => ⟨he94, fun z => absurd z cd', fun _ => trivial⟩, fun z => absurd c102 z⟩
  · rw [if_neg c102] at k12
    refine ⟨A, ?_, ?_, cw_lookAtPlan hC ⟨fun _ => ⟨rfl, hC, idle (fun z => absurd (k12.symm.trans z) (by decide)), kOr.rf _ _⟩, fun z => absurd k12 z⟩⟩
    · unfold rf_planDue
      rw [ixp, if_neg c102]
    · unfold rg_planDue
      rw [ixp]
      exact ⟨yp, fun z => absurd z c102, fun _ => trivial⟩
end
