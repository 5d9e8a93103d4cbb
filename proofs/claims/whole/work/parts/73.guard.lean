/-! ===== GUARD (printed by wip/whole/gen73.py) ===== -/
section
theorem xi_sk {S : xm_S} {c k j : Nat} {x : Int32} {p q r : Nat} (h : ¬ (p = c ∧ q = k)) : xm_i (xm_si S c k j x) p q r = xm_i S p q r := if_neg (fun z => h ⟨z.1, z.2.1⟩)
theorem xr_sk {S : xm_S} {c k j : Nat} {x : Option Nat} {p q r : Nat} (h : ¬ (p = c ∧ q = k)) : xm_r (xm_sr S c k j x) p q r = xm_r S p q r := if_neg (fun z => h ⟨z.1, z.2.1⟩)
theorem xi_mkn {S : xm_S} {c N p q r : Nat} (h : ¬ (p = c ∧ q = xm_n S 0 c)) : xm_i (xm_mk c N S) p q r = xm_i S p q r := if_neg h
theorem xr_mkn {S : xm_S} {c N p q r : Nat} (h : ¬ (p = c ∧ q = xm_n S 0 c)) : xm_r (xm_mk c N S) p q r = xm_r S p q r := if_neg h
theorem xi_sn {S : xm_S} {a b x p q r : Nat} : xm_i (xm_sn S a b x) p q r = xm_i S p q r := rfl
theorem xr_sn {S : xm_S} {a b x p q r : Nat} : xm_r (xm_sn S a b x) p q r = xm_r S p q r := rfl
/-- the new guard's number is n, its queue q -/
def kgS (S : xm_S) (n q : Nat) (a0 a1 a2 a3 a4 a5 : Int32) : xm_S :=
  xm_si (xm_si (xm_si (xm_si (xm_si (xm_si (xm_si (xm_sr (xm_mk 15 8 (xm_sr (xm_sn (xm_mk 12 3 (xm_si (xm_si (xm_sr (xm_si (xm_si (xm_si (xm_mk 5 15 S) 5 n 6 0) 5 n 7 0) 5 n 8 0) 5 n 9 none) 5 n 10 0) 5 n 11 0)) 2 q 1) 5 n 12 (some q))) 5 n 14 (some (xm_n S 0 15))) 5 n 0 a0) 5 n 1 a1) 5 n 2 a2) 5 n 3 a3) 5 n 4 a4) 5 n 5 a5) 5 n 13 a2
theorem kgS.o (S : xm_S) (a0 a1 a2 a3 a4 a5 : Int32) (p r j : Nat) (h5 : ¬ (p = 5 ∧ r = xm_n S 0 5)) (h12 : ¬ (p = 12 ∧ r = xm_n S 0 12)) (h15 : ¬ (p = 15 ∧ r = xm_n S 0 15)) : xm_i (kgS S (xm_n S 0 5) (xm_n S 0 12) a0 a1 a2 a3 a4 a5) p r j = xm_i S p r j ∧ xm_r (kgS S (xm_n S 0 5) (xm_n S 0 12) a0 a1 a2 a3 a4 a5) p r j = xm_r S p r j :=
  ⟨by
    refine (xi_sk h5).trans ?_
    refine (xi_sk h5).trans ?_
    refine (xi_sk h5).trans ?_
    refine (xi_sk h5).trans ?_
    refine (xi_sk h5).trans ?_
    refine (xi_sk h5).trans ?_
    refine (xi_sk h5).trans ?_
    refine xi_sr.trans ?_
    refine (xi_mkn ?_).trans ?_
    · exact h15
    refine xi_sr.trans ?_
    refine xi_sn.trans ?_
    refine (xi_mkn ?_).trans ?_
    · exact h12
    refine (xi_sk h5).trans ?_
    refine (xi_sk h5).trans ?_
    refine xi_sr.trans ?_
    refine (xi_sk h5).trans ?_
    refine (xi_sk h5).trans ?_
    refine (xi_sk h5).trans ?_
    refine (xi_mkn ?_).trans ?_
    · exact h5
    rfl, by
    refine xr_si.trans ?_
    refine xr_si.trans ?_
    refine xr_si.trans ?_
    refine xr_si.trans ?_
    refine xr_si.trans ?_
    refine xr_si.trans ?_
    refine xr_si.trans ?_
    refine (xr_sk h5).trans ?_
    refine (xr_mkn ?_).trans ?_
    · exact h15
    refine (xr_sk h5).trans ?_
    refine xr_sn.trans ?_
    refine (xr_mkn ?_).trans ?_
    · exact h12
    refine xr_si.trans ?_
    refine xr_si.trans ?_
    refine (xr_sk h5).trans ?_
    refine xr_si.trans ?_
    refine xr_si.trans ?_
    refine xr_si.trans ?_
    refine (xr_mkn ?_).trans ?_
    · exact h5
    rfl⟩
theorem kgS.l (S : xm_S) (a0 a1 a2 a3 a4 a5 : Int32) : xm_l (kgS S (xm_n S 0 5) (xm_n S 0 12) a0 a1 a2 a3 a4 a5) = xm_l S := rfl
theorem xn_si {S : xm_S} {c k j : Nat} {x : Int32} {p q : Nat} : xm_n (xm_si S c k j x) p q = xm_n S p q := rfl
theorem xn_sr {S : xm_S} {c k j : Nat} {x : Option Nat} {p q : Nat} : xm_n (xm_sr S c k j x) p q = xm_n S p q := rfl
theorem xn_sn {S : xm_S} {a b x p q : Nat} : xm_n (xm_sn S a b x) p q = if p = a ∧ q = b then x else xm_n S p q := rfl
theorem xn_mk {S : xm_S} {c N p q : Nat} : xm_n (xm_mk c N S) p q = if p = 0 ∧ q = c then xm_n S 0 c + 1 else if p = 0 ∧ q = 100 then xm_n S 0 100 + 1 else if p = 0 ∧ q = 101 then xm_n S 0 101 + N else if p = 10 + c ∧ q = xm_n S 0 c then N else if c = 12 ∧ (p = 1 ∨ p = 2) ∧ q = xm_n S 0 12 then 0 else xm_n S p q := rfl
theorem kgS.n1 (S : xm_S) (a0 a1 a2 a3 a4 a5 : Int32) (r : Nat) : xm_n (kgS S (xm_n S 0 5) (xm_n S 0 12) a0 a1 a2 a3 a4 a5) 1 r = if r = xm_n S 0 12 then 0 else xm_n S 1 r := by
  unfold kgS
  simp (decide := true) only [xn_si, xn_sr, xn_sn, xn_mk, false_and, true_and, or_true, true_or, or_false, if_false, if_true]
theorem kgS.n2 (S : xm_S) (a0 a1 a2 a3 a4 a5 : Int32) (r : Nat) : xm_n (kgS S (xm_n S 0 5) (xm_n S 0 12) a0 a1 a2 a3 a4 a5) 2 r = if r = xm_n S 0 12 then 1 else xm_n S 2 r := by
  unfold kgS
  simp (decide := true) only [xn_si, xn_sr, xn_sn, xn_mk, false_and, true_and, or_true, true_or, or_false, if_false, if_true]
  by_cases h : r = xm_n S 0 12
  · simp only [h, if_true]
  · simp only [h, if_false]
theorem kgS.n25 (S : xm_S) (a0 a1 a2 a3 a4 a5 : Int32) (r : Nat) : xm_n (kgS S (xm_n S 0 5) (xm_n S 0 12) a0 a1 a2 a3 a4 a5) 25 r = if r = xm_n S 0 15 then 8 else xm_n S 25 r := by
  unfold kgS
  simp (decide := true) only [xn_si, xn_sr, xn_sn, xn_mk, false_and, true_and, or_true, true_or, or_false, if_false, if_true]
theorem kgS.f (S : xm_S) (a0 a1 a2 a3 a4 a5 : Int32) : xm_i (kgS S (xm_n S 0 5) (xm_n S 0 12) a0 a1 a2 a3 a4 a5) 5 (xm_n S 0 5) 6 = 0 ∧ xm_i (kgS S (xm_n S 0 5) (xm_n S 0 12) a0 a1 a2 a3 a4 a5) 5 (xm_n S 0 5) 7 = 0 ∧ xm_i (kgS S (xm_n S 0 5) (xm_n S 0 12) a0 a1 a2 a3 a4 a5) 5 (xm_n S 0 5) 8 = 0 ∧ xm_r (kgS S (xm_n S 0 5) (xm_n S 0 12) a0 a1 a2 a3 a4 a5) 5 (xm_n S 0 5) 9 = none ∧ xm_i (kgS S (xm_n S 0 5) (xm_n S 0 12) a0 a1 a2 a3 a4 a5) 5 (xm_n S 0 5) 10 = 0 ∧ xm_i (kgS S (xm_n S 0 5) (xm_n S 0 12) a0 a1 a2 a3 a4 a5) 5 (xm_n S 0 5) 11 = 0 ∧ xm_r (kgS S (xm_n S 0 5) (xm_n S 0 12) a0 a1 a2 a3 a4 a5) 5 (xm_n S 0 5) 12 = some (xm_n S 0 12) ∧ xm_r (kgS S (xm_n S 0 5) (xm_n S 0 12) a0 a1 a2 a3 a4 a5) 5 (xm_n S 0 5) 14 = some (xm_n S 0 15) ∧ xm_i (kgS S (xm_n S 0 5) (xm_n S 0 12) a0 a1 a2 a3 a4 a5) 5 (xm_n S 0 5) 0 = a0 ∧ xm_i (kgS S (xm_n S 0 5) (xm_n S 0 12) a0 a1 a2 a3 a4 a5) 5 (xm_n S 0 5) 1 = a1 ∧ xm_i (kgS S (xm_n S 0 5) (xm_n S 0 12) a0 a1 a2 a3 a4 a5) 5 (xm_n S 0 5) 2 = a2 ∧ xm_i (kgS S (xm_n S 0 5) (xm_n S 0 12) a0 a1 a2 a3 a4 a5) 5 (xm_n S 0 5) 3 = a3 ∧ xm_i (kgS S (xm_n S 0 5) (xm_n S 0 12) a0 a1 a2 a3 a4 a5) 5 (xm_n S 0 5) 4 = a4 ∧ xm_i (kgS S (xm_n S 0 5) (xm_n S 0 12) a0 a1 a2 a3 a4 a5) 5 (xm_n S 0 5) 5 = a5 ∧ xm_i (kgS S (xm_n S 0 5) (xm_n S 0 12) a0 a1 a2 a3 a4 a5) 5 (xm_n S 0 5) 13 = a2 := ⟨((xi_si (by decide)).trans ((xi_si (by decide)).trans ((xi_si (by decide)).trans ((xi_si (by decide)).trans ((xi_si (by decide)).trans ((xi_si (by decide)).trans ((xi_si (by decide)).trans (xi_sr.trans ((xi_mk (by decide)).trans (xi_sr.trans (xi_sn.trans ((xi_mk (by decide)).trans ((xi_si (by decide)).trans ((xi_si (by decide)).trans (xi_sr.trans ((xi_si (by decide)).trans ((xi_si (by decide)).trans xi_same))))))))))))))))), ((xi_si (by decide)).trans ((xi_si (by decide)).trans ((xi_si (by decide)).trans ((xi_si (by decide)).trans ((xi_si (by decide)).trans ((xi_si (by decide)).trans ((xi_si (by decide)).trans (xi_sr.trans ((xi_mk (by decide)).trans (xi_sr.trans (xi_sn.trans ((xi_mk (by decide)).trans ((xi_si (by decide)).trans ((xi_si (by decide)).trans (xi_sr.trans ((xi_si (by decide)).trans xi_same)))))))))))))))), ((xi_si (by decide)).trans ((xi_si (by decide)).trans ((xi_si (by decide)).trans ((xi_si (by decide)).trans ((xi_si (by decide)).trans ((xi_si (by decide)).trans ((xi_si (by decide)).trans (xi_sr.trans ((xi_mk (by decide)).trans (xi_sr.trans (xi_sn.trans ((xi_mk (by decide)).trans ((xi_si (by decide)).trans ((xi_si (by decide)).trans (xi_sr.trans xi_same))))))))))))))), (xr_si.trans (xr_si.trans (xr_si.trans (xr_si.trans (xr_si.trans (xr_si.trans (xr_si.trans ((xr_sr (by decide)).trans ((xr_mk (by decide)).trans ((xr_sr (by decide)).trans (xr_sn.trans ((xr_mk (by decide)).trans (xr_si.trans (xr_si.trans xr_same)))))))))))))), ((xi_si (by decide)).trans ((xi_si (by decide)).trans ((xi_si (by decide)).trans ((xi_si (by decide)).trans ((xi_si (by decide)).trans ((xi_si (by decide)).trans ((xi_si (by decide)).trans (xi_sr.trans ((xi_mk (by decide)).trans (xi_sr.trans (xi_sn.trans ((xi_mk (by decide)).trans ((xi_si (by decide)).trans xi_same))))))))))))), ((xi_si (by decide)).trans ((xi_si (by decide)).trans ((xi_si (by decide)).trans ((xi_si (by decide)).trans ((xi_si (by decide)).trans ((xi_si (by decide)).trans ((xi_si (by decide)).trans (xi_sr.trans ((xi_mk (by decide)).trans (xi_sr.trans (xi_sn.trans ((xi_mk (by decide)).trans xi_same)))))))))))), (xr_si.trans (xr_si.trans (xr_si.trans (xr_si.trans (xr_si.trans (xr_si.trans (xr_si.trans ((xr_sr (by decide)).trans ((xr_mk (by decide)).trans xr_same))))))))), (xr_si.trans (xr_si.trans (xr_si.trans (xr_si.trans (xr_si.trans (xr_si.trans (xr_si.trans xr_same))))))), ((xi_si (by decide)).trans ((xi_si (by decide)).trans ((xi_si (by decide)).trans ((xi_si (by decide)).trans ((xi_si (by decide)).trans ((xi_si (by decide)).trans xi_same)))))), ((xi_si (by decide)).trans ((xi_si (by decide)).trans ((xi_si (by decide)).trans ((xi_si (by decide)).trans ((xi_si (by decide)).trans xi_same))))), ((xi_si (by decide)).trans ((xi_si (by decide)).trans ((xi_si (by decide)).trans ((xi_si (by decide)).trans xi_same)))), ((xi_si (by decide)).trans ((xi_si (by decide)).trans ((xi_si (by decide)).trans xi_same))), ((xi_si (by decide)).trans ((xi_si (by decide)).trans xi_same)), ((xi_si (by decide)).trans xi_same), xi_same⟩
theorem kgS.m (S : xm_S) (a0 a1 a2 a3 a4 a5 : Int32) (s : Nat) : xm_r (kgS S (xm_n S 0 5) (xm_n S 0 12) a0 a1 a2 a3 a4 a5) 15 (xm_n S 0 15) s = none := (xr_si.trans (xr_si.trans (xr_si.trans (xr_si.trans (xr_si.trans (xr_si.trans (xr_si.trans ((xr_sk (fun z => absurd z.1 (by decide))).trans (if_pos ⟨rfl, rfl⟩)))))))))
theorem k_own.add {S S' : xm_S} {n q : Nat} (hn : xm_n S 1 3 = n) (q3 : xm_n S' 1 3 = n + 1) (q4 : xm_n S' 1 4 = xm_n S 1 4) (R5 : ∀ g, g < n → xm_r S' 5 g 12 = xm_r S 5 g 12) (R10 : ∀ u, xm_r S' 10 u 0 = xm_r S 10 u 0) (R5n : xm_r S' 5 n 12 = some q) (hq5 : ∀ g q', g < n → xm_r S 5 g 12 = some q' → q' < q) (hq10 : ∀ u q', u ≤ xm_n S 1 4 → xm_r S 10 u 0 = some q' → q' < q) (h : k_own S) : k_own S' := by
  obtain ⟨v1, v2, v3⟩ := h
  rw [hn] at v1 v3
  refine ⟨fun g e q' hg he w1 w2 => ?_, fun u x q' hu hx w1 w2 => ?_, fun g u q' hg hu w1 w2 => ?_⟩
  · rw [q3] at hg he
    by_cases eg : g = n
    · rw [eg, R5n] at w1
      cases w1
      by_cases ee : e = n
      · rw [eg, ee]
      · rw [R5 e (by omega)] at w2
        exact absurd (hq5 e _ (by omega) w2) (by omega)
    · rw [R5 g (by omega)] at w1
      by_cases ee : e = n
      · rw [ee, R5n] at w2
        cases w2
        exact absurd (hq5 g _ (by omega) w1) (by omega)
      · rw [R5 e (by omega)] at w2
        exact v1 g e q' (by omega) (by omega) w1 w2
  · rw [q4] at hu hx
    rw [R10] at w1 w2
    exact v2 u x q' hu hx w1 w2
  · rw [q3] at hg
    rw [q4] at hu
    rw [R10] at w2
    by_cases eg : g = n
    · rw [eg, R5n] at w1
      cases w1
      exact absurd (hq10 u _ hu w2) (by omega)
    · rw [R5 g (by omega)] at w1
      exact v3 g u q' (by omega) hu w1 w2
set_option maxHeartbeats 8000000 in
theorem k_newGuard {d : Nat} {S : xm_S} {A A' : y_A} {t : Nat} {a1 a2 a3 a4 a5 : Int32} (hK : kK S A t) (hlt : xm_n S 1 3 < 24) (a : ∀ x k, kOld S x k → A' x k = A x k) (hA0 : A' 30 0 = nI (xm_n S 1 3 + 1))
    (hA : A' 31 (xm_n S 1 3) = a1 ∧ A' 32 (xm_n S 1 3) = a2 ∧ A' 33 (xm_n S 1 3) = a3 ∧ A' 34 (xm_n S 1 3) = a4 ∧ A' 35 (xm_n S 1 3) = a5 ∧ A' 36 (xm_n S 1 3) = 0 ∧ A' 37 (xm_n S 1 3) = 0 ∧ A' 38 (xm_n S 1 3) = 0 ∧ A' 39 (xm_n S 1 3) = 0 ∧ A' 40 (xm_n S 1 3) = 0 ∧ A' 41 (xm_n S 1 3) = 0 ∧ (a1 = 2 → A' 42 (xm_n S 1 3) = a2))
    (hM : ∀ s, s < 8 → A' 45 (8 * xm_n S 1 3 + s) = -1) (hcn : A' 1 0 = A 1 0 ∧ A' 5 0 = A 5 0 ∧ A' 11 0 = A 11 0 ∧ A' 89 0 = A 89 0 ∧ A' 103 0 = A 103 0) (hgr : ∀ S', xm_n S' 1 0 = xm_n S 1 0 → kgr S' A' (xm_n S 1 3)) :
    xc d 98 [.inr (some (5, xm_n S 0 5)), .inl (nI (xm_n S 1 3)), .inl a1, .inl a2, .inl a3, .inl a4, .inl a5] (xm_mk 5 15 S) (fun r S13 => r = none ∧ xk_C S13 ∧ (xm_n S13 2 3 ≠ 0 ∧ xm_n S13 1 3 < 100000 ∧ (∀ S17, S17 = xm_push 3 (5, xm_n S 0 5) S13 → xm_n S17 1 3 = xm_n S 1 3 + 1 ∧ kK S17 A' t))) := by
  have hKK := hK
  obtain ⟨⟨⟨⟨hC, hcnt, hb, hl, ht, hv, h1, h2, h3, -⟩, -⟩, -⟩, ⟨-, -, hown, hO, hcap, -, -, -, -, -, -, -, -, hpln, htm, htb, -⟩⟩ := hK
  have hbb := hb
  unfold k_bnd at hbb
  have hOO := hO
  obtain ⟨o9, o5, o10, o6, o2, o4, o3, o7, o1, o15, o8, o12, o0, o11, o13, o14⟩ := hO
  refine cw_newGuard (S := xm_mk 5 15 S) hC ?_
  intro S1 e1 S3 e3 S5 e5 S7 e7 S9 e9 S11 e11 k13 e13 S15 e15
  have z15 : xm_n S15 2 k13 = 0 := by
    subst e15
    show (if 12 = 12 ∧ (2 = 1 ∨ 2 = 2) ∧ k13 = xm_n S11 0 12 then 0 else _) = _
    rw [if_pos ⟨rfl, Or.inr rfl, e13⟩]
  refine ⟨z15, ?_⟩
  intro S18 e18 S20 e20 k22 e22 S24 e24 S26 e26 S28 e28 S30 e30 S32 e32 S34 e34 S36 e36 S38 e38 S40 e40
  have eG : S40 = kgS S (xm_n S 0 5) (xm_n S 0 12) (nI (xm_n S 1 3)) a1 a2 a3 a4 a5 := by
    subst e40 e38 e36 e34 e32 e30 e28 e26 e24 e22 e20 e18 e15 e13 e11 e9 e7 e5 e3 e1
    rfl
  clear e40 e38 e36 e34 e32 e30 e28 e26 e24 e22 e20 e18 z15 e15 e13 e11 e9 e7 e5 e3 e1
  subst eG
  have ho := kgS.o S (nI (xm_n S 1 3)) a1 a2 a3 a4 a5
  have hn1 := kgS.n1 S (nI (xm_n S 1 3)) a1 a2 a3 a4 a5
  have hn2 := kgS.n2 S (nI (xm_n S 1 3)) a1 a2 a3 a4 a5
  have hn25 := kgS.n25 S (nI (xm_n S 1 3)) a1 a2 a3 a4 a5
  have hf := kgS.f S (nI (xm_n S 1 3)) a1 a2 a3 a4 a5
  have hm := kgS.m S (nI (xm_n S 1 3)) a1 a2 a3 a4 a5
  have hL : xm_l (kgS S (xm_n S 0 5) (xm_n S 0 12) (nI (xm_n S 1 3)) a1 a2 a3 a4 a5) = xm_l S := rfl
  have g26 : ∀ k, xm_n (kgS S (xm_n S 0 5) (xm_n S 0 12) (nI (xm_n S 1 3)) a1 a2 a3 a4 a5) 26 k = xm_n S 26 k := fun k => rfl
  have M0 : xm_n (kgS S (xm_n S 0 5) (xm_n S 0 12) (nI (xm_n S 1 3)) a1 a2 a3 a4 a5) 0 0 = xm_n S 0 0 := rfl
  have M1 : xm_n (kgS S (xm_n S 0 5) (xm_n S 0 12) (nI (xm_n S 1 3)) a1 a2 a3 a4 a5) 0 1 = xm_n S 0 1 := rfl
  have M2 : xm_n (kgS S (xm_n S 0 5) (xm_n S 0 12) (nI (xm_n S 1 3)) a1 a2 a3 a4 a5) 0 2 = xm_n S 0 2 := rfl
  have M3 : xm_n (kgS S (xm_n S 0 5) (xm_n S 0 12) (nI (xm_n S 1 3)) a1 a2 a3 a4 a5) 0 3 = xm_n S 0 3 := rfl
  have M4 : xm_n (kgS S (xm_n S 0 5) (xm_n S 0 12) (nI (xm_n S 1 3)) a1 a2 a3 a4 a5) 0 4 = xm_n S 0 4 := rfl
  have M5 : xm_n (kgS S (xm_n S 0 5) (xm_n S 0 12) (nI (xm_n S 1 3)) a1 a2 a3 a4 a5) 0 5 = xm_n S 0 5 + 1 := rfl
  have M6 : xm_n (kgS S (xm_n S 0 5) (xm_n S 0 12) (nI (xm_n S 1 3)) a1 a2 a3 a4 a5) 0 6 = xm_n S 0 6 := rfl
  have M7 : xm_n (kgS S (xm_n S 0 5) (xm_n S 0 12) (nI (xm_n S 1 3)) a1 a2 a3 a4 a5) 0 7 = xm_n S 0 7 := rfl
  have M8 : xm_n (kgS S (xm_n S 0 5) (xm_n S 0 12) (nI (xm_n S 1 3)) a1 a2 a3 a4 a5) 0 8 = xm_n S 0 8 := rfl
  have M9 : xm_n (kgS S (xm_n S 0 5) (xm_n S 0 12) (nI (xm_n S 1 3)) a1 a2 a3 a4 a5) 0 9 = xm_n S 0 9 := rfl
  have M10 : xm_n (kgS S (xm_n S 0 5) (xm_n S 0 12) (nI (xm_n S 1 3)) a1 a2 a3 a4 a5) 0 10 = xm_n S 0 10 := rfl
  have M11 : xm_n (kgS S (xm_n S 0 5) (xm_n S 0 12) (nI (xm_n S 1 3)) a1 a2 a3 a4 a5) 0 11 = xm_n S 0 11 := rfl
  have M12 : xm_n (kgS S (xm_n S 0 5) (xm_n S 0 12) (nI (xm_n S 1 3)) a1 a2 a3 a4 a5) 0 12 = xm_n S 0 12 + 1 := rfl
  have M13 : xm_n (kgS S (xm_n S 0 5) (xm_n S 0 12) (nI (xm_n S 1 3)) a1 a2 a3 a4 a5) 0 13 = xm_n S 0 13 := rfl
  have M14 : xm_n (kgS S (xm_n S 0 5) (xm_n S 0 12) (nI (xm_n S 1 3)) a1 a2 a3 a4 a5) 0 14 = xm_n S 0 14 := rfl
  have M15 : xm_n (kgS S (xm_n S 0 5) (xm_n S 0 12) (nI (xm_n S 1 3)) a1 a2 a3 a4 a5) 0 15 = xm_n S 0 15 + 1 := rfl
  generalize kgS S (xm_n S 0 5) (xm_n S 0 12) (nI (xm_n S 1 3)) a1 a2 a3 a4 a5 = G at *
  have n13 : xm_n G 1 3 = xm_n S 1 3 := by rw [hn1, if_neg (by omega)]
  have n23 : xm_n G 2 3 = xm_n S 2 3 := by rw [hn2, if_neg (by omega)]
  have h20 : xm_n S 2 3 ≠ 0 := hcap.1 3 (by omega)
  have hr0 : ∀ j, xm_r G 0 0 j = xm_r S 0 0 j := fun j => (ho 0 0 j (by omega) (by omega) (by omega)).2
  refine ⟨rfl, fun j hj => (hr0 j).trans (hC j hj), by rw [n23]; exact h20, by rw [n13]; omega, fun S16 e16 => ?_⟩
  obtain ⟨c2', c100, c101, b, ep, hc2, hcp⟩ := xm_push_x G 3 (5, xm_n S 0 5) (by rw [n23]; exact h20)
  rw [ep] at e16
  subst e16
  clear ep
  rw [n13, n23] at hcp
  have P1 : ∀ r, xm_n (xk_psh G 3 (5, xm_n S 0 5) c2' c100 c101 b) 1 r = if r = 3 then xm_n S 1 3 + 1 else if r = xm_n S 0 12 then 0 else xm_n S 1 r := fun r => by
    show (if 1 = 1 ∧ r = 3 then xm_n G 1 3 + 1 else xm_n G 1 r) = _
    by_cases h : r = 3
    · rw [if_pos ⟨rfl, h⟩, if_pos h, n13]
    · rw [if_neg (fun z => h z.2), if_neg h, hn1]
  have P2 : ∀ r, xm_n (xk_psh G 3 (5, xm_n S 0 5) c2' c100 c101 b) 2 r = if r = 3 then c2' else if r = xm_n S 0 12 then 1 else xm_n S 2 r := fun r => by
    show (if 2 = 2 ∧ r = 3 then c2' else xm_n G 2 r) = _
    by_cases h : r = 3
    · rw [if_pos ⟨rfl, h⟩, if_pos h]
    · rw [if_neg (fun z => h z.2), if_neg h, hn2]
  have P25 : ∀ r, xm_n (xk_psh G 3 (5, xm_n S 0 5) c2' c100 c101 b) 25 r = if r = xm_n S 0 15 then 8 else xm_n S 25 r := hn25
  have P26 : ∀ r, xm_n (xk_psh G 3 (5, xm_n S 0 5) c2' c100 c101 b) 26 r = xm_n S 26 r := g26
  have LL : ∀ q i, xm_l (xk_psh G 3 (5, xm_n S 0 5) c2' c100 c101 b) q i = if q = 3 ∧ i = xm_n S 1 3 then (5, xm_n S 0 5) else xm_l S q i := fun q i => by
    show xm_u2 (xm_l G) 3 (xm_n G 1 3) _ q i = _
    rw [hL, n13]
    rfl
  have OO : ∀ p r j, ¬ (p = 5 ∧ r = xm_n S 0 5) → ¬ (p = 12 ∧ r = xm_n S 0 12) → ¬ (p = 15 ∧ r = xm_n S 0 15) → xm_i (xk_psh G 3 (5, xm_n S 0 5) c2' c100 c101 b) p r j = xm_i S p r j ∧ xm_r (xk_psh G 3 (5, xm_n S 0 5) c2' c100 c101 b) p r j = xm_r S p r j := ho
  have FF : ∀ j, xm_i (xk_psh G 3 (5, xm_n S 0 5) c2' c100 c101 b) 5 (xm_n S 0 5) j = xm_i G 5 (xm_n S 0 5) j ∧ xm_r (xk_psh G 3 (5, xm_n S 0 5) c2' c100 c101 b) 5 (xm_n S 0 5) j = xm_r G 5 (xm_n S 0 5) j := fun j => ⟨rfl, rfl⟩
  have MM : ∀ s, xm_r (xk_psh G 3 (5, xm_n S 0 5) c2' c100 c101 b) 15 (xm_n S 0 15) s = none := hm
  have N0 : xm_n (xk_psh G 3 (5, xm_n S 0 5) c2' c100 c101 b) 0 0 = xm_n S 0 0 := M0
  have N1 : xm_n (xk_psh G 3 (5, xm_n S 0 5) c2' c100 c101 b) 0 1 = xm_n S 0 1 := M1
  have N2 : xm_n (xk_psh G 3 (5, xm_n S 0 5) c2' c100 c101 b) 0 2 = xm_n S 0 2 := M2
  have N3 : xm_n (xk_psh G 3 (5, xm_n S 0 5) c2' c100 c101 b) 0 3 = xm_n S 0 3 := M3
  have N4 : xm_n (xk_psh G 3 (5, xm_n S 0 5) c2' c100 c101 b) 0 4 = xm_n S 0 4 := M4
  have N5 : xm_n (xk_psh G 3 (5, xm_n S 0 5) c2' c100 c101 b) 0 5 = xm_n S 0 5 + 1 := M5
  have N6 : xm_n (xk_psh G 3 (5, xm_n S 0 5) c2' c100 c101 b) 0 6 = xm_n S 0 6 := M6
  have N7 : xm_n (xk_psh G 3 (5, xm_n S 0 5) c2' c100 c101 b) 0 7 = xm_n S 0 7 := M7
  have N8 : xm_n (xk_psh G 3 (5, xm_n S 0 5) c2' c100 c101 b) 0 8 = xm_n S 0 8 := M8
  have N9 : xm_n (xk_psh G 3 (5, xm_n S 0 5) c2' c100 c101 b) 0 9 = xm_n S 0 9 := M9
  have N10 : xm_n (xk_psh G 3 (5, xm_n S 0 5) c2' c100 c101 b) 0 10 = xm_n S 0 10 := M10
  have N11 : xm_n (xk_psh G 3 (5, xm_n S 0 5) c2' c100 c101 b) 0 11 = xm_n S 0 11 := M11
  have N12 : xm_n (xk_psh G 3 (5, xm_n S 0 5) c2' c100 c101 b) 0 12 = xm_n S 0 12 + 1 := M12
  have N13 : xm_n (xk_psh G 3 (5, xm_n S 0 5) c2' c100 c101 b) 0 13 = xm_n S 0 13 := M13
  have N14 : xm_n (xk_psh G 3 (5, xm_n S 0 5) c2' c100 c101 b) 0 14 = xm_n S 0 14 := M14
  have N15 : xm_n (xk_psh G 3 (5, xm_n S 0 5) c2' c100 c101 b) 0 15 = xm_n S 0 15 + 1 := M15
  generalize xk_psh G 3 (5, xm_n S 0 5) c2' c100 c101 b = S' at *
  have q : ∀ r, r < 12 → r ≠ 3 → xm_n S' 1 r = xm_n S 1 r := fun r h h3 => by rw [P1, if_neg h3, if_neg (by omega)]
  have q3 : xm_n S' 1 3 = xm_n S 1 3 + 1 := by rw [P1, if_pos rfl]
  refine ⟨q3, ?_⟩
  have hE : kExt S S' := by
    refine ⟨fun p r j hp hr => ?_, ⟨?_, ?_, ?_, ?_, ?_, ?_⟩, ⟨?_, ?_, ?_, ?_, ?_, ?_⟩, fun k hk1 hk2 => ⟨?_, fun i => ?_⟩, fun k i hk hi => ?_, fun g hg => ?_, ?_, fun k j => (OO 16 k j (by omega) (by omega) (by omega)).1, P26, ?_⟩
    · exact OO p r j (fun z => by rw [z.1] at hr; omega) (fun z => by rw [z.1] at hr; omega) (fun z => by rw [z.1] at hr; omega)
    · rw [q 0 (by decide) (by decide)]; exact Nat.le_refl _
    · rw [q 1 (by decide) (by decide)]; exact Nat.le_refl _
    · rw [q 2 (by decide) (by decide)]; exact Nat.le_refl _
    · rw [q3]; omega
    · rw [q 10 (by decide) (by decide)]; exact Nat.le_refl _
    · rw [q 11 (by decide) (by decide)]; exact Nat.le_refl _
    · exact q 4 (by decide) (by decide)
    · exact q 5 (by decide) (by decide)
    · exact q 6 (by decide) (by decide)
    · exact q 7 (by decide) (by decide)
    · exact q 8 (by decide) (by decide)
    · exact q 9 (by decide) (by decide)
    · rw [P1, if_neg (by omega), if_neg (by omega)]
    · rw [LL, if_neg (by omega)]
    · rw [LL]
      by_cases e : k = 3 ∧ i = xm_n S 1 3
      · rw [e.1] at hi; omega
      · rw [if_neg e]
    · rw [P25, if_neg (by omega)]
    · rw [N12]; omega
    · rw [N8]; exact Nat.le_refl _
  obtain ⟨A1, A2, A3, A4, A5, A6, A7, A8, A9, A10, A11, A12⟩ := hA
  obtain ⟨f6, f7, f8, f9, f10, f11, f12, f14, f0, f1, f2, f3, f4, f5, f13⟩ := hf
  have oA : ∀ x k, kOld S x k → A' x k = A x k := a
  refine hKK.ext hE a (fun j hj => ?_) ?_ ?_ ?_ ⟨?_, ?_, ?_⟩ (fun k z1 z2 => absurd z2 (by rw [q 0 (by decide) (by decide)]; omega)) ?_ (fun k z1 z2 => absurd z2 (by rw [q 10 (by decide) (by decide)]; omega)) (fun k z1 z2 => absurd z2 (by rw [q 11 (by decide) (by decide)]; omega)) (fun k z1 z2 => absurd z2 (by rw [q 1 (by decide) (by decide)]; omega)) (fun k z1 z2 => absurd z2 (by rw [q 2 (by decide) (by decide)]; omega)) ?_ ?_ ?_ ?_ (OO 0 0 15 (by omega) (by omega) (by omega)).1 ?_ ?_
  · exact (OO 0 0 j (by omega) (by omega) (by omega)).2.trans (hC j hj)
  · obtain ⟨w1, w2, w3, w4, w5, w6, w7, w8, w9, w10, w11⟩ := hcnt
    unfold k_cnt
    rw [q3, q 0 (by decide) (by decide), q 1 (by decide) (by decide), q 2 (by decide) (by decide), q 4 (by decide) (by decide), q 5 (by decide) (by decide), q 6 (by decide) (by decide), q 8 (by decide) (by decide), q 9 (by decide) (by decide), q 10 (by decide) (by decide), q 11 (by decide) (by decide), hA0, hcn.1, hcn.2.1, hcn.2.2.1, hcn.2.2.2.1, hcn.2.2.2.2, a 47 0 (by unfold kOld; omega), a 50 0 (by unfold kOld; omega), a 61 0 (by unfold kOld; omega), a 23 0 (by unfold kOld; omega), a 17 0 (by unfold kOld; omega)]
    exact ⟨w1, w2, w3, rfl, w5, w6, w7, w8, w9, w10, w11⟩
  · unfold k_bnd
    rw [q3, q 0 (by decide) (by decide), q 1 (by decide) (by decide), q 2 (by decide) (by decide), q 4 (by decide) (by decide), q 5 (by decide) (by decide), q 6 (by decide) (by decide), q 7 (by decide) (by decide), q 8 (by decide) (by decide), q 9 (by decide) (by decide), q 10 (by decide) (by decide), q 11 (by decide) (by decide)]
    omega
  · have kl : ∀ r cj, r < 12 → r ≠ 3 → (∀ k, k < xm_n S 1 r → xm_l S r k = (cj, k)) → ∀ k, k < xm_n S' 1 r → xm_l S' r k = (cj, k) := fun r cj z1 z2 z3 k hk => by
      rw [q r z1 z2] at hk
      rw [LL, if_neg (fun z => z2 z.1)]
      exact z3 k hk
    refine ⟨kl 0 9 (by decide) (by decide) hl.1, fun k hk => ?_, kl 4 10 (by decide) (by decide) hl.2.2.1, kl 5 6 (by decide) (by decide) hl.2.2.2.1, kl 6 2 (by decide) (by decide) hl.2.2.2.2.1, kl 8 4 (by decide) (by decide) hl.2.2.2.2.2.1, kl 9 3 (by decide) (by decide) hl.2.2.2.2.2.2.1, kl 10 7 (by decide) (by decide) hl.2.2.2.2.2.2.2.1, kl 11 1 (by decide) (by decide) hl.2.2.2.2.2.2.2.2⟩
    rw [q3] at hk
    rw [LL]
    by_cases e : k = xm_n S 1 3
    · rw [if_pos ⟨rfl, e⟩, o5, e]
    · rw [if_neg (fun z => e z.2)]
      exact hl.2.1 k (by omega)
  · exact (OO 0 0 13 (by omega) (by omega) (by omega)).1.trans (ht.1.trans (a 0 0 (by unfold kOld; omega)).symm)
  · rw [a 0 0 (by unfold kOld; omega)]; exact ht.2.1
  · rw [q 4 (by decide) (by decide)]; exact (OO 0 0 12 (by omega) (by omega) (by omega)).2.trans ht.2.2
  · intro k z1 z2
    obtain rfl : k = xm_n S 1 3 := by omega
    rw [← o5] at A1 A2 A3 A4 A5 A6 A7 A8 A9 A10 A11 A12 hM ⊢
    refine ⟨?_, ?_, ?_, ?_, ?_, ?_, ?_, ?_, ?_, ?_, ?_, ?_, ⟨xm_n S 0 12, (FF 12).2.trans f12, by omega, by rw [N12]; omega, ?_, ?_, ?_⟩, ?_, ?_, ?_⟩
    · rw [(FF 0).1, f0, o5]
    · rw [(FF 1).1, f1, A1]
    · rw [(FF 2).1, f2, A2]
    · rw [(FF 3).1, f3, A3]
    · rw [(FF 4).1, f4, A4]
    · rw [(FF 5).1, f5, A5]
    · rw [(FF 6).1, f6, A6]
    · rw [(FF 7).1, f7, A7]
    · rw [(FF 8).1, f8, A8]
    · rw [(FF 10).1, f10, A9]
    · rw [(FF 11).1, f11, A11]
    · intro z
      rw [(FF 13).1, f13]
      exact (A12 (A1.symm.trans z)).symm
    · rw [A10, P1, if_neg (by omega), if_pos rfl]; rfl
    · rw [P1, if_neg (by omega), if_pos rfl]; omega
    · intro i hi
      rw [P1, if_neg (by omega), if_pos rfl] at hi
      omega
    · rw [(FF 14).2, f14, o15, o5]
    · rw [P25, if_pos (by omega)]
    · intro s hs
      refine Or.inl ⟨?_, hM s hs⟩
      rw [show xm_n S 0 5 = xm_n S 0 15 by omega]
      exact MM s
  · obtain ⟨v1, v2, v3⟩ := hown
    have R5 : ∀ g, g < xm_n S 1 3 → xm_r S' 5 g 12 = xm_r S 5 g 12 := fun g hg => (OO 5 g 12 (by omega) (by omega) (by omega)).2
    have R10 : ∀ u, xm_r S' 10 u 0 = xm_r S 10 u 0 := fun u => (OO 10 u 0 (by omega) (by omega) (by omega)).2
    have R5n : xm_r S' 5 (xm_n S 1 3) 12 = some (xm_n S 0 12) := by rw [← o5]; exact (FF 12).2.trans f12
    have hq5 : ∀ g q, g < xm_n S 1 3 → xm_r S 5 g 12 = some q → q < xm_n S 0 12 := fun g q hg hq => by
      obtain ⟨q', y1, y2, y3, -⟩ := (h3 g hg).2.2.2.2.2.2.2.2.2.2.2.2.1
      rw [hq] at y1
      cases y1
      exact y3
    have hq10 : ∀ u q, u ≤ xm_n S 1 4 → xm_r S 10 u 0 = some q → q < xm_n S 0 12 := fun u q hu hq => by
      have hx := hKK.1.1.1
      obtain ⟨-, -, -, -, -, -, -, -, -, -, -, -, -, -, x9, x10, -⟩ := hx
      by_cases e : u = xm_n S 1 4
      · subst e
        obtain ⟨q', y1, y2, y3, -⟩ := x9
        rw [hq] at y1
        cases y1
        exact y3
      · obtain ⟨q', y1, y2, y3, -⟩ := x10 u (by omega)
        rw [hq] at y1
        cases y1
        exact y3
    exact k_own.add (n := xm_n S 1 3) (q := xm_n S 0 12) rfl q3 (q 4 (by decide) (by decide)) R5 R10 R5n hq5 hq10 ⟨v1, v2, v3⟩
  · unfold k_obj
    rw [q3, q 0 (by decide) (by decide), q 1 (by decide) (by decide), q 2 (by decide) (by decide), q 4 (by decide) (by decide), q 5 (by decide) (by decide), q 6 (by decide) (by decide), q 8 (by decide) (by decide), q 9 (by decide) (by decide), q 10 (by decide) (by decide), q 11 (by decide) (by decide), N9, N5, N10, N6, N2, N4, N3, N7, N1, N15, N8, N12, N0, N11, N13, N14]
    omega
  · obtain ⟨v1, v2, v3⟩ := hcap
    unfold k_cap
    rw [N12, q 6 (by decide) (by decide)]
    refine ⟨fun j hj => ?_, fun j hj => ?_, fun j hj1 hj2 => ?_⟩
    · rw [P2]
      by_cases e3 : j = 3
      · rw [if_pos e3]; exact hc2
      · rw [if_neg e3]
        by_cases e4 : j = xm_n S 0 12
        · rw [if_pos e4]; decide
        · rw [if_neg e4]; exact v1 j (by omega)
    · rw [P2]
      by_cases e3 : j = 3
      · rw [if_pos e3]
        have := v2 3 (by decide)
        rcases hcp with z | z | z <;> omega
      · rw [if_neg e3, if_neg (by omega)]; exact v2 j hj
    · have e3 : ¬ j = 3 := by omega
      rw [P2, P1, if_neg e3, if_neg e3]
      by_cases e4 : j = xm_n S 0 12
      · rw [if_pos e4, if_pos e4]; exact Or.inl ⟨rfl, rfl⟩
      · rw [if_neg e4, if_neg e4]; exact v3 j hj1 (by omega)
  · obtain ⟨⟨v1, v2, v3, v4, v5⟩, v6⟩ := hpln
    refine ⟨⟨fun k hk => ?_, fun k hk => ?_, fun k hk => ?_, fun k hk => ?_, fun k hk => ?_⟩, fun p hp => ?_⟩
    · rw [q 0 (by decide) (by decide)] at hk
      rw [a 2 k (by unfold kOld; omega), a 3 k (by unfold kOld; omega)]; exact v1 k hk
    · rw [q 1 (by decide) (by decide)] at hk
      rw [a 10 k (by unfold kOld; omega)]; exact v2 k hk
    · rw [q 2 (by decide) (by decide)] at hk
      rw [a 16 k (by unfold kOld; omega)]; exact v3 k hk
    · rw [q 5 (by decide) (by decide)] at hk
      rw [a 54 k (by unfold kOld; omega)]; exact v4 k hk
    · rw [q 10 (by decide) (by decide)] at hk
      rw [a 93 k (by unfold kOld; omega)]; exact v5 k hk
    rw [q 10 (by decide) (by decide)] at hp
    rw [a 97 p (by unfold kOld; omega), a 94 p (by unfold kOld; omega), (OO 7 p 12 (by omega) (by omega) (by omega)).1, (OO 7 p 7 (by omega) (by omega) (by omega)).1]
    exact v6 p hp
  · intro g z1 z2
    obtain rfl : g = xm_n S 1 3 := by omega
    rw [← o5]
    refine ⟨(FF 9).2.trans f9, fun q' hq => ?_⟩
    rw [(FF 12).2, f12] at hq
    cases hq
    rw [P1, if_neg (by omega), if_pos rfl]
  · intro g z1 z2
    obtain rfl : g = xm_n S 1 3 := by omega
    exact hgr S' (q 0 (by decide) (by decide))
/-- the numbers of a guard lie in their bounds -/
def kfit (l0 h0 l1 h1 h2 h3 a2 a3 a4 a5 : Int32) : Prop := ¬ a2 < l0 ∧ ¬ h0 < a2 ∧ ¬ a3 < l1 ∧ ¬ h1 < a3 ∧ ¬ a4 < 0 ∧ ¬ h2 < a4 ∧ ¬ a5 < 0 ∧ ¬ h3 < a5
theorem cw_guard_j {d j : Nat} {a2 a3 a4 a5 l0 h0 l1 h1 h2 h3 : Int32} {S : xm_S} {Q : Option xm_V → xm_S → Prop} (hj : j < 10) (hS : kS S) (hC : xk_C S) (hl : k_lst S) (hb : xm_n S 1 0 ≤ 8)
    (s0 : xm_i S 16 0 (y_ix (nI j)) = l0) (s1 : xm_i S 16 1 (y_ix (nI j)) = h0) (s2 : xm_i S 16 2 (y_ix (nI j)) = l1) (s3 : xm_i S 16 3 (y_ix (nI j)) = h1) (s4 : xm_i S 16 4 (y_ix (nI j)) = h2) (s5 : xm_i S 16 5 (y_ix (nI j)) = h3)
    (st : nI j = 6 → a2 = 1 → (a3 < 0 ∨ nI (xm_n S 1 0) ≤ a3) → Q (some (.inl (-1))) S)
    (rest : ¬ (nI j = 6 ∧ a2 = 1 ∧ (a3 < 0 ∨ nI (xm_n S 1 0) ≤ a3)) → (¬ kfit l0 h0 l1 h1 h2 h3 a2 a3 a4 a5 → Q (some (.inl (-2))) S) ∧ (kfit l0 h0 l1 h1 h2 h3 a2 a3 a4 a5 → ¬ nI (xm_n S 1 3) < 24 → Q (some (.inl (-3))) S) ∧ (kfit l0 h0 l1 h1 h2 h3 a2 a3 a4 a5 → nI (xm_n S 1 3) < 24 → xc (d + 1) 98 [.inr (some (5, xm_n S 0 5)), .inl (nI (xm_n (xm_mk 5 15 S) 1 3)), .inl (nI j), .inl a2, .inl a3, .inl a4, .inl a5] (xm_mk 5 15 S) (fun r S34 => r = none ∧ xk_C S34 ∧ (xm_n S34 2 3 ≠ 0 ∧ xm_n S34 1 3 < 100000 ∧ (∀ S38, S38 = xm_push 3 (5, xm_n S 0 5) S34 → (Q (some (.inl ((nI (xm_n S38 1 3)) - (1 : Int32)))) S38)))))) :
    xc (d + 2) 7 [.inr (some (0, 0)), .inl (nI j), .inl a2, .inl a3, .inl a4, .inl a5] S Q := by
  have hk : ∀ k, k < 6 → xm_n S 26 k = 10 := fun k hk => (hS k (by omega)).1.trans (by
    obtain rfl | rfl | rfl | rfl | rfl | rfl : k = 0 ∨ k = 1 ∨ k = 2 ∨ k = 3 ∨ k = 4 ∨ k = 5 := by omega
    all_goals rfl)
  have hz : ∀ k, k < 6 → ¬ nI (xm_n S 26 k) ≤ nI j := fun k h => by rw [hk k h]; exact nI_ge hj (by decide)
  have hy : ∀ k, k < 6 → y_in (nI j) (xm_n S 26 k) := fun k h => by rw [hk k h]; exact y_in_nI hj (by decide)
  refine cw_guard (d := d) (a1 := nI j) hC ?_
  refine ⟨fun c1 => ?_, fun c1 => ?_⟩
  · refine ⟨fun c2 => ?_, fun c2 => ?_⟩
    · refine ⟨fun c3 => ?_, fun c3 => ?_⟩
      · exact st c1 c2 (Or.inl c3)
      · refine ⟨fun c4 => ?_, fun c4 => ?_⟩
        · exact st c1 c2 (Or.inr c4)
        · obtain ⟨y5i, y5j, y5k⟩ := k_at c3 c4 (by omega)
          refine ⟨y5i, y_ix a3, hl.1 _ y5j, ?_⟩
          refine ⟨fun c6 => ?_, fun c6 => ?_⟩
          · exact absurd c6 (nI_pos (by omega))
          · refine ⟨fun c7 => ?_, fun c7 => ?_⟩
            · exact absurd c7 (hz 0 (by decide))
            · refine ⟨fun c8 => ?_, fun c8 => ?_⟩
              · exact absurd c8 (hz 1 (by decide))
              · refine ⟨fun c9 => ?_, fun c9 => ?_⟩
                · exact absurd c9 (hz 2 (by decide))
                · refine ⟨fun c10 => ?_, fun c10 => ?_⟩
                  · exact absurd c10 (hz 3 (by decide))
                  · refine ⟨fun c11 => ?_, fun c11 => ?_⟩
                    · exact absurd c11 (hz 4 (by decide))
                    · refine ⟨fun c12 => ?_, fun c12 => ?_⟩
                      · exact absurd c12 (hz 5 (by decide))
                      · refine ⟨hy 0 (by decide), ?_⟩
                        refine ⟨hy 1 (by decide), ?_⟩
                        refine ⟨fun c13 => ?_, fun c13 => ?_⟩
                        · rw [s0] at c13
                          exact (rest (fun z => z.2.2.elim c3 c4)).1 (fun z => z.1 c13)
                        · refine ⟨fun c14 => ?_, fun c14 => ?_⟩
                          · rw [s1] at c14
                            exact (rest (fun z => z.2.2.elim c3 c4)).1 (fun z => z.2.1 c14)
                          · refine ⟨hy 2 (by decide), ?_⟩
                            refine ⟨hy 3 (by decide), ?_⟩
                            refine ⟨fun c15 => ?_, fun c15 => ?_⟩
                            · rw [s2] at c15
                              exact (rest (fun z => z.2.2.elim c3 c4)).1 (fun z => z.2.2.1 c15)
                            · refine ⟨fun c16 => ?_, fun c16 => ?_⟩
                              · rw [s3] at c16
                                exact (rest (fun z => z.2.2.elim c3 c4)).1 (fun z => z.2.2.2.1 c16)
                              · refine ⟨hy 4 (by decide), ?_⟩
                                refine ⟨fun c17 => ?_, fun c17 => ?_⟩
                                · exact (rest (fun z => z.2.2.elim c3 c4)).1 (fun z => z.2.2.2.2.1 c17)
                                · refine ⟨fun c18 => ?_, fun c18 => ?_⟩
                                  · rw [s4] at c18
                                    exact (rest (fun z => z.2.2.elim c3 c4)).1 (fun z => z.2.2.2.2.2.1 c18)
                                  · refine ⟨hy 5 (by decide), ?_⟩
                                    refine ⟨fun c19 => ?_, fun c19 => ?_⟩
                                    · exact (rest (fun z => z.2.2.elim c3 c4)).1 (fun z => z.2.2.2.2.2.2.1 c19)
                                    · refine ⟨fun c20 => ?_, fun c20 => ?_⟩
                                      · rw [s5] at c20
                                        exact (rest (fun z => z.2.2.elim c3 c4)).1 (fun z => z.2.2.2.2.2.2.2 c20)
                                      · refine ⟨fun c21 => ?_, fun c21 => ?_⟩
                                        · rw [s0] at c13
                                          rw [s1] at c14
                                          rw [s2] at c15
                                          rw [s3] at c16
                                          rw [s4] at c18
                                          rw [s5] at c20
                                          rintro k rfl S32 rfl
                                          exact (rest (fun z => z.2.2.elim c3 c4)).2.2 ⟨c13, c14, c15, c16, c17, c18, c19, c20⟩ c21
                                        · rw [s0] at c13
                                          rw [s1] at c14
                                          rw [s2] at c15
                                          rw [s3] at c16
                                          rw [s4] at c18
                                          rw [s5] at c20
                                          exact (rest (fun z => z.2.2.elim c3 c4)).2.1 ⟨c13, c14, c15, c16, c17, c18, c19, c20⟩ c21
    · refine ⟨fun c22 => ?_, fun c22 => ?_⟩
      · exact absurd c22 (nI_pos (by omega))
      · refine ⟨fun c23 => ?_, fun c23 => ?_⟩
        · exact absurd c23 (hz 0 (by decide))
        · refine ⟨fun c24 => ?_, fun c24 => ?_⟩
          · exact absurd c24 (hz 1 (by decide))
          · refine ⟨fun c25 => ?_, fun c25 => ?_⟩
            · exact absurd c25 (hz 2 (by decide))
            · refine ⟨fun c26 => ?_, fun c26 => ?_⟩
              · exact absurd c26 (hz 3 (by decide))
              · refine ⟨fun c27 => ?_, fun c27 => ?_⟩
                · exact absurd c27 (hz 4 (by decide))
                · refine ⟨fun c28 => ?_, fun c28 => ?_⟩
                  · exact absurd c28 (hz 5 (by decide))
                  · refine ⟨hy 0 (by decide), ?_⟩
                    refine ⟨hy 1 (by decide), ?_⟩
                    refine ⟨fun c29 => ?_, fun c29 => ?_⟩
                    · rw [s0] at c29
                      exact (rest (fun z => c2 z.2.1)).1 (fun z => z.1 c29)
                    · refine ⟨fun c30 => ?_, fun c30 => ?_⟩
                      · rw [s1] at c30
                        exact (rest (fun z => c2 z.2.1)).1 (fun z => z.2.1 c30)
                      · refine ⟨hy 2 (by decide), ?_⟩
                        refine ⟨hy 3 (by decide), ?_⟩
                        refine ⟨fun c31 => ?_, fun c31 => ?_⟩
                        · rw [s2] at c31
                          exact (rest (fun z => c2 z.2.1)).1 (fun z => z.2.2.1 c31)
                        · refine ⟨fun c32 => ?_, fun c32 => ?_⟩
                          · rw [s3] at c32
                            exact (rest (fun z => c2 z.2.1)).1 (fun z => z.2.2.2.1 c32)
                          · refine ⟨hy 4 (by decide), ?_⟩
                            refine ⟨fun c33 => ?_, fun c33 => ?_⟩
                            · exact (rest (fun z => c2 z.2.1)).1 (fun z => z.2.2.2.2.1 c33)
                            · refine ⟨fun c34 => ?_, fun c34 => ?_⟩
                              · rw [s4] at c34
                                exact (rest (fun z => c2 z.2.1)).1 (fun z => z.2.2.2.2.2.1 c34)
                              · refine ⟨hy 5 (by decide), ?_⟩
                                refine ⟨fun c35 => ?_, fun c35 => ?_⟩
                                · exact (rest (fun z => c2 z.2.1)).1 (fun z => z.2.2.2.2.2.2.1 c35)
                                · refine ⟨fun c36 => ?_, fun c36 => ?_⟩
                                  · rw [s5] at c36
                                    exact (rest (fun z => c2 z.2.1)).1 (fun z => z.2.2.2.2.2.2.2 c36)
                                  · refine ⟨fun c37 => ?_, fun c37 => ?_⟩
                                    · rw [s0] at c29
                                      rw [s1] at c30
                                      rw [s2] at c31
                                      rw [s3] at c32
                                      rw [s4] at c34
                                      rw [s5] at c36
                                      rintro k rfl S32 rfl
                                      exact (rest (fun z => c2 z.2.1)).2.2 ⟨c29, c30, c31, c32, c33, c34, c35, c36⟩ c37
                                    · rw [s0] at c29
                                      rw [s1] at c30
                                      rw [s2] at c31
                                      rw [s3] at c32
                                      rw [s4] at c34
                                      rw [s5] at c36
                                      exact (rest (fun z => c2 z.2.1)).2.1 ⟨c29, c30, c31, c32, c33, c34, c35, c36⟩ c37
  · refine ⟨fun c38 => ?_, fun c38 => ?_⟩
    · exact absurd c38 (nI_pos (by omega))
    · refine ⟨fun c39 => ?_, fun c39 => ?_⟩
      · exact absurd c39 (hz 0 (by decide))
      · refine ⟨fun c40 => ?_, fun c40 => ?_⟩
        · exact absurd c40 (hz 1 (by decide))
        · refine ⟨fun c41 => ?_, fun c41 => ?_⟩
          · exact absurd c41 (hz 2 (by decide))
          · refine ⟨fun c42 => ?_, fun c42 => ?_⟩
            · exact absurd c42 (hz 3 (by decide))
            · refine ⟨fun c43 => ?_, fun c43 => ?_⟩
              · exact absurd c43 (hz 4 (by decide))
              · refine ⟨fun c44 => ?_, fun c44 => ?_⟩
                · exact absurd c44 (hz 5 (by decide))
                · refine ⟨hy 0 (by decide), ?_⟩
                  refine ⟨hy 1 (by decide), ?_⟩
                  refine ⟨fun c45 => ?_, fun c45 => ?_⟩
                  · rw [s0] at c45
                    exact (rest (fun z => c1 z.1)).1 (fun z => z.1 c45)
                  · refine ⟨fun c46 => ?_, fun c46 => ?_⟩
                    · rw [s1] at c46
                      exact (rest (fun z => c1 z.1)).1 (fun z => z.2.1 c46)
                    · refine ⟨hy 2 (by decide), ?_⟩
                      refine ⟨hy 3 (by decide), ?_⟩
                      refine ⟨fun c47 => ?_, fun c47 => ?_⟩
                      · rw [s2] at c47
                        exact (rest (fun z => c1 z.1)).1 (fun z => z.2.2.1 c47)
                      · refine ⟨fun c48 => ?_, fun c48 => ?_⟩
                        · rw [s3] at c48
                          exact (rest (fun z => c1 z.1)).1 (fun z => z.2.2.2.1 c48)
                        · refine ⟨hy 4 (by decide), ?_⟩
                          refine ⟨fun c49 => ?_, fun c49 => ?_⟩
                          · exact (rest (fun z => c1 z.1)).1 (fun z => z.2.2.2.2.1 c49)
                          · refine ⟨fun c50 => ?_, fun c50 => ?_⟩
                            · rw [s4] at c50
                              exact (rest (fun z => c1 z.1)).1 (fun z => z.2.2.2.2.2.1 c50)
                            · refine ⟨hy 5 (by decide), ?_⟩
                              refine ⟨fun c51 => ?_, fun c51 => ?_⟩
                              · exact (rest (fun z => c1 z.1)).1 (fun z => z.2.2.2.2.2.2.1 c51)
                              · refine ⟨fun c52 => ?_, fun c52 => ?_⟩
                                · rw [s5] at c52
                                  exact (rest (fun z => c1 z.1)).1 (fun z => z.2.2.2.2.2.2.2 c52)
                                · refine ⟨fun c53 => ?_, fun c53 => ?_⟩
                                  · rw [s0] at c45
                                    rw [s1] at c46
                                    rw [s2] at c47
                                    rw [s3] at c48
                                    rw [s4] at c50
                                    rw [s5] at c52
                                    rintro k rfl S32 rfl
                                    exact (rest (fun z => c1 z.1)).2.2 ⟨c45, c46, c47, c48, c49, c50, c51, c52⟩ c53
                                  · rw [s0] at c45
                                    rw [s1] at c46
                                    rw [s2] at c47
                                    rw [s3] at c48
                                    rw [s4] at c50
                                    rw [s5] at c52
                                    exact (rest (fun z => c1 z.1)).2.1 ⟨c45, c46, c47, c48, c49, c50, c51, c52⟩ c53
/-- the loop that forgets what was kept -/
theorem k_213 {l1 l2 l3 l4 l5 l6 : Int32} {g : Nat} (hg : g < 24) : ∀ (n s : Nat) (A : y_A), s ≤ 8 → 9 - s ≤ n → rg_guard_213 n l1 l2 l3 l4 l5 l6 (nI g) (nI s) A ∧ ∀ x k, (rf_guard_213 n l1 l2 l3 l4 l5 l6 (nI g) (nI s) A).2 x k = if x = 45 ∧ 8 * g + s ≤ k ∧ k < 8 * g + 8 then -1 else A x k
  | 0, s, A, h1, h2 => by omega
  | n + 1, s, A, h1, h2 => by
    unfold rg_guard_213 rf_guard_213
    by_cases e : s = 8
    · subst e
      have c : (8 : Int32) ≤ nI 8 := by decide
      rw [if_pos c]
      refine ⟨⟨fun _ => trivial, fun z => absurd c z⟩, fun x k => ?_⟩
      rw [if_neg (by omega)]
    · have c : ¬ (8 : Int32) ≤ nI s := nI_ge (a := s) (b := 8) (by omega) (by decide)
      have ex : (8 : Int32) * nI g + nI s = nI (8 * g + s) := by
        rw [show (8 : Int32) = nI 8 from rfl, nI_mulc, nI_add]
      have ix : y_ix (nI (8 * g + s)) = 8 * g + s := y_ix_nI (by omega)
      obtain ⟨i1, i2⟩ := k_213 hg n (s + 1) (xm_u2 A 45 (8 * g + s) (-1)) (by omega) (by omega)
      rw [if_neg c, ex, ix, nI_1]
      refine ⟨⟨fun z => absurd z c, fun _ => ⟨y_in_nI (by omega) (by decide), i1⟩⟩, fun x k => ?_⟩
      rw [i2]
      unfold xm_u2
      by_cases e1 : x = 45 ∧ 8 * g + (s + 1) ≤ k ∧ k < 8 * g + 8
      · rw [if_pos e1, if_pos ⟨e1.1, by omega, e1.2.2⟩]
      · rw [if_neg e1]
        by_cases e2 : x = 45 ∧ k = 8 * g + s
        · rw [if_pos e2, if_pos ⟨e2.1, by omega, by omega⟩]
        · rw [if_neg e2, if_neg (fun z => by
            by_cases e3 : k = 8 * g + s
            · exact e2 ⟨z.1, e3⟩
            · exact e1 ⟨z.1, by omega, z.2.2⟩)]
def kgX (A : y_A) (a1 a2 a3 a4 a5 l v : Int32) : y_A := xm_u2 (rf_guard_213 20000 a1 a2 a3 a4 a5 l (A 30 0) (0 : Int32) (xm_u2 (xm_u2 (xm_u2 (xm_u2 (xm_u2 (xm_u2 (xm_u2 (xm_u2 (xm_u2 (xm_u2 (xm_u2 (xm_u2 A 31 (y_ix (A 30 0)) a1) 32 (y_ix (A 30 0)) a2) 33 (y_ix (A 30 0)) a3) 34 (y_ix (A 30 0)) a4) 35 (y_ix (A 30 0)) a5) 36 (y_ix (A 30 0)) (0 : Int32)) 37 (y_ix (A 30 0)) (0 : Int32)) 38 (y_ix (A 30 0)) (0 : Int32)) 39 (y_ix (A 30 0)) (0 : Int32)) 40 (y_ix (A 30 0)) (0 : Int32)) 41 (y_ix (A 30 0)) (0 : Int32)) 42 (y_ix (A 30 0)) v)).2 30 0 (((rf_guard_213 20000 a1 a2 a3 a4 a5 l (A 30 0) (0 : Int32) (xm_u2 (xm_u2 (xm_u2 (xm_u2 (xm_u2 (xm_u2 (xm_u2 (xm_u2 (xm_u2 (xm_u2 (xm_u2 (xm_u2 A 31 (y_ix (A 30 0)) a1) 32 (y_ix (A 30 0)) a2) 33 (y_ix (A 30 0)) a3) 34 (y_ix (A 30 0)) a4) 35 (y_ix (A 30 0)) a5) 36 (y_ix (A 30 0)) (0 : Int32)) 37 (y_ix (A 30 0)) (0 : Int32)) 38 (y_ix (A 30 0)) (0 : Int32)) 39 (y_ix (A 30 0)) (0 : Int32)) 40 (y_ix (A 30 0)) (0 : Int32)) 41 (y_ix (A 30 0)) (0 : Int32)) 42 (y_ix (A 30 0)) v)).2 30 0) + (1 : Int32))
theorem kgX.v {A : y_A} {n : Nat} (hn : n < 24) (h : A 30 0 = nI n) (a1 a2 a3 a4 a5 l v : Int32) (x k : Nat) : kgX A a1 a2 a3 a4 a5 l v x k = if x = 30 ∧ k = 0 then nI (n + 1) else if x = 45 ∧ 8 * n ≤ k ∧ k < 8 * n + 8 then -1 else if 31 ≤ x ∧ x ≤ 42 ∧ k = n then [a1, a2, a3, a4, a5, 0, 0, 0, 0, 0, 0, v].getD (x - 31) 0 else A x k := by
  unfold kgX
  rw [h, y_ix_nI (by omega)]
  obtain ⟨-, r2⟩ := k_213 (l1 := a1) (l2 := a2) (l3 := a3) (l4 := a4) (l5 := a5) (l6 := l) hn 20000 0 (xm_u2 (xm_u2 (xm_u2 (xm_u2 (xm_u2 (xm_u2 (xm_u2 (xm_u2 (xm_u2 (xm_u2 (xm_u2 (xm_u2 A 31 n a1) 32 n a2) 33 n a3) 34 n a4) 35 n a5) 36 n (0 : Int32)) 37 n (0 : Int32)) 38 n (0 : Int32)) 39 n (0 : Int32)) 40 n (0 : Int32)) 41 n (0 : Int32)) 42 n v) (by decide) (by decide)
  rw [show nI 0 = (0 : Int32) from rfl] at r2
  simp only [Nat.add_zero] at r2
  have r0 := r2 30 0
  rw [if_neg (by omega)] at r0
  rw [show (xm_u2 (xm_u2 (xm_u2 (xm_u2 (xm_u2 (xm_u2 (xm_u2 (xm_u2 (xm_u2 (xm_u2 (xm_u2 (xm_u2 A 31 n a1) 32 n a2) 33 n a3) 34 n a4) 35 n a5) 36 n (0 : Int32)) 37 n (0 : Int32)) 38 n (0 : Int32)) 39 n (0 : Int32)) 40 n (0 : Int32)) 41 n (0 : Int32)) 42 n v) 30 0 = A 30 0 from rfl, h] at r0
  rw [r0, nI_1]
  by_cases e : x = 30 ∧ k = 0
  · rw [if_pos e, e.1, e.2]
    exact y_same _ _ _ _
  · rw [if_neg e]
    refine (if_neg e).trans ?_
    rw [r2]
    by_cases e1 : x = 45 ∧ 8 * n ≤ k ∧ k < 8 * n + 8
    · rw [if_pos e1, if_pos e1]
    · rw [if_neg e1, if_neg e1]
      by_cases e2 : 31 ≤ x ∧ x ≤ 42 ∧ k = n
      · rw [if_pos e2]
        obtain ⟨z1, z2, rfl⟩ := e2
        obtain rfl | rfl | rfl | rfl | rfl | rfl | rfl | rfl | rfl | rfl | rfl | rfl : x = 31 ∨ x = 32 ∨ x = 33 ∨ x = 34 ∨ x = 35 ∨ x = 36 ∨ x = 37 ∨ x = 38 ∨ x = 39 ∨ x = 40 ∨ x = 41 ∨ x = 42 := by omega
        all_goals exact y_same _ _ _ _
      · rw [if_neg e2]
        unfold xm_u2
        rw [if_neg (by omega), if_neg (by omega), if_neg (by omega), if_neg (by omega), if_neg (by omega), if_neg (by omega), if_neg (by omega), if_neg (by omega), if_neg (by omega), if_neg (by omega), if_neg (by omega), if_neg (by omega)]
theorem k_eq0 (a : Int32) : (a = 0) = (¬ a < 0 ∧ ¬ 0 < a) := propext ⟨fun z => by subst z; decide, fun z => Int32.le_antisymm (Int32.not_lt.mp z.2) (Int32.not_lt.mp z.1)⟩
theorem k_eq1 (a : Int32) : (a = 1) = (¬ a < 1 ∧ ¬ 1 < a) := propext ⟨fun z => by subst z; decide, fun z => Int32.le_antisymm (Int32.not_lt.mp z.2) (Int32.not_lt.mp z.1)⟩
theorem k01of {a : Int32} (h : ¬ a < 0) (h2 : ¬ 1 < a) : a = 0 ∨ a = 1 := by
  obtain ⟨m, hm, rfl⟩ := nI_of h
  by_cases e : 1 < m
  · exact absurd (nI_lt (a := 1) e hm) h2
  · obtain rfl | rfl : m = 0 ∨ m = 1 := by omega
    · exact Or.inl rfl
    · exact Or.inr rfl
theorem k_lt1 {a : Int32} (h : a < 0) : a < 1 := Int32.lt_trans h (by decide)
theorem k_gt0 {a : Int32} (h : 1 < a) : 0 < a := Int32.lt_trans (by decide) h
theorem kgr_0 (a2 a3 a4 a5 : Int32) (A : y_A) : rf_guard 0 a2 a3 a4 a5 A = (if (rf_isGood 0 a2 a3 a4 A) = (0 : Int32) then ((-2 : Int32), A) else (if (rf_in a5 (0 : Int32) (15 : Int32) A) = (0 : Int32) then ((-2 : Int32), A) else (if (A 30 0) = (24 : Int32) then ((-3 : Int32), A) else ((A 30 0), kgX A 0 a2 a3 a4 a5 1 0)))) := by
  unfold rf_guard
  rw [if_neg (show ¬ (0 : Int32) = 6 by decide), if_pos rfl]
  rfl
theorem kgr_1 (a2 a3 a4 a5 : Int32) (A : y_A) : rf_guard 1 a2 a3 a4 a5 A = (if (rf_isGood 1 a2 a3 a4 A) = (0 : Int32) then ((-2 : Int32), A) else (if (rf_in a5 (0 : Int32) (0 : Int32) A) = (0 : Int32) then ((-2 : Int32), A) else (if (A 30 0) = (24 : Int32) then ((-3 : Int32), A) else ((A 30 0), kgX A 1 a2 a3 a4 a5 0 0)))) := by
  unfold rf_guard
  rw [if_neg (show ¬ (1 : Int32) = 6 by decide), if_neg (show ¬ (1 : Int32) = 0 by decide), if_neg (show ¬ (1 : Int32) = 4 by decide), if_neg (show ¬ (1 : Int32) = 9 by decide), if_neg (show ¬ (1 : Int32) = 2 by decide)]
  rfl
theorem kgr_2 (a2 a3 a4 a5 : Int32) (A : y_A) : rf_guard 2 a2 a3 a4 a5 A = (if (rf_isGood 2 a2 a3 a4 A) = (0 : Int32) then ((-2 : Int32), A) else (if (rf_in a5 (0 : Int32) (0 : Int32) A) = (0 : Int32) then ((-2 : Int32), A) else (if (A 30 0) = (24 : Int32) then ((-3 : Int32), A) else ((A 30 0), kgX A 2 a2 a3 a4 a5 0 a2)))) := by
  unfold rf_guard
  rw [if_neg (show ¬ (2 : Int32) = 6 by decide), if_neg (show ¬ (2 : Int32) = 0 by decide), if_neg (show ¬ (2 : Int32) = 4 by decide), if_neg (show ¬ (2 : Int32) = 9 by decide), if_pos (show (2 : Int32) = 2 from rfl)]
  rfl
theorem kgr_3 (a2 a3 a4 a5 : Int32) (A : y_A) : rf_guard 3 a2 a3 a4 a5 A = (if (rf_isGood 3 a2 a3 a4 A) = (0 : Int32) then ((-2 : Int32), A) else (if (rf_in a5 (0 : Int32) (0 : Int32) A) = (0 : Int32) then ((-2 : Int32), A) else (if (A 30 0) = (24 : Int32) then ((-3 : Int32), A) else ((A 30 0), kgX A 3 a2 a3 a4 a5 0 0)))) := by
  unfold rf_guard
  rw [if_neg (show ¬ (3 : Int32) = 6 by decide), if_neg (show ¬ (3 : Int32) = 0 by decide), if_neg (show ¬ (3 : Int32) = 4 by decide), if_neg (show ¬ (3 : Int32) = 9 by decide), if_neg (show ¬ (3 : Int32) = 2 by decide)]
  rfl
theorem kgr_4 (a2 a3 a4 a5 : Int32) (A : y_A) : rf_guard 4 a2 a3 a4 a5 A = (if (rf_isGood 4 a2 a3 a4 A) = (0 : Int32) then ((-2 : Int32), A) else (if (rf_in a5 (0 : Int32) (15 : Int32) A) = (0 : Int32) then ((-2 : Int32), A) else (if (A 30 0) = (24 : Int32) then ((-3 : Int32), A) else ((A 30 0), kgX A 4 a2 a3 a4 a5 1 0)))) := by
  unfold rf_guard
  rw [if_neg (show ¬ (4 : Int32) = 6 by decide), if_neg (show ¬ (4 : Int32) = 0 by decide), if_pos rfl]
  rfl
theorem kgr_5 (a2 a3 a4 a5 : Int32) (A : y_A) : rf_guard 5 a2 a3 a4 a5 A = (if (rf_isGood 5 a2 a3 a4 A) = (0 : Int32) then ((-2 : Int32), A) else (if (rf_in a5 (0 : Int32) (0 : Int32) A) = (0 : Int32) then ((-2 : Int32), A) else (if (A 30 0) = (24 : Int32) then ((-3 : Int32), A) else ((A 30 0), kgX A 5 a2 a3 a4 a5 0 0)))) := by
  unfold rf_guard
  rw [if_neg (show ¬ (5 : Int32) = 6 by decide), if_neg (show ¬ (5 : Int32) = 0 by decide), if_neg (show ¬ (5 : Int32) = 4 by decide), if_neg (show ¬ (5 : Int32) = 9 by decide), if_neg (show ¬ (5 : Int32) = 2 by decide)]
  rfl
theorem kgr_6 (a2 a3 a4 a5 : Int32) (A : y_A) : rf_guard 6 a2 a3 a4 a5 A = if a2 = 1 then (if (rf_isStation a3 A) = (0 : Int32) then ((-1 : Int32), A) else (if (rf_isGood 6 a2 a3 a4 A) = (0 : Int32) then ((-2 : Int32), A) else (if (rf_in a5 (0 : Int32) (15 : Int32) A) = (0 : Int32) then ((-2 : Int32), A) else (if (A 30 0) = (24 : Int32) then ((-3 : Int32), A) else ((A 30 0), kgX A 6 a2 a3 a4 a5 1 0))))) else (if (rf_isGood 6 a2 a3 a4 A) = (0 : Int32) then ((-2 : Int32), A) else (if (rf_in a5 (0 : Int32) (15 : Int32) A) = (0 : Int32) then ((-2 : Int32), A) else (if (A 30 0) = (24 : Int32) then ((-3 : Int32), A) else ((A 30 0), kgX A 6 a2 a3 a4 a5 1 0)))) := by
  unfold rf_guard
  rw [if_pos rfl]
  rfl
theorem kgr_7 (a2 a3 a4 a5 : Int32) (A : y_A) : rf_guard 7 a2 a3 a4 a5 A = (if (rf_isGood 7 a2 a3 a4 A) = (0 : Int32) then ((-2 : Int32), A) else (if (rf_in a5 (0 : Int32) (0 : Int32) A) = (0 : Int32) then ((-2 : Int32), A) else (if (A 30 0) = (24 : Int32) then ((-3 : Int32), A) else ((A 30 0), kgX A 7 a2 a3 a4 a5 0 0)))) := by
  unfold rf_guard
  rw [if_neg (show ¬ (7 : Int32) = 6 by decide), if_neg (show ¬ (7 : Int32) = 0 by decide), if_neg (show ¬ (7 : Int32) = 4 by decide), if_neg (show ¬ (7 : Int32) = 9 by decide), if_neg (show ¬ (7 : Int32) = 2 by decide)]
  rfl
theorem kgr_8 (a2 a3 a4 a5 : Int32) (A : y_A) : rf_guard 8 a2 a3 a4 a5 A = (if (rf_isGood 8 a2 a3 a4 A) = (0 : Int32) then ((-2 : Int32), A) else (if (rf_in a5 (0 : Int32) (0 : Int32) A) = (0 : Int32) then ((-2 : Int32), A) else (if (A 30 0) = (24 : Int32) then ((-3 : Int32), A) else ((A 30 0), kgX A 8 a2 a3 a4 a5 0 0)))) := by
  unfold rf_guard
  rw [if_neg (show ¬ (8 : Int32) = 6 by decide), if_neg (show ¬ (8 : Int32) = 0 by decide), if_neg (show ¬ (8 : Int32) = 4 by decide), if_neg (show ¬ (8 : Int32) = 9 by decide), if_neg (show ¬ (8 : Int32) = 2 by decide)]
  rfl
theorem kgr_9 (a2 a3 a4 a5 : Int32) (A : y_A) : rf_guard 9 a2 a3 a4 a5 A = (if (rf_isGood 9 a2 a3 a4 A) = (0 : Int32) then ((-2 : Int32), A) else (if (rf_in a5 (0 : Int32) (15 : Int32) A) = (0 : Int32) then ((-2 : Int32), A) else (if (A 30 0) = (24 : Int32) then ((-3 : Int32), A) else ((A 30 0), kgX A 9 a2 a3 a4 a5 1 0)))) := by
  unfold rf_guard
  rw [if_neg (show ¬ (9 : Int32) = 6 by decide), if_neg (show ¬ (9 : Int32) = 0 by decide), if_neg (show ¬ (9 : Int32) = 4 by decide), if_pos rfl]
  rfl
theorem g_guard_0 {S : xm_S} {A : y_A} {t : Nat} {a2 a3 a4 a5 : Int32} (hK : kK S A t) : xc 2 7 [.inr (some (0, 0)), .inl 0, .inl a2, .inl a3, .inl a4, .inl a5] S (fun r S' => r = some (.inl (rf_guard 0 a2 a3 a4 a5 A).1) ∧ kK S' (rf_guard 0 a2 a3 a4 a5 A).2 t) := by
  have hKK := hK
  obtain ⟨⟨⟨⟨hC, hcnt, hb, hl, ht, hv, h1, h2, h3, -⟩, -⟩, hS, -⟩, ⟨-, -, -, hO, hcap, -⟩⟩ := hK
  have hbb := hb
  unfold k_bnd at hbb
  obtain ⟨w1, w2, w3, w4, w5, w6, w7, w8, w9, w10, w11⟩ := hcnt
  have hF : (nI (xm_n S 1 3) = (24 : Int32)) = ¬ (nI (xm_n S 1 3) < (24 : Int32)) := k_full (m := 24) (by omega) (by decide)
  have lf : ∀ v A', rf_guard 0 a2 a3 a4 a5 A = (v, A') → ∀ S', kK S' A' t → (some (.inl v) : Option xm_V) = some (.inl (rf_guard 0 a2 a3 a4 a5 A).1) ∧ kK S' (rf_guard 0 a2 a3 a4 a5 A).2 t := fun v A' e S' h => by
    rw [e]
    exact ⟨rfl, h⟩
  have TB : ∀ k, k < 6 → xm_i S 16 k (y_ix (nI 0)) = (kS_T.getD k []).getD 0 0 := fun k hk => by
    rw [y_ix_nI (by decide)]
    exact (hS k (by omega)).2 0 (by
      obtain rfl | rfl | rfl | rfl | rfl | rfl : k = 0 ∨ k = 1 ∨ k = 2 ∨ k = 3 ∨ k = 4 ∨ k = 5 := by omega
      all_goals decide)
  refine cw_guard_j (d := 0) (j := 0) (l0 := 1) (h0 := 20) (l1 := 1) (h1 := 1000) (h2 := 0) (h3 := 15) (by decide) hS hC hl hb.1 (TB 0 (by decide)) (TB 1 (by decide)) (TB 2 (by decide)) (TB 3 (by decide)) (TB 4 (by decide)) (TB 5 (by decide)) ?_ ?_
  · exact fun z => absurd z (by decide)
  intro hN
  refine ⟨fun hf => ?_, fun hf hn => ?_, fun hf hn => ?_⟩
  · by_cases c0 : a2 < 1
    · refine lf (-2) A ?_ S hKK
      rw [kgr_0, if_pos (by simp (decide := true) only [rf_isGood, rf_in, k_eq0 a2, k_eq0 a3, k_eq0 a4, if_true, if_false, not_true_eq_false, not_false_eq_true, and_true, and_false, true_and, false_and, c0, ite_self])]
    by_cases c1 : (20 : Int32) < a2
    · refine lf (-2) A ?_ S hKK
      rw [kgr_0, if_pos (by simp (decide := true) only [rf_isGood, rf_in, k_eq0 a2, k_eq0 a3, k_eq0 a4, if_true, if_false, not_true_eq_false, not_false_eq_true, and_true, and_false, true_and, false_and, c0, c1, ite_self])]
    by_cases c2 : a3 < 1
    · refine lf (-2) A ?_ S hKK
      rw [kgr_0, if_pos (by simp (decide := true) only [rf_isGood, rf_in, k_eq0 a2, k_eq0 a3, k_eq0 a4, if_true, if_false, not_true_eq_false, not_false_eq_true, and_true, and_false, true_and, false_and, c0, c1, c2, ite_self])]
    by_cases c3 : (1000 : Int32) < a3
    · refine lf (-2) A ?_ S hKK
      rw [kgr_0, if_pos (by simp (decide := true) only [rf_isGood, rf_in, k_eq0 a2, k_eq0 a3, k_eq0 a4, if_true, if_false, not_true_eq_false, not_false_eq_true, and_true, and_false, true_and, false_and, c0, c1, c2, c3, ite_self])]
    by_cases c4 : a4 < 0
    · refine lf (-2) A ?_ S hKK
      rw [kgr_0, if_pos (by simp (decide := true) only [rf_isGood, rf_in, k_eq0 a2, k_eq0 a3, k_eq0 a4, if_true, if_false, not_true_eq_false, not_false_eq_true, and_true, and_false, true_and, false_and, c0, c1, c2, c3, c4, ite_self])]
    by_cases c5 : (0 : Int32) < a4
    · refine lf (-2) A ?_ S hKK
      rw [kgr_0, if_pos (by simp (decide := true) only [rf_isGood, rf_in, k_eq0 a2, k_eq0 a3, k_eq0 a4, if_true, if_false, not_true_eq_false, not_false_eq_true, and_true, and_false, true_and, false_and, c0, c1, c2, c3, c4, c5, ite_self])]
    by_cases c6 : a5 < 0
    · refine lf (-2) A ?_ S hKK
      rw [kgr_0, if_pos (c := rf_in a5 0 15 A = 0) (by simp (decide := true) only [rf_isGood, rf_in, k_eq0 a2, k_eq0 a3, k_eq0 a4, if_true, if_false, not_true_eq_false, not_false_eq_true, and_true, and_false, true_and, false_and, c0, c1, c2, c3, c4, c5, c6]), ite_self]
    by_cases c7 : (15 : Int32) < a5
    · refine lf (-2) A ?_ S hKK
      rw [kgr_0, if_pos (c := rf_in a5 0 15 A = 0) (by simp (decide := true) only [rf_isGood, rf_in, k_eq0 a2, k_eq0 a3, k_eq0 a4, if_true, if_false, not_true_eq_false, not_false_eq_true, and_true, and_false, true_and, false_and, c0, c1, c2, c3, c4, c5, c6, c7]), ite_self]
    exact absurd ⟨c0, c1, c2, c3, c4, c5, c6, c7⟩ hf
  · obtain ⟨c0, c1, c2, c3, c4, c5, c6, c7⟩ := hf
    have hg : ¬ rf_isGood 0 a2 a3 a4 A = 0 := by simp (decide := true) only [rf_isGood, rf_in, k_eq0 a2, k_eq0 a3, k_eq0 a4, if_true, if_false, not_true_eq_false, not_false_eq_true, and_true, and_false, true_and, false_and, c0, c1, c2, c3, c4, c5]
    have hi : ¬ rf_in a5 0 15 A = 0 := by simp (decide := true) only [rf_in, c6, c7, if_true, if_false]
    refine lf (-3) A ?_ S hKK
    rw [kgr_0, if_neg hg, if_neg hi, w4, if_pos (by rw [hF]; exact hn)]
  · obtain ⟨c0, c1, c2, c3, c4, c5, c6, c7⟩ := hf
    have hg : ¬ rf_isGood 0 a2 a3 a4 A = 0 := by simp (decide := true) only [rf_isGood, rf_in, k_eq0 a2, k_eq0 a3, k_eq0 a4, if_true, if_false, not_true_eq_false, not_false_eq_true, and_true, and_false, true_and, false_and, c0, c1, c2, c3, c4, c5]
    have hi : ¬ rf_in a5 0 15 A = 0 := by simp (decide := true) only [rf_in, c6, c7, if_true, if_false]
    have hlt : xm_n S 1 3 < 24 := (nI_ltI (b := 24) (by omega) (by decide)).mp hn
    have hv := kgX.v hlt w4 0 a2 a3 a4 a5 1 0
    have e : rf_guard 0 a2 a3 a4 a5 A = (nI (xm_n S 1 3), kgX A 0 a2 a3 a4 a5 1 0) := by
      rw [kgr_0, if_neg hg, if_neg hi, w4, if_neg (by rw [hF]; exact fun z => z hn), ← w4]
    generalize kgX A 0 a2 a3 a4 a5 1 0 = A' at hv e
    have vv : ∀ x, 31 ≤ x → x ≤ 42 → A' x (xm_n S 1 3) = [0, a2, a3, a4, a5, 0, 0, 0, 0, 0, 0, 0].getD (x - 31) 0 := fun x z1 z2 => by rw [hv, if_neg (by omega), if_neg (by omega), if_pos ⟨z1, z2, rfl⟩]
    refine (k_newGuard (d := 1) (A' := A') (a1 := 0) (a2 := a2) (a3 := a3) (a4 := a4) (a5 := a5) hKK hlt (fun x k hk => ?_) ?_ ⟨vv 31 (by decide) (by decide), vv 32 (by decide) (by decide), vv 33 (by decide) (by decide), vv 34 (by decide) (by decide), vv 35 (by decide) (by decide), vv 36 (by decide) (by decide), vv 37 (by decide) (by decide), vv 38 (by decide) (by decide), vv 39 (by decide) (by decide), vv 40 (by decide) (by decide), vv 41 (by decide) (by decide), fun z => absurd z (by decide)⟩ (fun s hs => ?_) ⟨?_, ?_, ?_, ?_, ?_⟩ (fun S' hS' => ?_)).mono (fun r S13 y => ⟨y.1, y.2.1, y.2.2.1, y.2.2.2.1, fun S17 e17 => ?_⟩)
    · unfold kOld at hk
      rw [hv, if_neg (by omega), if_neg (by omega), if_neg (by omega)]
    · rw [hv, if_pos ⟨rfl, rfl⟩]
    · rw [hv, if_neg (by omega), if_pos ⟨rfl, by omega, by omega⟩]
    · rw [hv, if_neg (by decide), if_neg (by omega), if_neg (by omega)]
    · rw [hv, if_neg (by decide), if_neg (by omega), if_neg (by omega)]
    · rw [hv, if_neg (by decide), if_neg (by omega), if_neg (by omega)]
    · rw [hv, if_neg (by decide), if_neg (by omega), if_neg (by omega)]
    · rw [hv, if_neg (by decide), if_neg (by omega), if_neg (by omega)]
    · unfold kgr
      rw [show A' 31 (xm_n S 1 3) = 0 from vv 31 (by decide) (by decide), show A' 32 (xm_n S 1 3) = a2 from vv 32 (by decide) (by decide), show A' 33 (xm_n S 1 3) = a3 from vv 33 (by decide) (by decide), show A' 34 (xm_n S 1 3) = a4 from vv 34 (by decide) (by decide), show A' 35 (xm_n S 1 3) = a5 from vv 35 (by decide) (by decide), show A' 42 (xm_n S 1 3) = 0 from vv 42 (by decide) (by decide)]
      refine ⟨by decide, ⟨Int32.not_lt.mp c6, Int32.not_lt.mp c7⟩, fun z => absurd z (by decide), fun z => absurd z (by decide), fun _ => ⟨Int32.not_lt.mp c0, Int32.not_lt.mp c1, Int32.not_lt.mp c2, Int32.not_lt.mp c3⟩, fun z => absurd z (by decide), fun z => absurd z (by decide), fun z => absurd z (by decide), fun z => absurd z (by decide), fun z => absurd z (by decide), fun z => absurd z (by decide), fun z => absurd z (by decide)⟩
    obtain ⟨z1, z2⟩ := y.2.2.2.2 S17 e17
    rw [z1, nI_pred]
    exact lf _ _ e _ z2
theorem g_guard_1 {S : xm_S} {A : y_A} {t : Nat} {a2 a3 a4 a5 : Int32} (hK : kK S A t) : xc 2 7 [.inr (some (0, 0)), .inl 1, .inl a2, .inl a3, .inl a4, .inl a5] S (fun r S' => r = some (.inl (rf_guard 1 a2 a3 a4 a5 A).1) ∧ kK S' (rf_guard 1 a2 a3 a4 a5 A).2 t) := by
  have hKK := hK
  obtain ⟨⟨⟨⟨hC, hcnt, hb, hl, ht, hv, h1, h2, h3, -⟩, -⟩, hS, -⟩, ⟨-, -, -, hO, hcap, -⟩⟩ := hK
  have hbb := hb
  unfold k_bnd at hbb
  obtain ⟨w1, w2, w3, w4, w5, w6, w7, w8, w9, w10, w11⟩ := hcnt
  have hF : (nI (xm_n S 1 3) = (24 : Int32)) = ¬ (nI (xm_n S 1 3) < (24 : Int32)) := k_full (m := 24) (by omega) (by decide)
  have lf : ∀ v A', rf_guard 1 a2 a3 a4 a5 A = (v, A') → ∀ S', kK S' A' t → (some (.inl v) : Option xm_V) = some (.inl (rf_guard 1 a2 a3 a4 a5 A).1) ∧ kK S' (rf_guard 1 a2 a3 a4 a5 A).2 t := fun v A' e S' h => by
    rw [e]
    exact ⟨rfl, h⟩
  have TB : ∀ k, k < 6 → xm_i S 16 k (y_ix (nI 1)) = (kS_T.getD k []).getD 1 0 := fun k hk => by
    rw [y_ix_nI (by decide)]
    exact (hS k (by omega)).2 1 (by
      obtain rfl | rfl | rfl | rfl | rfl | rfl : k = 0 ∨ k = 1 ∨ k = 2 ∨ k = 3 ∨ k = 4 ∨ k = 5 := by omega
      all_goals decide)
  refine cw_guard_j (d := 0) (j := 1) (l0 := 1) (h0 := 10) (l1 := 0) (h1 := 10) (h2 := 0) (h3 := 0) (by decide) hS hC hl hb.1 (TB 0 (by decide)) (TB 1 (by decide)) (TB 2 (by decide)) (TB 3 (by decide)) (TB 4 (by decide)) (TB 5 (by decide)) ?_ ?_
  · exact fun z => absurd z (by decide)
  intro hN
  refine ⟨fun hf => ?_, fun hf hn => ?_, fun hf hn => ?_⟩
  · by_cases c0 : a2 < 1
    · refine lf (-2) A ?_ S hKK
      rw [kgr_1, if_pos (by simp (decide := true) only [rf_isGood, rf_in, k_eq0 a2, k_eq0 a3, k_eq0 a4, if_true, if_false, not_true_eq_false, not_false_eq_true, and_true, and_false, true_and, false_and, c0, ite_self])]
    by_cases c1 : (10 : Int32) < a2
    · refine lf (-2) A ?_ S hKK
      rw [kgr_1, if_pos (by simp (decide := true) only [rf_isGood, rf_in, k_eq0 a2, k_eq0 a3, k_eq0 a4, if_true, if_false, not_true_eq_false, not_false_eq_true, and_true, and_false, true_and, false_and, c0, c1, ite_self])]
    by_cases c2 : a3 < 0
    · refine lf (-2) A ?_ S hKK
      rw [kgr_1, if_pos (by simp (decide := true) only [rf_isGood, rf_in, k_eq0 a2, k_eq0 a3, k_eq0 a4, if_true, if_false, not_true_eq_false, not_false_eq_true, and_true, and_false, true_and, false_and, c0, c1, c2, ite_self])]
    by_cases c3 : (10 : Int32) < a3
    · refine lf (-2) A ?_ S hKK
      rw [kgr_1, if_pos (by simp (decide := true) only [rf_isGood, rf_in, k_eq0 a2, k_eq0 a3, k_eq0 a4, if_true, if_false, not_true_eq_false, not_false_eq_true, and_true, and_false, true_and, false_and, c0, c1, c2, c3, ite_self])]
    by_cases c4 : a4 < 0
    · refine lf (-2) A ?_ S hKK
      rw [kgr_1, if_pos (by simp (decide := true) only [rf_isGood, rf_in, k_eq0 a2, k_eq0 a3, k_eq0 a4, if_true, if_false, not_true_eq_false, not_false_eq_true, and_true, and_false, true_and, false_and, c0, c1, c2, c3, c4, ite_self])]
    by_cases c5 : (0 : Int32) < a4
    · refine lf (-2) A ?_ S hKK
      rw [kgr_1, if_pos (by simp (decide := true) only [rf_isGood, rf_in, k_eq0 a2, k_eq0 a3, k_eq0 a4, if_true, if_false, not_true_eq_false, not_false_eq_true, and_true, and_false, true_and, false_and, c0, c1, c2, c3, c4, c5, ite_self])]
    by_cases c6 : a5 < 0
    · refine lf (-2) A ?_ S hKK
      rw [kgr_1, if_pos (c := rf_in a5 0 0 A = 0) (by simp (decide := true) only [rf_isGood, rf_in, k_eq0 a2, k_eq0 a3, k_eq0 a4, if_true, if_false, not_true_eq_false, not_false_eq_true, and_true, and_false, true_and, false_and, c0, c1, c2, c3, c4, c5, c6]), ite_self]
    by_cases c7 : (0 : Int32) < a5
    · refine lf (-2) A ?_ S hKK
      rw [kgr_1, if_pos (c := rf_in a5 0 0 A = 0) (by simp (decide := true) only [rf_isGood, rf_in, k_eq0 a2, k_eq0 a3, k_eq0 a4, if_true, if_false, not_true_eq_false, not_false_eq_true, and_true, and_false, true_and, false_and, c0, c1, c2, c3, c4, c5, c6, c7]), ite_self]
    exact absurd ⟨c0, c1, c2, c3, c4, c5, c6, c7⟩ hf
  · obtain ⟨c0, c1, c2, c3, c4, c5, c6, c7⟩ := hf
    have hg : ¬ rf_isGood 1 a2 a3 a4 A = 0 := by simp (decide := true) only [rf_isGood, rf_in, k_eq0 a2, k_eq0 a3, k_eq0 a4, if_true, if_false, not_true_eq_false, not_false_eq_true, and_true, and_false, true_and, false_and, c0, c1, c2, c3, c4, c5]
    have hi : ¬ rf_in a5 0 0 A = 0 := by simp (decide := true) only [rf_in, c6, c7, if_true, if_false]
    refine lf (-3) A ?_ S hKK
    rw [kgr_1, if_neg hg, if_neg hi, w4, if_pos (by rw [hF]; exact hn)]
  · obtain ⟨c0, c1, c2, c3, c4, c5, c6, c7⟩ := hf
    have hg : ¬ rf_isGood 1 a2 a3 a4 A = 0 := by simp (decide := true) only [rf_isGood, rf_in, k_eq0 a2, k_eq0 a3, k_eq0 a4, if_true, if_false, not_true_eq_false, not_false_eq_true, and_true, and_false, true_and, false_and, c0, c1, c2, c3, c4, c5]
    have hi : ¬ rf_in a5 0 0 A = 0 := by simp (decide := true) only [rf_in, c6, c7, if_true, if_false]
    have hlt : xm_n S 1 3 < 24 := (nI_ltI (b := 24) (by omega) (by decide)).mp hn
    have hv := kgX.v hlt w4 1 a2 a3 a4 a5 0 0
    have e : rf_guard 1 a2 a3 a4 a5 A = (nI (xm_n S 1 3), kgX A 1 a2 a3 a4 a5 0 0) := by
      rw [kgr_1, if_neg hg, if_neg hi, w4, if_neg (by rw [hF]; exact fun z => z hn), ← w4]
    generalize kgX A 1 a2 a3 a4 a5 0 0 = A' at hv e
    have vv : ∀ x, 31 ≤ x → x ≤ 42 → A' x (xm_n S 1 3) = [1, a2, a3, a4, a5, 0, 0, 0, 0, 0, 0, 0].getD (x - 31) 0 := fun x z1 z2 => by rw [hv, if_neg (by omega), if_neg (by omega), if_pos ⟨z1, z2, rfl⟩]
    refine (k_newGuard (d := 1) (A' := A') (a1 := 1) (a2 := a2) (a3 := a3) (a4 := a4) (a5 := a5) hKK hlt (fun x k hk => ?_) ?_ ⟨vv 31 (by decide) (by decide), vv 32 (by decide) (by decide), vv 33 (by decide) (by decide), vv 34 (by decide) (by decide), vv 35 (by decide) (by decide), vv 36 (by decide) (by decide), vv 37 (by decide) (by decide), vv 38 (by decide) (by decide), vv 39 (by decide) (by decide), vv 40 (by decide) (by decide), vv 41 (by decide) (by decide), fun z => absurd z (by decide)⟩ (fun s hs => ?_) ⟨?_, ?_, ?_, ?_, ?_⟩ (fun S' hS' => ?_)).mono (fun r S13 y => ⟨y.1, y.2.1, y.2.2.1, y.2.2.2.1, fun S17 e17 => ?_⟩)
    · unfold kOld at hk
      rw [hv, if_neg (by omega), if_neg (by omega), if_neg (by omega)]
    · rw [hv, if_pos ⟨rfl, rfl⟩]
    · rw [hv, if_neg (by omega), if_pos ⟨rfl, by omega, by omega⟩]
    · rw [hv, if_neg (by decide), if_neg (by omega), if_neg (by omega)]
    · rw [hv, if_neg (by decide), if_neg (by omega), if_neg (by omega)]
    · rw [hv, if_neg (by decide), if_neg (by omega), if_neg (by omega)]
    · rw [hv, if_neg (by decide), if_neg (by omega), if_neg (by omega)]
    · rw [hv, if_neg (by decide), if_neg (by omega), if_neg (by omega)]
    · unfold kgr
      rw [show A' 31 (xm_n S 1 3) = 1 from vv 31 (by decide) (by decide), show A' 32 (xm_n S 1 3) = a2 from vv 32 (by decide) (by decide), show A' 33 (xm_n S 1 3) = a3 from vv 33 (by decide) (by decide), show A' 34 (xm_n S 1 3) = a4 from vv 34 (by decide) (by decide), show A' 35 (xm_n S 1 3) = a5 from vv 35 (by decide) (by decide), show A' 42 (xm_n S 1 3) = 0 from vv 42 (by decide) (by decide)]
      refine ⟨by decide, ⟨Int32.not_lt.mp c6, Int32.le_trans (Int32.not_lt.mp c7) (by decide)⟩, fun z => absurd z (by decide), fun z => absurd z (by decide), fun z => absurd z (by decide), fun _ => ⟨Int32.not_lt.mp c0, Int32.not_lt.mp c1, Int32.not_lt.mp c2, Int32.not_lt.mp c3⟩, fun z => absurd z (by decide), fun z => absurd z (by decide), fun z => absurd z (by decide), fun z => absurd z (by decide), fun z => absurd z (by decide), fun z => absurd z (by decide)⟩
    obtain ⟨z1, z2⟩ := y.2.2.2.2 S17 e17
    rw [z1, nI_pred]
    exact lf _ _ e _ z2
theorem g_guard_2 {S : xm_S} {A : y_A} {t : Nat} {a2 a3 a4 a5 : Int32} (hK : kK S A t) : xc 2 7 [.inr (some (0, 0)), .inl 2, .inl a2, .inl a3, .inl a4, .inl a5] S (fun r S' => r = some (.inl (rf_guard 2 a2 a3 a4 a5 A).1) ∧ kK S' (rf_guard 2 a2 a3 a4 a5 A).2 t) := by
  have hKK := hK
  obtain ⟨⟨⟨⟨hC, hcnt, hb, hl, ht, hv, h1, h2, h3, -⟩, -⟩, hS, -⟩, ⟨-, -, -, hO, hcap, -⟩⟩ := hK
  have hbb := hb
  unfold k_bnd at hbb
  obtain ⟨w1, w2, w3, w4, w5, w6, w7, w8, w9, w10, w11⟩ := hcnt
  have hF : (nI (xm_n S 1 3) = (24 : Int32)) = ¬ (nI (xm_n S 1 3) < (24 : Int32)) := k_full (m := 24) (by omega) (by decide)
  have lf : ∀ v A', rf_guard 2 a2 a3 a4 a5 A = (v, A') → ∀ S', kK S' A' t → (some (.inl v) : Option xm_V) = some (.inl (rf_guard 2 a2 a3 a4 a5 A).1) ∧ kK S' (rf_guard 2 a2 a3 a4 a5 A).2 t := fun v A' e S' h => by
    rw [e]
    exact ⟨rfl, h⟩
  have TB : ∀ k, k < 6 → xm_i S 16 k (y_ix (nI 2)) = (kS_T.getD k []).getD 2 0 := fun k hk => by
    rw [y_ix_nI (by decide)]
    exact (hS k (by omega)).2 2 (by
      obtain rfl | rfl | rfl | rfl | rfl | rfl : k = 0 ∨ k = 1 ∨ k = 2 ∨ k = 3 ∨ k = 4 ∨ k = 5 := by omega
      all_goals decide)
  refine cw_guard_j (d := 0) (j := 2) (l0 := 1) (h0 := 100) (l1 := 1) (h1 := 100) (h2 := 0) (h3 := 0) (by decide) hS hC hl hb.1 (TB 0 (by decide)) (TB 1 (by decide)) (TB 2 (by decide)) (TB 3 (by decide)) (TB 4 (by decide)) (TB 5 (by decide)) ?_ ?_
  · exact fun z => absurd z (by decide)
  intro hN
  refine ⟨fun hf => ?_, fun hf hn => ?_, fun hf hn => ?_⟩
  · by_cases c0 : a2 < 1
    · refine lf (-2) A ?_ S hKK
      rw [kgr_2, if_pos (by simp (decide := true) only [rf_isGood, rf_in, k_eq0 a2, k_eq0 a3, k_eq0 a4, if_true, if_false, not_true_eq_false, not_false_eq_true, and_true, and_false, true_and, false_and, c0, ite_self])]
    by_cases c1 : (100 : Int32) < a2
    · refine lf (-2) A ?_ S hKK
      rw [kgr_2, if_pos (by simp (decide := true) only [rf_isGood, rf_in, k_eq0 a2, k_eq0 a3, k_eq0 a4, if_true, if_false, not_true_eq_false, not_false_eq_true, and_true, and_false, true_and, false_and, c0, c1, ite_self])]
    by_cases c2 : a3 < 1
    · refine lf (-2) A ?_ S hKK
      rw [kgr_2, if_pos (by simp (decide := true) only [rf_isGood, rf_in, k_eq0 a2, k_eq0 a3, k_eq0 a4, if_true, if_false, not_true_eq_false, not_false_eq_true, and_true, and_false, true_and, false_and, c0, c1, c2, ite_self])]
    by_cases c3 : (100 : Int32) < a3
    · refine lf (-2) A ?_ S hKK
      rw [kgr_2, if_pos (by simp (decide := true) only [rf_isGood, rf_in, k_eq0 a2, k_eq0 a3, k_eq0 a4, if_true, if_false, not_true_eq_false, not_false_eq_true, and_true, and_false, true_and, false_and, c0, c1, c2, c3, ite_self])]
    by_cases c4 : a4 < 0
    · refine lf (-2) A ?_ S hKK
      rw [kgr_2, if_pos (by simp (decide := true) only [rf_isGood, rf_in, k_eq0 a2, k_eq0 a3, k_eq0 a4, if_true, if_false, not_true_eq_false, not_false_eq_true, and_true, and_false, true_and, false_and, c0, c1, c2, c3, c4, ite_self])]
    by_cases c5 : (0 : Int32) < a4
    · refine lf (-2) A ?_ S hKK
      rw [kgr_2, if_pos (by simp (decide := true) only [rf_isGood, rf_in, k_eq0 a2, k_eq0 a3, k_eq0 a4, if_true, if_false, not_true_eq_false, not_false_eq_true, and_true, and_false, true_and, false_and, c0, c1, c2, c3, c4, c5, ite_self])]
    by_cases c6 : a5 < 0
    · refine lf (-2) A ?_ S hKK
      rw [kgr_2, if_pos (c := rf_in a5 0 0 A = 0) (by simp (decide := true) only [rf_isGood, rf_in, k_eq0 a2, k_eq0 a3, k_eq0 a4, if_true, if_false, not_true_eq_false, not_false_eq_true, and_true, and_false, true_and, false_and, c0, c1, c2, c3, c4, c5, c6]), ite_self]
    by_cases c7 : (0 : Int32) < a5
    · refine lf (-2) A ?_ S hKK
      rw [kgr_2, if_pos (c := rf_in a5 0 0 A = 0) (by simp (decide := true) only [rf_isGood, rf_in, k_eq0 a2, k_eq0 a3, k_eq0 a4, if_true, if_false, not_true_eq_false, not_false_eq_true, and_true, and_false, true_and, false_and, c0, c1, c2, c3, c4, c5, c6, c7]), ite_self]
    exact absurd ⟨c0, c1, c2, c3, c4, c5, c6, c7⟩ hf
  · obtain ⟨c0, c1, c2, c3, c4, c5, c6, c7⟩ := hf
    have hg : ¬ rf_isGood 2 a2 a3 a4 A = 0 := by simp (decide := true) only [rf_isGood, rf_in, k_eq0 a2, k_eq0 a3, k_eq0 a4, if_true, if_false, not_true_eq_false, not_false_eq_true, and_true, and_false, true_and, false_and, c0, c1, c2, c3, c4, c5]
    have hi : ¬ rf_in a5 0 0 A = 0 := by simp (decide := true) only [rf_in, c6, c7, if_true, if_false]
    refine lf (-3) A ?_ S hKK
    rw [kgr_2, if_neg hg, if_neg hi, w4, if_pos (by rw [hF]; exact hn)]
  · obtain ⟨c0, c1, c2, c3, c4, c5, c6, c7⟩ := hf
    have hg : ¬ rf_isGood 2 a2 a3 a4 A = 0 := by simp (decide := true) only [rf_isGood, rf_in, k_eq0 a2, k_eq0 a3, k_eq0 a4, if_true, if_false, not_true_eq_false, not_false_eq_true, and_true, and_false, true_and, false_and, c0, c1, c2, c3, c4, c5]
    have hi : ¬ rf_in a5 0 0 A = 0 := by simp (decide := true) only [rf_in, c6, c7, if_true, if_false]
    have hlt : xm_n S 1 3 < 24 := (nI_ltI (b := 24) (by omega) (by decide)).mp hn
    have hv := kgX.v hlt w4 2 a2 a3 a4 a5 0 a2
    have e : rf_guard 2 a2 a3 a4 a5 A = (nI (xm_n S 1 3), kgX A 2 a2 a3 a4 a5 0 a2) := by
      rw [kgr_2, if_neg hg, if_neg hi, w4, if_neg (by rw [hF]; exact fun z => z hn), ← w4]
    generalize kgX A 2 a2 a3 a4 a5 0 a2 = A' at hv e
    have vv : ∀ x, 31 ≤ x → x ≤ 42 → A' x (xm_n S 1 3) = [2, a2, a3, a4, a5, 0, 0, 0, 0, 0, 0, a2].getD (x - 31) 0 := fun x z1 z2 => by rw [hv, if_neg (by omega), if_neg (by omega), if_pos ⟨z1, z2, rfl⟩]
    refine (k_newGuard (d := 1) (A' := A') (a1 := 2) (a2 := a2) (a3 := a3) (a4 := a4) (a5 := a5) hKK hlt (fun x k hk => ?_) ?_ ⟨vv 31 (by decide) (by decide), vv 32 (by decide) (by decide), vv 33 (by decide) (by decide), vv 34 (by decide) (by decide), vv 35 (by decide) (by decide), vv 36 (by decide) (by decide), vv 37 (by decide) (by decide), vv 38 (by decide) (by decide), vv 39 (by decide) (by decide), vv 40 (by decide) (by decide), vv 41 (by decide) (by decide), fun z => vv 42 (by decide) (by decide)⟩ (fun s hs => ?_) ⟨?_, ?_, ?_, ?_, ?_⟩ (fun S' hS' => ?_)).mono (fun r S13 y => ⟨y.1, y.2.1, y.2.2.1, y.2.2.2.1, fun S17 e17 => ?_⟩)
    · unfold kOld at hk
      rw [hv, if_neg (by omega), if_neg (by omega), if_neg (by omega)]
    · rw [hv, if_pos ⟨rfl, rfl⟩]
    · rw [hv, if_neg (by omega), if_pos ⟨rfl, by omega, by omega⟩]
    · rw [hv, if_neg (by decide), if_neg (by omega), if_neg (by omega)]
    · rw [hv, if_neg (by decide), if_neg (by omega), if_neg (by omega)]
    · rw [hv, if_neg (by decide), if_neg (by omega), if_neg (by omega)]
    · rw [hv, if_neg (by decide), if_neg (by omega), if_neg (by omega)]
    · rw [hv, if_neg (by decide), if_neg (by omega), if_neg (by omega)]
    · unfold kgr
      rw [show A' 31 (xm_n S 1 3) = 2 from vv 31 (by decide) (by decide), show A' 32 (xm_n S 1 3) = a2 from vv 32 (by decide) (by decide), show A' 33 (xm_n S 1 3) = a3 from vv 33 (by decide) (by decide), show A' 34 (xm_n S 1 3) = a4 from vv 34 (by decide) (by decide), show A' 35 (xm_n S 1 3) = a5 from vv 35 (by decide) (by decide), show A' 42 (xm_n S 1 3) = a2 from vv 42 (by decide) (by decide)]
      refine ⟨by decide, ⟨Int32.not_lt.mp c6, Int32.le_trans (Int32.not_lt.mp c7) (by decide)⟩, fun z => absurd z (by decide), fun z => absurd z (by decide), fun z => absurd z (by decide), fun z => absurd z (by decide), fun _ => ⟨Int32.not_lt.mp c0, Int32.not_lt.mp c1, Int32.not_lt.mp c2, Int32.not_lt.mp c3⟩, fun z => absurd z (by decide), fun z => absurd z (by decide), fun z => absurd z (by decide), fun z => absurd z (by decide), fun _ => ⟨Int32.le_trans (by decide) (Int32.not_lt.mp c0), Int32.le_refl _⟩⟩
    obtain ⟨z1, z2⟩ := y.2.2.2.2 S17 e17
    rw [z1, nI_pred]
    exact lf _ _ e _ z2
theorem g_guard_3 {S : xm_S} {A : y_A} {t : Nat} {a2 a3 a4 a5 : Int32} (hK : kK S A t) : xc 2 7 [.inr (some (0, 0)), .inl 3, .inl a2, .inl a3, .inl a4, .inl a5] S (fun r S' => r = some (.inl (rf_guard 3 a2 a3 a4 a5 A).1) ∧ kK S' (rf_guard 3 a2 a3 a4 a5 A).2 t) := by
  have hKK := hK
  obtain ⟨⟨⟨⟨hC, hcnt, hb, hl, ht, hv, h1, h2, h3, -⟩, -⟩, hS, -⟩, ⟨-, -, -, hO, hcap, -⟩⟩ := hK
  have hbb := hb
  unfold k_bnd at hbb
  obtain ⟨w1, w2, w3, w4, w5, w6, w7, w8, w9, w10, w11⟩ := hcnt
  have hF : (nI (xm_n S 1 3) = (24 : Int32)) = ¬ (nI (xm_n S 1 3) < (24 : Int32)) := k_full (m := 24) (by omega) (by decide)
  have lf : ∀ v A', rf_guard 3 a2 a3 a4 a5 A = (v, A') → ∀ S', kK S' A' t → (some (.inl v) : Option xm_V) = some (.inl (rf_guard 3 a2 a3 a4 a5 A).1) ∧ kK S' (rf_guard 3 a2 a3 a4 a5 A).2 t := fun v A' e S' h => by
    rw [e]
    exact ⟨rfl, h⟩
  have TB : ∀ k, k < 6 → xm_i S 16 k (y_ix (nI 3)) = (kS_T.getD k []).getD 3 0 := fun k hk => by
    rw [y_ix_nI (by decide)]
    exact (hS k (by omega)).2 3 (by
      obtain rfl | rfl | rfl | rfl | rfl | rfl : k = 0 ∨ k = 1 ∨ k = 2 ∨ k = 3 ∨ k = 4 ∨ k = 5 := by omega
      all_goals decide)
  refine cw_guard_j (d := 0) (j := 3) (l0 := 1) (h0 := 1000) (l1 := 0) (h1 := 0) (h2 := 0) (h3 := 0) (by decide) hS hC hl hb.1 (TB 0 (by decide)) (TB 1 (by decide)) (TB 2 (by decide)) (TB 3 (by decide)) (TB 4 (by decide)) (TB 5 (by decide)) ?_ ?_
  · exact fun z => absurd z (by decide)
  intro hN
  refine ⟨fun hf => ?_, fun hf hn => ?_, fun hf hn => ?_⟩
  · by_cases c0 : a2 < 1
    · refine lf (-2) A ?_ S hKK
      rw [kgr_3, if_pos (by simp (decide := true) only [rf_isGood, rf_in, k_eq0 a2, k_eq0 a3, k_eq0 a4, if_true, if_false, not_true_eq_false, not_false_eq_true, and_true, and_false, true_and, false_and, c0, ite_self])]
    by_cases c1 : (1000 : Int32) < a2
    · refine lf (-2) A ?_ S hKK
      rw [kgr_3, if_pos (by simp (decide := true) only [rf_isGood, rf_in, k_eq0 a2, k_eq0 a3, k_eq0 a4, if_true, if_false, not_true_eq_false, not_false_eq_true, and_true, and_false, true_and, false_and, c0, c1, ite_self])]
    by_cases c2 : a3 < 0
    · refine lf (-2) A ?_ S hKK
      rw [kgr_3, if_pos (by simp (decide := true) only [rf_isGood, rf_in, k_eq0 a2, k_eq0 a3, k_eq0 a4, if_true, if_false, not_true_eq_false, not_false_eq_true, and_true, and_false, true_and, false_and, c0, c1, c2, ite_self])]
    by_cases c3 : (0 : Int32) < a3
    · refine lf (-2) A ?_ S hKK
      rw [kgr_3, if_pos (by simp (decide := true) only [rf_isGood, rf_in, k_eq0 a2, k_eq0 a3, k_eq0 a4, if_true, if_false, not_true_eq_false, not_false_eq_true, and_true, and_false, true_and, false_and, c0, c1, c2, c3, ite_self])]
    by_cases c4 : a4 < 0
    · refine lf (-2) A ?_ S hKK
      rw [kgr_3, if_pos (by simp (decide := true) only [rf_isGood, rf_in, k_eq0 a2, k_eq0 a3, k_eq0 a4, if_true, if_false, not_true_eq_false, not_false_eq_true, and_true, and_false, true_and, false_and, c0, c1, c2, c3, c4, ite_self])]
    by_cases c5 : (0 : Int32) < a4
    · refine lf (-2) A ?_ S hKK
      rw [kgr_3, if_pos (by simp (decide := true) only [rf_isGood, rf_in, k_eq0 a2, k_eq0 a3, k_eq0 a4, if_true, if_false, not_true_eq_false, not_false_eq_true, and_true, and_false, true_and, false_and, c0, c1, c2, c3, c4, c5, ite_self])]
    by_cases c6 : a5 < 0
    · refine lf (-2) A ?_ S hKK
      rw [kgr_3, if_pos (c := rf_in a5 0 0 A = 0) (by simp (decide := true) only [rf_isGood, rf_in, k_eq0 a2, k_eq0 a3, k_eq0 a4, if_true, if_false, not_true_eq_false, not_false_eq_true, and_true, and_false, true_and, false_and, c0, c1, c2, c3, c4, c5, c6]), ite_self]
    by_cases c7 : (0 : Int32) < a5
    · refine lf (-2) A ?_ S hKK
      rw [kgr_3, if_pos (c := rf_in a5 0 0 A = 0) (by simp (decide := true) only [rf_isGood, rf_in, k_eq0 a2, k_eq0 a3, k_eq0 a4, if_true, if_false, not_true_eq_false, not_false_eq_true, and_true, and_false, true_and, false_and, c0, c1, c2, c3, c4, c5, c6, c7]), ite_self]
    exact absurd ⟨c0, c1, c2, c3, c4, c5, c6, c7⟩ hf
  · obtain ⟨c0, c1, c2, c3, c4, c5, c6, c7⟩ := hf
    have hg : ¬ rf_isGood 3 a2 a3 a4 A = 0 := by simp (decide := true) only [rf_isGood, rf_in, k_eq0 a2, k_eq0 a3, k_eq0 a4, if_true, if_false, not_true_eq_false, not_false_eq_true, and_true, and_false, true_and, false_and, c0, c1, c2, c3, c4, c5]
    have hi : ¬ rf_in a5 0 0 A = 0 := by simp (decide := true) only [rf_in, c6, c7, if_true, if_false]
    refine lf (-3) A ?_ S hKK
    rw [kgr_3, if_neg hg, if_neg hi, w4, if_pos (by rw [hF]; exact hn)]
  · obtain ⟨c0, c1, c2, c3, c4, c5, c6, c7⟩ := hf
    have hg : ¬ rf_isGood 3 a2 a3 a4 A = 0 := by simp (decide := true) only [rf_isGood, rf_in, k_eq0 a2, k_eq0 a3, k_eq0 a4, if_true, if_false, not_true_eq_false, not_false_eq_true, and_true, and_false, true_and, false_and, c0, c1, c2, c3, c4, c5]
    have hi : ¬ rf_in a5 0 0 A = 0 := by simp (decide := true) only [rf_in, c6, c7, if_true, if_false]
    have hlt : xm_n S 1 3 < 24 := (nI_ltI (b := 24) (by omega) (by decide)).mp hn
    have hv := kgX.v hlt w4 3 a2 a3 a4 a5 0 0
    have e : rf_guard 3 a2 a3 a4 a5 A = (nI (xm_n S 1 3), kgX A 3 a2 a3 a4 a5 0 0) := by
      rw [kgr_3, if_neg hg, if_neg hi, w4, if_neg (by rw [hF]; exact fun z => z hn), ← w4]
    generalize kgX A 3 a2 a3 a4 a5 0 0 = A' at hv e
    have vv : ∀ x, 31 ≤ x → x ≤ 42 → A' x (xm_n S 1 3) = [3, a2, a3, a4, a5, 0, 0, 0, 0, 0, 0, 0].getD (x - 31) 0 := fun x z1 z2 => by rw [hv, if_neg (by omega), if_neg (by omega), if_pos ⟨z1, z2, rfl⟩]
    refine (k_newGuard (d := 1) (A' := A') (a1 := 3) (a2 := a2) (a3 := a3) (a4 := a4) (a5 := a5) hKK hlt (fun x k hk => ?_) ?_ ⟨vv 31 (by decide) (by decide), vv 32 (by decide) (by decide), vv 33 (by decide) (by decide), vv 34 (by decide) (by decide), vv 35 (by decide) (by decide), vv 36 (by decide) (by decide), vv 37 (by decide) (by decide), vv 38 (by decide) (by decide), vv 39 (by decide) (by decide), vv 40 (by decide) (by decide), vv 41 (by decide) (by decide), fun z => absurd z (by decide)⟩ (fun s hs => ?_) ⟨?_, ?_, ?_, ?_, ?_⟩ (fun S' hS' => ?_)).mono (fun r S13 y => ⟨y.1, y.2.1, y.2.2.1, y.2.2.2.1, fun S17 e17 => ?_⟩)
    · unfold kOld at hk
      rw [hv, if_neg (by omega), if_neg (by omega), if_neg (by omega)]
    · rw [hv, if_pos ⟨rfl, rfl⟩]
    · rw [hv, if_neg (by omega), if_pos ⟨rfl, by omega, by omega⟩]
    · rw [hv, if_neg (by decide), if_neg (by omega), if_neg (by omega)]
    · rw [hv, if_neg (by decide), if_neg (by omega), if_neg (by omega)]
    · rw [hv, if_neg (by decide), if_neg (by omega), if_neg (by omega)]
    · rw [hv, if_neg (by decide), if_neg (by omega), if_neg (by omega)]
    · rw [hv, if_neg (by decide), if_neg (by omega), if_neg (by omega)]
    · unfold kgr
      rw [show A' 31 (xm_n S 1 3) = 3 from vv 31 (by decide) (by decide), show A' 32 (xm_n S 1 3) = a2 from vv 32 (by decide) (by decide), show A' 33 (xm_n S 1 3) = a3 from vv 33 (by decide) (by decide), show A' 34 (xm_n S 1 3) = a4 from vv 34 (by decide) (by decide), show A' 35 (xm_n S 1 3) = a5 from vv 35 (by decide) (by decide), show A' 42 (xm_n S 1 3) = 0 from vv 42 (by decide) (by decide)]
      refine ⟨by decide, ⟨Int32.not_lt.mp c6, Int32.le_trans (Int32.not_lt.mp c7) (by decide)⟩, fun z => absurd z (by decide), fun z => absurd z (by decide), fun z => absurd z (by decide), fun z => absurd z (by decide), fun z => absurd z (by decide), fun _ => ⟨Int32.not_lt.mp c0, Int32.not_lt.mp c1⟩, fun z => absurd z (by decide), fun z => absurd z (by decide), fun z => absurd z (by decide), fun z => absurd z (by decide)⟩
    obtain ⟨z1, z2⟩ := y.2.2.2.2 S17 e17
    rw [z1, nI_pred]
    exact lf _ _ e _ z2
theorem g_guard_4 {S : xm_S} {A : y_A} {t : Nat} {a2 a3 a4 a5 : Int32} (hK : kK S A t) : xc 2 7 [.inr (some (0, 0)), .inl 4, .inl a2, .inl a3, .inl a4, .inl a5] S (fun r S' => r = some (.inl (rf_guard 4 a2 a3 a4 a5 A).1) ∧ kK S' (rf_guard 4 a2 a3 a4 a5 A).2 t) := by
  have hKK := hK
  obtain ⟨⟨⟨⟨hC, hcnt, hb, hl, ht, hv, h1, h2, h3, -⟩, -⟩, hS, -⟩, ⟨-, -, -, hO, hcap, -⟩⟩ := hK
  have hbb := hb
  unfold k_bnd at hbb
  obtain ⟨w1, w2, w3, w4, w5, w6, w7, w8, w9, w10, w11⟩ := hcnt
  have hF : (nI (xm_n S 1 3) = (24 : Int32)) = ¬ (nI (xm_n S 1 3) < (24 : Int32)) := k_full (m := 24) (by omega) (by decide)
  have lf : ∀ v A', rf_guard 4 a2 a3 a4 a5 A = (v, A') → ∀ S', kK S' A' t → (some (.inl v) : Option xm_V) = some (.inl (rf_guard 4 a2 a3 a4 a5 A).1) ∧ kK S' (rf_guard 4 a2 a3 a4 a5 A).2 t := fun v A' e S' h => by
    rw [e]
    exact ⟨rfl, h⟩
  have TB : ∀ k, k < 6 → xm_i S 16 k (y_ix (nI 4)) = (kS_T.getD k []).getD 4 0 := fun k hk => by
    rw [y_ix_nI (by decide)]
    exact (hS k (by omega)).2 4 (by
      obtain rfl | rfl | rfl | rfl | rfl | rfl : k = 0 ∨ k = 1 ∨ k = 2 ∨ k = 3 ∨ k = 4 ∨ k = 5 := by omega
      all_goals decide)
  refine cw_guard_j (d := 0) (j := 4) (l0 := 2) (h0 := 6) (l1 := 1) (h1 := 50) (h2 := 1) (h3 := 15) (by decide) hS hC hl hb.1 (TB 0 (by decide)) (TB 1 (by decide)) (TB 2 (by decide)) (TB 3 (by decide)) (TB 4 (by decide)) (TB 5 (by decide)) ?_ ?_
  · exact fun z => absurd z (by decide)
  intro hN
  refine ⟨fun hf => ?_, fun hf hn => ?_, fun hf hn => ?_⟩
  · by_cases c0 : a2 < 2
    · refine lf (-2) A ?_ S hKK
      rw [kgr_4, if_pos (by simp (decide := true) only [rf_isGood, rf_in, k_eq0 a2, k_eq0 a3, k_eq0 a4, if_true, if_false, not_true_eq_false, not_false_eq_true, and_true, and_false, true_and, false_and, c0, ite_self])]
    by_cases c1 : (6 : Int32) < a2
    · refine lf (-2) A ?_ S hKK
      rw [kgr_4, if_pos (by simp (decide := true) only [rf_isGood, rf_in, k_eq0 a2, k_eq0 a3, k_eq0 a4, if_true, if_false, not_true_eq_false, not_false_eq_true, and_true, and_false, true_and, false_and, c0, c1, ite_self])]
    by_cases c2 : a3 < 1
    · refine lf (-2) A ?_ S hKK
      rw [kgr_4, if_pos (by simp (decide := true) only [rf_isGood, rf_in, k_eq0 a2, k_eq0 a3, k_eq0 a4, if_true, if_false, not_true_eq_false, not_false_eq_true, and_true, and_false, true_and, false_and, c0, c1, c2, ite_self])]
    by_cases c3 : (50 : Int32) < a3
    · refine lf (-2) A ?_ S hKK
      rw [kgr_4, if_pos (by simp (decide := true) only [rf_isGood, rf_in, k_eq0 a2, k_eq0 a3, k_eq0 a4, if_true, if_false, not_true_eq_false, not_false_eq_true, and_true, and_false, true_and, false_and, c0, c1, c2, c3, ite_self])]
    by_cases c4 : a4 < 0
    · refine lf (-2) A ?_ S hKK
      rw [kgr_4, if_pos (by simp (decide := true) only [rf_isGood, rf_in, k_eq0 a2, k_eq0 a3, k_eq0 a4, if_true, if_false, not_true_eq_false, not_false_eq_true, and_true, and_false, true_and, false_and, c0, c1, c2, c3, c4, ite_self])]
    by_cases c5 : (1 : Int32) < a4
    · refine lf (-2) A ?_ S hKK
      rw [kgr_4, if_pos (by simp (decide := true) only [rf_isGood, rf_in, k_eq0 a2, k_eq0 a3, k_eq0 a4, if_true, if_false, not_true_eq_false, not_false_eq_true, and_true, and_false, true_and, false_and, c0, c1, c2, c3, c4, c5, ite_self])]
    by_cases c6 : a5 < 0
    · refine lf (-2) A ?_ S hKK
      rw [kgr_4, if_pos (c := rf_in a5 0 15 A = 0) (by simp (decide := true) only [rf_isGood, rf_in, k_eq0 a2, k_eq0 a3, k_eq0 a4, if_true, if_false, not_true_eq_false, not_false_eq_true, and_true, and_false, true_and, false_and, c0, c1, c2, c3, c4, c5, c6]), ite_self]
    by_cases c7 : (15 : Int32) < a5
    · refine lf (-2) A ?_ S hKK
      rw [kgr_4, if_pos (c := rf_in a5 0 15 A = 0) (by simp (decide := true) only [rf_isGood, rf_in, k_eq0 a2, k_eq0 a3, k_eq0 a4, if_true, if_false, not_true_eq_false, not_false_eq_true, and_true, and_false, true_and, false_and, c0, c1, c2, c3, c4, c5, c6, c7]), ite_self]
    exact absurd ⟨c0, c1, c2, c3, c4, c5, c6, c7⟩ hf
  · obtain ⟨c0, c1, c2, c3, c4, c5, c6, c7⟩ := hf
    have hg : ¬ rf_isGood 4 a2 a3 a4 A = 0 := by simp (decide := true) only [rf_isGood, rf_in, k_eq0 a2, k_eq0 a3, k_eq0 a4, if_true, if_false, not_true_eq_false, not_false_eq_true, and_true, and_false, true_and, false_and, c0, c1, c2, c3, c4, c5]
    have hi : ¬ rf_in a5 0 15 A = 0 := by simp (decide := true) only [rf_in, c6, c7, if_true, if_false]
    refine lf (-3) A ?_ S hKK
    rw [kgr_4, if_neg hg, if_neg hi, w4, if_pos (by rw [hF]; exact hn)]
  · obtain ⟨c0, c1, c2, c3, c4, c5, c6, c7⟩ := hf
    have hg : ¬ rf_isGood 4 a2 a3 a4 A = 0 := by simp (decide := true) only [rf_isGood, rf_in, k_eq0 a2, k_eq0 a3, k_eq0 a4, if_true, if_false, not_true_eq_false, not_false_eq_true, and_true, and_false, true_and, false_and, c0, c1, c2, c3, c4, c5]
    have hi : ¬ rf_in a5 0 15 A = 0 := by simp (decide := true) only [rf_in, c6, c7, if_true, if_false]
    have hlt : xm_n S 1 3 < 24 := (nI_ltI (b := 24) (by omega) (by decide)).mp hn
    have hv := kgX.v hlt w4 4 a2 a3 a4 a5 1 0
    have e : rf_guard 4 a2 a3 a4 a5 A = (nI (xm_n S 1 3), kgX A 4 a2 a3 a4 a5 1 0) := by
      rw [kgr_4, if_neg hg, if_neg hi, w4, if_neg (by rw [hF]; exact fun z => z hn), ← w4]
    generalize kgX A 4 a2 a3 a4 a5 1 0 = A' at hv e
    have vv : ∀ x, 31 ≤ x → x ≤ 42 → A' x (xm_n S 1 3) = [4, a2, a3, a4, a5, 0, 0, 0, 0, 0, 0, 0].getD (x - 31) 0 := fun x z1 z2 => by rw [hv, if_neg (by omega), if_neg (by omega), if_pos ⟨z1, z2, rfl⟩]
    refine (k_newGuard (d := 1) (A' := A') (a1 := 4) (a2 := a2) (a3 := a3) (a4 := a4) (a5 := a5) hKK hlt (fun x k hk => ?_) ?_ ⟨vv 31 (by decide) (by decide), vv 32 (by decide) (by decide), vv 33 (by decide) (by decide), vv 34 (by decide) (by decide), vv 35 (by decide) (by decide), vv 36 (by decide) (by decide), vv 37 (by decide) (by decide), vv 38 (by decide) (by decide), vv 39 (by decide) (by decide), vv 40 (by decide) (by decide), vv 41 (by decide) (by decide), fun z => absurd z (by decide)⟩ (fun s hs => ?_) ⟨?_, ?_, ?_, ?_, ?_⟩ (fun S' hS' => ?_)).mono (fun r S13 y => ⟨y.1, y.2.1, y.2.2.1, y.2.2.2.1, fun S17 e17 => ?_⟩)
    · unfold kOld at hk
      rw [hv, if_neg (by omega), if_neg (by omega), if_neg (by omega)]
    · rw [hv, if_pos ⟨rfl, rfl⟩]
    · rw [hv, if_neg (by omega), if_pos ⟨rfl, by omega, by omega⟩]
    · rw [hv, if_neg (by decide), if_neg (by omega), if_neg (by omega)]
    · rw [hv, if_neg (by decide), if_neg (by omega), if_neg (by omega)]
    · rw [hv, if_neg (by decide), if_neg (by omega), if_neg (by omega)]
    · rw [hv, if_neg (by decide), if_neg (by omega), if_neg (by omega)]
    · rw [hv, if_neg (by decide), if_neg (by omega), if_neg (by omega)]
    · unfold kgr
      rw [show A' 31 (xm_n S 1 3) = 4 from vv 31 (by decide) (by decide), show A' 32 (xm_n S 1 3) = a2 from vv 32 (by decide) (by decide), show A' 33 (xm_n S 1 3) = a3 from vv 33 (by decide) (by decide), show A' 34 (xm_n S 1 3) = a4 from vv 34 (by decide) (by decide), show A' 35 (xm_n S 1 3) = a5 from vv 35 (by decide) (by decide), show A' 42 (xm_n S 1 3) = 0 from vv 42 (by decide) (by decide)]
      refine ⟨by decide, ⟨Int32.not_lt.mp c6, Int32.not_lt.mp c7⟩, fun z => absurd z (by decide), fun z => absurd z (by decide), fun z => absurd z (by decide), fun z => absurd z (by decide), fun z => absurd z (by decide), fun z => absurd z (by decide), fun _ => ⟨Int32.not_lt.mp c0, Int32.not_lt.mp c1, Int32.not_lt.mp c2, Int32.not_lt.mp c3, k01of c4 c5⟩, fun z => absurd z (by decide), fun z => absurd z (by decide), fun z => absurd z (by decide)⟩
    obtain ⟨z1, z2⟩ := y.2.2.2.2 S17 e17
    rw [z1, nI_pred]
    exact lf _ _ e _ z2
theorem g_guard_5 {S : xm_S} {A : y_A} {t : Nat} {a2 a3 a4 a5 : Int32} (hK : kK S A t) : xc 2 7 [.inr (some (0, 0)), .inl 5, .inl a2, .inl a3, .inl a4, .inl a5] S (fun r S' => r = some (.inl (rf_guard 5 a2 a3 a4 a5 A).1) ∧ kK S' (rf_guard 5 a2 a3 a4 a5 A).2 t) := by
  have hKK := hK
  obtain ⟨⟨⟨⟨hC, hcnt, hb, hl, ht, hv, h1, h2, h3, -⟩, -⟩, hS, -⟩, ⟨-, -, -, hO, hcap, -⟩⟩ := hK
  have hbb := hb
  unfold k_bnd at hbb
  obtain ⟨w1, w2, w3, w4, w5, w6, w7, w8, w9, w10, w11⟩ := hcnt
  have hF : (nI (xm_n S 1 3) = (24 : Int32)) = ¬ (nI (xm_n S 1 3) < (24 : Int32)) := k_full (m := 24) (by omega) (by decide)
  have lf : ∀ v A', rf_guard 5 a2 a3 a4 a5 A = (v, A') → ∀ S', kK S' A' t → (some (.inl v) : Option xm_V) = some (.inl (rf_guard 5 a2 a3 a4 a5 A).1) ∧ kK S' (rf_guard 5 a2 a3 a4 a5 A).2 t := fun v A' e S' h => by
    rw [e]
    exact ⟨rfl, h⟩
  have TB : ∀ k, k < 6 → xm_i S 16 k (y_ix (nI 5)) = (kS_T.getD k []).getD 5 0 := fun k hk => by
    rw [y_ix_nI (by decide)]
    exact (hS k (by omega)).2 5 (by
      obtain rfl | rfl | rfl | rfl | rfl | rfl : k = 0 ∨ k = 1 ∨ k = 2 ∨ k = 3 ∨ k = 4 ∨ k = 5 := by omega
      all_goals decide)
  refine cw_guard_j (d := 0) (j := 5) (l0 := 1) (h0 := 100) (l1 := 0) (h1 := 0) (h2 := 0) (h3 := 0) (by decide) hS hC hl hb.1 (TB 0 (by decide)) (TB 1 (by decide)) (TB 2 (by decide)) (TB 3 (by decide)) (TB 4 (by decide)) (TB 5 (by decide)) ?_ ?_
  · exact fun z => absurd z (by decide)
  intro hN
  refine ⟨fun hf => ?_, fun hf hn => ?_, fun hf hn => ?_⟩
  · by_cases c0 : a2 < 1
    · refine lf (-2) A ?_ S hKK
      rw [kgr_5, if_pos (by simp (decide := true) only [rf_isGood, rf_in, k_eq0 a2, k_eq0 a3, k_eq0 a4, if_true, if_false, not_true_eq_false, not_false_eq_true, and_true, and_false, true_and, false_and, c0, ite_self])]
    by_cases c1 : (100 : Int32) < a2
    · refine lf (-2) A ?_ S hKK
      rw [kgr_5, if_pos (by simp (decide := true) only [rf_isGood, rf_in, k_eq0 a2, k_eq0 a3, k_eq0 a4, if_true, if_false, not_true_eq_false, not_false_eq_true, and_true, and_false, true_and, false_and, c0, c1, ite_self])]
    by_cases c2 : a3 < 0
    · refine lf (-2) A ?_ S hKK
      rw [kgr_5, if_pos (by simp (decide := true) only [rf_isGood, rf_in, k_eq0 a2, k_eq0 a3, k_eq0 a4, if_true, if_false, not_true_eq_false, not_false_eq_true, and_true, and_false, true_and, false_and, c0, c1, c2, ite_self])]
    by_cases c3 : (0 : Int32) < a3
    · refine lf (-2) A ?_ S hKK
      rw [kgr_5, if_pos (by simp (decide := true) only [rf_isGood, rf_in, k_eq0 a2, k_eq0 a3, k_eq0 a4, if_true, if_false, not_true_eq_false, not_false_eq_true, and_true, and_false, true_and, false_and, c0, c1, c2, c3, ite_self])]
    by_cases c4 : a4 < 0
    · refine lf (-2) A ?_ S hKK
      rw [kgr_5, if_pos (by simp (decide := true) only [rf_isGood, rf_in, k_eq0 a2, k_eq0 a3, k_eq0 a4, if_true, if_false, not_true_eq_false, not_false_eq_true, and_true, and_false, true_and, false_and, c0, c1, c2, c3, c4, ite_self])]
    by_cases c5 : (0 : Int32) < a4
    · refine lf (-2) A ?_ S hKK
      rw [kgr_5, if_pos (by simp (decide := true) only [rf_isGood, rf_in, k_eq0 a2, k_eq0 a3, k_eq0 a4, if_true, if_false, not_true_eq_false, not_false_eq_true, and_true, and_false, true_and, false_and, c0, c1, c2, c3, c4, c5, ite_self])]
    by_cases c6 : a5 < 0
    · refine lf (-2) A ?_ S hKK
      rw [kgr_5, if_pos (c := rf_in a5 0 0 A = 0) (by simp (decide := true) only [rf_isGood, rf_in, k_eq0 a2, k_eq0 a3, k_eq0 a4, if_true, if_false, not_true_eq_false, not_false_eq_true, and_true, and_false, true_and, false_and, c0, c1, c2, c3, c4, c5, c6]), ite_self]
    by_cases c7 : (0 : Int32) < a5
    · refine lf (-2) A ?_ S hKK
      rw [kgr_5, if_pos (c := rf_in a5 0 0 A = 0) (by simp (decide := true) only [rf_isGood, rf_in, k_eq0 a2, k_eq0 a3, k_eq0 a4, if_true, if_false, not_true_eq_false, not_false_eq_true, and_true, and_false, true_and, false_and, c0, c1, c2, c3, c4, c5, c6, c7]), ite_self]
    exact absurd ⟨c0, c1, c2, c3, c4, c5, c6, c7⟩ hf
  · obtain ⟨c0, c1, c2, c3, c4, c5, c6, c7⟩ := hf
    have hg : ¬ rf_isGood 5 a2 a3 a4 A = 0 := by simp (decide := true) only [rf_isGood, rf_in, k_eq0 a2, k_eq0 a3, k_eq0 a4, if_true, if_false, not_true_eq_false, not_false_eq_true, and_true, and_false, true_and, false_and, c0, c1, c2, c3, c4, c5]
    have hi : ¬ rf_in a5 0 0 A = 0 := by simp (decide := true) only [rf_in, c6, c7, if_true, if_false]
    refine lf (-3) A ?_ S hKK
    rw [kgr_5, if_neg hg, if_neg hi, w4, if_pos (by rw [hF]; exact hn)]
  · obtain ⟨c0, c1, c2, c3, c4, c5, c6, c7⟩ := hf
    have hg : ¬ rf_isGood 5 a2 a3 a4 A = 0 := by simp (decide := true) only [rf_isGood, rf_in, k_eq0 a2, k_eq0 a3, k_eq0 a4, if_true, if_false, not_true_eq_false, not_false_eq_true, and_true, and_false, true_and, false_and, c0, c1, c2, c3, c4, c5]
    have hi : ¬ rf_in a5 0 0 A = 0 := by simp (decide := true) only [rf_in, c6, c7, if_true, if_false]
    have hlt : xm_n S 1 3 < 24 := (nI_ltI (b := 24) (by omega) (by decide)).mp hn
    have hv := kgX.v hlt w4 5 a2 a3 a4 a5 0 0
    have e : rf_guard 5 a2 a3 a4 a5 A = (nI (xm_n S 1 3), kgX A 5 a2 a3 a4 a5 0 0) := by
      rw [kgr_5, if_neg hg, if_neg hi, w4, if_neg (by rw [hF]; exact fun z => z hn), ← w4]
    generalize kgX A 5 a2 a3 a4 a5 0 0 = A' at hv e
    have vv : ∀ x, 31 ≤ x → x ≤ 42 → A' x (xm_n S 1 3) = [5, a2, a3, a4, a5, 0, 0, 0, 0, 0, 0, 0].getD (x - 31) 0 := fun x z1 z2 => by rw [hv, if_neg (by omega), if_neg (by omega), if_pos ⟨z1, z2, rfl⟩]
    refine (k_newGuard (d := 1) (A' := A') (a1 := 5) (a2 := a2) (a3 := a3) (a4 := a4) (a5 := a5) hKK hlt (fun x k hk => ?_) ?_ ⟨vv 31 (by decide) (by decide), vv 32 (by decide) (by decide), vv 33 (by decide) (by decide), vv 34 (by decide) (by decide), vv 35 (by decide) (by decide), vv 36 (by decide) (by decide), vv 37 (by decide) (by decide), vv 38 (by decide) (by decide), vv 39 (by decide) (by decide), vv 40 (by decide) (by decide), vv 41 (by decide) (by decide), fun z => absurd z (by decide)⟩ (fun s hs => ?_) ⟨?_, ?_, ?_, ?_, ?_⟩ (fun S' hS' => ?_)).mono (fun r S13 y => ⟨y.1, y.2.1, y.2.2.1, y.2.2.2.1, fun S17 e17 => ?_⟩)
    · unfold kOld at hk
      rw [hv, if_neg (by omega), if_neg (by omega), if_neg (by omega)]
    · rw [hv, if_pos ⟨rfl, rfl⟩]
    · rw [hv, if_neg (by omega), if_pos ⟨rfl, by omega, by omega⟩]
    · rw [hv, if_neg (by decide), if_neg (by omega), if_neg (by omega)]
    · rw [hv, if_neg (by decide), if_neg (by omega), if_neg (by omega)]
    · rw [hv, if_neg (by decide), if_neg (by omega), if_neg (by omega)]
    · rw [hv, if_neg (by decide), if_neg (by omega), if_neg (by omega)]
    · rw [hv, if_neg (by decide), if_neg (by omega), if_neg (by omega)]
    · unfold kgr
      rw [show A' 31 (xm_n S 1 3) = 5 from vv 31 (by decide) (by decide), show A' 32 (xm_n S 1 3) = a2 from vv 32 (by decide) (by decide), show A' 33 (xm_n S 1 3) = a3 from vv 33 (by decide) (by decide), show A' 34 (xm_n S 1 3) = a4 from vv 34 (by decide) (by decide), show A' 35 (xm_n S 1 3) = a5 from vv 35 (by decide) (by decide), show A' 42 (xm_n S 1 3) = 0 from vv 42 (by decide) (by decide)]
      refine ⟨by decide, ⟨Int32.not_lt.mp c6, Int32.le_trans (Int32.not_lt.mp c7) (by decide)⟩, fun z => absurd z (by decide), fun z => absurd z (by decide), fun z => absurd z (by decide), fun z => absurd z (by decide), fun z => absurd z (by decide), fun z => absurd z (by decide), fun z => absurd z (by decide), fun _ => ⟨Int32.not_lt.mp c0, Int32.not_lt.mp c1⟩, fun z => absurd z (by decide), fun z => absurd z (by decide)⟩
    obtain ⟨z1, z2⟩ := y.2.2.2.2 S17 e17
    rw [z1, nI_pred]
    exact lf _ _ e _ z2
theorem g_guard_6 {S : xm_S} {A : y_A} {t : Nat} {a2 a3 a4 a5 : Int32} (hK : kK S A t) : xc 2 7 [.inr (some (0, 0)), .inl 6, .inl a2, .inl a3, .inl a4, .inl a5] S (fun r S' => r = some (.inl (rf_guard 6 a2 a3 a4 a5 A).1) ∧ kK S' (rf_guard 6 a2 a3 a4 a5 A).2 t) := by
  have hKK := hK
  obtain ⟨⟨⟨⟨hC, hcnt, hb, hl, ht, hv, h1, h2, h3, -⟩, -⟩, hS, -⟩, ⟨-, -, -, hO, hcap, -⟩⟩ := hK
  have hbb := hb
  unfold k_bnd at hbb
  obtain ⟨w1, w2, w3, w4, w5, w6, w7, w8, w9, w10, w11⟩ := hcnt
  have hF : (nI (xm_n S 1 3) = (24 : Int32)) = ¬ (nI (xm_n S 1 3) < (24 : Int32)) := k_full (m := 24) (by omega) (by decide)
  have lf : ∀ v A', rf_guard 6 a2 a3 a4 a5 A = (v, A') → ∀ S', kK S' A' t → (some (.inl v) : Option xm_V) = some (.inl (rf_guard 6 a2 a3 a4 a5 A).1) ∧ kK S' (rf_guard 6 a2 a3 a4 a5 A).2 t := fun v A' e S' h => by
    rw [e]
    exact ⟨rfl, h⟩
  have TB : ∀ k, k < 6 → xm_i S 16 k (y_ix (nI 6)) = (kS_T.getD k []).getD 6 0 := fun k hk => by
    rw [y_ix_nI (by decide)]
    exact (hS k (by omega)).2 6 (by
      obtain rfl | rfl | rfl | rfl | rfl | rfl : k = 0 ∨ k = 1 ∨ k = 2 ∨ k = 3 ∨ k = 4 ∨ k = 5 := by omega
      all_goals decide)
  refine cw_guard_j (d := 0) (j := 6) (l0 := 0) (h0 := 1) (l1 := 0) (h1 := 1000000) (h2 := 0) (h3 := 15) (by decide) hS hC hl hb.1 (TB 0 (by decide)) (TB 1 (by decide)) (TB 2 (by decide)) (TB 3 (by decide)) (TB 4 (by decide)) (TB 5 (by decide)) ?_ ?_
  · intro _ z2 z3
    refine lf (-1) A ?_ S hKK
    rw [kgr_6, if_pos z2]
    unfold rf_isStation
    rcases z3 with z | z
    · rw [if_pos z, if_pos rfl]
    · by_cases z4 : a3 < 0
      · rw [if_pos z4, if_pos rfl]
      · rw [if_neg z4, w1, if_pos z, if_pos rfl]
  intro hN
  have hst : a2 = 1 → rf_isStation a3 A = 1 ∧ ¬ a3 < 0 ∧ ¬ (1000000 : Int32) < a3 ∧ ∃ s, s < xm_n S 1 0 ∧ a3 = nI s := fun z => by
    have y1 : ¬ a3 < 0 := fun y => hN ⟨rfl, z, Or.inl y⟩
    have y2 : ¬ nI (xm_n S 1 0) ≤ a3 := fun y => hN ⟨rfl, z, Or.inr y⟩
    obtain ⟨-, yj, yk⟩ := k_at y1 y2 (by omega)
    refine ⟨?_, y1, ?_, _, yj, yk⟩
    · unfold rf_isStation
      rw [if_neg y1, w1, if_neg y2]
    · rw [yk]
      exact nI_nlt (a := 1000000) (b := y_ix a3) (by omega) (by decide)
  have gr : rf_guard 6 a2 a3 a4 a5 A = (if (rf_isGood 6 a2 a3 a4 A) = (0 : Int32) then ((-2 : Int32), A) else (if (rf_in a5 (0 : Int32) (15 : Int32) A) = (0 : Int32) then ((-2 : Int32), A) else (if (A 30 0) = (24 : Int32) then ((-3 : Int32), A) else ((A 30 0), kgX A 6 a2 a3 a4 a5 1 0)))) := by
    rw [kgr_6]
    by_cases z : a2 = 1
    · rw [if_pos z, (hst z).1, if_neg (by decide)]
    · rw [if_neg z]
  refine ⟨fun hf => ?_, fun hf hn => ?_, fun hf hn => ?_⟩
  · by_cases c0 : a2 < 0
    · refine lf (-2) A ?_ S hKK
      rw [gr, if_pos (by simp (decide := true) only [rf_isGood, rf_in, k_eq0 a2, k_eq0 a3, k_eq0 a4, if_true, if_false, not_true_eq_false, not_false_eq_true, and_true, and_false, true_and, false_and, k_eq1, c0, k_lt1 c0, ite_self])]
    by_cases c1 : (1 : Int32) < a2
    · refine lf (-2) A ?_ S hKK
      rw [gr, if_pos (by simp (decide := true) only [rf_isGood, rf_in, k_eq0 a2, k_eq0 a3, k_eq0 a4, if_true, if_false, not_true_eq_false, not_false_eq_true, and_true, and_false, true_and, false_and, k_eq1, c0, c1, k_gt0 c1, ite_self])]
    by_cases c2 : a3 < 0
    · by_cases z : a2 = 1
      · exact absurd c2 (hst z).2.1
      · refine lf (-2) A ?_ S hKK
        rw [gr, if_pos (by simp (decide := true) only [rf_isGood, rf_in, k_eq0 a2, k_eq0 a3, k_eq0 a4, if_true, if_false, not_true_eq_false, not_false_eq_true, and_true, and_false, true_and, false_and, z, c0, c1, c2, ite_self])]
    by_cases c3 : (1000000 : Int32) < a3
    · by_cases z : a2 = 1
      · exact absurd c3 (hst z).2.2.1
      · refine lf (-2) A ?_ S hKK
        rw [gr, if_pos (by simp (decide := true) only [rf_isGood, rf_in, k_eq0 a2, k_eq0 a3, k_eq0 a4, if_true, if_false, not_true_eq_false, not_false_eq_true, and_true, and_false, true_and, false_and, z, c0, c1, c2, c3, ite_self])]
    by_cases c4 : a4 < 0
    · refine lf (-2) A ?_ S hKK
      rw [gr, if_pos (by simp (decide := true) only [rf_isGood, rf_in, k_eq0 a2, k_eq0 a3, k_eq0 a4, if_true, if_false, not_true_eq_false, not_false_eq_true, and_true, and_false, true_and, false_and, c0, c1, c2, c3, c4])]
    by_cases c5 : (0 : Int32) < a4
    · refine lf (-2) A ?_ S hKK
      rw [gr, if_pos (by simp (decide := true) only [rf_isGood, rf_in, k_eq0 a2, k_eq0 a3, k_eq0 a4, if_true, if_false, not_true_eq_false, not_false_eq_true, and_true, and_false, true_and, false_and, c0, c1, c2, c3, c4, c5])]
    by_cases c6 : a5 < 0
    · refine lf (-2) A ?_ S hKK
      rw [gr, if_pos (c := rf_in a5 0 15 A = 0) (by simp (decide := true) only [rf_isGood, rf_in, k_eq0 a2, k_eq0 a3, k_eq0 a4, if_true, if_false, not_true_eq_false, not_false_eq_true, and_true, and_false, true_and, false_and, c0, c1, c2, c3, c4, c5, c6]), ite_self]
    by_cases c7 : (15 : Int32) < a5
    · refine lf (-2) A ?_ S hKK
      rw [gr, if_pos (c := rf_in a5 0 15 A = 0) (by simp (decide := true) only [rf_isGood, rf_in, k_eq0 a2, k_eq0 a3, k_eq0 a4, if_true, if_false, not_true_eq_false, not_false_eq_true, and_true, and_false, true_and, false_and, c0, c1, c2, c3, c4, c5, c6, c7]), ite_self]
    exact absurd ⟨c0, c1, c2, c3, c4, c5, c6, c7⟩ hf
  · obtain ⟨c0, c1, c2, c3, c4, c5, c6, c7⟩ := hf
    have hg : ¬ rf_isGood 6 a2 a3 a4 A = 0 := by
      rcases k01of c0 c1 with z | z
      · subst z
        simp (decide := true) only [rf_isGood, rf_in, k_eq0 a4, c2, c3, c4, c5, if_true, if_false, not_false_eq_true, and_self]
      · subst z
        simp (decide := true) only [rf_isGood, rf_in, k_eq0 a4, c4, c5, if_true, if_false, not_false_eq_true, and_self]
    have hi : ¬ rf_in a5 0 15 A = 0 := by simp (decide := true) only [rf_in, c6, c7, if_true, if_false]
    refine lf (-3) A ?_ S hKK
    rw [gr, if_neg hg, if_neg hi, w4, if_pos (by rw [hF]; exact hn)]
  · obtain ⟨c0, c1, c2, c3, c4, c5, c6, c7⟩ := hf
    have hg : ¬ rf_isGood 6 a2 a3 a4 A = 0 := by
      rcases k01of c0 c1 with z | z
      · subst z
        simp (decide := true) only [rf_isGood, rf_in, k_eq0 a4, c2, c3, c4, c5, if_true, if_false, not_false_eq_true, and_self]
      · subst z
        simp (decide := true) only [rf_isGood, rf_in, k_eq0 a4, c4, c5, if_true, if_false, not_false_eq_true, and_self]
    have hi : ¬ rf_in a5 0 15 A = 0 := by simp (decide := true) only [rf_in, c6, c7, if_true, if_false]
    have hlt : xm_n S 1 3 < 24 := (nI_ltI (b := 24) (by omega) (by decide)).mp hn
    have hv := kgX.v hlt w4 6 a2 a3 a4 a5 1 0
    have e : rf_guard 6 a2 a3 a4 a5 A = (nI (xm_n S 1 3), kgX A 6 a2 a3 a4 a5 1 0) := by
      rw [gr, if_neg hg, if_neg hi, w4, if_neg (by rw [hF]; exact fun z => z hn), ← w4]
    generalize kgX A 6 a2 a3 a4 a5 1 0 = A' at hv e
    have vv : ∀ x, 31 ≤ x → x ≤ 42 → A' x (xm_n S 1 3) = [6, a2, a3, a4, a5, 0, 0, 0, 0, 0, 0, 0].getD (x - 31) 0 := fun x z1 z2 => by rw [hv, if_neg (by omega), if_neg (by omega), if_pos ⟨z1, z2, rfl⟩]
    refine (k_newGuard (d := 1) (A' := A') (a1 := 6) (a2 := a2) (a3 := a3) (a4 := a4) (a5 := a5) hKK hlt (fun x k hk => ?_) ?_ ⟨vv 31 (by decide) (by decide), vv 32 (by decide) (by decide), vv 33 (by decide) (by decide), vv 34 (by decide) (by decide), vv 35 (by decide) (by decide), vv 36 (by decide) (by decide), vv 37 (by decide) (by decide), vv 38 (by decide) (by decide), vv 39 (by decide) (by decide), vv 40 (by decide) (by decide), vv 41 (by decide) (by decide), fun z => absurd z (by decide)⟩ (fun s hs => ?_) ⟨?_, ?_, ?_, ?_, ?_⟩ (fun S' hS' => ?_)).mono (fun r S13 y => ⟨y.1, y.2.1, y.2.2.1, y.2.2.2.1, fun S17 e17 => ?_⟩)
    · unfold kOld at hk
      rw [hv, if_neg (by omega), if_neg (by omega), if_neg (by omega)]
    · rw [hv, if_pos ⟨rfl, rfl⟩]
    · rw [hv, if_neg (by omega), if_pos ⟨rfl, by omega, by omega⟩]
    · rw [hv, if_neg (by decide), if_neg (by omega), if_neg (by omega)]
    · rw [hv, if_neg (by decide), if_neg (by omega), if_neg (by omega)]
    · rw [hv, if_neg (by decide), if_neg (by omega), if_neg (by omega)]
    · rw [hv, if_neg (by decide), if_neg (by omega), if_neg (by omega)]
    · rw [hv, if_neg (by decide), if_neg (by omega), if_neg (by omega)]
    · unfold kgr
      rw [show A' 31 (xm_n S 1 3) = 6 from vv 31 (by decide) (by decide), show A' 32 (xm_n S 1 3) = a2 from vv 32 (by decide) (by decide), show A' 33 (xm_n S 1 3) = a3 from vv 33 (by decide) (by decide), show A' 34 (xm_n S 1 3) = a4 from vv 34 (by decide) (by decide), show A' 35 (xm_n S 1 3) = a5 from vv 35 (by decide) (by decide), show A' 42 (xm_n S 1 3) = 0 from vv 42 (by decide) (by decide)]
      refine ⟨by decide, ⟨Int32.not_lt.mp c6, Int32.not_lt.mp c7⟩, fun z => absurd z (by decide), fun _ => ?_, fun z => absurd z (by decide), fun z => absurd z (by decide), fun z => absurd z (by decide), fun z => absurd z (by decide), fun z => absurd z (by decide), fun z => absurd z (by decide), fun z => absurd z (by decide), fun z => absurd z (by decide)⟩
      rcases k01of c0 c1 with z | z
      · exact Or.inl z
      · obtain ⟨s, y1, y2⟩ := (hst z).2.2.2
        exact Or.inr ⟨z, s, by rw [hS']; exact y1, y2⟩
    obtain ⟨z1, z2⟩ := y.2.2.2.2 S17 e17
    rw [z1, nI_pred]
    exact lf _ _ e _ z2
theorem g_guard_7 {S : xm_S} {A : y_A} {t : Nat} {a2 a3 a4 a5 : Int32} (hK : kK S A t) : xc 2 7 [.inr (some (0, 0)), .inl 7, .inl a2, .inl a3, .inl a4, .inl a5] S (fun r S' => r = some (.inl (rf_guard 7 a2 a3 a4 a5 A).1) ∧ kK S' (rf_guard 7 a2 a3 a4 a5 A).2 t) := by
  have hKK := hK
  obtain ⟨⟨⟨⟨hC, hcnt, hb, hl, ht, hv, h1, h2, h3, -⟩, -⟩, hS, -⟩, ⟨-, -, -, hO, hcap, -⟩⟩ := hK
  have hbb := hb
  unfold k_bnd at hbb
  obtain ⟨w1, w2, w3, w4, w5, w6, w7, w8, w9, w10, w11⟩ := hcnt
  have hF : (nI (xm_n S 1 3) = (24 : Int32)) = ¬ (nI (xm_n S 1 3) < (24 : Int32)) := k_full (m := 24) (by omega) (by decide)
  have lf : ∀ v A', rf_guard 7 a2 a3 a4 a5 A = (v, A') → ∀ S', kK S' A' t → (some (.inl v) : Option xm_V) = some (.inl (rf_guard 7 a2 a3 a4 a5 A).1) ∧ kK S' (rf_guard 7 a2 a3 a4 a5 A).2 t := fun v A' e S' h => by
    rw [e]
    exact ⟨rfl, h⟩
  have TB : ∀ k, k < 6 → xm_i S 16 k (y_ix (nI 7)) = (kS_T.getD k []).getD 7 0 := fun k hk => by
    rw [y_ix_nI (by decide)]
    exact (hS k (by omega)).2 7 (by
      obtain rfl | rfl | rfl | rfl | rfl | rfl : k = 0 ∨ k = 1 ∨ k = 2 ∨ k = 3 ∨ k = 4 ∨ k = 5 := by omega
      all_goals decide)
  refine cw_guard_j (d := 0) (j := 7) (l0 := 1) (h0 := 1000) (l1 := 0) (h1 := 0) (h2 := 0) (h3 := 0) (by decide) hS hC hl hb.1 (TB 0 (by decide)) (TB 1 (by decide)) (TB 2 (by decide)) (TB 3 (by decide)) (TB 4 (by decide)) (TB 5 (by decide)) ?_ ?_
  · exact fun z => absurd z (by decide)
  intro hN
  refine ⟨fun hf => ?_, fun hf hn => ?_, fun hf hn => ?_⟩
  · by_cases c0 : a2 < 1
    · refine lf (-2) A ?_ S hKK
      rw [kgr_7, if_pos (by simp (decide := true) only [rf_isGood, rf_in, k_eq0 a2, k_eq0 a3, k_eq0 a4, if_true, if_false, not_true_eq_false, not_false_eq_true, and_true, and_false, true_and, false_and, c0, ite_self])]
    by_cases c1 : (1000 : Int32) < a2
    · refine lf (-2) A ?_ S hKK
      rw [kgr_7, if_pos (by simp (decide := true) only [rf_isGood, rf_in, k_eq0 a2, k_eq0 a3, k_eq0 a4, if_true, if_false, not_true_eq_false, not_false_eq_true, and_true, and_false, true_and, false_and, c0, c1, ite_self])]
    by_cases c2 : a3 < 0
    · refine lf (-2) A ?_ S hKK
      rw [kgr_7, if_pos (by simp (decide := true) only [rf_isGood, rf_in, k_eq0 a2, k_eq0 a3, k_eq0 a4, if_true, if_false, not_true_eq_false, not_false_eq_true, and_true, and_false, true_and, false_and, c0, c1, c2, ite_self])]
    by_cases c3 : (0 : Int32) < a3
    · refine lf (-2) A ?_ S hKK
      rw [kgr_7, if_pos (by simp (decide := true) only [rf_isGood, rf_in, k_eq0 a2, k_eq0 a3, k_eq0 a4, if_true, if_false, not_true_eq_false, not_false_eq_true, and_true, and_false, true_and, false_and, c0, c1, c2, c3, ite_self])]
    by_cases c4 : a4 < 0
    · refine lf (-2) A ?_ S hKK
      rw [kgr_7, if_pos (by simp (decide := true) only [rf_isGood, rf_in, k_eq0 a2, k_eq0 a3, k_eq0 a4, if_true, if_false, not_true_eq_false, not_false_eq_true, and_true, and_false, true_and, false_and, c0, c1, c2, c3, c4, ite_self])]
    by_cases c5 : (0 : Int32) < a4
    · refine lf (-2) A ?_ S hKK
      rw [kgr_7, if_pos (by simp (decide := true) only [rf_isGood, rf_in, k_eq0 a2, k_eq0 a3, k_eq0 a4, if_true, if_false, not_true_eq_false, not_false_eq_true, and_true, and_false, true_and, false_and, c0, c1, c2, c3, c4, c5, ite_self])]
    by_cases c6 : a5 < 0
    · refine lf (-2) A ?_ S hKK
      rw [kgr_7, if_pos (c := rf_in a5 0 0 A = 0) (by simp (decide := true) only [rf_isGood, rf_in, k_eq0 a2, k_eq0 a3, k_eq0 a4, if_true, if_false, not_true_eq_false, not_false_eq_true, and_true, and_false, true_and, false_and, c0, c1, c2, c3, c4, c5, c6]), ite_self]
    by_cases c7 : (0 : Int32) < a5
    · refine lf (-2) A ?_ S hKK
      rw [kgr_7, if_pos (c := rf_in a5 0 0 A = 0) (by simp (decide := true) only [rf_isGood, rf_in, k_eq0 a2, k_eq0 a3, k_eq0 a4, if_true, if_false, not_true_eq_false, not_false_eq_true, and_true, and_false, true_and, false_and, c0, c1, c2, c3, c4, c5, c6, c7]), ite_self]
    exact absurd ⟨c0, c1, c2, c3, c4, c5, c6, c7⟩ hf
  · obtain ⟨c0, c1, c2, c3, c4, c5, c6, c7⟩ := hf
    have hg : ¬ rf_isGood 7 a2 a3 a4 A = 0 := by simp (decide := true) only [rf_isGood, rf_in, k_eq0 a2, k_eq0 a3, k_eq0 a4, if_true, if_false, not_true_eq_false, not_false_eq_true, and_true, and_false, true_and, false_and, c0, c1, c2, c3, c4, c5]
    have hi : ¬ rf_in a5 0 0 A = 0 := by simp (decide := true) only [rf_in, c6, c7, if_true, if_false]
    refine lf (-3) A ?_ S hKK
    rw [kgr_7, if_neg hg, if_neg hi, w4, if_pos (by rw [hF]; exact hn)]
  · obtain ⟨c0, c1, c2, c3, c4, c5, c6, c7⟩ := hf
    have hg : ¬ rf_isGood 7 a2 a3 a4 A = 0 := by simp (decide := true) only [rf_isGood, rf_in, k_eq0 a2, k_eq0 a3, k_eq0 a4, if_true, if_false, not_true_eq_false, not_false_eq_true, and_true, and_false, true_and, false_and, c0, c1, c2, c3, c4, c5]
    have hi : ¬ rf_in a5 0 0 A = 0 := by simp (decide := true) only [rf_in, c6, c7, if_true, if_false]
    have hlt : xm_n S 1 3 < 24 := (nI_ltI (b := 24) (by omega) (by decide)).mp hn
    have hv := kgX.v hlt w4 7 a2 a3 a4 a5 0 0
    have e : rf_guard 7 a2 a3 a4 a5 A = (nI (xm_n S 1 3), kgX A 7 a2 a3 a4 a5 0 0) := by
      rw [kgr_7, if_neg hg, if_neg hi, w4, if_neg (by rw [hF]; exact fun z => z hn), ← w4]
    generalize kgX A 7 a2 a3 a4 a5 0 0 = A' at hv e
    have vv : ∀ x, 31 ≤ x → x ≤ 42 → A' x (xm_n S 1 3) = [7, a2, a3, a4, a5, 0, 0, 0, 0, 0, 0, 0].getD (x - 31) 0 := fun x z1 z2 => by rw [hv, if_neg (by omega), if_neg (by omega), if_pos ⟨z1, z2, rfl⟩]
    refine (k_newGuard (d := 1) (A' := A') (a1 := 7) (a2 := a2) (a3 := a3) (a4 := a4) (a5 := a5) hKK hlt (fun x k hk => ?_) ?_ ⟨vv 31 (by decide) (by decide), vv 32 (by decide) (by decide), vv 33 (by decide) (by decide), vv 34 (by decide) (by decide), vv 35 (by decide) (by decide), vv 36 (by decide) (by decide), vv 37 (by decide) (by decide), vv 38 (by decide) (by decide), vv 39 (by decide) (by decide), vv 40 (by decide) (by decide), vv 41 (by decide) (by decide), fun z => absurd z (by decide)⟩ (fun s hs => ?_) ⟨?_, ?_, ?_, ?_, ?_⟩ (fun S' hS' => ?_)).mono (fun r S13 y => ⟨y.1, y.2.1, y.2.2.1, y.2.2.2.1, fun S17 e17 => ?_⟩)
    · unfold kOld at hk
      rw [hv, if_neg (by omega), if_neg (by omega), if_neg (by omega)]
    · rw [hv, if_pos ⟨rfl, rfl⟩]
    · rw [hv, if_neg (by omega), if_pos ⟨rfl, by omega, by omega⟩]
    · rw [hv, if_neg (by decide), if_neg (by omega), if_neg (by omega)]
    · rw [hv, if_neg (by decide), if_neg (by omega), if_neg (by omega)]
    · rw [hv, if_neg (by decide), if_neg (by omega), if_neg (by omega)]
    · rw [hv, if_neg (by decide), if_neg (by omega), if_neg (by omega)]
    · rw [hv, if_neg (by decide), if_neg (by omega), if_neg (by omega)]
    · unfold kgr
      rw [show A' 31 (xm_n S 1 3) = 7 from vv 31 (by decide) (by decide), show A' 32 (xm_n S 1 3) = a2 from vv 32 (by decide) (by decide), show A' 33 (xm_n S 1 3) = a3 from vv 33 (by decide) (by decide), show A' 34 (xm_n S 1 3) = a4 from vv 34 (by decide) (by decide), show A' 35 (xm_n S 1 3) = a5 from vv 35 (by decide) (by decide), show A' 42 (xm_n S 1 3) = 0 from vv 42 (by decide) (by decide)]
      refine ⟨by decide, ⟨Int32.not_lt.mp c6, Int32.le_trans (Int32.not_lt.mp c7) (by decide)⟩, fun z => absurd z (by decide), fun z => absurd z (by decide), fun z => absurd z (by decide), fun z => absurd z (by decide), fun z => absurd z (by decide), fun z => absurd z (by decide), fun z => absurd z (by decide), fun z => absurd z (by decide), fun _ => ⟨Int32.not_lt.mp c0, Int32.not_lt.mp c1⟩, fun z => absurd z (by decide)⟩
    obtain ⟨z1, z2⟩ := y.2.2.2.2 S17 e17
    rw [z1, nI_pred]
    exact lf _ _ e _ z2
theorem g_guard_8 {S : xm_S} {A : y_A} {t : Nat} {a2 a3 a4 a5 : Int32} (hK : kK S A t) : xc 2 7 [.inr (some (0, 0)), .inl 8, .inl a2, .inl a3, .inl a4, .inl a5] S (fun r S' => r = some (.inl (rf_guard 8 a2 a3 a4 a5 A).1) ∧ kK S' (rf_guard 8 a2 a3 a4 a5 A).2 t) := by
  have hKK := hK
  obtain ⟨⟨⟨⟨hC, hcnt, hb, hl, ht, hv, h1, h2, h3, -⟩, -⟩, hS, -⟩, ⟨-, -, -, hO, hcap, -⟩⟩ := hK
  have hbb := hb
  unfold k_bnd at hbb
  obtain ⟨w1, w2, w3, w4, w5, w6, w7, w8, w9, w10, w11⟩ := hcnt
  have hF : (nI (xm_n S 1 3) = (24 : Int32)) = ¬ (nI (xm_n S 1 3) < (24 : Int32)) := k_full (m := 24) (by omega) (by decide)
  have lf : ∀ v A', rf_guard 8 a2 a3 a4 a5 A = (v, A') → ∀ S', kK S' A' t → (some (.inl v) : Option xm_V) = some (.inl (rf_guard 8 a2 a3 a4 a5 A).1) ∧ kK S' (rf_guard 8 a2 a3 a4 a5 A).2 t := fun v A' e S' h => by
    rw [e]
    exact ⟨rfl, h⟩
  have TB : ∀ k, k < 6 → xm_i S 16 k (y_ix (nI 8)) = (kS_T.getD k []).getD 8 0 := fun k hk => by
    rw [y_ix_nI (by decide)]
    exact (hS k (by omega)).2 8 (by
      obtain rfl | rfl | rfl | rfl | rfl | rfl : k = 0 ∨ k = 1 ∨ k = 2 ∨ k = 3 ∨ k = 4 ∨ k = 5 := by omega
      all_goals decide)
  refine cw_guard_j (d := 0) (j := 8) (l0 := 0) (h0 := 0) (l1 := 0) (h1 := 0) (h2 := 0) (h3 := 0) (by decide) hS hC hl hb.1 (TB 0 (by decide)) (TB 1 (by decide)) (TB 2 (by decide)) (TB 3 (by decide)) (TB 4 (by decide)) (TB 5 (by decide)) ?_ ?_
  · exact fun z => absurd z (by decide)
  intro hN
  refine ⟨fun hf => ?_, fun hf hn => ?_, fun hf hn => ?_⟩
  · by_cases c0 : a2 < 0
    · refine lf (-2) A ?_ S hKK
      rw [kgr_8, if_pos (by simp (decide := true) only [rf_isGood, rf_in, k_eq0 a2, k_eq0 a3, k_eq0 a4, if_true, if_false, not_true_eq_false, not_false_eq_true, and_true, and_false, true_and, false_and, c0, ite_self])]
    by_cases c1 : (0 : Int32) < a2
    · refine lf (-2) A ?_ S hKK
      rw [kgr_8, if_pos (by simp (decide := true) only [rf_isGood, rf_in, k_eq0 a2, k_eq0 a3, k_eq0 a4, if_true, if_false, not_true_eq_false, not_false_eq_true, and_true, and_false, true_and, false_and, c0, c1, ite_self])]
    by_cases c2 : a3 < 0
    · refine lf (-2) A ?_ S hKK
      rw [kgr_8, if_pos (by simp (decide := true) only [rf_isGood, rf_in, k_eq0 a2, k_eq0 a3, k_eq0 a4, if_true, if_false, not_true_eq_false, not_false_eq_true, and_true, and_false, true_and, false_and, c0, c1, c2, ite_self])]
    by_cases c3 : (0 : Int32) < a3
    · refine lf (-2) A ?_ S hKK
      rw [kgr_8, if_pos (by simp (decide := true) only [rf_isGood, rf_in, k_eq0 a2, k_eq0 a3, k_eq0 a4, if_true, if_false, not_true_eq_false, not_false_eq_true, and_true, and_false, true_and, false_and, c0, c1, c2, c3, ite_self])]
    by_cases c4 : a4 < 0
    · refine lf (-2) A ?_ S hKK
      rw [kgr_8, if_pos (by simp (decide := true) only [rf_isGood, rf_in, k_eq0 a2, k_eq0 a3, k_eq0 a4, if_true, if_false, not_true_eq_false, not_false_eq_true, and_true, and_false, true_and, false_and, c0, c1, c2, c3, c4, ite_self])]
    by_cases c5 : (0 : Int32) < a4
    · refine lf (-2) A ?_ S hKK
      rw [kgr_8, if_pos (by simp (decide := true) only [rf_isGood, rf_in, k_eq0 a2, k_eq0 a3, k_eq0 a4, if_true, if_false, not_true_eq_false, not_false_eq_true, and_true, and_false, true_and, false_and, c0, c1, c2, c3, c4, c5, ite_self])]
    by_cases c6 : a5 < 0
    · refine lf (-2) A ?_ S hKK
      rw [kgr_8, if_pos (c := rf_in a5 0 0 A = 0) (by simp (decide := true) only [rf_isGood, rf_in, k_eq0 a2, k_eq0 a3, k_eq0 a4, if_true, if_false, not_true_eq_false, not_false_eq_true, and_true, and_false, true_and, false_and, c0, c1, c2, c3, c4, c5, c6]), ite_self]
    by_cases c7 : (0 : Int32) < a5
    · refine lf (-2) A ?_ S hKK
      rw [kgr_8, if_pos (c := rf_in a5 0 0 A = 0) (by simp (decide := true) only [rf_isGood, rf_in, k_eq0 a2, k_eq0 a3, k_eq0 a4, if_true, if_false, not_true_eq_false, not_false_eq_true, and_true, and_false, true_and, false_and, c0, c1, c2, c3, c4, c5, c6, c7]), ite_self]
    exact absurd ⟨c0, c1, c2, c3, c4, c5, c6, c7⟩ hf
  · obtain ⟨c0, c1, c2, c3, c4, c5, c6, c7⟩ := hf
    have hg : ¬ rf_isGood 8 a2 a3 a4 A = 0 := by simp (decide := true) only [rf_isGood, rf_in, k_eq0 a2, k_eq0 a3, k_eq0 a4, if_true, if_false, not_true_eq_false, not_false_eq_true, and_true, and_false, true_and, false_and, c0, c1, c2, c3, c4, c5]
    have hi : ¬ rf_in a5 0 0 A = 0 := by simp (decide := true) only [rf_in, c6, c7, if_true, if_false]
    refine lf (-3) A ?_ S hKK
    rw [kgr_8, if_neg hg, if_neg hi, w4, if_pos (by rw [hF]; exact hn)]
  · obtain ⟨c0, c1, c2, c3, c4, c5, c6, c7⟩ := hf
    have hg : ¬ rf_isGood 8 a2 a3 a4 A = 0 := by simp (decide := true) only [rf_isGood, rf_in, k_eq0 a2, k_eq0 a3, k_eq0 a4, if_true, if_false, not_true_eq_false, not_false_eq_true, and_true, and_false, true_and, false_and, c0, c1, c2, c3, c4, c5]
    have hi : ¬ rf_in a5 0 0 A = 0 := by simp (decide := true) only [rf_in, c6, c7, if_true, if_false]
    have hlt : xm_n S 1 3 < 24 := (nI_ltI (b := 24) (by omega) (by decide)).mp hn
    have hv := kgX.v hlt w4 8 a2 a3 a4 a5 0 0
    have e : rf_guard 8 a2 a3 a4 a5 A = (nI (xm_n S 1 3), kgX A 8 a2 a3 a4 a5 0 0) := by
      rw [kgr_8, if_neg hg, if_neg hi, w4, if_neg (by rw [hF]; exact fun z => z hn), ← w4]
    generalize kgX A 8 a2 a3 a4 a5 0 0 = A' at hv e
    have vv : ∀ x, 31 ≤ x → x ≤ 42 → A' x (xm_n S 1 3) = [8, a2, a3, a4, a5, 0, 0, 0, 0, 0, 0, 0].getD (x - 31) 0 := fun x z1 z2 => by rw [hv, if_neg (by omega), if_neg (by omega), if_pos ⟨z1, z2, rfl⟩]
    refine (k_newGuard (d := 1) (A' := A') (a1 := 8) (a2 := a2) (a3 := a3) (a4 := a4) (a5 := a5) hKK hlt (fun x k hk => ?_) ?_ ⟨vv 31 (by decide) (by decide), vv 32 (by decide) (by decide), vv 33 (by decide) (by decide), vv 34 (by decide) (by decide), vv 35 (by decide) (by decide), vv 36 (by decide) (by decide), vv 37 (by decide) (by decide), vv 38 (by decide) (by decide), vv 39 (by decide) (by decide), vv 40 (by decide) (by decide), vv 41 (by decide) (by decide), fun z => absurd z (by decide)⟩ (fun s hs => ?_) ⟨?_, ?_, ?_, ?_, ?_⟩ (fun S' hS' => ?_)).mono (fun r S13 y => ⟨y.1, y.2.1, y.2.2.1, y.2.2.2.1, fun S17 e17 => ?_⟩)
    · unfold kOld at hk
      rw [hv, if_neg (by omega), if_neg (by omega), if_neg (by omega)]
    · rw [hv, if_pos ⟨rfl, rfl⟩]
    · rw [hv, if_neg (by omega), if_pos ⟨rfl, by omega, by omega⟩]
    · rw [hv, if_neg (by decide), if_neg (by omega), if_neg (by omega)]
    · rw [hv, if_neg (by decide), if_neg (by omega), if_neg (by omega)]
    · rw [hv, if_neg (by decide), if_neg (by omega), if_neg (by omega)]
    · rw [hv, if_neg (by decide), if_neg (by omega), if_neg (by omega)]
    · rw [hv, if_neg (by decide), if_neg (by omega), if_neg (by omega)]
    · unfold kgr
      rw [show A' 31 (xm_n S 1 3) = 8 from vv 31 (by decide) (by decide), show A' 32 (xm_n S 1 3) = a2 from vv 32 (by decide) (by decide), show A' 33 (xm_n S 1 3) = a3 from vv 33 (by decide) (by decide), show A' 34 (xm_n S 1 3) = a4 from vv 34 (by decide) (by decide), show A' 35 (xm_n S 1 3) = a5 from vv 35 (by decide) (by decide), show A' 42 (xm_n S 1 3) = 0 from vv 42 (by decide) (by decide)]
      refine ⟨by decide, ⟨Int32.not_lt.mp c6, Int32.le_trans (Int32.not_lt.mp c7) (by decide)⟩, fun z => absurd z (by decide), fun z => absurd z (by decide), fun z => absurd z (by decide), fun z => absurd z (by decide), fun z => absurd z (by decide), fun z => absurd z (by decide), fun z => absurd z (by decide), fun z => absurd z (by decide), fun z => absurd z (by decide), fun z => absurd z (by decide)⟩
    obtain ⟨z1, z2⟩ := y.2.2.2.2 S17 e17
    rw [z1, nI_pred]
    exact lf _ _ e _ z2
theorem g_guard_9 {S : xm_S} {A : y_A} {t : Nat} {a2 a3 a4 a5 : Int32} (hK : kK S A t) : xc 2 7 [.inr (some (0, 0)), .inl 9, .inl a2, .inl a3, .inl a4, .inl a5] S (fun r S' => r = some (.inl (rf_guard 9 a2 a3 a4 a5 A).1) ∧ kK S' (rf_guard 9 a2 a3 a4 a5 A).2 t) := by
  have hKK := hK
  obtain ⟨⟨⟨⟨hC, hcnt, hb, hl, ht, hv, h1, h2, h3, -⟩, -⟩, hS, -⟩, ⟨-, -, -, hO, hcap, -⟩⟩ := hK
  have hbb := hb
  unfold k_bnd at hbb
  obtain ⟨w1, w2, w3, w4, w5, w6, w7, w8, w9, w10, w11⟩ := hcnt
  have hF : (nI (xm_n S 1 3) = (24 : Int32)) = ¬ (nI (xm_n S 1 3) < (24 : Int32)) := k_full (m := 24) (by omega) (by decide)
  have lf : ∀ v A', rf_guard 9 a2 a3 a4 a5 A = (v, A') → ∀ S', kK S' A' t → (some (.inl v) : Option xm_V) = some (.inl (rf_guard 9 a2 a3 a4 a5 A).1) ∧ kK S' (rf_guard 9 a2 a3 a4 a5 A).2 t := fun v A' e S' h => by
    rw [e]
    exact ⟨rfl, h⟩
  have TB : ∀ k, k < 6 → xm_i S 16 k (y_ix (nI 9)) = (kS_T.getD k []).getD 9 0 := fun k hk => by
    rw [y_ix_nI (by decide)]
    exact (hS k (by omega)).2 9 (by
      obtain rfl | rfl | rfl | rfl | rfl | rfl : k = 0 ∨ k = 1 ∨ k = 2 ∨ k = 3 ∨ k = 4 ∨ k = 5 := by omega
      all_goals decide)
  refine cw_guard_j (d := 0) (j := 9) (l0 := 0) (h0 := 0) (l1 := 0) (h1 := 15) (h2 := 0) (h3 := 15) (by decide) hS hC hl hb.1 (TB 0 (by decide)) (TB 1 (by decide)) (TB 2 (by decide)) (TB 3 (by decide)) (TB 4 (by decide)) (TB 5 (by decide)) ?_ ?_
  · exact fun z => absurd z (by decide)
  intro hN
  refine ⟨fun hf => ?_, fun hf hn => ?_, fun hf hn => ?_⟩
  · by_cases c0 : a2 < 0
    · refine lf (-2) A ?_ S hKK
      rw [kgr_9, if_pos (by simp (decide := true) only [rf_isGood, rf_in, k_eq0 a2, k_eq0 a3, k_eq0 a4, if_true, if_false, not_true_eq_false, not_false_eq_true, and_true, and_false, true_and, false_and, c0, ite_self])]
    by_cases c1 : (0 : Int32) < a2
    · refine lf (-2) A ?_ S hKK
      rw [kgr_9, if_pos (by simp (decide := true) only [rf_isGood, rf_in, k_eq0 a2, k_eq0 a3, k_eq0 a4, if_true, if_false, not_true_eq_false, not_false_eq_true, and_true, and_false, true_and, false_and, c0, c1, ite_self])]
    by_cases c2 : a3 < 0
    · refine lf (-2) A ?_ S hKK
      rw [kgr_9, if_pos (by simp (decide := true) only [rf_isGood, rf_in, k_eq0 a2, k_eq0 a3, k_eq0 a4, if_true, if_false, not_true_eq_false, not_false_eq_true, and_true, and_false, true_and, false_and, c0, c1, c2, ite_self])]
    by_cases c3 : (15 : Int32) < a3
    · refine lf (-2) A ?_ S hKK
      rw [kgr_9, if_pos (by simp (decide := true) only [rf_isGood, rf_in, k_eq0 a2, k_eq0 a3, k_eq0 a4, if_true, if_false, not_true_eq_false, not_false_eq_true, and_true, and_false, true_and, false_and, c0, c1, c2, c3, ite_self])]
    by_cases c4 : a4 < 0
    · refine lf (-2) A ?_ S hKK
      rw [kgr_9, if_pos (by simp (decide := true) only [rf_isGood, rf_in, k_eq0 a2, k_eq0 a3, k_eq0 a4, if_true, if_false, not_true_eq_false, not_false_eq_true, and_true, and_false, true_and, false_and, c0, c1, c2, c3, c4, ite_self])]
    by_cases c5 : (0 : Int32) < a4
    · refine lf (-2) A ?_ S hKK
      rw [kgr_9, if_pos (by simp (decide := true) only [rf_isGood, rf_in, k_eq0 a2, k_eq0 a3, k_eq0 a4, if_true, if_false, not_true_eq_false, not_false_eq_true, and_true, and_false, true_and, false_and, c0, c1, c2, c3, c4, c5, ite_self])]
    by_cases c6 : a5 < 0
    · refine lf (-2) A ?_ S hKK
      rw [kgr_9, if_pos (c := rf_in a5 0 15 A = 0) (by simp (decide := true) only [rf_isGood, rf_in, k_eq0 a2, k_eq0 a3, k_eq0 a4, if_true, if_false, not_true_eq_false, not_false_eq_true, and_true, and_false, true_and, false_and, c0, c1, c2, c3, c4, c5, c6]), ite_self]
    by_cases c7 : (15 : Int32) < a5
    · refine lf (-2) A ?_ S hKK
      rw [kgr_9, if_pos (c := rf_in a5 0 15 A = 0) (by simp (decide := true) only [rf_isGood, rf_in, k_eq0 a2, k_eq0 a3, k_eq0 a4, if_true, if_false, not_true_eq_false, not_false_eq_true, and_true, and_false, true_and, false_and, c0, c1, c2, c3, c4, c5, c6, c7]), ite_self]
    exact absurd ⟨c0, c1, c2, c3, c4, c5, c6, c7⟩ hf
  · obtain ⟨c0, c1, c2, c3, c4, c5, c6, c7⟩ := hf
    have hg : ¬ rf_isGood 9 a2 a3 a4 A = 0 := by simp (decide := true) only [rf_isGood, rf_in, k_eq0 a2, k_eq0 a3, k_eq0 a4, if_true, if_false, not_true_eq_false, not_false_eq_true, and_true, and_false, true_and, false_and, c0, c1, c2, c3, c4, c5]
    have hi : ¬ rf_in a5 0 15 A = 0 := by simp (decide := true) only [rf_in, c6, c7, if_true, if_false]
    refine lf (-3) A ?_ S hKK
    rw [kgr_9, if_neg hg, if_neg hi, w4, if_pos (by rw [hF]; exact hn)]
  · obtain ⟨c0, c1, c2, c3, c4, c5, c6, c7⟩ := hf
    have hg : ¬ rf_isGood 9 a2 a3 a4 A = 0 := by simp (decide := true) only [rf_isGood, rf_in, k_eq0 a2, k_eq0 a3, k_eq0 a4, if_true, if_false, not_true_eq_false, not_false_eq_true, and_true, and_false, true_and, false_and, c0, c1, c2, c3, c4, c5]
    have hi : ¬ rf_in a5 0 15 A = 0 := by simp (decide := true) only [rf_in, c6, c7, if_true, if_false]
    have hlt : xm_n S 1 3 < 24 := (nI_ltI (b := 24) (by omega) (by decide)).mp hn
    have hv := kgX.v hlt w4 9 a2 a3 a4 a5 1 0
    have e : rf_guard 9 a2 a3 a4 a5 A = (nI (xm_n S 1 3), kgX A 9 a2 a3 a4 a5 1 0) := by
      rw [kgr_9, if_neg hg, if_neg hi, w4, if_neg (by rw [hF]; exact fun z => z hn), ← w4]
    generalize kgX A 9 a2 a3 a4 a5 1 0 = A' at hv e
    have vv : ∀ x, 31 ≤ x → x ≤ 42 → A' x (xm_n S 1 3) = [9, a2, a3, a4, a5, 0, 0, 0, 0, 0, 0, 0].getD (x - 31) 0 := fun x z1 z2 => by rw [hv, if_neg (by omega), if_neg (by omega), if_pos ⟨z1, z2, rfl⟩]
    refine (k_newGuard (d := 1) (A' := A') (a1 := 9) (a2 := a2) (a3 := a3) (a4 := a4) (a5 := a5) hKK hlt (fun x k hk => ?_) ?_ ⟨vv 31 (by decide) (by decide), vv 32 (by decide) (by decide), vv 33 (by decide) (by decide), vv 34 (by decide) (by decide), vv 35 (by decide) (by decide), vv 36 (by decide) (by decide), vv 37 (by decide) (by decide), vv 38 (by decide) (by decide), vv 39 (by decide) (by decide), vv 40 (by decide) (by decide), vv 41 (by decide) (by decide), fun z => absurd z (by decide)⟩ (fun s hs => ?_) ⟨?_, ?_, ?_, ?_, ?_⟩ (fun S' hS' => ?_)).mono (fun r S13 y => ⟨y.1, y.2.1, y.2.2.1, y.2.2.2.1, fun S17 e17 => ?_⟩)
    · unfold kOld at hk
      rw [hv, if_neg (by omega), if_neg (by omega), if_neg (by omega)]
    · rw [hv, if_pos ⟨rfl, rfl⟩]
    · rw [hv, if_neg (by omega), if_pos ⟨rfl, by omega, by omega⟩]
    · rw [hv, if_neg (by decide), if_neg (by omega), if_neg (by omega)]
    · rw [hv, if_neg (by decide), if_neg (by omega), if_neg (by omega)]
    · rw [hv, if_neg (by decide), if_neg (by omega), if_neg (by omega)]
    · rw [hv, if_neg (by decide), if_neg (by omega), if_neg (by omega)]
    · rw [hv, if_neg (by decide), if_neg (by omega), if_neg (by omega)]
    · unfold kgr
      rw [show A' 31 (xm_n S 1 3) = 9 from vv 31 (by decide) (by decide), show A' 32 (xm_n S 1 3) = a2 from vv 32 (by decide) (by decide), show A' 33 (xm_n S 1 3) = a3 from vv 33 (by decide) (by decide), show A' 34 (xm_n S 1 3) = a4 from vv 34 (by decide) (by decide), show A' 35 (xm_n S 1 3) = a5 from vv 35 (by decide) (by decide), show A' 42 (xm_n S 1 3) = 0 from vv 42 (by decide) (by decide)]
      refine ⟨by decide, ⟨Int32.not_lt.mp c6, Int32.not_lt.mp c7⟩, fun _ => ⟨Int32.not_lt.mp c2, Int32.not_lt.mp c3⟩, fun z => absurd z (by decide), fun z => absurd z (by decide), fun z => absurd z (by decide), fun z => absurd z (by decide), fun z => absurd z (by decide), fun z => absurd z (by decide), fun z => absurd z (by decide), fun z => absurd z (by decide), fun z => absurd z (by decide)⟩
    obtain ⟨z1, z2⟩ := y.2.2.2.2 S17 e17
    rw [z1, nI_pred]
    exact lf _ _ e _ z2
theorem gt_isGood (a1 a2 a3 a4 : Int32) (A : y_A) : rg_isGood a1 a2 a3 a4 A := by
  unfold rg_isGood rg_in
  simp only [implies_true, and_self]
theorem p_guard : kPub 7 122 5 := by
  intro as hn S A t hK _
  obtain ⟨a1, a2, a3, a4, a5, rfl⟩ := k_l5 hn
  have hKK := hK
  obtain ⟨⟨⟨⟨hC, hcnt, hb, hl, ht, hv, h1, h2, h3, -⟩, -⟩, hS, -⟩, ⟨-, -, -, hO, hcap, -⟩⟩ := hK
  have hbb := hb
  unfold k_bnd at hbb
  obtain ⟨w1, w2, w3, w4, w5, w6, w7, w8, w9, w10, w11⟩ := hcnt
  have hF : (nI (xm_n S 1 3) = (24 : Int32)) = ¬ (nI (xm_n S 1 3) < (24 : Int32)) := k_full (m := 24) (by omega) (by decide)
  have T : ∀ {p : Prop}, p → True := fun _ => trivial
  have hlt : ¬ A 30 0 = 24 → xm_n S 1 3 < 24 := fun z => by
    rw [w4] at z
    exact Nat.lt_of_le_of_ne (by omega) (fun e => z (by rw [e]; rfl))
  have hin : ¬ A 30 0 = 24 → y_in (A 30 0) 24 := fun z => by
    rw [w4]
    exact y_in_nI (hlt z) (by decide)
  have gG : rg_isGood a1 a2 a3 a4 A := gt_isGood _ _ _ _ _
  have gI : ∀ x y z, rg_in x y z A := fun x y z => ⟨T, fun _ => ⟨T, T⟩⟩
  have h213 : ∀ l1 l2 l3 l4 l5 l6 B, ¬ A 30 0 = 24 → rg_guard_213 20000 l1 l2 l3 l4 l5 l6 (A 30 0) 0 B := fun l1 l2 l3 l4 l5 l6 B z => by
    rw [w4]
    exact (k_213 (hlt z) 20000 0 B (by decide) (by decide)).1
  have G : rg_guard a1 a2 a3 a4 a5 A := ⟨fun _ => ⟨fun _ => ⟨⟨T, fun _ => ⟨T, T⟩⟩, T, fun _ => ⟨gG, T, fun _ => ⟨gI _ _ _, T, fun _ => ⟨T, fun z => ⟨hin z, h213 _ _ _ _ _ _ _ z, trivial⟩⟩⟩⟩⟩, fun _ => ⟨gG, T, fun _ => ⟨gI _ _ _, T, fun _ => ⟨T, fun z => ⟨hin z, h213 _ _ _ _ _ _ _ z, trivial⟩⟩⟩⟩⟩, fun _ => ⟨fun _ => ⟨gG, T, fun _ => ⟨gI _ _ _, T, fun _ => ⟨T, fun z => ⟨hin z, h213 _ _ _ _ _ _ _ z, trivial⟩⟩⟩⟩, fun _ => ⟨fun _ => ⟨gG, T, fun _ => ⟨gI _ _ _, T, fun _ => ⟨T, fun z => ⟨hin z, h213 _ _ _ _ _ _ _ z, trivial⟩⟩⟩⟩, fun _ => ⟨fun _ => ⟨gG, T, fun _ => ⟨gI _ _ _, T, fun _ => ⟨T, fun z => ⟨hin z, h213 _ _ _ _ _ _ _ z, trivial⟩⟩⟩⟩, fun _ => ⟨gG, T, fun _ => ⟨gI _ _ _, T, fun _ => ⟨T, fun z => ⟨hin z, fun _ => ⟨h213 _ _ _ _ _ _ _ z, trivial⟩, fun _ => ⟨h213 _ _ _ _ _ _ _ z, trivial⟩⟩⟩⟩⟩⟩⟩⟩⟩
  refine ⟨(rf_guard a1 a2 a3 a4 a5 A).1, (rf_guard a1 a2 a3 a4 a5 A).2, t, by omega, ?_, ra.up (ra.mono (rh_guard (d := 20) (js := []) (by decide) G) (fun r A2 js y => y)) (Nat.le_refl _)⟩
  refine xc.up (d := 2) (show xc 2 7 [.inr (some (0, 0)), .inl a1, .inl a2, .inl a3, .inl a4, .inl a5] S _ from ?_) (by decide)
  have lf : (∀ k : Int32, 0 ≤ k → k ≤ 9 → ¬ a1 = k) → rf_guard a1 a2 a3 a4 a5 A = (-2, A) := fun ne => by
    have e : rf_isGood a1 a2 a3 a4 A = 0 := by
      unfold rf_isGood
      rw [if_neg (ne 0 (by decide) (by decide)), if_neg (ne 1 (by decide) (by decide)), if_neg (ne 2 (by decide) (by decide)), if_neg (ne 3 (by decide) (by decide)), if_neg (ne 4 (by decide) (by decide)), if_neg (ne 5 (by decide) (by decide)), if_neg (ne 6 (by decide) (by decide)), if_neg (ne 7 (by decide) (by decide)), if_neg (ne 8 (by decide) (by decide)), if_neg (ne 9 (by decide) (by decide))]
    unfold rf_guard
    rw [if_neg (ne 6 (by decide) (by decide)), if_neg (ne 0 (by decide) (by decide)), if_neg (ne 4 (by decide) (by decide)), if_neg (ne 9 (by decide) (by decide)), if_pos e]
  rcases k_idx a1 (n := 10) (by decide) with hi | ⟨hi, hi2, hi3⟩ | ⟨j, hj, rfl⟩
  · have ne : ∀ k : Int32, 0 ≤ k → k ≤ 9 → ¬ a1 = k := fun k z1 _ z => absurd (z ▸ hi) (Int32.not_lt.mpr z1)
    rw [lf ne]
    exact cw_guard hC ⟨fun z => absurd z (ne 6 (by decide) (by decide)), fun _ => ⟨fun _ => ⟨rfl, hKK⟩, fun z => absurd hi z⟩⟩
  · have ne : ∀ k : Int32, 0 ≤ k → k ≤ 9 → ¬ a1 = k := fun k _ z2 z => absurd (Int32.le_trans (z ▸ hi2) z2) (by decide)
    rw [lf ne]
    exact cw_guard hC ⟨fun z => absurd z (ne 6 (by decide) (by decide)), fun _ => ⟨fun z => absurd z hi, fun _ => ⟨fun _ => ⟨rfl, hKK⟩, fun z => absurd (show nI (xm_n S 26 0) ≤ a1 by rw [(hS 0 (by decide)).1]; exact hi2) z⟩⟩⟩
  · obtain rfl | rfl | rfl | rfl | rfl | rfl | rfl | rfl | rfl | rfl : j = 0 ∨ j = 1 ∨ j = 2 ∨ j = 3 ∨ j = 4 ∨ j = 5 ∨ j = 6 ∨ j = 7 ∨ j = 8 ∨ j = 9 := by omega
    · exact g_guard_0 hKK
    · exact g_guard_1 hKK
    · exact g_guard_2 hKK
    · exact g_guard_3 hKK
    · exact g_guard_4 hKK
    · exact g_guard_5 hKK
    · exact g_guard_6 hKK
    · exact g_guard_7 hKK
    · exact g_guard_8 hKK
    · exact g_guard_9 hKK
end
