/-! ===== ADDCALL (printed by wip/whole/gen9e.py) ===== -/
section
def kNo (S S' : xm_S) (o : Nat) (par gd : Option Nat) (dv T : Int32) : Prop := kN S S' 2 20 ∧ xm_r S' 2 (xm_n S 0 2) 6 = none ∧ xm_i S' 2 (xm_n S 0 2) 7 = (-1 : Int32) ∧ xm_i S' 2 (xm_n S 0 2) 8 = (0 : Int32) ∧ xm_i S' 2 (xm_n S 0 2) 9 = (-1 : Int32) ∧ xm_i S' 2 (xm_n S 0 2) 10 = (0 : Int32) ∧ xm_r S' 2 (xm_n S 0 2) 11 = none ∧ xm_i S' 2 (xm_n S 0 2) 12 = (-1 : Int32) ∧ xm_i S' 2 (xm_n S 0 2) 13 = (0 : Int32) ∧ xm_i S' 2 (xm_n S 0 2) 14 = (0 : Int32) ∧ xm_r S' 2 (xm_n S 0 2) 15 = none ∧ xm_i S' 2 (xm_n S 0 2) 16 = (0 : Int32) ∧ xm_r S' 2 (xm_n S 0 2) 17 = none ∧ xm_r S' 2 (xm_n S 0 2) 18 = none ∧ xm_i S' 2 (xm_n S 0 2) 19 = (0 : Int32) ∧ xm_i S' 2 (xm_n S 0 2) 0 = (nI (xm_n (xm_mk 2 20 S) 1 6)) ∧ xm_r S' 2 (xm_n S 0 2) 1 = (some o) ∧ xm_r S' 2 (xm_n S 0 2) 2 = par ∧ xm_i S' 2 (xm_n S 0 2) 3 = dv ∧ xm_r S' 2 (xm_n S 0 2) 4 = gd ∧ xm_i S' 2 (xm_n S 0 2) 5 = T
theorem kNo.mk (S : xm_S) (o : Nat) (par gd : Option Nat) (dv T : Int32) : kNo S (xm_si (xm_sr (xm_si (xm_sr (xm_sr (xm_si (xm_si (xm_sr (xm_sr (xm_si (xm_sr (xm_si (xm_si (xm_si (xm_sr (xm_si (xm_si (xm_si (xm_si (xm_sr (xm_mk 2 20 S) 2 (xm_n S 0 2) 6 none) 2 (xm_n S 0 2) 7 (-1 : Int32)) 2 (xm_n S 0 2) 8 (0 : Int32)) 2 (xm_n S 0 2) 9 (-1 : Int32)) 2 (xm_n S 0 2) 10 (0 : Int32)) 2 (xm_n S 0 2) 11 none) 2 (xm_n S 0 2) 12 (-1 : Int32)) 2 (xm_n S 0 2) 13 (0 : Int32)) 2 (xm_n S 0 2) 14 (0 : Int32)) 2 (xm_n S 0 2) 15 none) 2 (xm_n S 0 2) 16 (0 : Int32)) 2 (xm_n S 0 2) 17 none) 2 (xm_n S 0 2) 18 none) 2 (xm_n S 0 2) 19 (0 : Int32)) 2 (xm_n S 0 2) 0 (nI (xm_n (xm_mk 2 20 S) 1 6))) 2 (xm_n S 0 2) 1 (some o)) 2 (xm_n S 0 2) 2 par) 2 (xm_n S 0 2) 3 dv) 2 (xm_n S 0 2) 4 gd) 2 (xm_n S 0 2) 5 T) o par gd dv T :=
  ⟨(((((((((((((((((((((kN.mk S 2 20).sr 6 _).si 7 _).si 8 _).si 9 _).si 10 _).sr 11 _).si 12 _).si 13 _).si 14 _).sr 15 _).si 16 _).sr 17 _).sr 18 _).si 19 _).si 0 _).sr 1 _).sr 2 _).si 3 _).sr 4 _).si 5 _), xr_si.trans ((xr_sr (by decide)).trans (xr_si.trans ((xr_sr (by decide)).trans ((xr_sr (by decide)).trans (xr_si.trans (xr_si.trans ((xr_sr (by decide)).trans ((xr_sr (by decide)).trans (xr_si.trans ((xr_sr (by decide)).trans (xr_si.trans (xr_si.trans (xr_si.trans ((xr_sr (by decide)).trans (xr_si.trans (xr_si.trans (xr_si.trans (xr_si.trans (xr_same))))))))))))))))))), (xi_si (by decide)).trans (xi_sr.trans ((xi_si (by decide)).trans (xi_sr.trans (xi_sr.trans ((xi_si (by decide)).trans ((xi_si (by decide)).trans (xi_sr.trans (xi_sr.trans ((xi_si (by decide)).trans (xi_sr.trans ((xi_si (by decide)).trans ((xi_si (by decide)).trans ((xi_si (by decide)).trans (xi_sr.trans ((xi_si (by decide)).trans ((xi_si (by decide)).trans ((xi_si (by decide)).trans (xi_same)))))))))))))))))), (xi_si (by decide)).trans (xi_sr.trans ((xi_si (by decide)).trans (xi_sr.trans (xi_sr.trans ((xi_si (by decide)).trans ((xi_si (by decide)).trans (xi_sr.trans (xi_sr.trans ((xi_si (by decide)).trans (xi_sr.trans ((xi_si (by decide)).trans ((xi_si (by decide)).trans ((xi_si (by decide)).trans (xi_sr.trans ((xi_si (by decide)).trans ((xi_si (by decide)).trans (xi_same))))))))))))))))), (xi_si (by decide)).trans (xi_sr.trans ((xi_si (by decide)).trans (xi_sr.trans (xi_sr.trans ((xi_si (by decide)).trans ((xi_si (by decide)).trans (xi_sr.trans (xi_sr.trans ((xi_si (by decide)).trans (xi_sr.trans ((xi_si (by decide)).trans ((xi_si (by decide)).trans ((xi_si (by decide)).trans (xi_sr.trans ((xi_si (by decide)).trans (xi_same)))))))))))))))), (xi_si (by decide)).trans (xi_sr.trans ((xi_si (by decide)).trans (xi_sr.trans (xi_sr.trans ((xi_si (by decide)).trans ((xi_si (by decide)).trans (xi_sr.trans (xi_sr.trans ((xi_si (by decide)).trans (xi_sr.trans ((xi_si (by decide)).trans ((xi_si (by decide)).trans ((xi_si (by decide)).trans (xi_sr.trans (xi_same))))))))))))))), xr_si.trans ((xr_sr (by decide)).trans (xr_si.trans ((xr_sr (by decide)).trans ((xr_sr (by decide)).trans (xr_si.trans (xr_si.trans ((xr_sr (by decide)).trans ((xr_sr (by decide)).trans (xr_si.trans ((xr_sr (by decide)).trans (xr_si.trans (xr_si.trans (xr_si.trans (xr_same)))))))))))))), (xi_si (by decide)).trans (xi_sr.trans ((xi_si (by decide)).trans (xi_sr.trans (xi_sr.trans ((xi_si (by decide)).trans ((xi_si (by decide)).trans (xi_sr.trans (xi_sr.trans ((xi_si (by decide)).trans (xi_sr.trans ((xi_si (by decide)).trans ((xi_si (by decide)).trans (xi_same))))))))))))), (xi_si (by decide)).trans (xi_sr.trans ((xi_si (by decide)).trans (xi_sr.trans (xi_sr.trans ((xi_si (by decide)).trans ((xi_si (by decide)).trans (xi_sr.trans (xi_sr.trans ((xi_si (by decide)).trans (xi_sr.trans ((xi_si (by decide)).trans (xi_same)))))))))))), (xi_si (by decide)).trans (xi_sr.trans ((xi_si (by decide)).trans (xi_sr.trans (xi_sr.trans ((xi_si (by decide)).trans ((xi_si (by decide)).trans (xi_sr.trans (xi_sr.trans ((xi_si (by decide)).trans (xi_sr.trans (xi_same))))))))))), xr_si.trans ((xr_sr (by decide)).trans (xr_si.trans ((xr_sr (by decide)).trans ((xr_sr (by decide)).trans (xr_si.trans (xr_si.trans ((xr_sr (by decide)).trans ((xr_sr (by decide)).trans (xr_si.trans (xr_same)))))))))), (xi_si (by decide)).trans (xi_sr.trans ((xi_si (by decide)).trans (xi_sr.trans (xi_sr.trans ((xi_si (by decide)).trans ((xi_si (by decide)).trans (xi_sr.trans (xi_sr.trans (xi_same))))))))), xr_si.trans ((xr_sr (by decide)).trans (xr_si.trans ((xr_sr (by decide)).trans ((xr_sr (by decide)).trans (xr_si.trans (xr_si.trans ((xr_sr (by decide)).trans (xr_same)))))))), xr_si.trans ((xr_sr (by decide)).trans (xr_si.trans ((xr_sr (by decide)).trans ((xr_sr (by decide)).trans (xr_si.trans (xr_si.trans (xr_same))))))), (xi_si (by decide)).trans (xi_sr.trans ((xi_si (by decide)).trans (xi_sr.trans (xi_sr.trans ((xi_si (by decide)).trans (xi_same)))))), (xi_si (by decide)).trans (xi_sr.trans ((xi_si (by decide)).trans (xi_sr.trans (xi_sr.trans (xi_same))))), xr_si.trans ((xr_sr (by decide)).trans (xr_si.trans ((xr_sr (by decide)).trans (xr_same)))), xr_si.trans ((xr_sr (by decide)).trans (xr_si.trans (xr_same))), (xi_si (by decide)).trans (xi_sr.trans (xi_same)), xr_si.trans (xr_same), xi_same⟩
theorem c_newCall {d : Nat} {S : xm_S} {Q : Option xm_V → xm_S → Prop} {o : Nat} {par gd : Option Nat} {T dv : Int32} (hC : xk_C S) (hp : ∀ p, par = some p → p ≠ (xm_n S 0 2)) (hd0 : par = none → dv = 0) (hd1 : ∀ p, par = some p → xm_i S 2 p 3 + 1 = dv) (h : ∀ S', kNo S S' o par gd dv T → xk_C S' → Q none S') :
    xc d 93 [.inr (some (2, (xm_n S 0 2))), .inl (nI (xm_n (xm_mk 2 20 S) 1 6)), .inr (some (6, o)), .inr (xo 2 par), .inr (xo 5 gd), .inl T] (xm_mk 2 20 S) Q := by
  refine cw_newCall (S := xm_mk 2 20 S) hC ?_
  intro S1 e1 S3 e3 S5 e5 S7 e7 S9 e9 S11 e11 S13 e13 S15 e15 S17 e17 S19 e19 S21 e21 S23 e23 S25 e25 S27 e27 S29 e29 S31 e31 S33 e33
  subst e1 e3 e5 e7 e9 e11 e13 e15 e17 e19 e21 e23 e25 e27 e29 e31 e33
  refine ⟨fun hn S36 e36 S38 e38 S40 e40 => ?_, fun p hpp S42 e42 S44 e44 S46 e46 => ?_⟩
  · subst e36 e38 e40
    refine h _ ?_ hC
    rw [hd0 hn]
    exact kNo.mk S o par gd 0 T
  · subst e42 e44 e46
    have e : xm_i (xm_mk 2 20 S) 2 p 3 = xm_i S 2 p 3 := (((kN.mk S 2 20).1 2 p 3).resolve_left (fun z => hp p hpp z.2)).1
    rw [e, hd1 p hpp]
    exact h _ (kNo.mk S o par gd dv T) hC
/-- behind the two pushes -/
theorem k_pp {S S5 : xm_S} {A : y_A} {X E B : Nat → Prop} {hb rb nb t w e1 e2 : Nat} (hM : kM S A X E B hb rb nb t w e1 e2) (n : kN S S5 2 20) : xm_n S5 2 6 ≠ 0 ∧ xm_n S5 1 6 < 100000 ∧ ∀ S9, S9 = xm_push 6 (2, (xm_n S 0 2)) S5 → xm_n S9 2 7 ≠ 0 ∧ xm_n S9 1 7 < 100000 ∧ ∀ S13, S13 = xm_push 7 (2, (xm_n S 0 2)) S9 → xm_i S13 = xm_i S5 ∧ xm_r S13 = xm_r S5 ∧ ((∀ r, r < 100 → xm_n S13 0 r = if r = 2 then xm_n S 0 2 + 1 else xm_n S 0 r) ∧ (∀ r, xm_n S13 1 r = if r = 6 ∨ r = 7 then xm_n S 1 r + 1 else xm_n S 1 r) ∧ (∀ r, r ≠ 6 → r ≠ 7 → xm_n S13 2 r = xm_n S 2 r) ∧ (∀ r, r = 6 ∨ r = 7 → xm_n S13 2 r ≠ 0 ∧ xm_n S13 2 r ≤ 202 + 2 * (xm_n S 1 6)) ∧ ∀ p r, 25 ≤ p → xm_n S13 p r = xm_n S p r) ∧
    (∀ r i, xm_l S13 r i = if (r = 6 ∧ i = (xm_n S 1 6)) ∨ (r = 7 ∧ i = xm_n S 1 7) then (2, (xm_n S 1 6)) else xm_l S r i) := by
  have hbb := hM.1.2.2.1
  unfold k_bnd at hbb
  obtain ⟨v1, v2, -⟩ := hM.2.2.2.2.2.2.2.1
  have jobj := hM.2.2.2.2.2.2.1
  have o2 := jobj.2.2.2.2.1
  have o12 := jobj.2.2.2.2.2.2.2.2.2.2.2.1
  have nn : ∀ p r, p = 1 ∨ p = 2 → xm_n S5 p r = xm_n S p r := fun p r hp => by
    rw [n.n, if_neg (by omega), if_neg (by omega), if_neg (by omega), if_neg (by omega), if_neg (by omega)]
  have n0 : ∀ r, r < 100 → xm_n S5 0 r = if r = 2 then (xm_n S 0 2) + 1 else xm_n S 0 r := fun r hr => by
    rw [n.n]
    by_cases e : r = 2
    · rw [if_pos ⟨rfl, e⟩, if_pos e]
    · rw [if_neg (fun z => e z.2), if_neg (by omega), if_neg (by omega), if_neg (by omega), if_neg (by omega), if_neg e]
  have n3 : ∀ p r, 25 ≤ p → xm_n S5 p r = xm_n S p r := fun p r hp => by
    rw [n.n, if_neg (by omega), if_neg (by omega), if_neg (by omega), if_neg (by omega), if_neg (by omega)]
  have h26 := v1 6 (by omega)
  have h27 := v1 7 (by omega)
  have b26 := v2 6 (by decide)
  have b27 := v2 7 (by decide)
  refine ⟨by rw [nn 2 6 (Or.inr rfl)]; exact h26, by rw [nn 1 6 (Or.inl rfl)]; omega, fun S9 e9 => ?_⟩
  obtain ⟨c2, c100, c101, b, ep, hc2, hcp⟩ := xm_push_x S5 6 (2, (xm_n S 0 2)) (by rw [nn 2 6 (Or.inr rfl)]; exact h26)
  rw [nn 2 6 (Or.inr rfl), nn 1 6 (Or.inl rfl)] at hcp
  rw [ep] at e9
  have m2 : ∀ r, xm_n S9 2 r = if r = 6 then c2 else xm_n S 2 r := fun r => by rw [e9, xp_n2, nn 2 r (Or.inr rfl)]
  have m1 : ∀ r, xm_n S9 1 r = if r = 6 then (xm_n S 1 6) + 1 else xm_n S 1 r := fun r => by rw [e9, xp_n1, nn 1 r (Or.inl rfl), nn 1 6 (Or.inl rfl)]
  have m0 : ∀ r, r < 100 → xm_n S9 0 r = if r = 2 then (xm_n S 0 2) + 1 else xm_n S 0 r := fun r hr => by rw [e9, xp_n0 hr]; exact n0 r hr
  have m3 : ∀ p r, 25 ≤ p → xm_n S9 p r = xm_n S p r := fun p r hp => by rw [e9, xp_n3 (by omega)]; exact n3 p r hp
  have ml : ∀ r i, xm_l S9 r i = if r = 6 ∧ i = (xm_n S 1 6) then (2, (xm_n S 0 2)) else xm_l S r i := fun r i => by rw [e9, xp_l, n.2.1, nn 1 6 (Or.inl rfl)]
  have hi : xm_i S9 = xm_i S5 := by rw [e9]; rfl
  have hr : xm_r S9 = xm_r S5 := by rw [e9]; rfl
  clear e9 ep
  refine ⟨by rw [m2, if_neg (by decide)]; exact h27, by rw [m1, if_neg (by decide)]; omega, fun S13 e13 => ?_⟩
  obtain ⟨c2', c100', c101', b', ep', hc2', hcp'⟩ := xm_push_x S9 7 (2, (xm_n S 0 2)) (by rw [m2, if_neg (by decide)]; exact h27)
  rw [m2, m1, if_neg (by decide), if_neg (by decide)] at hcp'
  rw [ep'] at e13
  subst e13
  refine ⟨hi, hr, ⟨fun r hr => by rw [xp_n0 hr]; exact m0 r hr, fun r => ?_, fun r z1 z2 => ?_, fun r z => ?_, fun p r hp => by rw [xp_n3 (by omega)]; exact m3 p r hp⟩, fun r i => ?_⟩
  · rw [xp_n1]
    by_cases e : r = 7
    · rw [if_pos e, if_pos (Or.inr e), m1, if_neg (by decide), e]
    · rw [if_neg e, m1]
      by_cases e6 : r = 6
      · rw [if_pos e6, if_pos (Or.inl e6), e6]
      · rw [if_neg e6, if_neg (by omega)]
  · rw [xp_n2, if_neg z2, m2, if_neg z1]
  · rw [xp_n2]
    rcases z with z | z
    · rw [if_neg (by omega), m2, if_pos z]
      exact ⟨hc2, by rcases hcp with y | y | y <;> omega⟩
    · rw [if_pos z]
      exact ⟨hc2', by rcases hcp' with y | y | y <;> omega⟩
  · have e17 : xm_n S9 1 7 = xm_n S 1 7 := by rw [m1, if_neg (by decide)]
    rw [xp_l, e17, ml, o2]
    by_cases e7 : r = 7 ∧ i = xm_n S 1 7
    · rw [if_pos e7, if_pos (Or.inr e7)]
    · rw [if_neg e7]
      by_cases e6 : r = 6 ∧ i = (xm_n S 1 6)
      · rw [if_pos e6, if_pos (Or.inl e6)]
      · rw [if_neg e6, if_neg (fun z => z.elim e6 e7)]
theorem c_addCall {d : Nat} {S : xm_S} {A : y_A} {X E B : Nat → Prop} {hb rb nb t w e1 e2 o dp : Nat} {par gd : Option Nat} (hM : kM S A X E B hb rb nb t w e1 e2) (hp : ∀ p, par = some p → p < (xm_n S 1 6)) (hd0 : par = none → dp = 0) (hd1 : ∀ p, par = some p → xm_i S 2 p 3 + 1 = nI dp) :
    xc (d + 1) 17 [.inr (some (0, 0)), .inr (some (6, o)), .inr (xo 2 par), .inr (xo 5 gd)] S (fun r S' => r = some (.inr (some (2, (xm_n S 1 6)))) ∧ xk_C S' ∧ kNs S S' o dp par gd none (A 0 0) (-1)) := by
  have o2 := (hM.2.2.2.2.2.2.1).2.2.2.2.1
  have ht := hM.1.2.2.2.2.1.1
  refine cw_addCall hM.1.1 ?_
  intro k1 ek S3 eS
  subst ek eS
  refine c_newCall (dv := nI dp) hM.1.1 (fun p z => by rw [o2]; have := hp p z; omega) (fun z => by rw [hd0 z]; rfl) hd1 (fun S5 hN hC5 => ?_)
  obtain ⟨n, f6, f7, f8, f9, f10, f11, f12, f13, f14, f15, f16, f17, f18, f19, f0, f1, f2, f3, f4, f5⟩ := hN
  have e6 : xm_n (xm_mk 2 20 S) 1 6 = xm_n S 1 6 := by
    rw [(kN.mk S 2 20).n, if_neg (by omega), if_neg (by omega), if_neg (by omega), if_neg (by omega), if_neg (by omega)]
  rw [e6] at f0
  rw [ht] at f5
  obtain ⟨q1, q2, q3⟩ := k_pp hM n
  refine ⟨rfl, hC5, q1, q2, fun S9 e9 => ?_⟩
  obtain ⟨q4, q5, q6⟩ := q3 S9 e9
  refine ⟨q4, q5, fun S13 e13 => ?_⟩
  obtain ⟨hi, hr, hn, hl⟩ := q6 S13 e13
  have hC13 : xk_C S13 := fun j hj => by rw [hr]; exact hC5 j hj
  clear e13 e9 q6 q3
  have nI5 : ∀ p q j, ¬ (p = 2 ∧ q = (xm_n S 1 6)) → xm_i S13 p q j = xm_i S p q j ∧ xm_r S13 p q j = xm_r S p q j := fun p q j hne => by
    rw [hi, hr]
    exact (n.1 p q j).resolve_left (by rw [o2]; exact hne)
  rw [o2] at f6 f7 f8 f9 f10 f11 f12 f13 f14 f15 f16 f17 f18 f19 f0 f1 f2 f3 f4 f5 ⊢
  rw [← hr] at f6 f11 f15 f17 f18 f1 f2 f4
  rw [← hi] at f7 f8 f9 f10 f12 f13 f14 f16 f19 f0 f3 f5
  refine ⟨fun hnone S16 e16 => ?_, fun p hpp t18 e18 S20 e20 S22 e22 S24 e24 => ?_⟩
  · subst e16
    refine ⟨rfl, hC13, fun p q j z1 z2 => (nI5 p q j z1).1, fun p q j z1 z2 z3 => ?_, hn, hl, ⟨⟨f0, f3, f5, f7, f8, f9, f10, f12, f13, f14, f16, f19⟩, f1, f2, f4, f6, f11, f15, f17, fun p z => ?_⟩, fun p z => ?_, fun _ => xr_same⟩
    · exact (if_neg (fun y => z3 ⟨y.1, y.2.1, y.2.2, hnone⟩)).trans (nI5 p q j z1).2
    · rw [hnone] at z; cases z
    · rw [hnone] at z; cases z
  · have hpN := hp p hpp
    have e18' : xm_r S 2 p 17 = t18 := by
      rw [← e18, ← hr]
      exact (nI5 2 p 17 (by omega)).2.symm
    have e16' : xm_i S5 2 p 16 = xm_i S 2 p 16 := by
      rw [← hi]
      exact (nI5 2 p 16 (by omega)).1
    rw [e16'] at e24
    subst e20 e22 e24
    have rI : ∀ q j, ¬ (q = p ∧ j = 16) → xm_i (xm_si (xm_sr (xm_sr S13 2 (xm_n S 1 6) 18 t18) 2 p 17 (some (xm_n S 1 6))) 2 p 16 (xm_i S 2 p 16 + 1)) 2 q j = xm_i S13 2 q j := fun q j z => if_neg (fun y => z ⟨y.2.1, y.2.2⟩)
    have rR : ∀ q j, ¬ (q = p ∧ j = 17) → ¬ (q = (xm_n S 1 6) ∧ j = 18) → xm_r (xm_si (xm_sr (xm_sr S13 2 (xm_n S 1 6) 18 t18) 2 p 17 (some (xm_n S 1 6))) 2 p 16 (xm_i S 2 p 16 + 1)) 2 q j = xm_r S13 2 q j := fun q j z1 z2 => (if_neg (fun y => z1 ⟨y.2.1, y.2.2⟩)).trans (if_neg (fun y => z2 ⟨y.2.1, y.2.2⟩))
    refine ⟨rfl, hC13, fun p' q j z1 z2 => ?_, fun p' q j z1 z2 z3 => ?_, hn, hl, ⟨⟨(rI _ 0 (by omega)).trans f0, (rI _ 3 (by omega)).trans f3, (rI _ 5 (by omega)).trans f5, (rI _ 7 (by omega)).trans f7, (rI _ 8 (by omega)).trans f8, (rI _ 9 (by omega)).trans f9, (rI _ 10 (by omega)).trans f10, (rI _ 12 (by omega)).trans f12, (rI _ 13 (by omega)).trans f13, (rI _ 14 (by omega)).trans f14, (rI _ 16 (by omega)).trans f16, (rI _ 19 (by omega)).trans f19⟩, (rR _ 1 (by omega) (by omega)).trans f1, (rR _ 2 (by omega) (by omega)).trans f2, (rR _ 4 (by omega) (by omega)).trans f4, (rR _ 6 (by omega) (by omega)).trans f6, (rR _ 11 (by omega) (by omega)).trans f11, (rR _ 15 (by omega) (by omega)).trans f15, (rR _ 17 (by omega) (by omega)).trans f17, fun p' z => ?_⟩, fun p' z => ?_, fun z => ?_⟩
    · exact (if_neg (fun y => z2 ⟨y.1, by rw [hpp, y.2.1], y.2.2⟩)).trans (nI5 p' q j z1).1
    · exact (if_neg (fun y => z2 ⟨y.1, by rw [hpp, y.2.1], y.2.2⟩)).trans ((if_neg (fun y => z1 ⟨y.1, y.2.1⟩)).trans (nI5 p' q j z1).2)
    · rw [show p' = p from Option.some.inj (z.symm.trans hpp), e18']
      exact (if_neg (fun y => absurd y.2.2 (by decide))).trans xr_same
    · rw [show p' = p from Option.some.inj (z.symm.trans hpp)]
      exact ⟨xi_same, xr_same⟩
    · rw [hpp] at z; cases z
/-- the station and the end of the try are set -/
theorem kNs.try {S S1 : xm_S} {o d : Nat} {par gd : Option Nat} {T D : Int32} {s : Nat} (h : kNs S S1 o d par gd none T (-1)) (hp : ∀ p, par = some p → p < (xm_n S 1 6)) : kNs S (xm_si (xm_sr S1 2 (xm_n S 1 6) 6 (some s)) 2 (xm_n S 1 6) 12 D) o d par gd (some s) T D := by
  obtain ⟨fI, fR, hn, fl, ⟨⟨i0, i3, i5, i7, i8, i9, i10, i12, i13, i14, i16, i19⟩, ⟨r1, r2, r4, r6, r11, r15, r17, r18⟩⟩, fp, ff⟩ := h
  have rI : ∀ q j, j ≠ 12 → xm_i (xm_si (xm_sr S1 2 (xm_n S 1 6) 6 (some s)) 2 (xm_n S 1 6) 12 D) 2 q j = xm_i S1 2 q j := fun q j z => if_neg (fun y => z y.2.2)
  have rR : ∀ q j, j ≠ 6 → xm_r (xm_si (xm_sr S1 2 (xm_n S 1 6) 6 (some s)) 2 (xm_n S 1 6) 12 D) 2 q j = xm_r S1 2 q j := fun q j z => if_neg (fun y => z y.2.2)
  refine ⟨fun p' q j z1 z2 => ?_, fun p' q j z1 z2 z3 => ?_, hn, fl, ⟨⟨(rI _ 0 (by decide)).trans i0, (rI _ 3 (by decide)).trans i3, (rI _ 5 (by decide)).trans i5, (rI _ 7 (by decide)).trans i7, (rI _ 8 (by decide)).trans i8, (rI _ 9 (by decide)).trans i9, (rI _ 10 (by decide)).trans i10, xi_same, (rI _ 13 (by decide)).trans i13, (rI _ 14 (by decide)).trans i14, (rI _ 16 (by decide)).trans i16, (rI _ 19 (by decide)).trans i19⟩, (rR _ 1 (by decide)).trans r1, (rR _ 2 (by decide)).trans r2, (rR _ 4 (by decide)).trans r4, xr_same, (rR _ 11 (by decide)).trans r11, (rR _ 15 (by decide)).trans r15, (rR _ 17 (by decide)).trans r17, fun p z => (rR _ 18 (by decide)).trans (r18 p z)⟩, fun p z => ⟨(rI _ 16 (by decide)).trans (fp p z).1, (rR _ 17 (by decide)).trans (fp p z).2⟩, fun z => xr_si.trans ((xr_sr (by decide)).trans (ff z))⟩
  · exact (if_neg (fun y => z1 ⟨y.1, y.2.1⟩)).trans (fI p' q j z1 z2)
  · exact (if_neg (fun y => z1 ⟨y.1, y.2.1⟩)).trans (fR p' q j z1 z2 z3)
end
