/-! ===== A CALL WAITS AT ITS BULKHEAD (printed by wip/whole/gen9o.py) ===== -/
section
theorem kM.wait {S : xm_S} {A A' : y_A} {X E B : Nat → Prop} {hb rb nb t w e1 e2 p g q c2 c100 c101 : Nat} {b : Nat → Nat → Nat} (h : kM S A X E B hb rb nb t w e1 e2) (hp : p < xm_n S 1 6) (hEp : E p) (hp0 : xm_i S 2 p 8 = 0) (h16 : xm_i S 2 p 16 = 0) (hg : xm_r S 2 p 4 = some g) (hsort : A 31 g = 1) (h75 : ¬ A 75 p = 1) (hq : xm_r S 5 g 12 = some q) (hn : xm_n S 1 q < 10) (hcp : (xm_n S 2 q = 1 ∧ c2 = 10) ∨ (xm_n S 1 q = xm_n S 2 q ∧ c2 ≤ 2 * xm_n S 1 q) ∨ (xm_n S 2 q ≠ 1 ∧ xm_n S 1 q ≠ xm_n S 2 q ∧ c2 = xm_n S 2 q))
    (hA : ∀ x e, A' x e = if x = 40 ∧ e = g then nI (xm_n S 1 q + 1) else if x = 43 ∧ e = 10 * g + xm_n S 1 q then nI p else if x = 75 ∧ e = p then 1 else A x e) : kM (xk_psh (xm_si S 2 p 13 1) q (2, p) c2 c100 c101 b) A' X E B hb rb nb t w e1 e2 := by
  have hM := h
  obtain ⟨⟨hC, hcnt, hb', hl', ht, hv, h1, h2, h3, -⟩, hS, hgr, ⟨-, -, j3, -, j5, -, j7, j8, j9, -⟩⟩ := h
  have hgn : g < xm_n S 1 3 := (h2 p hp).2.2.2.2.2.2.2.2.2.2.2.2.2.2.2.2.2.2.2.2.2.2.2.1 g hg
  obtain ⟨q', y1, y2, y3, y4, y5, y6⟩ := (h3 g hgn).2.2.2.2.2.2.2.2.2.2.2.2.1
  obtain rfl : q' = q := Option.some.inj (y1.symm.trans hq)
  obtain ⟨z1, z2, z3⟩ := j9 g q' hgn hq
  have hbb := hb'
  unfold k_bnd at hbb
  have fI : ∀ x e j, ¬ (x = 2 ∧ e = p ∧ j = 13) → xm_i (xk_psh (xm_si S 2 p 13 1) q' (2, p) c2 c100 c101 b) x e j = xm_i S x e j := fun x e j z => by
    show xm_i (xm_si S 2 p 13 1) x e j = _
    by_cases e2 : x = 2 ∧ e = p
    · exact xi_si (fun y => z ⟨e2.1, e2.2, y.2⟩)
    · exact xi_sk e2
  have v13 : xm_i (xk_psh (xm_si S 2 p 13 1) q' (2, p) c2 c100 c101 b) 2 p 13 = 1 := xi_same
  have fR : xm_r (xk_psh (xm_si S 2 p 13 1) q' (2, p) c2 c100 c101 b) = xm_r S := rfl
  have ll : ∀ r i, xm_l (xk_psh (xm_si S 2 p 13 1) q' (2, p) c2 c100 c101 b) r i = if r = q' ∧ i = xm_n S 1 q' then (2, p) else xm_l S r i := fun r i => rfl
  have nn : ∀ x r, xm_n (xk_psh (xm_si S 2 p 13 1) q' (2, p) c2 c100 c101 b) x r = if x = 1 ∧ r = q' then xm_n S 1 q' + 1 else if x = 2 ∧ r = q' then c2 else if x = 0 ∧ r = 100 then c100 else if x = 0 ∧ r = 101 then c101 else xm_n S x r := fun x r => rfl
  have nq : xm_n (xk_psh (xm_si S 2 p 13 1) q' (2, p) c2 c100 c101 b) 1 q' = xm_n S 1 q' + 1 := by rw [nn, if_pos ⟨rfl, rfl⟩]
  have c10 : c2 = 10 := by
    rcases j5.2.2 q' y2 y3 with x | x
    · omega
    · omega
  generalize xk_psh (xm_si S 2 p 13 1) q' (2, p) c2 c100 c101 b = S' at *
  have act : ∀ e, k_act S' X e ↔ k_act S X e := fun e => by unfold k_act; rw [fI 2 e 8 (by omega)]
  have o : ∀ x e, x ≠ 40 → x ≠ 43 → ¬ (x = 75 ∧ e = p) → A' x e = A x e := fun x e w1 w2 w3 => by rw [hA, if_neg (fun z => w1 z.1), if_neg (fun z => w2 z.1), if_neg w3]
  have a75 : A' 75 p = 1 := by rw [hA, if_neg (by omega), if_neg (by omega), if_pos ⟨rfl, rfl⟩]
  have nop : ∀ i, i < xm_n S 1 q' → xm_l S q' i ≠ (2, p) := fun i hi z => h75 (z1 i p hi z).2.2.1
  refine kM.que (c := p) (g := g) (q := q') hM hp hg hq (fun x e j w1 _ => fI x e j w1) fR (fun r hr => by rw [nn, if_neg (fun z => hr z.2), if_neg (by omega), if_neg (by omega), if_neg (by omega)]) (fun r hr => by rw [nn, if_neg (by omega), if_neg (by omega), if_neg (by omega), if_neg (by omega)]) (fun r hr => by rw [nn, if_neg (by omega), if_neg (fun z => hr z.2), if_neg (by omega), if_neg (by omega)]) (fun x r hx => by rw [nn, if_neg (by omega), if_neg (by omega), if_neg (by omega), if_neg (by omega)]) (fun r i hr => by rw [ll, if_neg (fun z => hr z.1)]) (Or.inr (by rw [nn, if_neg (by omega), if_pos ⟨rfl, rfl⟩]; exact c10)) (fun x e w1 w2 w3 w4 w5 => ?_) (Or.inr a75) ?_ ?_ ?_ (by rw [nq]; omega) (fun i hi => ?_) (fun e he => ?_) (fun g' c hg' hc => ?_) ⟨fun i e hi he => ?_, fun i j hij hj => ?_, fun e he w1 w2 w3 => ?_⟩ (fun e _ => act e)
  · rw [hA, if_neg w3, if_neg (fun z => w5 ⟨z.1, by omega, by omega⟩), if_neg w1]
  · rw [o 77 p (by decide) (by decide) (by omega)]
    exact (h2 p hp).2.2.2.2.2.2.2.2.2.2.2.2.2.2.2.2.2.2.2.2.1
  · rw [fI 5 g 10 (by omega), o 39 g (by decide) (by decide) (by omega)]
    exact (h3 g hgn).2.2.2.2.2.2.2.2.2.1
  · rw [hA, if_pos ⟨rfl, rfl⟩, nq]
  · rw [nq] at hi
    by_cases e : i = xm_n S 1 q'
    · refine ⟨p, ?_, hp, ?_⟩
      · rw [ll, if_pos ⟨rfl, e⟩]
      · rw [hA, if_neg (by omega), if_pos ⟨rfl, by omega⟩]
    · obtain ⟨x, x1, x2, x3⟩ := y6 i (by omega)
      refine ⟨x, ?_, x2, ?_⟩
      · rw [ll, if_neg (fun z => e z.2)]; exact x1
      · rw [hA, if_neg (by omega), if_neg (by omega), if_neg (by omega)]; exact x3
  · have he' : e < xm_n S 1 6 := by rw [nn, if_neg (by omega), if_neg (by omega), if_neg (by omega), if_neg (by omega)] at he; exact he
    obtain ⟨x1, x2, x3, x4, x5, x6⟩ := j7 e he'
    rw [act e, fR, o 76 e (by decide) (by decide) (by omega), o 77 e (by decide) (by decide) (by omega), o 78 e (by decide) (by decide) (by omega), o 79 e (by decide) (by decide) (by omega)]
    simp only [fun g => o 31 g (by decide) (by decide) (by omega)]
    refine ⟨fun y => ?_, fun y => ?_, x3, x4, x5, fun g' hg' w1 w2 => ?_⟩
    · by_cases c : e = p
      · unfold k_rest
        rw [c, v13, a75, if_pos rfl]
      · have := x1 y
        unfold k_rest at this ⊢
        rw [fI 2 e 13 (by omega), fR, o 75 e (by decide) (by decide) (by omega), o 76 e (by decide) (by decide) (by omega)]
        exact this
    · by_cases c : e = p
      · rw [c]; exact ⟨g, hg, hsort⟩
      · rw [o 75 e (by decide) (by decide) (by omega)] at y
        exact x2 y
    · have c : e ≠ p := fun z => w2 (by rw [z]; exact hEp)
      rw [o 75 e (by decide) (by decide) (by omega)]
      exact x6 g' hg' w1 w2
  · rw [nn, if_neg (by omega), if_neg (by omega), if_neg (by omega), if_neg (by omega)] at hg'
    rw [fR] at hc
    obtain ⟨x1, x2, x3, x4, x5, x6⟩ := j8 g' c hg' hc
    rw [nn, if_neg (by omega), if_neg (by omega), if_neg (by omega), if_neg (by omega), act c, fR, o 79 c (by decide) (by decide) (by omega), o 36 g' (by decide) (by decide) (by omega)]
    exact ⟨x1, x2, x3, x4, x5, x6⟩
  · rw [nq] at hi
    rw [ll] at he
    by_cases c : i = xm_n S 1 q'
    · rw [if_pos ⟨rfl, c⟩] at he
      rw [← (Prod.mk.inj he).2]
      exact ⟨(act p).mpr (Or.inl hp0), hg, a75, h16⟩
    · rw [if_neg (fun z => c z.2)] at he
      obtain ⟨x1, x2, x3, x4⟩ := z1 i e (by omega) he
      refine ⟨(act e).mpr x1, x2, ?_, x4⟩
      by_cases c : e = p
      · rw [c]; exact a75
      · rw [o 75 e (by decide) (by decide) (by omega)]; exact x3
  · rw [nq] at hj
    rw [ll, ll, if_neg (by omega)]
    by_cases c : j = xm_n S 1 q'
    · rw [if_pos ⟨rfl, c⟩]
      exact nop i (by omega)
    · rw [if_neg (fun z => c z.2)]
      exact z2 i j hij (by omega)
  · by_cases c : e = p
    · refine ⟨xm_n S 1 q', by rw [nq]; omega, ?_⟩
      rw [ll, if_pos ⟨rfl, rfl⟩, c]
    · rw [o 75 e (by decide) (by decide) (by omega)] at w3
      obtain ⟨i, i1, i2⟩ := z3 e he ((act e).mp w1) w2 w3
      refine ⟨i, by rw [nq]; omega, ?_⟩
      rw [ll, if_neg (by omega)]
      exact i2
end
