/-! ===== WHO WAITS IS ADMITTED (printed by wip/whole/gen9zf.py) ===== -/
section
theorem k_320 {l2 : Int32} {g w : Nat} (hg : g < 24) (hw : w ≤ 9) : ∀ (r i n : Nat) (A : y_A), i + r = w → r < n → A 40 g = nI w → rg_tick_320 n (nI g) l2 (nI i) A ∧ ∀ x k, (rf_tick_320 n (nI g) l2 (nI i) A).2 x k = if x = 43 ∧ 10 * g + i ≤ k ∧ k < 10 * g + w then A 43 (k + 1) else A x k := by
  intro r
  induction r with
  | zero =>
    intro i n A hi hn h40
    obtain ⟨n, rfl⟩ : ∃ j, n = j + 1 := ⟨n - 1, by omega⟩
    have c : nI w ≤ nI i := nI_le (by omega) (by omega)
    unfold rg_tick_320 rf_tick_320
    rw [y_ix_nI (show g < 2 ^ 31 by omega), h40, if_pos c]
    refine ⟨⟨y_in_nI hg (by decide), fun _ => trivial, fun z => absurd c z⟩, fun x k => ?_⟩
    rw [if_neg (by omega)]
  | succ r ih =>
    intro i n A hi hn h40
    obtain ⟨n, rfl⟩ : ∃ j, n = j + 1 := ⟨n - 1, by omega⟩
    have c : ¬ nI w ≤ nI i := nI_ge (by omega) (by omega)
    have ex : (10 : Int32) * nI g + nI i = nI (10 * g + i) := by rw [show (10 : Int32) = nI 10 from rfl, nI_mulc, nI_add]
    obtain ⟨i1, i2⟩ := ih (i + 1) n (xm_u2 A 43 (10 * g + i) (A 43 (10 * g + i + 1))) (by omega) (by omega) h40
    unfold rg_tick_320 rf_tick_320
    rw [y_ix_nI (show g < 2 ^ 31 by omega), h40, if_neg c, ex, nI_1, nI_1, y_ix_nI (show 10 * g + i < 2 ^ 31 by omega), y_ix_nI (show 10 * g + i + 1 < 2 ^ 31 by omega)]
    refine ⟨⟨y_in_nI hg (by decide), fun z => absurd z c, fun _ => ⟨y_in_nI (by omega) (by decide), y_in_nI (by omega) (by decide), i1⟩⟩, fun x k => ?_⟩
    rw [i2]
    unfold xm_u2
    by_cases e1 : x = 43 ∧ 10 * g + (i + 1) ≤ k ∧ k < 10 * g + w
    · rw [if_pos e1, if_neg (by omega), if_pos ⟨e1.1, by omega, e1.2.2⟩]
    · rw [if_neg e1]
      by_cases e2 : x = 43 ∧ k = 10 * g + i
      · rw [if_pos e2, if_pos ⟨e2.1, by omega, by omega⟩, e2.2]
      · rw [if_neg e2, if_neg (fun z => by
          by_cases e3 : k = 10 * g + i
          · exact e2 ⟨z.1, e3⟩
          · exact e1 ⟨z.1, by omega, z.2.2⟩)]
/-- the first of a queue is set to work -/
theorem kM.adm {S S' : xm_S} {A A' : y_A} {hb rb nb t w e1 e2 c g q : Nat} (h : kM S A (fun _ => False) (fun _ => False) (fun _ => False) hb rb nb t w e1 e2) (hgn : g < xm_n S 1 3) (hsort : A 31 g = 1) (hq : xm_r S 5 g 12 = some q) (hpos : 0 < xm_n S 1 q) (hl0 : xm_l S q 0 = (2, c)) (eS : S' = xm_si (xm_si (xm_drop q 0 S) 2 c 13 0) 5 g 10 (xm_i S 5 g 10 + 1))
    (hA : ∀ x e, A' x e = if x = 39 ∧ e = g then A 39 g + 1 else if x = 77 ∧ e = c then 1 else if x = 75 ∧ e = c then 0 else if x = 43 ∧ 10 * g ≤ e ∧ e + 1 < 10 * g + xm_n S 1 q then A 43 (e + 1) else if x = 40 ∧ e = g then nI (xm_n S 1 q - 1) else A x e) :
    kM S' A' (fun _ => False) (fun _ => False) (fun _ => False) hb rb nb t w e1 e2 ∧ c < xm_n S 1 6 ∧ xm_i S 2 c 8 = 0 ∧ xm_r S 2 c 4 = some g ∧ xm_i S 2 c 16 = 0 := by
  have hM := h
  obtain ⟨⟨hC, hcnt, hb', hl', ht, hv, h1, h2, h3, -⟩, hS, hgr, ⟨-, -, j3, -, j5, -, j7, j8, j9, -⟩⟩ := h
  obtain ⟨q', y1, y2, y3, y4, y5, y6⟩ := (h3 g hgn).2.2.2.2.2.2.2.2.2.2.2.2.1
  obtain rfl : q' = q := Option.some.inj (y1.symm.trans hq)
  obtain ⟨z1, z2, z3⟩ := j9 g q' hgn hq
  obtain ⟨c', c1, hc, -⟩ := y6 0 hpos
  rw [hl0] at c1
  obtain rfl : c = c' := (Prod.mk.inj c1).2
  obtain ⟨a1, hg, a3, a4⟩ := z1 0 c hpos hl0
  have hc0 : xm_i S 2 c 8 = 0 := a1.resolve_right id
  have hbb := hb'
  unfold k_bnd at hbb
  refine ⟨?_, hc, hc0, hg, a4⟩
  have fI : ∀ x e j, ¬ (x = 2 ∧ e = c ∧ j = 13) → ¬ (x = 5 ∧ e = g ∧ j = 10) → xm_i S' x e j = xm_i S x e j := fun x e j w1 w2 => by
    rw [eS]
    have s1 : xm_i (xm_si (xm_si (xm_drop q' 0 S) 2 c 13 0) 5 g 10 (xm_i S 5 g 10 + 1)) x e j = xm_i (xm_si (xm_drop q' 0 S) 2 c 13 0) x e j := by
      by_cases e2 : x = 5 ∧ e = g
      · exact xi_si (fun y => w2 ⟨e2.1, e2.2, y.2⟩)
      · exact xi_sk e2
    rw [s1]
    by_cases e2 : x = 2 ∧ e = c
    · exact xi_si (fun y => w1 ⟨e2.1, e2.2, y.2⟩)
    · exact xi_sk e2
  have v13 : xm_i S' 2 c 13 = 0 := by rw [eS]; exact (xi_sk (by omega)).trans xi_same
  have v10 : xm_i S' 5 g 10 = xm_i S 5 g 10 + 1 := by rw [eS]; exact xi_same
  have fR : xm_r S' = xm_r S := by rw [eS]; rfl
  have ll : ∀ r i, xm_l S' r i = if r = q' ∧ 0 ≤ i then xm_l S q' (i + 1) else xm_l S r i := fun r i => by rw [eS]; rfl
  have nn : ∀ x r, xm_n S' x r = if x = 1 ∧ r = q' then xm_n S 1 q' - 1 else xm_n S x r := fun x r => by rw [eS]; rfl
  clear eS
  have nq : xm_n S' 1 q' = xm_n S 1 q' - 1 := by rw [nn, if_pos ⟨rfl, rfl⟩]
  have act : ∀ e, k_act S' (fun _ => False) e ↔ k_act S (fun _ => False) e := fun e => by unfold k_act; rw [fI 2 e 8 (by omega) (by omega)]
  have o : ∀ x e, x ≠ 39 → x ≠ 40 → x ≠ 43 → ¬ (x = 75 ∧ e = c) → ¬ (x = 77 ∧ e = c) → A' x e = A x e := fun x e w1 w2 w3 w4 w5 => by rw [hA, if_neg (fun z => w1 z.1), if_neg w5, if_neg w4, if_neg (fun z => w3 z.1), if_neg (fun z => w2 z.1)]
  have a75 : A' 75 c = 0 := by rw [hA, if_neg (by omega), if_neg (by omega), if_pos ⟨rfl, rfl⟩]
  have a77 : A' 77 c = 1 := by rw [hA, if_neg (by omega), if_pos ⟨rfl, rfl⟩]
  have capq : xm_n S 2 q' = 10 := by
    rcases j5.2.2 q' y2 y3 with x | x
    · omega
    · exact x
  have n16 : xm_n S' 1 6 = xm_n S 1 6 := by rw [nn, if_neg (by omega)]
  have n13 : xm_n S' 1 3 = xm_n S 1 3 := by rw [nn, if_neg (by omega)]
  refine kM.que (c := c) (g := g) (q := q') hM hc hg hq fI fR (fun r hr => by rw [nn, if_neg (fun z => hr z.2)]) (fun r hr => by rw [nn, if_neg (by omega)]) (fun r hr => by rw [nn, if_neg (by omega)]) (fun x r hx => by rw [nn, if_neg (by omega)]) (fun r i hr => by rw [ll, if_neg (fun z => hr z.1)]) (Or.inr (by rw [nn, if_neg (by omega)]; exact capq)) (fun x e w1 w2 w3 w4 w5 => ?_) (Or.inl a75) (Or.inr a77) ?_ ?_ (by rw [nq]; omega) (fun i hi => ?_) (fun e he => ?_) (fun g' c' hg' hc' => ?_) ⟨fun i e hi he => ?_, fun i j hij hj => ?_, fun e he w1 w2 w3 => ?_⟩ (fun e _ => act e)
  · rw [hA, if_neg w4, if_neg w2, if_neg w1, if_neg (fun z => w5 ⟨z.1, by omega, by omega⟩), if_neg w3]
  · rw [v10, hA, if_pos ⟨rfl, rfl⟩, (h3 g hgn).2.2.2.2.2.2.2.2.2.1]
  · rw [hA, if_neg (by omega), if_neg (by omega), if_neg (by omega), if_neg (by omega), if_pos ⟨rfl, rfl⟩, nq]
  · rw [nq] at hi
    obtain ⟨x, x1, x2, x3⟩ := y6 (i + 1) (by omega)
    refine ⟨x, by rw [ll, if_pos ⟨rfl, by omega⟩]; exact x1, x2, ?_⟩
    rw [hA, if_neg (by omega), if_neg (by omega), if_neg (by omega), if_pos ⟨rfl, by omega, by omega⟩]
    exact x3
  · rw [n16] at he
    obtain ⟨x1, x2, x3, x4, x5, x6⟩ := j7 e he
    rw [act e, fR, o 76 e (by decide) (by decide) (by decide) (by omega) (by omega), o 78 e (by decide) (by decide) (by decide) (by omega) (by omega), o 79 e (by decide) (by decide) (by decide) (by omega) (by omega)]
    simp only [fun g => o 31 g (by decide) (by decide) (by decide) (by omega) (by omega)]
    refine ⟨fun y => ?_, fun y => ?_, x3, x4, x5, fun g' hg' w1 w2 => ?_⟩
    · by_cases k : e = c
      · have n76 : ¬ A 76 c = 1 := fun z => by
          obtain ⟨g', u1, u2⟩ := (j7 c hc).2.2.1 z
          rw [← Option.some.inj (hg.symm.trans u1), hsort] at u2
          exact absurd u2 (by decide)
        have n15 : xm_r S 2 c 15 = none := Classical.byContradiction fun z => by
          obtain ⟨g', u1, u2⟩ := (j7 c hc).2.2.2.2.1 (Or.inr z)
          rw [← Option.some.inj (hg.symm.trans u1), hsort] at u2
          exact absurd u2 (by decide)
        unfold k_rest
        rw [k, v13, a75, if_neg (by decide), o 76 c (by decide) (by decide) (by decide) (by omega) (by omega), if_neg n76, fR, if_pos n15]
      · have := x1 y
        unfold k_rest at this ⊢
        rw [fI 2 e 13 (by omega) (by omega), fR, o 75 e (by decide) (by decide) (by decide) (by omega) (by omega), o 76 e (by decide) (by decide) (by decide) (by omega) (by omega)]
        exact this
    · by_cases k : e = c
      · rw [k]; exact ⟨g, hg, hsort⟩
      · rw [o 75 e (by decide) (by decide) (by decide) (by omega) (by omega), o 77 e (by decide) (by decide) (by decide) (by omega) (by omega)] at y
        exact x2 y
    · obtain ⟨u1, u2⟩ := x6 g' hg' w1 w2
      refine ⟨fun z => ?_, u2⟩
      by_cases k : e = c
      · rw [k, a75, a77]; decide
      · rw [o 75 e (by decide) (by decide) (by decide) (by omega) (by omega), o 77 e (by decide) (by decide) (by decide) (by omega) (by omega)]
        exact u1 z
  · rw [n13] at hg'
    rw [fR] at hc'
    obtain ⟨x1, x2, x3, x4, x5, x6⟩ := j8 g' c' hg' hc'
    rw [n16, act c', fR, o 79 c' (by decide) (by decide) (by decide) (by omega) (by omega), o 36 g' (by decide) (by decide) (by decide) (by omega) (by omega)]
    exact ⟨x1, x2, x3, x4, x5, x6⟩
  · rw [nq] at hi
    rw [ll, if_pos ⟨rfl, by omega⟩] at he
    obtain ⟨x1, x2, x3, x4⟩ := z1 (i + 1) e (by omega) he
    have k : e ≠ c := fun k => z2 0 (i + 1) (by omega) (by omega) (by rw [hl0, he, k])
    exact ⟨(act e).mpr x1, x2, by rw [o 75 e (by decide) (by decide) (by decide) (by omega) (by omega)]; exact x3, x4⟩
  · rw [nq] at hj
    rw [ll, ll, if_pos ⟨rfl, by omega⟩, if_pos ⟨rfl, by omega⟩]
    exact z2 (i + 1) (j + 1) (by omega) (by omega)
  · have k : e ≠ c := fun k => by
      rw [k, a75] at w3
      exact absurd w3 (by decide)
    rw [o 75 e (by decide) (by decide) (by decide) (by omega) (by omega)] at w3
    obtain ⟨i, i1, i2⟩ := z3 e he ((act e).mp w1) w2 w3
    have hi0 : i ≠ 0 := fun z => by
      rw [z, hl0] at i2
      exact k (Prod.mk.inj i2).2.symm
    refine ⟨i - 1, by rw [nq]; omega, ?_⟩
    rw [ll, if_pos ⟨rfl, by omega⟩, show i - 1 + 1 = i by omega]
    exact i2
theorem c_admit36 {d : Nat} (hd : 120 ≤ d) {nb t g q W : Nat} {l1 : Int32} {S0 : xm_S} {A0 : y_A} {Q : Option xm_V → xm_S → Prop} {R : y_A → Prop} : ∀ (r k N : Nat) (S : xm_S) (A : y_A) (u : Option xm_V), k + r = W → r < N → kM S A (fun _ => False) (fun _ => False) (fun _ => False) 5000 5000 nb t 0 0 0 → kW S0 S A0 A → g < xm_n S 1 3 → xm_r S 5 g 12 = some q → xm_n S 1 q + k ≤ W → W ≤ 10 → xm_n S 1 3 = xm_n S0 1 3 → (∀ S' A' (l4 : Int32) u', kM S' A' (fun _ => False) (fun _ => False) (fun _ => False) 5000 5000 nb t 0 0 0 → kW S0 S' A0 A' → xm_n S' 1 3 = xm_n S0 1 3 → rf_tick_264 N (nI g) A [] = (A', []) → R A' ∧ xw (d + 2) 58 2 [some (.inr (some (0, 0))), some (.inl (l1 + 1)), some (.inr (some (5, g))), some (.inl (nI W)), some (.inl l4), u'] [] S' Q) → (rg_tick_264 N (nI g) A [] ∧ ∃ A', rf_tick_264 N (nI g) A [] = (A', []) ∧ R A') ∧ xw (d + 2) 58 36 [some (.inr (some (0, 0))), some (.inl l1), some (.inr (some (5, g))), some (.inl (nI W)), some (.inl (nI k)), u] [] S Q := by
  intro r
  induction r with
  | zero =>
    intro k N S A u hk hN hM hW hgn hq hn hW10 hn3 H
    obtain ⟨N, rfl⟩ : ∃ x, N = x + 1 := ⟨N - 1, by omega⟩
    have hbb := hM.1.2.2.1
    unfold k_bnd at hbb
    have ixg : y_ix (nI g) = g := y_ix_nI (by omega)
    have yg : y_in (nI g) 24 := y_in_nI (by omega) (by decide)
    obtain ⟨q', y1, y2, y3, y4, y5, y6⟩ := (hM.1.2.2.2.2.2.2.2.2.1 g hgn).2.2.2.2.2.2.2.2.2.2.2.2.1
    obtain rfl : q' = q := Option.some.inj (y1.symm.trans hq)
    have c0 : A 40 g ≤ 0 := by rw [y4, show xm_n S 1 q' = 0 by omega]; decide
    have e1 : rf_tick_264 (N + 1) (nI g) A [] = (A, []) := by
      unfold rf_tick_264
      rw [ixg]
      by_cases s1 : A 31 g = 1
      · rw [if_pos s1]
        by_cases c1 : A 32 g ≤ A 39 g
        · rw [if_pos c1]
        · rw [if_neg c1, if_pos c0]
      · rw [if_neg s1]
    have e2 : rg_tick_264 (N + 1) (nI g) A [] := by
      unfold rg_tick_264
      rw [ixg]
      exact ⟨yg, fun _ => ⟨fun _ => trivial, fun _ => ⟨fun _ => trivial, fun z => absurd c0 z⟩⟩, fun _ => trivial⟩
    obtain ⟨h1, h2⟩ := H S A (nI k) u hM hW hn3 e1
    have cc : nI W ≤ nI k := nI_le (by omega) (by omega)
    exact ⟨⟨e2, A, e1, h1⟩, cw_admitWaiting_36 hM.1.1 ⟨fun _ => h2, fun z => absurd cc z⟩⟩
  | succ r ih =>
    intro k N S A u hk hN hM hW hgn hq hn hW10 hn3 H
    obtain ⟨N, rfl⟩ : ∃ x, N = x + 1 := ⟨N - 1, by omega⟩
    have hbb := hM.1.2.2.1
    unfold k_bnd at hbb
    have ixg : y_ix (nI g) = g := y_ix_nI (by omega)
    have yg : y_in (nI g) 24 := y_in_nI (by omega) (by decide)
    have h3 := hM.1.2.2.2.2.2.2.2.2.1 g hgn
    obtain ⟨q', y1, y2, y3, y4, y5, y6⟩ := h3.2.2.2.2.2.2.2.2.2.2.2.2.1
    obtain rfl : q' = q := Option.some.inj (y1.symm.trans hq)
    have cc : ¬ nI W ≤ nI k := nI_ge (by omega) (by omega)
    have e2' := h3.2.2.1
    have e10 := h3.2.2.2.2.2.2.2.2.2.1
    -- nothing to do
    have stop : (A 31 g = 1 → A 32 g ≤ A 39 g ∨ xm_n S 1 q' = 0) → (rg_tick_264 (N + 1) (nI g) A [] ∧ ∃ A', rf_tick_264 (N + 1) (nI g) A [] = (A', []) ∧ R A') ∧ (∀ l4 u', xw (d + 2) 58 2 [some (.inr (some (0, 0))), some (.inl (l1 + 1)), some (.inr (some (5, g))), some (.inl (nI W)), some (.inl l4), u'] [] S Q) := fun Z => by
      have c0 : A 31 g = 1 → ¬ A 32 g ≤ A 39 g → A 40 g ≤ 0 := fun z1 z2 => by rw [y4, (Z z1).resolve_left z2]; decide
      have e1 : rf_tick_264 (N + 1) (nI g) A [] = (A, []) := by
        unfold rf_tick_264
        rw [ixg]
        by_cases s1 : A 31 g = 1
        · rw [if_pos s1]
          by_cases c1 : A 32 g ≤ A 39 g
          · rw [if_pos c1]
          · rw [if_neg c1, if_pos (c0 s1 c1)]
        · rw [if_neg s1]
      have e2 : rg_tick_264 (N + 1) (nI g) A [] := by
        unfold rg_tick_264
        rw [ixg]
        exact ⟨yg, fun s1 => ⟨fun _ => trivial, fun c1 => ⟨fun _ => trivial, fun z => absurd (c0 s1 c1) z⟩⟩, fun _ => trivial⟩
      exact ⟨⟨e2, A, e1, (H S A 0 none hM hW hn3 e1).1⟩, fun l4 u' => (H S A l4 u' hM hW hn3 e1).2⟩
    by_cases c1 : A 32 g ≤ A 39 g
    · obtain ⟨s1, s2⟩ := stop (fun _ => Or.inl c1)
      exact ⟨s1, cw_admitWaiting_36 hM.1.1 ⟨fun z => absurd z cc, fun _ => ⟨fun _ => s2 _ _, fun z => absurd (by rw [e2', e10]; exact c1) z⟩⟩⟩
    by_cases cq : xm_n S 1 q' = 0
    · obtain ⟨s1, s2⟩ := stop (fun _ => Or.inr cq)
      exact ⟨s1, cw_admitWaiting_36 hM.1.1 ⟨fun z => absurd z cc, fun _ => ⟨fun z => absurd (by rw [e2', e10] at z; exact z) c1, fun _ t3 e3 => ⟨q', e3.symm.trans hq, fun _ => s2 _ _, fun z => absurd cq z⟩⟩⟩⟩
    -- one goes in
    obtain ⟨c, hl0, hcn, h43⟩ := y6 0 (by omega)
    rw [Nat.add_zero] at h43
    have hsort : A 31 g = 1 := by
      obtain ⟨a1, a2, a3, a4⟩ := ((hM.2.2.2.2.2.2.2.2.2.2.2.1) g q' hgn hq).1 0 c (by omega) hl0
      obtain ⟨g', u1, u2⟩ := (hM.2.2.2.2.2.2.2.2.2.1 c hcn).2.1 (Or.inl a3)
      rw [Option.some.inj (a2.symm.trans u1)]
      exact u2
    have ixc : y_ix (nI c) = c := y_ix_nI (by omega)
    have yc : y_in (nI c) 4400 := y_in_nI (by omega) (by decide)
    have ex : (10 : Int32) * nI g = nI (10 * g) := by rw [show (10 : Int32) = nI 10 from rfl, nI_mulc]
    have ix10 : y_ix (nI (10 * g)) = 10 * g := y_ix_nI (by omega)
    have h40 : A 40 g - 1 = nI (xm_n S 1 q' - 1) := by
      rw [y4]
      obtain ⟨x, hx⟩ : ∃ x, xm_n S 1 q' = x + 1 := ⟨xm_n S 1 q' - 1, by omega⟩
      rw [hx, nI_pred]
      rfl
    have c0 : ¬ A 40 g ≤ 0 := by rw [y4]; exact nI_ge (a := 0) (by omega) (by omega)
    obtain ⟨s1, s2⟩ := k_320 (l2 := nI c) (g := g) (w := xm_n S 1 q' - 1) (by omega) (by omega) (xm_n S 1 q' - 1) 0 20000 (xm_u2 A 40 g (nI (xm_n S 1 q' - 1))) (by omega) (by omega) (y_same _ _ _ _)
    rw [show nI 0 = (0 : Int32) from rfl] at s1 s2
    obtain ⟨B, hB⟩ : ∃ B, B = (rf_tick_320 20000 (nI g) (nI c) 0 (xm_u2 A 40 g (nI (xm_n S 1 q' - 1)))).2 := ⟨_, rfl⟩
    rw [← hB] at s2
    have sB : ∀ x e, B x e = if x = 43 ∧ 10 * g ≤ e ∧ e + 1 < 10 * g + xm_n S 1 q' then A 43 (e + 1) else if x = 40 ∧ e = g then nI (xm_n S 1 q' - 1) else A x e := fun x e => by
      rw [s2]
      by_cases z : x = 43 ∧ 10 * g ≤ e ∧ e + 1 < 10 * g + xm_n S 1 q'
      · rw [if_pos z, if_pos ⟨z.1, by omega, by omega⟩, y_off (by omega)]
      · rw [if_neg z, if_neg (by omega)]
        rfl
    have B39 : B 39 g = A 39 g := by rw [sB, if_neg (by omega), if_neg (by omega)]
    have hA : ∀ x e, (xm_u2 (xm_u2 (xm_u2 B 75 c 0) 77 c 1) 39 g (B 39 g + 1)) x e = if x = 39 ∧ e = g then A 39 g + 1 else if x = 77 ∧ e = c then 1 else if x = 75 ∧ e = c then 0 else if x = 43 ∧ 10 * g ≤ e ∧ e + 1 < 10 * g + xm_n S 1 q' then A 43 (e + 1) else if x = 40 ∧ e = g then nI (xm_n S 1 q' - 1) else A x e := fun x e => by
      rw [← sB, ← B39]
      rfl
    obtain ⟨hM2, -, hc0, hcg, hc16⟩ := hM.adm hgn hsort hq (by omega) hl0 rfl hA
    obtain ⟨o, o1, o2, o3⟩ := (hM.1.2.2.2.2.2.2.2.1 c hcn).2.2.2.2.2.2.2.2.2.1
    obtain ⟨e, a1, a2, a3⟩ := (hM.2.2.2.1 c hcn).2.2.2
    obtain ⟨S14, hS14⟩ : ∃ S14, S14 = xm_si (xm_si (xm_drop q' 0 S) 2 c 13 0) 5 g 10 (xm_i S 5 g 10 + 1) := ⟨_, rfl⟩
    rw [← hS14] at hM2
    have fR : xm_r S14 = xm_r S := by rw [hS14]; rfl
    have fI : ∀ x e j, ¬ (x = 2 ∧ j = 13) → ¬ (x = 5 ∧ j = 10) → xm_i S14 x e j = xm_i S x e j := fun x e j w1 w2 => by
      rw [hS14]
      exact (xi_si (fun y => w2 y)).trans (xi_si (fun y => w1 y))
    have nn : ∀ x r, xm_n S14 x r = if x = 1 ∧ r = q' then xm_n S 1 q' - 1 else xm_n S x r := fun x r => by rw [hS14]; rfl
    have A2o : ∀ x e, x ≠ 39 → x ≠ 40 → x ≠ 43 → x ≠ 75 → x ≠ 77 → (xm_u2 (xm_u2 (xm_u2 B 75 c 0) 77 c 1) 39 g (B 39 g + 1)) x e = A x e := fun x e w1 w2 w3 w4 w5 => by rw [hA, if_neg (fun z => w1 z.1), if_neg (fun z => w5 z.1), if_neg (fun z => w4 z.1), if_neg (fun z => w3 z.1), if_neg (fun z => w2 z.1)]
    have s31 : (xm_u2 (xm_u2 (xm_u2 B 75 c 0) 77 c 1) 39 g (B 39 g + 1)) 31 g = 1 := (A2o 31 g (by decide) (by decide) (by decide) (by decide) (by decide)).trans hsort
    have n6 : xm_n S14 1 6 = xm_n S 1 6 := by rw [nn, if_neg (by omega)]
    have n3 : xm_n S14 1 3 = xm_n S 1 3 := by rw [nn, if_neg (by omega)]
    have hnp : kNp S14 (xm_u2 (xm_u2 (xm_u2 B 75 c 0) 77 c 1) 39 g (B 39 g + 1)) (fun _ => False) 5000 o (e + 1) c := ⟨by rw [n6]; exact hcn, by rw [fI 2 c 8 (by omega) (by omega)]; exact hc0, by rw [fR]; exact o1, by rw [fI 2 c 3 (by omega) (by omega), a2, nI_1], id, by rw [hA, if_neg (by omega), if_neg (by omega), if_pos ⟨rfl, rfl⟩]; decide, g, 0, by rw [fR]; exact hcg, by rw [fI 2 c 16 (by omega) (by omega)]; exact hc16, by omega, fun _ _ _ => rfl, fun z => z.elim (fun z => absurd (s31.symm.trans z) (by decide)) (fun z => absurd (s31.symm.trans z) (by decide)), fun z => absurd (s31.symm.trans z) (by decide), fun _ => Or.inl rfl, fun _ => by omega, fun z => absurd (s31.symm.trans z) (by decide)⟩
    obtain ⟨gs, hgs, m2⟩ := c_goPar hM2 (by rw [n6]; exact hcn) (by rw [fR]; exact o1) (by rw [fI 2 c 3 (by omega) (by omega)]; exact a2) a1 (by rw [fR]; exact hcg) hnp (fun g' m hg' hm hm5 => by
      rw [fR] at hg'
      rw [fI 2 c 16 (by omega) (by omega)] at hm
      have : m = 0 := (nI_eq (a := m) (b := 0) (by omega) (by decide)).mp (hm.symm.trans hc16)
      rw [this, ← Option.some.inj (hcg.symm.trans hg')]
      exact k_mul1 hM2 (by rw [n3]; exact hgn))
    have B62 : B 62 c = A 62 c := by rw [sB, if_neg (by omega), if_neg (by omega)]
    have B63 : B 63 c = A 63 c := by rw [sB, if_neg (by omega), if_neg (by omega)]
    rw [A2o 62 c (by decide) (by decide) (by decide) (by decide) (by decide), A2o 63 c (by decide) (by decide) (by decide) (by decide) (by decide), ← B62, ← B63] at m2
    have W1 : kW S S14 A (xm_u2 (xm_u2 (xm_u2 B 75 c 0) 77 c 1) 39 g (B 39 g + 1)) := by
      unfold kW
      rw [fI 0 0 14 (by omega) (by omega), A2o 60 0 (by decide) (by decide) (by decide) (by decide) (by decide)]
    have key : ∀ S18 A', kM S18 A' (fun _ => False) (fun _ => False) (fun _ => False) 5000 5000 nb t 0 0 0 → kB (xm_n S14 1 6) gs S14 S18 (xm_u2 (xm_u2 (xm_u2 B 75 c 0) 77 c 1) 39 g (B 39 g + 1)) A' → y_to (xm_u2 (xm_u2 (xm_u2 B 75 c 0) 77 c 1) 39 g (B 39 g + 1)) (((0 : Int32), B 62 c, B 63 c + 1, nI c, (-1 : Int32)) :: []) A' [] → (rg_tick_264 (N + 1) (nI g) A [] ∧ ∃ A', rf_tick_264 (N + 1) (nI g) A [] = (A', []) ∧ R A') ∧ xw (d + 2) 58 36 [some (.inr (some (0, 0))), some (.inl l1), some (.inr (some (5, g))), some (.inl (nI W)), some (.inl (nI k + 1)), some (.inr (some (2, c)))] [] S18 Q := fun S18 A' b1 b2 b3 => by
      have hw := rf_work_eq b3
      have n3' : xm_n S18 1 3 = xm_n S14 1 3 := b2.1.1 3 (by decide)
      obtain ⟨qa, qb⟩ := (b2.2.2.2.1 g (by rw [n3]; exact hgn)).2.2 q' (by rw [fR]; exact hq)
      have qc := qb hgs
      rw [nn, if_pos ⟨rfl, rfl⟩] at qc
      have e1 : rf_tick_264 (N + 1) (nI g) A [] = rf_tick_264 N (nI g) A' [] := by
        conv => lhs; unfold rf_tick_264
        rw [ixg, if_pos hsort, if_neg c1, if_neg c0, ex, ix10, h43, ixc, h40, ← hB, hw]
      obtain ⟨⟨i1, A3, i2, i3⟩, i4⟩ := ih (k + 1) N S18 A' (some (.inr (some (2, c)))) (by omega) (by omega) b1 ((hW.tr W1).tr b2.W) (by rw [n3', n3]; exact hgn) qa (by omega) hW10 (by rw [n3', n3]; exact hn3) (fun S' A'' l4 u' z1 z2 z3 z4 => H S' A'' l4 u' z1 z2 z3 (e1.trans z4))
      rw [nI_1]
      refine ⟨⟨?_, A3, e1.trans i2, i3⟩, i4⟩
      unfold rg_tick_264
      rw [ixg, ex, ix10, h43, ixc, h40, ← hB, hw]
      exact ⟨yg, fun _ => ⟨fun z => absurd z c1, fun _ => ⟨fun z => absurd z c0, fun _ => ⟨y_in_nI (by omega) (by decide), s1, yc, ⟨yc, yg, ⟨yc, by decide, trivial⟩, trivial⟩, ⟨A', b3⟩, i1⟩⟩⟩, fun z => absurd hsort z⟩
    refine ⟨?_, cw_admitWaiting_36 hM.1.1 ⟨fun z => absurd z cc, fun _ => ⟨fun z => absurd (by rw [e2', e10] at z; exact z) c1, fun _ t3 e3 => ⟨q', e3.symm.trans hq, fun z => absurd z cq, fun _ => ⟨y_in_nI (k := 0) (by omega) (by omega), c, hl0, fun S10 f10 S12 f12 S14' f14 t16 e16 => ?_⟩⟩⟩⟩⟩
    · obtain ⟨-, r, S18, -, -, -, A', v3, v4, v5⟩ := m2
      exact (key S18 A' v4 v5 v3).1
    · rw [o1] at e16
      rw [← e16]
      have : S14' = S14 := by rw [f14, f12, f10, hS14]; rfl
      rw [this]
      refine xc.up (xc.mono m2 ?_) hd
      rintro r S18 ⟨v1, v2, A', v3, v4, v5⟩
      exact ⟨v1, v2, (key S18 A' v4 v5 v3).2⟩
theorem c_admit {d : Nat} (hd : 120 ≤ d) {nb t : Nat} {S0 : xm_S} {A0 : y_A} : ∀ (r i N : Nat) (S : xm_S) (A : y_A) (u2 u3 u4 u5 : Option xm_V), i + r = xm_n S0 1 3 → r < N → kM S A (fun _ => False) (fun _ => False) (fun _ => False) 5000 5000 nb t 0 0 0 → kW S0 S A0 A → xm_n S 1 3 = xm_n S0 1 3 → rg_tick_256 N (nI i) A [] ∧ xw (d + 2) 58 2 [some (.inr (some (0, 0))), some (.inl (nI i)), u2, u3, u4, u5] [] S (fun r S' => r = none ∧ xk_C S' ∧ ∃ x A', rf_tick_256 N (nI i) A [] = (x, A', []) ∧ kM S' A' (fun _ => False) (fun _ => False) (fun _ => False) 5000 5000 nb t 0 0 0 ∧ kW S0 S' A0 A') := by
  intro r
  induction r with
  | zero =>
    intro i N S A u2 u3 u4 u5 hi hN hM hW hn3
    obtain ⟨N, rfl⟩ : ∃ x, N = x + 1 := ⟨N - 1, by omega⟩
    have hbb := hM.1.2.2.1
    unfold k_bnd at hbb
    have w4 : A 30 0 = nI (xm_n S 1 3) := hM.1.2.1.2.2.2.1
    have cc : nI (xm_n S 1 3) ≤ nI i := nI_le (by omega) (by omega)
    unfold rg_tick_256 rf_tick_256
    rw [w4, if_pos cc]
    exact ⟨⟨fun _ => trivial, fun z => absurd cc z⟩, cw_admitWaiting_2 hM.1.1 ⟨fun _ => ⟨rfl, hM.1.1, _, A, rfl, hM, hW⟩, fun z => absurd cc z⟩⟩
  | succ r ih =>
    intro i N S A u2 u3 u4 u5 hi hN hM hW hn3
    obtain ⟨N, rfl⟩ : ∃ x, N = x + 1 := ⟨N - 1, by omega⟩
    have hbb := hM.1.2.2.1
    unfold k_bnd at hbb
    have w4 : A 30 0 = nI (xm_n S 1 3) := hM.1.2.1.2.2.2.1
    have cc : ¬ nI (xm_n S 1 3) ≤ nI i := nI_ge (by omega) (by omega)
    have hgn : i < xm_n S 1 3 := by omega
    have hl := hM.1.2.2.2.1.2.1 i hgn
    obtain ⟨q, y1, y2, y3, y4, y5, y6⟩ := (hM.1.2.2.2.2.2.2.2.2.1 i hgn).2.2.2.2.2.2.2.2.2.2.2.2.1
    obtain ⟨⟨i1, A', i2, i3⟩, i4⟩ := c_admit36 hd (l1 := nI i) (S0 := S0) (A0 := A0) (R := fun A' => rg_tick_256 N (nI (i + 1)) A' []) (Q := fun r S' => r = none ∧ xk_C S' ∧ ∃ x A', rf_tick_256 (N + 1) (nI i) A [] = (x, A', []) ∧ kM S' A' (fun _ => False) (fun _ => False) (fun _ => False) 5000 5000 nb t 0 0 0 ∧ kW S0 S' A0 A') (xm_n S 1 q) 0 20000 S A u5 (by omega) (by omega) hM hW hgn y1 (by omega) y5 hn3 (fun S' A' l4 u' z1 z2 z3 z4 => by
      obtain ⟨j1, j2⟩ := ih (i + 1) N S' A' (some (.inr (some (5, i)))) (some (.inl (nI (xm_n S 1 q)))) (some (.inl l4)) u' (by omega) (by omega) z1 z2 z3
      refine ⟨j1, ?_⟩
      rw [nI_1]
      refine xw.mono j2 ?_
      rintro r S2 ⟨q1, q2, x, A2, q3, q4⟩
      refine ⟨q1, q2, x, A2, ?_, q4⟩
      conv => lhs; unfold rf_tick_256
      rw [w4, if_neg cc, z4, nI_1]
      exact q3)
    refine ⟨?_, cw_admitWaiting_2 hM.1.1 ⟨fun z => absurd z cc, fun _ => ⟨y_in_nI (by omega) (by omega), i, by rw [y_ix_nI (by omega)]; exact hl, fun t5 e5 => ⟨q, e5.symm.trans y1, i4⟩⟩⟩⟩
    unfold rg_tick_256
    rw [w4, i2, nI_1]
    exact ⟨fun z => absurd z cc, fun _ => ⟨i1, i3⟩⟩
end
