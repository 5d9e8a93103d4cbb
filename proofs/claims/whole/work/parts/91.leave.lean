/-! ===== ONE THAT WAITED leaves the queue ===== -/
section
theorem c_leave {d : Nat} {S : xm_S} {g k q m : Nat} {Q : Option xm_V → xm_S → Prop} (hC : xk_C S) (hq : xm_r S 5 g 12 = some q) (hn : xm_n S 1 q ≤ 10) (hm : m < xm_n S 1 q) (hk : xm_l S q m = (2, k)) (he : ∀ i, i < m → ∃ e, xm_l S q i = (2, e) ∧ e ≠ k) (hQ : Q none (xm_drop q m S)) : ∀ (r i : Nat), i + r = m → xw d 99 2 [some (.inr (some (5, g))), some (.inr (some (2, k))), some (.inl (nI i))] [] S Q := by
  intro r
  induction r with
  | zero =>
    intro i hi
    obtain rfl : i = m := by omega
    have c : ¬ nI (xm_n S 1 q) ≤ nI i := nI_ge hm (by omega)
    refine cw_guardLeaveQueue_2 hC (fun t1 e1 => ⟨q, e1.symm.trans hq, fun z => absurd z c, fun _ => ⟨y_in_nI hm (by omega), k, by rw [y_ix_nI (by omega)]; exact hk, fun _ => ⟨y_in_nI hm (by omega), fun S10 e10 => ?_⟩, fun z => absurd rfl z⟩⟩)
    rw [y_ix_nI (by omega)] at e10
    rw [e10]
    exact hQ
  | succ r ih =>
    intro i hi
    have c : ¬ nI (xm_n S 1 q) ≤ nI i := nI_ge (by omega) (by omega)
    obtain ⟨e, h1, h2⟩ := he i (by omega)
    refine cw_guardLeaveQueue_2 hC (fun t1 e1 => ⟨q, e1.symm.trans hq, fun z => absurd z c, fun _ => ⟨y_in_nI (by omega) (by omega), e, by rw [y_ix_nI (by omega)]; exact h1, fun z => absurd z h2, fun _ => ?_⟩⟩)
    rw [nI_1]
    exact ih (i + 1) (by omega)
theorem k_104 {A : y_A} {a1 a2 : Int32} {g k m : Nat} (hg : g < 24) (hm : m < 10) (hk : k < 2 ^ 31) (h1 : A 43 (10 * g + m) = nI k) (h2 : ∀ i, i < m → ∃ e, e < 2 ^ 31 ∧ e ≠ k ∧ A 43 (10 * g + i) = nI e) : ∀ (r i n : Nat), i + r = m → r < n → rg_takenBack_104 n a1 a2 (nI k) (nI g) (nI i) A ∧ rf_takenBack_104 n a1 a2 (nI k) (nI g) (nI i) A = nI m := by
  intro r
  induction r with
  | zero =>
    intro i n hi hn
    obtain rfl : i = m := by omega
    obtain ⟨n, rfl⟩ : ∃ j, n = j + 1 := ⟨n - 1, by omega⟩
    have ex : (10 : Int32) * nI g + nI i = nI (10 * g + i) := by rw [show (10 : Int32) = nI 10 from rfl, nI_mulc, nI_add]
    unfold rg_takenBack_104 rf_takenBack_104
    rw [ex, y_ix_nI (by omega), if_pos h1]
    exact ⟨⟨y_in_nI (by omega) (by decide), fun _ => trivial, fun z => absurd h1 z⟩, rfl⟩
  | succ r ih =>
    intro i n hi hn
    obtain ⟨n, rfl⟩ : ∃ j, n = j + 1 := ⟨n - 1, by omega⟩
    have ex : (10 : Int32) * nI g + nI i = nI (10 * g + i) := by rw [show (10 : Int32) = nI 10 from rfl, nI_mulc, nI_add]
    obtain ⟨e, e1, e2, e3⟩ := h2 i (by omega)
    have hne : ¬ A 43 (10 * g + i) = nI k := fun z => e2 ((nI_eq e1 hk).mp (e3.symm.trans z))
    obtain ⟨i1, i2⟩ := ih (i + 1) n (by omega) (by omega)
    unfold rg_takenBack_104 rf_takenBack_104
    rw [ex, y_ix_nI (by omega), if_neg hne, nI_1]
    exact ⟨⟨y_in_nI (by omega) (by decide), fun z => absurd z hne, fun _ => i1⟩, i2⟩
theorem k_131 {a1 a2 l3 l5 : Int32} {g w : Nat} (hg : g < 24) (hw : w ≤ 10) : ∀ (r i n : Nat) (A : y_A), i + r + 1 = w → r < n → A 40 g = nI w → rg_takenBack_131 n a1 a2 l3 (nI g) l5 (nI i) A ∧ ∀ x k, (rf_takenBack_131 n a1 a2 l3 (nI g) l5 (nI i) A).2 x k = if x = 43 ∧ 10 * g + i ≤ k ∧ k + 1 < 10 * g + w then A 43 (k + 1) else A x k := by
  intro r
  induction r with
  | zero =>
    intro i n A hi hn h40
    obtain ⟨n, rfl⟩ : ∃ j, n = j + 1 := ⟨n - 1, by omega⟩
    have c : nI w ≤ nI i + 1 := by rw [nI_1]; exact nI_le (by omega) (by omega)
    unfold rg_takenBack_131 rf_takenBack_131
    rw [y_ix_nI (show g < 2 ^ 31 by omega), h40, if_pos c]
    refine ⟨⟨y_in_nI hg (by decide), fun _ => trivial, fun z => absurd c z⟩, fun x k => ?_⟩
    rw [if_neg (by omega)]
  | succ r ih =>
    intro i n A hi hn h40
    obtain ⟨n, rfl⟩ : ∃ j, n = j + 1 := ⟨n - 1, by omega⟩
    have c : ¬ nI w ≤ nI i + 1 := by rw [nI_1]; exact nI_ge (by omega) (by omega)
    have ex : (10 : Int32) * nI g + nI i = nI (10 * g + i) := by rw [show (10 : Int32) = nI 10 from rfl, nI_mulc, nI_add]
    obtain ⟨i1, i2⟩ := ih (i + 1) n (xm_u2 A 43 (10 * g + i) (A 43 (10 * g + i + 1))) (by omega) (by omega) h40
    unfold rg_takenBack_131 rf_takenBack_131
    rw [y_ix_nI (show g < 2 ^ 31 by omega), h40, if_neg c, ex, nI_1, nI_1, y_ix_nI (show 10 * g + i < 2 ^ 31 by omega), y_ix_nI (show 10 * g + i + 1 < 2 ^ 31 by omega)]
    refine ⟨⟨y_in_nI hg (by decide), fun z => absurd z (by rw [← nI_1]; exact c), fun _ => ⟨y_in_nI (by omega) (by decide), y_in_nI (by omega) (by decide), i1⟩⟩, fun x k => ?_⟩
    rw [i2]
    unfold xm_u2
    by_cases e1 : x = 43 ∧ 10 * g + (i + 1) ≤ k ∧ k + 1 < 10 * g + w
    · rw [if_pos e1, if_neg (by omega), if_pos ⟨e1.1, by omega, e1.2.2⟩]
    · rw [if_neg e1]
      by_cases e2 : x = 43 ∧ k = 10 * g + i
      · rw [if_pos e2, if_pos ⟨e2.1, by omega, by omega⟩, e2.2]
      · rw [if_neg e2, if_neg (fun z => by
          by_cases e3 : k = 10 * g + i
          · exact e2 ⟨z.1, e3⟩
          · exact e1 ⟨z.1, by omega, z.2.2⟩)]
theorem kM.rque {S : xm_S} {A A' : y_A} {X E B : Nat → Prop} {hb rb nb t w e1 e2 k g q m : Nat} (h : kM S A X E B hb rb nb t w e1 e2) (hk : k < xm_n S 1 6) (hk0 : xm_i S 2 k 8 ≠ 0) (hg : xm_r S 2 k 4 = some g) (hsort : A 31 g = 1) (hq : xm_r S 5 g 12 = some q) (hm : m < xm_n S 1 q) (hl : xm_l S q m = (2, k))
    (hA : ∀ x e, A' x e = if x = 40 ∧ e = g then nI (xm_n S 1 q - 1) else if x = 43 ∧ 10 * g + m ≤ e ∧ e + 1 < 10 * g + xm_n S 1 q then A 43 (e + 1) else if x = 75 ∧ e = k then 0 else A x e) : kM (xm_drop q m S) A' (fun e => X e ∧ e ≠ k) E B hb rb nb t w e1 e2 := by
  have hM := h
  obtain ⟨⟨hC, hcnt, hb', hl', ht, hv, h1, h2, h3, -⟩, hS, hgr, ⟨-, -, j3, -, j5, -, j7, j8, j9, -⟩⟩ := h
  have hgn : g < xm_n S 1 3 := (h2 k hk).2.2.2.2.2.2.2.2.2.2.2.2.2.2.2.2.2.2.2.2.2.2.2.1 g hg
  obtain ⟨q', y1, y2, y3, y4, y5, y6⟩ := (h3 g hgn).2.2.2.2.2.2.2.2.2.2.2.2.1
  obtain rfl : q' = q := Option.some.inj (y1.symm.trans hq)
  obtain ⟨z1, z2, z3⟩ := j9 g q' hgn hq
  have hb3 := hb'.2.2.2.1
  have ll : ∀ r i, xm_l (xm_drop q' m S) r i = if r = q' ∧ m ≤ i then xm_l S q' (i + 1) else xm_l S r i := fun r i => rfl
  have n1 : ∀ r, xm_n (xm_drop q' m S) 1 r = if r = q' then xm_n S 1 q' - 1 else xm_n S 1 r := fun r => by
    show (if 1 = 1 ∧ r = q' then xm_n S 1 q' - 1 else xm_n S 1 r) = _
    by_cases e : r = q'
    · rw [if_pos ⟨rfl, e⟩, if_pos e]
    · rw [if_neg (fun z => e z.2), if_neg e]
  have nq : xm_n (xm_drop q' m S) 1 q' = xm_n S 1 q' - 1 := by rw [n1, if_pos rfl]
  have act : ∀ e, k_act (xm_drop q' m S) (fun e => X e ∧ e ≠ k) e → e ≠ k ∧ k_act S X e := fun e z => by
    rcases z with z | z
    · exact ⟨fun y => hk0 (by rw [← y]; exact z), Or.inl z⟩
    · exact ⟨z.2, Or.inr z.1⟩
  have act2 : ∀ e, e ≠ k → k_act S X e → k_act (xm_drop q' m S) (fun e => X e ∧ e ≠ k) e := fun e w1 z => z.imp id (fun y => ⟨y, w1⟩)
  have o : ∀ x e, x ≠ 40 → x ≠ 43 → ¬ (x = 75 ∧ e = k) → A' x e = A x e := fun x e w1 w2 w3 => by rw [hA, if_neg (fun z => w1 z.1), if_neg (fun z => w2 z.1), if_neg w3]
  have a75 : A' 75 k = 0 := by rw [hA, if_neg (by omega), if_neg (by omega), if_pos ⟨rfl, rfl⟩]
  have elem : ∀ i, i < xm_n S 1 q' - 1 → ∃ j, j < xm_n S 1 q' ∧ j ≠ m ∧ xm_l (xm_drop q' m S) q' i = xm_l S q' j ∧ (j = i ∨ j = i + 1) ∧ (j = i ↔ i < m) := fun i hi => by
    rw [ll]
    by_cases e : m ≤ i
    · rw [if_pos ⟨rfl, e⟩]; exact ⟨i + 1, by omega, by omega, rfl, Or.inr rfl, by omega⟩
    · rw [if_neg (fun z => e z.2)]; exact ⟨i, by omega, by omega, rfl, Or.inl rfl, by omega⟩
  have uni : ∀ j, j < xm_n S 1 q' → j ≠ m → xm_l S q' j ≠ (2, k) := fun j hj hjm z => by
    rcases Nat.lt_or_gt_of_ne hjm with w1 | w1
    · exact z2 j m w1 hm (z.trans hl.symm)
    · exact z2 m j w1 hj (hl.trans z.symm)
  have capq : xm_n S 2 q' = 10 := by
    rcases j5.2.2 q' y2 y3 with z | z
    · omega
    · exact z
  refine kM.que (c := k) (g := g) (q := q') hM hk hg hq (fun p e j _ _ => rfl) rfl (fun r hr => by rw [n1, if_neg hr]) (fun r _ => rfl) (fun r _ => rfl) (fun p r hp => ?_) (fun r i hr => by rw [ll, if_neg (fun z => hr z.1)]) (Or.inr capq) (fun x e w1 w2 w3 w4 w5 => ?_) (Or.inl a75) ?_ ?_ ?_ (by rw [nq]; omega) (fun i hi => ?_) (fun e he => ?_) (fun g' c hg' hc => ?_) ⟨fun i e hi he => ?_, fun i j hij hj => ?_, fun e he w1 w2 w3 => ?_⟩ (fun e he => ⟨fun z => (act e z).2, fun z => act2 e (fun y => he (by rw [y]; exact hg)) z⟩)
  · show (if p = 1 ∧ r = q' then _ else _) = _
    rw [if_neg (by omega)]
  · rw [hA, if_neg w3]
    by_cases e43 : x = 43 ∧ 10 * g + m ≤ e ∧ e + 1 < 10 * g + xm_n S 1 q'
    · exact absurd ⟨e43.1, by omega, by omega⟩ w5
    · rw [if_neg e43, if_neg w1]
  · rw [o 77 k (by decide) (by decide) (by omega)]
    exact (h2 k hk).2.2.2.2.2.2.2.2.2.2.2.2.2.2.2.2.2.2.2.2.1
  · rw [o 39 g (by decide) (by decide) (by omega)]
    exact (h3 g hgn).2.2.2.2.2.2.2.2.2.1
  · rw [hA, if_pos ⟨rfl, rfl⟩, nq]
  · rw [nq] at hi
    obtain ⟨j, w1, w2, w3, w4, w5⟩ := elem i hi
    obtain ⟨e, x1, x2, x3⟩ := y6 j w1
    refine ⟨e, w3.trans x1, x2, ?_⟩
    rw [hA, if_neg (by omega)]
    by_cases hi2 : i < m
    · rw [if_neg (by omega), if_neg (by omega), ← w5.mpr hi2]; exact x3
    · rw [if_pos ⟨rfl, by omega, by omega⟩]
      have : j = i + 1 := by rcases w4 with z | z
                             · exact absurd (w5.mp z) hi2
                             · exact z
      rw [show 10 * g + i + 1 = 10 * g + j by omega]
      exact x3
  · rw [n1, if_neg (by omega)] at he
    obtain ⟨x1, x2, x3, x4, x5, x6⟩ := j7 e he
    have b76 := o 76 e (by decide) (by decide) (by omega)
    have b77 := o 77 e (by decide) (by decide) (by omega)
    have b78 := o 78 e (by decide) (by decide) (by omega)
    have b79 := o 79 e (by decide) (by decide) (by omega)
    have b31 : ∀ e, A' 31 e = A 31 e := fun e => o 31 e (by decide) (by decide) (by omega)
    have b75 : e ≠ k → A' 75 e = A 75 e := fun z => o 75 e (by decide) (by decide) (fun y => z y.2)
    simp only [b76, b77, b78, b79, b31]
    refine ⟨fun y => ?_, fun y => ?_, x3, x4, x5, fun g' hg' u1 u2 => ?_⟩
    · obtain ⟨v1, v2⟩ := act e y
      have := x1 v2
      unfold k_rest at this ⊢
      rw [b75 v1, b76]
      exact this
    · by_cases ek : e = k
      · rw [ek]; exact ⟨g, hg, hsort⟩
      · rw [b75 ek] at y; exact x2 y
    · obtain ⟨v1, v2⟩ := act e u1
      rw [b75 v1]
      exact x6 g' hg' v2 u2
  · rw [n1, if_neg (by omega)] at hg'
    obtain ⟨x1, x2, x3, x4, x5, x6⟩ := j8 g' c hg' hc
    have hck : c ≠ k := fun z => by
      obtain ⟨g2, u1, u2⟩ := (j7 c x1).2.2.2.1 x5
      rw [z, hg] at u1
      rw [← Option.some.inj u1, hsort] at u2
      exact absurd u2 (by decide)
    rw [o 79 c (by decide) (by decide) (by omega), o 36 g' (by decide) (by decide) (by omega)]
    exact ⟨by rw [n1, if_neg (by omega)]; exact x1, act2 c hck x2, x3, x4, x5, x6⟩
  · rw [nq] at hi
    obtain ⟨j, w1, w2, w3, -⟩ := elem i hi
    rw [w3] at he
    have hek : e ≠ k := fun z => uni j w1 w2 (by rw [he, z])
    obtain ⟨x1, x2, x3, x4⟩ := z1 j e w1 he
    refine ⟨act2 e hek x1, x2, ?_, x4⟩
    rw [o 75 e (by decide) (by decide) (fun y => hek y.2)]
    exact x3
  · rw [nq] at hj
    obtain ⟨a, u1, u2, u3, u4, u5⟩ := elem i (by omega)
    obtain ⟨b, v1, v2, v3, v4, v5⟩ := elem j (by omega)
    rw [u3, v3]
    refine z2 a b ?_ v1
    rcases u4 with z | z <;> rcases v4 with y | y <;> omega
  · obtain ⟨v1, v2⟩ := act e w1
    rw [o 75 e (by decide) (by decide) (fun y => v1 y.2)] at w3
    obtain ⟨j, u1, u2⟩ := z3 e he v2 w2 w3
    have hjm : j ≠ m := fun z => v1 (by rw [z, hl] at u2; exact (Prod.mk.inj u2).2.symm)
    by_cases hj : j < m
    · refine ⟨j, by rw [nq]; omega, ?_⟩
      rw [ll, if_neg (by omega)]; exact u2
    · refine ⟨j - 1, by rw [nq]; omega, ?_⟩
      rw [ll, if_pos ⟨rfl, by omega⟩, show j - 1 + 1 = j by omega]; exact u2
end
