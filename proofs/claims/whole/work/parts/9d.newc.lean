/-! ===== A CALL MORE (printed by wip/whole/gen9d.py) ===== -/
section
/-- the store with one call more: of order o, within par, at the guard gd or the station st, due at D -/
def kNs (S S' : xm_S) (o d : Nat) (par gd st : Option Nat) (T D : Int32) : Prop :=
  (∀ p q j, ¬ (p = 2 ∧ q = (xm_n S 1 6)) → ¬ (p = 2 ∧ par = some q ∧ j = 16) → xm_i S' p q j = xm_i S p q j) ∧
  (∀ p q j, ¬ (p = 2 ∧ q = (xm_n S 1 6)) → ¬ (p = 2 ∧ par = some q ∧ j = 17) → ¬ (p = 6 ∧ q = o ∧ j = 6 ∧ par = none) → xm_r S' p q j = xm_r S p q j) ∧
  ((∀ r, r < 100 → xm_n S' 0 r = if r = 2 then xm_n S 0 2 + 1 else xm_n S 0 r) ∧ (∀ r, xm_n S' 1 r = if r = 6 ∨ r = 7 then xm_n S 1 r + 1 else xm_n S 1 r) ∧ (∀ r, r ≠ 6 → r ≠ 7 → xm_n S' 2 r = xm_n S 2 r) ∧ (∀ r, r = 6 ∨ r = 7 → xm_n S' 2 r ≠ 0 ∧ xm_n S' 2 r ≤ 202 + 2 * (xm_n S 1 6)) ∧ ∀ p r, 25 ≤ p → xm_n S' p r = xm_n S p r) ∧
  (∀ r i, xm_l S' r i = if (r = 6 ∧ i = (xm_n S 1 6)) ∨ (r = 7 ∧ i = xm_n S 1 7) then (2, (xm_n S 1 6)) else xm_l S r i) ∧
  ((xm_i S' 2 (xm_n S 1 6) 0 = nI (xm_n S 1 6) ∧ xm_i S' 2 (xm_n S 1 6) 3 = nI d ∧ xm_i S' 2 (xm_n S 1 6) 5 = T ∧ xm_i S' 2 (xm_n S 1 6) 7 = -1 ∧ xm_i S' 2 (xm_n S 1 6) 8 = 0 ∧ xm_i S' 2 (xm_n S 1 6) 9 = -1 ∧ xm_i S' 2 (xm_n S 1 6) 10 = 0 ∧ xm_i S' 2 (xm_n S 1 6) 12 = D ∧ xm_i S' 2 (xm_n S 1 6) 13 = 0 ∧ xm_i S' 2 (xm_n S 1 6) 14 = 0 ∧ xm_i S' 2 (xm_n S 1 6) 16 = 0 ∧ xm_i S' 2 (xm_n S 1 6) 19 = 0) ∧
   (xm_r S' 2 (xm_n S 1 6) 1 = some o ∧ xm_r S' 2 (xm_n S 1 6) 2 = par ∧ xm_r S' 2 (xm_n S 1 6) 4 = gd ∧ xm_r S' 2 (xm_n S 1 6) 6 = st ∧ xm_r S' 2 (xm_n S 1 6) 11 = none ∧ xm_r S' 2 (xm_n S 1 6) 15 = none ∧ xm_r S' 2 (xm_n S 1 6) 17 = none ∧ (∀ p, par = some p → xm_r S' 2 (xm_n S 1 6) 18 = xm_r S 2 p 17))) ∧
  (∀ p, par = some p → xm_i S' 2 p 16 = xm_i S 2 p 16 + 1 ∧ xm_r S' 2 p 17 = some (xm_n S 1 6)) ∧ (par = none → xm_r S' 6 o 6 = some (xm_n S 1 6))
/-- the reference's state with one call more, number n -/
def kNa (A A' : y_A) (n o d : Nat) (par gd st : Option Nat) (D : Int32) : Prop :=
  (∀ x k, ¬ (x = 61 ∧ k = 0) → ¬ (62 ≤ x ∧ x ≤ 79 ∧ k = n) → ¬ (x = 73 ∧ par = some k) → A' x k = A x k) ∧
  (A' 61 0 = nI (n + 1) ∧ A' 62 n = nI o ∧ A' 63 n = nI d ∧ A' 64 n = kn par ∧ A' 65 n = kn gd ∧ A' 66 n = kn st ∧ A' 67 n = A 0 0 ∧ A' 68 n = -1 ∧ A' 69 n = 0 ∧ A' 70 n = -1 ∧ A' 71 n = 0 ∧ A' 72 n = D ∧ A' 73 n = 0 ∧ A' 74 n = -1 ∧ A' 75 n = 0 ∧ A' 76 n = 0 ∧ A' 77 n = 0 ∧ A' 78 n = 0 ∧ A' 79 n = 0) ∧
  ∀ p, par = some p → A' 73 p = A 73 p + 1
/-- what its parent must be -/
def kNp (S : xm_S) (A : y_A) (E : Nat → Prop) (hb o d p : Nat) : Prop :=
  p < (xm_n S 1 6) ∧ xm_i S 2 p 8 = 0 ∧ xm_r S 2 p 1 = some o ∧ xm_i S 2 p 3 + 1 = nI d ∧ ¬ E p ∧ ¬ A 75 p = 1 ∧
  ∃ g m, xm_r S 2 p 4 = some g ∧ xm_i S 2 p 16 = nI m ∧ m ≤ 5 ∧ (A 31 g ≠ 4 → A 31 g ≠ 5 → A 31 g ≠ 6 → m = 0) ∧ (A 31 g = 4 ∨ A 31 g = 6 → ∀ c, xm_r S 2 p 17 = some c → xm_i S 2 c 8 = 2) ∧ (A 31 g = 4 → ¬ A 76 p = 1) ∧ (A 31 g = 5 → m = 0 ∨ (m = 1 ∧ (A 72 p < A 0 0 ∨ (A 72 p = A 0 0 ∧ p < hb)))) ∧ (A 31 g = 6 → m ≤ 1) ∧ (A 31 g = 8 → xm_i S 2 p 14 = 1)
theorem kM.newc {S S' : xm_S} {A A' : y_A} {X E B : Nat → Prop} {hb rb nb t w w' e1 e2 o d : Nat} {par gd st : Option Nat} {D : Int32} (h : kM S A X E B hb rb nb t w e1 e2) (hs : kNs S S' o d par gd st (A 0 0) D) (ha : kNa A A' (xm_n S 1 6) o d par gd st D)
    (hX : ∀ k, X k → k < (xm_n S 1 6)) (hEx : ∀ k, E k → k < (xm_n S 1 6)) (ho : o < xm_n S 1 5) (hd : d ≤ 5) (hgd : ∀ g, gd = some g → g < xm_n S 1 3 ∧ k_tw S o d g) (hst : ∀ s, st = some s → s < xm_n S 1 0) (hgs : gd = none → ∃ s, st = some s) (hD : D ≠ A 0 0) (hD4 : ∀ g, gd = some g → A 31 g = 4 → D < A 0 0)
    (hpar : ∀ p, par = some p → w' = w ∧ kNp S A E hb o d p ∧ 1 + k_po S' (xm_n S 1 6) + k_po S' p ≤ k_po S p) (hnone : par = none → w = w' + 1 ∧ o + w = xm_n S 1 5 ∧ d = 0 ∧ k_po S' (xm_n S 1 6) ≤ 66 ∧ xm_r S 6 o 6 = none ∧ A 58 o = 0 ∧ A 56 o = A 0 0 ∧ A 57 o = -1) :
    kM S' A' X (fun k => E k ∨ (k = (xm_n S 1 6) ∧ gd ≠ none)) (fun k => (B k ∧ par ≠ some k) ∨ (k = (xm_n S 1 6) ∧ ∃ g, gd = some g ∧ (A 31 g = 3 ∨ A 31 g = 5))) hb rb nb t w' e1 e2 := by
  obtain ⟨⟨hC, hcnt, hb', hl, ht, hv, h1, h2, h3, h4, h5, h6, h7, h8, h9, h10, h11, h12⟩, hS, hgr, ⟨j1, j2, j3, j4, j5, j6, j7, j8, j9, j10, j11, j12, j13, j14, j15, j16, j17, j18⟩⟩ := h
  obtain ⟨fI, fR, ⟨n0, n1, n2, n2', n3⟩, fl, ⟨⟨i0, i3, i5, i7, i8, i9, i10, i12, i13, i14, i16, i19⟩, ⟨r1, r2, r4, r6, r11, r15, r17, r18⟩⟩, fp, ff⟩ := hs
  obtain ⟨fa, ⟨a61, a62, a63, a64, a65, a66, a67, a68, a69, a70, a71, a72, a73, a74, a75, a76, a77, a78, a79⟩, fp73⟩ := ha
  have hOO := j4
  obtain ⟨o9, o5, o10, o6, o2, o4, o3, o7, o1, o15, o8, o12, o0, o11, o13, o14⟩ := j4
  have hbb := hb'
  unfold k_bnd at hbb
  have hpot := j13
  unfold k_pot at hpot
  have N6 : xm_n S' 1 6 = (xm_n S 1 6) + 1 := by rw [n1, if_pos (Or.inl rfl)]
  have N7 : xm_n S' 1 7 = xm_n S 1 7 + 1 := by rw [n1, if_pos (Or.inr rfl)]
  have N1 : ∀ r, r ≠ 6 → r ≠ 7 → xm_n S' 1 r = xm_n S 1 r := fun r z1 z2 => by rw [n1, if_neg (by omega)]
  have N0 : ∀ r, r < 100 → r ≠ 2 → xm_n S' 0 r = xm_n S 0 r := fun r z1 z2 => by rw [n0 r z1, if_neg z2]
  have hI : ∀ q j, q < (xm_n S 1 6) → j ≠ 16 → xm_i S' 2 q j = xm_i S 2 q j := fun q j z1 z2 => fI 2 q j (by omega) (fun z => z2 z.2.2)
  have hR : ∀ q j, q < (xm_n S 1 6) → j ≠ 17 → xm_r S' 2 q j = xm_r S 2 q j := fun q j z1 z2 => fR 2 q j (by omega) (fun z => z2 z.2.2) (fun z => absurd z.1 (by decide))
  have hI16 : ∀ q, q < (xm_n S 1 6) → par ≠ some q → xm_i S' 2 q 16 = xm_i S 2 q 16 := fun q z1 z2 => fI 2 q 16 (by omega) (fun z => z2 z.2.1)
  have hR17 : ∀ q, q < (xm_n S 1 6) → par ≠ some q → xm_r S' 2 q 17 = xm_r S 2 q 17 := fun q z1 z2 => fR 2 q 17 (by omega) (fun z => z2 z.2.1) (fun z => absurd z.1 (by decide))
  have oI : ∀ p q j, p ≠ 2 → xm_i S' p q j = xm_i S p q j := fun p q j z => fI p q j (fun y => z y.1) (fun y => z y.1)
  have oR : ∀ p q j, p ≠ 2 → p ≠ 6 → xm_r S' p q j = xm_r S p q j := fun p q j z z6 => fR p q j (fun y => z y.1) (fun y => z y.1) (fun y => z6 y.1)
  have oR6 : ∀ q j, j ≠ 6 → xm_r S' 6 q j = xm_r S 6 q j := fun q j z => fR 6 q j (fun y => absurd y.1 (by decide)) (fun y => absurd y.1 (by decide)) (fun y => z y.2.2.1)
  have a : ∀ x k, x ≠ 61 → ¬ (62 ≤ x ∧ x ≤ 79) → A' x k = A x k := fun x k z1 z2 => fa x k (fun y => z1 y.1) (fun y => z2 ⟨y.1, y.2.1⟩) (fun y => z2 (by omega))
  have ao : ∀ x k, k < (xm_n S 1 6) → 62 ≤ x → x ≠ 73 → A' x k = A x k := fun x k z1 z2 z3 => fa x k (fun y => by omega) (fun y => by omega) (fun y => z3 y.1)
  have ao73 : ∀ k, k < (xm_n S 1 6) → par ≠ some k → A' 73 k = A 73 k := fun k z1 z2 => fa 73 k (fun y => absurd y.1 (by decide)) (fun y => by omega) (fun y => z2 y.2)
  have h0 : A' 0 0 = A 0 0 := a 0 0 (by decide) (by decide)
  have lo : ∀ r i, r ≠ 6 → r ≠ 7 → xm_l S' r i = xm_l S r i := fun r i z1 z2 => by rw [fl, if_neg (by omega)]
  have ppos : ∀ p, par = some p → p < (xm_n S 1 6) := fun p hp => (hpar p hp).2.1.1
  have hz : ((xm_n S 1 6) : Nat) < 4100 := by omega
  -- calls
  have hpk : ∀ k p, k < (xm_n S 1 6) → xm_r S 2 k 2 = some p → p < k := fun k p hk hp => (h2 k hk).2.2.2.2.2.2.2.2.2.2.2.2.2.2.2.2.2.2.2.2.2.2.2.2.2.1 p hp
  have kco : ∀ k, k < (xm_n S 1 6) → kc S' A' k := fun k hk => by
    obtain ⟨z1, z2, z3, z4, z5, z6, z7, z8, z9, z10, z11, z12, z13, z14, z15, z16, z17, z18, z19, z20, z21, z22, z23, z24, z25, z26, z27, z28⟩ := h2 k hk
    have e16 : xm_i S' 2 k 16 = A' 73 k := by
      by_cases e : par = some k
      · rw [(fp k e).1, fp73 k e, z9]
      · rw [hI16 k hk e, ao73 k hk e, z9]
    unfold kc
    simp only [hI k 0 hk (by decide), hI k 3 hk (by decide), hI k 5 hk (by decide), hI k 7 hk (by decide), hI k 8 hk (by decide), hI k 9 hk (by decide), hI k 10 hk (by decide), hI k 12 hk (by decide), hI k 14 hk (by decide), hR k 1 hk (by decide), hR k 2 hk (by decide), hR k 4 hk (by decide), hR k 6 hk (by decide), hR k 11 hk (by decide), hR k 15 hk (by decide), ao 62 k hk (by decide) (by decide), ao 63 k hk (by decide) (by decide), ao 64 k hk (by decide) (by decide), ao 65 k hk (by decide) (by decide), ao 66 k hk (by decide) (by decide), ao 67 k hk (by decide) (by decide), ao 68 k hk (by decide) (by decide), ao 69 k hk (by decide) (by decide), ao 70 k hk (by decide) (by decide), ao 71 k hk (by decide) (by decide), ao 72 k hk (by decide) (by decide), ao 74 k hk (by decide) (by decide), ao 75 k hk (by decide) (by decide), ao 76 k hk (by decide) (by decide), ao 77 k hk (by decide) (by decide), ao 78 k hk (by decide) (by decide), ao 79 k hk (by decide) (by decide), N1 0 (by decide) (by decide), N1 3 (by decide) (by decide), N1 5 (by decide) (by decide), N1 8 (by decide) (by decide)]
    exact ⟨z1, z2, z3, z4, z5, z6, z7, z8, e16, z10, z11, z12, z13, z14, z15, z16, z17, z18, z19, z20, z21, z22, z23, z24, z25, z26, z27, z28⟩
  have kcn : kc S' A' (xm_n S 1 6) := by
    unfold kc
    rw [i0, i3, i5, i7, i8, i9, i10, i12, i14, i16, r1, r2, r4, r6, r11, r15, a62, a63, a64, a65, a66, a67, a68, a69, a70, a71, a72, a73, a74, a75, a76, a77, a78, a79, N1 0 (by decide) (by decide), N1 3 (by decide) (by decide), N1 5 (by decide) (by decide)]
    refine ⟨rfl, rfl, rfl, rfl, rfl, rfl, rfl, rfl, rfl, ⟨o, rfl, ho, rfl⟩, rfl, rfl, rfl, rfl, by rw [if_neg (by decide)], by rw [if_neg (by decide)]; rfl, Or.inl rfl, Or.inl rfl, Or.inl rfl, Or.inl rfl, Or.inl rfl, Or.inl rfl, Or.inl rfl, fun g z => (hgd g z).1, hst, ppos, fun l z => (by cases z), fun f z => (by cases z)⟩
  have kca : ∀ k, k < xm_n S' 1 6 → kc S' A' k := fun k hk => by
    by_cases e : k = (xm_n S 1 6)
    · rw [e]; exact kcn
    · exact kco k (by omega)
  have tq : ∀ u q, u ≤ xm_n S 1 4 → xm_r S 10 u 0 = some q → 12 ≤ q := fun u q z1 z2 => by
    by_cases e : u = xm_n S 1 4
    · obtain ⟨q', y1, y2, -⟩ := h9
      rw [e, y1] at z2
      rw [← Option.some.inj z2]; exact y2
    · obtain ⟨q', y1, y2, -⟩ := h10 u (by omega)
      rw [y1] at z2
      rw [← Option.some.inj z2]; exact y2
  have ktE : ∀ u x y, u ≤ xm_n S 1 4 → kt S A u x y → kt S' A' u x y := fun u x y hu z => by
    obtain ⟨q, y1, y2, y3, y4, y5, y6⟩ := z
    refine ⟨q, (oR 10 u 0 (by decide) (by decide)).trans y1, y2, by rw [N0 12 (by decide) (by decide)]; exact y3, by rw [N1 q (by omega) (by omega)]; exact y4, by rw [N1 q (by omega) (by omega), a 48 x (by decide) (by decide)]; exact y5, fun i hi => ?_⟩
    rw [N1 q (by omega) (by omega)] at hi
    obtain ⟨g, u1, u2, u3⟩ := y6 i hi
    exact ⟨g, by rw [lo q i (by omega) (by omega)]; exact u1, by rw [N1 3 (by decide) (by decide)]; exact u2, by rw [a 49 _ (by decide) (by decide)]; exact u3⟩
  have tw : ∀ o' e g, o' < xm_n S 1 5 → (k_tw S o' e g → k_tw S' o' e g) := fun o' e g ho' z => by
    obtain ⟨u, q, y1, y2, y3, y4⟩ := z
    obtain ⟨u', x1, x2, -⟩ := (h6 o' ho').2.1
    rw [x1] at y1
    have hu : u = u' := (Option.some.inj y1).symm
    have hq := tq u q (by omega) y2
    exact ⟨u, q, by rw [oR6 o' 1 (by decide), x1, hu], by rw [oR 10 u 0 (by decide) (by decide)]; exact y2, by rw [N1 q (by omega) (by omega)]; exact y3, by rw [lo q e (by omega) (by omega)]; exact y4⟩
  have act : ∀ k, k < (xm_n S 1 6) → (k_act S' X k ↔ k_act S X k) := fun k hk => by unfold k_act; rw [hI k 8 hk (by decide)]
  have lik : ∀ k e, k < (xm_n S 1 6) → e < (xm_n S 1 6) → (k_lik S' k e ↔ k_lik S k e) := fun k e z1 z2 => by
    unfold k_lik
    simp only [hR k 1 z1 (by decide), hR e 1 z2 (by decide), oR6 _ 2 (by decide), oI 6 _ _ (by decide)]
  -- children: of an old one, none but the new
  have ch : ∀ k c, k < (xm_n S 1 6) → par ≠ some k → c < xm_n S' 1 6 → xm_r S' 2 c 2 = some k → c < (xm_n S 1 6) ∧ xm_r S 2 c 2 = some k := fun k c z1 z2 z3 z4 => by
    by_cases e : c = (xm_n S 1 6)
    · rw [e, r2] at z4; exact absurd z4 z2
    · have hc : c < (xm_n S 1 6) := by omega
      exact ⟨hc, by rw [← hR c 2 hc (by decide)]; exact z4⟩
  have chn : ∀ c, c < xm_n S' 1 6 → xm_r S' 2 c 2 ≠ some (xm_n S 1 6) := fun c hc z => by
    by_cases e : c = (xm_n S 1 6)
    · rw [e, r2] at z
      have := ppos _ z
      omega
    · have hc' : c < (xm_n S 1 6) := by omega
      rw [hR c 2 hc' (by decide)] at z
      have := hpk c _ hc' z
      omega
  have chp : ∀ p c, par = some p → c < xm_n S' 1 6 → xm_r S' 2 c 2 = some p → c = (xm_n S 1 6) ∨ (c < (xm_n S 1 6) ∧ xm_r S 2 c 2 = some p) := fun p c hp z3 z4 => by
    by_cases e : c = (xm_n S 1 6)
    · exact Or.inl e
    · have hc : c < (xm_n S 1 6) := by omega
      exact Or.inr ⟨hc, by rw [← hR c 2 hc (by decide)]; exact z4⟩
  have kwE : ∀ l x k, (l = 1 ∧ x = 6) ∨ (l = 2 ∧ x = 12) → kw S A l x k → kw S' A' l x k := fun l x k hlx z => by
    obtain ⟨e, y1, y2, ⟨s, y3, y4, y5⟩, y6, y7, y8, y9⟩ := z
    refine ⟨e, by rw [lo l k (by omega) (by omega)]; exact y1, by rw [N0 8 (by decide) (by decide)]; exact y2, ⟨s, by rw [oR 8 e 0 (by decide) (by decide)]; exact y3, by rw [N1 0 (by decide) (by decide)]; exact y4, by rw [a x k (by omega) (by omega)]; exact y5⟩, ?_, ?_, ?_, ?_⟩
    · rw [oI 8 e 1 (by decide), a (x + 1) k (by omega) (by omega)]; exact y6
    · rw [oI 8 e 2 (by decide), a (x + 2) k (by omega) (by omega)]; exact y7
    · rw [oI 8 e 3 (by decide), a (x + 3) k (by omega) (by omega)]; exact y8
    · rw [oI 8 e 4 (by decide), a (x + 4) k (by omega) (by omega)]; exact y9
  refine ⟨⟨fun j hj => (oR 0 0 j (by decide) (by decide)).trans (hC j hj), ?_, ?_, ?_, ?_, ?_, ?_, kca, ?_, ?_, ?_, ?_, ?_, ?_, ?_, ?_, ?_, ?_⟩, ?_, ?_, ⟨?_, ?_, ?_, ?_, ?_, ?_, ?_, ?_, ?_, ?_, ?_, ?_, ?_, ?_, ?_, j16, ?_, ?_⟩⟩
  · -- k_cnt
    obtain ⟨w1, w2, w3, w4, w5, w6, w7, w8, w9, w10, w11⟩ := hcnt
    unfold k_cnt
    rw [N6, N1 0 (by decide) (by decide), N1 1 (by decide) (by decide), N1 2 (by decide) (by decide), N1 3 (by decide) (by decide), N1 4 (by decide) (by decide), N1 5 (by decide) (by decide), N1 8 (by decide) (by decide), N1 9 (by decide) (by decide), N1 10 (by decide) (by decide), N1 11 (by decide) (by decide), a61, a 1 0 (by decide) (by decide), a 5 0 (by decide) (by decide), a 11 0 (by decide) (by decide), a 30 0 (by decide) (by decide), a 47 0 (by decide) (by decide), a 50 0 (by decide) (by decide), a 23 0 (by decide) (by decide), a 17 0 (by decide) (by decide), a 89 0 (by decide) (by decide), a 103 0 (by decide) (by decide)]
    exact ⟨w1, w2, w3, w4, w5, w6, rfl, w8, w9, w10, w11⟩
  · unfold k_bnd
    rw [N6, N7, N1 0 (by decide) (by decide), N1 1 (by decide) (by decide), N1 2 (by decide) (by decide), N1 3 (by decide) (by decide), N1 4 (by decide) (by decide), N1 5 (by decide) (by decide), N1 8 (by decide) (by decide), N1 9 (by decide) (by decide), N1 10 (by decide) (by decide), N1 11 (by decide) (by decide)]
    omega
  · -- k_lst
    have kl : ∀ r cj, r ≠ 6 → r ≠ 7 → (∀ k, k < xm_n S 1 r → xm_l S r k = (cj, k)) → ∀ k, k < xm_n S' 1 r → xm_l S' r k = (cj, k) := fun r cj z1 z2 z3 k hk => by
      rw [N1 r z1 z2] at hk
      rw [lo r k z1 z2]
      exact z3 k hk
    refine ⟨kl 0 9 (by decide) (by decide) hl.1, kl 3 5 (by decide) (by decide) hl.2.1, kl 4 10 (by decide) (by decide) hl.2.2.1, kl 5 6 (by decide) (by decide) hl.2.2.2.1, fun k hk => ?_, kl 8 4 (by decide) (by decide) hl.2.2.2.2.2.1, kl 9 3 (by decide) (by decide) hl.2.2.2.2.2.2.1, kl 10 7 (by decide) (by decide) hl.2.2.2.2.2.2.2.1, kl 11 1 (by decide) (by decide) hl.2.2.2.2.2.2.2.2⟩
    rw [fl]
    by_cases e : k = (xm_n S 1 6)
    · rw [if_pos (Or.inl ⟨rfl, e⟩), e]
    · rw [if_neg (by omega)]
      exact hl.2.2.2.2.1 k (by omega)
  · exact ⟨(oI 0 0 13 (by decide)).trans (ht.1.trans h0.symm), by rw [h0]; exact ht.2.1, by rw [N1 4 (by decide) (by decide)]; exact (oR 0 0 12 (by decide) (by decide)).trans ht.2.2⟩
  · -- k_live
    obtain ⟨v1, v2, v3⟩ := hv
    have lv : ∀ i, xm_l S' 7 i = if i = xm_n S 1 7 then (2, (xm_n S 1 6)) else xm_l S 7 i := fun i => by
      rw [fl]
      by_cases e : i = xm_n S 1 7
      · rw [if_pos (Or.inr ⟨rfl, e⟩), if_pos e]
      · rw [if_neg (by omega), if_neg e]
    refine ⟨fun i hi => ?_, fun i j c e hij hj z1 z2 => ?_, fun c hc z => ?_⟩
    · rw [lv]
      by_cases e : i = xm_n S 1 7
      · exact ⟨(xm_n S 1 6), if_pos e, by omega⟩
      · obtain ⟨c, y1, y2⟩ := v1 i (by omega)
        exact ⟨c, by rw [if_neg e]; exact y1, by omega⟩
    · rw [lv, if_neg (by omega)] at z1
      obtain ⟨c', y1, y2⟩ := v1 i (by omega)
      rw [y1] at z1
      have hcc : c' = c := congrArg Prod.snd z1
      rw [lv] at z2
      by_cases ej : j = xm_n S 1 7
      · rw [if_pos ej] at z2
        have : (xm_n S 1 6) = e := congrArg Prod.snd z2
        omega
      · rw [if_neg ej] at z2
        exact v2 i j c e hij (by omega) (by rw [y1, hcc]) z2
    · by_cases ec : c = (xm_n S 1 6)
      · exact ⟨xm_n S 1 7, by omega, by rw [lv, if_pos rfl, ec]⟩
      · have hc' : c < (xm_n S 1 6) := by omega
        rw [hI c 8 hc' (by decide)] at z
        obtain ⟨i, y1, y2⟩ := v3 c hc' z
        exact ⟨i, by omega, by rw [lv, if_neg (by omega)]; exact y2⟩
  · intro k hk
    rw [N1 0 (by decide) (by decide)] at hk
    have z := h1 k hk
    unfold ks at z ⊢
    rw [oI 9 k 0 (by decide), oI 9 k 1 (by decide), oI 9 k 2 (by decide), oI 9 k 3 (by decide), a 3 k (by decide) (by decide), a 4 k (by decide) (by decide), a 2 k (by decide) (by decide)]
    exact z
  · -- kg
    intro k hk
    rw [N1 3 (by decide) (by decide)] at hk
    obtain ⟨z1, z2, z3, z4, z5, z6, z7, z8, z9, z10, z11, z12, ⟨q, y1, y2, y3, y4, y5, y6⟩, z14, z15, z16⟩ := h3 k hk
    unfold kg
    simp only [oI 5 k _ (by decide : 5 ≠ 2), oR 5 k _ (by decide : 5 ≠ 2) (by decide : 5 ≠ 6), oR 15 k _ (by decide : 15 ≠ 2) (by decide : 15 ≠ 6), a 31 k (by decide) (by decide), a 32 k (by decide) (by decide), a 33 k (by decide) (by decide), a 34 k (by decide) (by decide), a 35 k (by decide) (by decide), a 36 k (by decide) (by decide), a 37 k (by decide) (by decide), a 38 k (by decide) (by decide), a 39 k (by decide) (by decide), a 40 k (by decide) (by decide), a 41 k (by decide) (by decide), a 42 k (by decide) (by decide), n3 25 k (by decide), N0 12 (by decide) (by decide), N6]
    refine ⟨z1, z2, z3, z4, z5, z6, z7, z8, z9, z10, z11, z12, ⟨q, y1, y2, y3, ?_, ?_, fun i hi => ?_⟩, z14, z15, fun s hs => ?_⟩
    · rw [N1 q (by omega) (by omega)]; exact y4
    · rw [N1 q (by omega) (by omega)]; exact y5
    · rw [N1 q (by omega) (by omega)] at hi
      obtain ⟨c, u1, u2, u3⟩ := y6 i hi
      exact ⟨c, by rw [lo q i (by omega) (by omega)]; exact u1, by omega, by rw [a 43 _ (by decide) (by decide)]; exact u3⟩
    · rw [a 45 _ (by decide) (by decide), a 44 _ (by decide) (by decide), a 46 _ (by decide) (by decide)]
      rcases z16 s hs with y | ⟨c, u1, u2, u3⟩
      · exact Or.inl y
      · refine Or.inr ⟨c, u1, by omega, ?_⟩
        rw [ao 69 c u2 (by decide) (by decide), ao 70 c u2 (by decide) (by decide), ao 68 c u2 (by decide) (by decide), ao 71 c u2 (by decide) (by decide)]
        exact u3
  · intro k hk
    rw [N1 8 (by decide) (by decide)] at hk
    have z := h4 k hk
    unfold kf at z ⊢
    simp only [oI 4 k _ (by decide : 4 ≠ 2), oR 4 k _ (by decide : 4 ≠ 2) (by decide : 4 ≠ 6), a 24 k (by decide) (by decide), a 25 k (by decide) (by decide), a 26 k (by decide) (by decide), a 27 k (by decide) (by decide), a 28 k (by decide) (by decide), a 29 k (by decide) (by decide), N1 3 (by decide) (by decide), N1 0 (by decide) (by decide), N1 8 (by decide) (by decide)]
    exact z
  · intro k hk
    rw [N1 9 (by decide) (by decide)] at hk
    have z := h5 k hk
    unfold ke at z ⊢
    simp only [oI 3 k _ (by decide : 3 ≠ 2), oI 6 _ _ (by decide : 6 ≠ 2), oR 3 k _ (by decide : 3 ≠ 2) (by decide : 3 ≠ 6), a 18 k (by decide) (by decide), a 19 k (by decide) (by decide), a 20 k (by decide) (by decide), a 21 k (by decide) (by decide), a 22 k (by decide) (by decide), N1 0 (by decide) (by decide), N1 5 (by decide) (by decide)]
    exact z
  · intro k hk
    rw [N1 5 (by decide) (by decide)] at hk
    have z := h6 k hk
    unfold ko at z ⊢
    simp only [oI 6 k _ (by decide : 6 ≠ 2), oR6 k 1 (by decide), oR6 k 2 (by decide), a 51 k (by decide) (by decide), a 52 k (by decide) (by decide), a 53 k (by decide) (by decide), a 54 k (by decide) (by decide), a 55 k (by decide) (by decide), N1 0 (by decide) (by decide), N1 4 (by decide) (by decide)]
    exact z
  · intro k hk
    rw [N1 10 (by decide) (by decide)] at hk
    have z := h7 k hk
    unfold kp at z ⊢
    simp only [oI 7 k _ (by decide : 7 ≠ 2), oR 7 k _ (by decide : 7 ≠ 2) (by decide : 7 ≠ 6), a 90 k (by decide) (by decide), a 91 k (by decide) (by decide), a 92 k (by decide) (by decide), a 93 k (by decide) (by decide), a 94 k (by decide) (by decide), a 95 k (by decide) (by decide), a 96 k (by decide) (by decide), a 98 k (by decide) (by decide), a 99 k (by decide) (by decide), a 100 k (by decide) (by decide), a 101 k (by decide) (by decide), a 102 k (by decide) (by decide), N1 0 (by decide) (by decide), N1 4 (by decide) (by decide)]
    exact z
  · intro k hk
    rw [N1 11 (by decide) (by decide)] at hk
    have z := h8 k hk
    unfold ka at z ⊢
    simp only [oI 1 k _ (by decide : 1 ≠ 2), a 104 k (by decide) (by decide), a 105 k (by decide) (by decide), a 106 k (by decide) (by decide), a 107 k (by decide) (by decide), a 108 k (by decide) (by decide), a 109 k (by decide) (by decide), N1 0 (by decide) (by decide), N1 3 (by decide) (by decide)]
    exact z
  · rw [N1 4 (by decide) (by decide)]; exact ktE _ _ _ (Nat.le_refl _) h9
  · intro u hu
    rw [N1 4 (by decide) (by decide)] at hu
    exact ktE u _ _ (by omega) (h10 u hu)
  · intro k hk
    rw [N1 1 (by decide) (by decide)] at hk
    exact kwE 1 6 k (Or.inl ⟨rfl, rfl⟩) (h11 k hk)
  · intro k hk
    rw [N1 2 (by decide) (by decide)] at hk
    exact kwE 2 12 k (Or.inr ⟨rfl, rfl⟩) (h12 k hk)
  · exact fun k hk => ⟨(n3 26 k (by decide)).trans (hS k hk).1, fun j hj => (oI 16 k j (by decide)).trans ((hS k hk).2 j hj)⟩
  · intro g hg
    rw [N1 3 (by decide) (by decide)] at hg
    have z := hgr g hg
    unfold kgr at z ⊢
    simp only [N1 0 (by decide) (by decide), a 31 g (by decide) (by decide), a 32 g (by decide) (by decide), a 33 g (by decide) (by decide), a 34 g (by decide) (by decide), a 35 g (by decide) (by decide), a 42 g (by decide) (by decide)]
    exact z
  · -- k_par
    intro k hk
    by_cases e : k = (xm_n S 1 6)
    · rw [e, r2, r4, r6, r1, i3, i8]
      refine ⟨fun z => ⟨by rw [(hnone z).2.2.1]; rfl, fun o' z' => by rw [← Option.some.inj z']; exact ff z⟩, hgs, fun p z => ?_, d, hd, rfl, fun g o' z1 z2 => by rw [← Option.some.inj z2]; exact tw o d g ho (hgd g z1).2⟩
      obtain ⟨p1, p2, p3, p4, p5, p6, g, m, p7, -⟩ := (hpar p z).2.1
      rw [hR p 1 p1 (by decide), hI p 3 p1 (by decide), hR p 4 p1 (by decide), hI p 8 p1 (by decide)]
      exact ⟨p3, p4.symm, ⟨g, p7⟩, fun _ => p2⟩
    · have hk' : k < (xm_n S 1 6) := by omega
      obtain ⟨x1, x2, x3, e', x4, x5, x6⟩ := j1 k hk'
      rw [hR k 2 hk' (by decide), hR k 4 hk' (by decide), hR k 6 hk' (by decide), hR k 1 hk' (by decide), hI k 3 hk' (by decide), hI k 8 hk' (by decide)]
      refine ⟨fun z => ⟨(x1 z).1, fun o' z' => ?_⟩, x2, fun p z => ?_, e', x4, x5, fun g o' z1 z2 => ?_⟩
      · have := (x1 z).2 o' z'
        rw [fR 6 o' 6 (fun y => absurd y.1 (by decide)) (fun y => absurd y.1 (by decide)) (fun y => by
          rw [y.2.1, (hnone y.2.2.2).2.2.2.2.1] at this
          cases this)]
        exact this
      · have hp := hpk k p hk' z
        rw [hR p 1 (by omega) (by decide), hI p 3 (by omega) (by decide), hR p 4 (by omega) (by decide), hI p 8 (by omega) (by decide)]
        exact x3 p z
      · obtain ⟨o'', y1, y2, -⟩ := (h2 k hk').2.2.2.2.2.2.2.2.2.1
        rw [y1] at z2
        exact tw o' e' g (by rw [← Option.some.inj z2]; exact y2) (x6 g o' z1 (by rw [y1]; exact z2))
  · -- k_dst
    intro u q hu hq i j g e hij hj z1 z2
    rw [N1 4 (by decide) (by decide)] at hu
    rw [oR 10 u 0 (by decide) (by decide)] at hq
    have hq12 := tq u q hu hq
    rw [N1 q (by omega) (by omega)] at hj
    rw [lo q _ (by omega) (by omega)] at z1 z2
    rw [oI 5 g 1 (by decide), oI 5 e 1 (by decide)]
    exact j2 u q hu hq i j g e hij hj z1 z2
  · unfold k_own at j3 ⊢
    simp only [oR 5 _ _ (by decide : 5 ≠ 2) (by decide : 5 ≠ 6), oR 10 _ _ (by decide : 10 ≠ 2) (by decide : 10 ≠ 6), N1 3 (by decide) (by decide), N1 4 (by decide) (by decide)]
    exact j3
  · unfold k_obj
    rw [N6, N1 0 (by decide) (by decide), N1 1 (by decide) (by decide), N1 2 (by decide) (by decide), N1 3 (by decide) (by decide), N1 4 (by decide) (by decide), N1 5 (by decide) (by decide), N1 8 (by decide) (by decide), N1 9 (by decide) (by decide), N1 10 (by decide) (by decide), N1 11 (by decide) (by decide), n0 2 (by decide), if_pos rfl, N0 9 (by decide) (by decide), N0 5 (by decide) (by decide), N0 10 (by decide) (by decide), N0 6 (by decide) (by decide), N0 4 (by decide) (by decide), N0 3 (by decide) (by decide), N0 7 (by decide) (by decide), N0 1 (by decide) (by decide), N0 15 (by decide) (by decide), N0 8 (by decide) (by decide), N0 12 (by decide) (by decide), N0 0 (by decide) (by decide), N0 11 (by decide) (by decide), N0 13 (by decide) (by decide), N0 14 (by decide) (by decide)]
    omega
  · obtain ⟨v1, v2, v3⟩ := j5
    unfold k_cap
    rw [N0 12 (by decide) (by decide), N6]
    refine ⟨fun i hi => ?_, fun i hi => ?_, fun i hi1 hi2 => ?_⟩
    · by_cases e : i = 6 ∨ i = 7
      · exact (n2' i e).1
      · rw [n2 i (by omega) (by omega)]; exact v1 i hi
    · by_cases e : i = 6 ∨ i = 7
      · have := (n2' i e).2
        omega
      · rw [n2 i (by omega) (by omega)]
        have := v2 i hi
        omega
    · rw [n2 i (by omega) (by omega), N1 i (by omega) (by omega)]; exact v3 i hi1 hi2
  · -- k_chn
    obtain ⟨c1, c2⟩ := j6
    refine ⟨fun p hp => ?_, fun c p hc hcp => ?_⟩
    · by_cases e : p = (xm_n S 1 6)
      · rw [e, r17, i16]
        exact ⟨fun _ c hc => chn c hc, fun c z => (by cases z), 0, by decide, rfl, ⟨fun _ => rfl, fun _ => rfl⟩, fun c z => (by cases z)⟩
      · have hp' : p < (xm_n S 1 6) := by omega
        obtain ⟨m1, m2, n, m3, m4, m5, m6⟩ := c1 p hp'
        by_cases ep : par = some p
        · obtain ⟨-, ⟨-, -, -, -, -, -, g, m, -, p8, p9, -⟩, -⟩ := hpar p ep
          have hnm : n = m := (nI_eq (a := n) (b := m) (by omega) (by omega)).mp (m4.symm.trans p8)
          rw [(fp p ep).1, (fp p ep).2]
          refine ⟨fun z => (by cases z), fun c z => ?_, n + 1, by omega, by rw [m4, nI_1], ⟨fun z => (by omega), fun z => (by cases z)⟩, fun c z => ?_⟩
          · rw [← Option.some.inj z, r2]
            exact ⟨by omega, ep, fun e' he' _ => by omega⟩
          · rw [← Option.some.inj z, r18 p ep]
            refine ⟨⟨fun y => m5.mp (by omega), fun y => by have := m5.mpr y; omega⟩, fun b hb => ?_⟩
            obtain ⟨l1, l2, -⟩ := m2 b hb
            rw [hR b 18 l1 (by decide)]
            have := (m6 b hb).1
            exact ⟨fun y => this.mp (by omega), fun y => by have := this.mpr y; omega⟩
        · rw [hI16 p hp' ep, hR17 p hp' ep]
          refine ⟨fun z c hc y => ?_, fun c z => ?_, n, m3, m4, m5, fun c z => ?_⟩
          · obtain ⟨y1, y2⟩ := ch p c hp' ep hc y
            exact m1 z c y1 y2
          · obtain ⟨y1, y2, y3⟩ := m2 c z
            refine ⟨by omega, by rw [hR c 2 y1 (by decide)]; exact y2, fun e' he' z' => ?_⟩
            obtain ⟨u1, u2⟩ := ch p e' hp' ep he' z'
            exact y3 e' u1 u2
          · obtain ⟨y1, y2, y3⟩ := m2 c z
            obtain ⟨u1, u2⟩ := m6 c z
            rw [hR c 18 y1 (by decide)]
            refine ⟨u1, fun b hb => ?_⟩
            have hbb' := ((c2 c p y1 y2).2 b hb).1
            rw [hR b 18 (by omega) (by decide)]
            exact u2 b hb
    · by_cases e : c = (xm_n S 1 6)
      · rw [e, r2] at hcp
        have hp' := ppos p hcp
        obtain ⟨m1, m2, -⟩ := c1 p hp'
        rw [e, r18 p hcp]
        refine ⟨fun z e' he' ze => ?_, fun b z => ?_⟩
        · rcases chp p e' hcp he' ze with y | ⟨y1, y2⟩
          · omega
          · exact absurd y2 (m1 z e' y1)
        · obtain ⟨u1, u2, u3⟩ := m2 b z
          refine ⟨u1, by rw [hR b 2 u1 (by decide)]; exact u2, fun e' he' ze hlt => ?_⟩
          rcases chp p e' hcp he' ze with y | ⟨y1, y2⟩
          · omega
          · exact u3 e' y1 y2
      · have hc' : c < (xm_n S 1 6) := by omega
        rw [hR c 2 hc' (by decide)] at hcp
        obtain ⟨u1, u2⟩ := c2 c p hc' hcp
        rw [hR c 18 hc' (by decide)]
        refine ⟨fun z e' he' ze => ?_, fun b z => ?_⟩
        · by_cases ee : e' = (xm_n S 1 6)
          · omega
          · have he'' : e' < (xm_n S 1 6) := by omega
            rw [hR e' 2 he'' (by decide)] at ze
            exact u1 z e' he'' ze
        · obtain ⟨y1, y2, y3⟩ := u2 b z
          refine ⟨y1, by rw [hR b 2 (by omega) (by decide)]; exact y2, fun e' he' ze hlt => ?_⟩
          have he'' : e' < (xm_n S 1 6) := by omega
          rw [hR e' 2 he'' (by decide)] at ze
          exact y3 e' he'' ze hlt
  · -- k_occ
    intro k hk
    by_cases e : k = (xm_n S 1 6)
    · rw [e, r4, r15, a75, a76, a77, a78, a79]
      refine ⟨fun _ => ?_, fun z => ?_, fun z => absurd z (by decide), fun z => absurd z (by decide), fun z => ?_, fun g z1 z2 z3 => absurd (Or.inr ⟨rfl, by rw [z1]; intro y; cases y⟩) z3⟩
      · unfold k_rest
        rw [i13, a75, a76, r15, if_neg (by decide), if_neg (by decide), if_pos rfl]
      · rcases z with z | z <;> exact absurd z (by decide)
      · rcases z with z | z
        · exact absurd z (by decide)
        · exact absurd rfl z
    · have hk' : k < (xm_n S 1 6) := by omega
      obtain ⟨x1, x2, x3, x4, x5, x6⟩ := j7 k hk'
      have rr : k_rest S A k → k_rest S' A' k := fun z => by
        unfold k_rest at z ⊢
        rw [hI k 13 hk' (by decide), hR k 15 hk' (by decide), ao 75 k hk' (by decide) (by decide), ao 76 k hk' (by decide) (by decide)]
        exact z
      simp only [act k hk', hR k 4 hk' (by decide), hR k 15 hk' (by decide), ao 75 k hk' (by decide) (by decide), ao 76 k hk' (by decide) (by decide), ao 77 k hk' (by decide) (by decide), ao 78 k hk' (by decide) (by decide), ao 79 k hk' (by decide) (by decide), a 31 _ (by decide : 31 ≠ 61) (by decide), oR 5 _ _ (by decide : 5 ≠ 2) (by decide : 5 ≠ 6)]
      exact ⟨fun z => rr (x1 z), x2, x3, x4, x5, fun g z1 z2 z3 => x6 g z1 z2 (fun y => z3 (Or.inl y))⟩
  · -- k_tri
    intro g c hg z
    rw [N1 3 (by decide) (by decide)] at hg
    rw [oR 5 g 9 (by decide) (by decide)] at z
    obtain ⟨y1, y2, y3, y4, y5, y6⟩ := j8 g c hg z
    exact ⟨by omega, (act c y1).mpr y2, fun y => by
      rcases y with y | y
      · exact y3 y
      · omega, by rw [hR c 4 y1 (by decide)]; exact y4, by rw [ao 79 c y1 (by decide) (by decide)]; exact y5, by rw [a 36 g (by decide) (by decide)]; exact y6⟩
  · -- k_que
    intro g q hg z
    rw [N1 3 (by decide) (by decide)] at hg
    rw [oR 5 g 12 (by decide) (by decide)] at z
    obtain ⟨q', y1, y2, y3, y4, y5, y6⟩ := (h3 g hg).2.2.2.2.2.2.2.2.2.2.2.2.1
    have hq : 12 ≤ q := by rw [y1] at z; rw [← Option.some.inj z]; exact y2
    have hqq : q' = q := Option.some.inj (y1.symm.trans z)
    obtain ⟨u1, u2, u3⟩ := j9 g q hg z
    rw [N1 q (by omega) (by omega)]
    refine ⟨fun i c hi zl => ?_, fun i j hij hj => ?_, fun c hc za z4 z75 => ?_⟩
    · rw [lo q i (by omega) (by omega)] at zl
      obtain ⟨c', v1, v2, -⟩ := y6 i (by rw [hqq]; exact hi)
      rw [hqq, zl] at v1
      have hc : c < (xm_n S 1 6) := by rw [show c = c' from congrArg Prod.snd v1]; exact v2
      obtain ⟨w1, w2, w3, w4⟩ := u1 i c hi zl
      refine ⟨(act c hc).mpr w1, by rw [hR c 4 hc (by decide)]; exact w2, by rw [ao 75 c hc (by decide) (by decide)]; exact w3, ?_⟩
      rw [hI16 c hc (fun ep => (hpar c ep).2.1.2.2.2.2.2.1 w3)]
      exact w4
    · rw [lo q i (by omega) (by omega), lo q j (by omega) (by omega)]
      exact u2 i j hij hj
    · by_cases e : c = (xm_n S 1 6)
      · rw [e, a75] at z75; exact absurd z75 (by decide)
      · have hc' : c < (xm_n S 1 6) := by omega
        rw [hR c 4 hc' (by decide)] at z4
        rw [ao 75 c hc' (by decide) (by decide)] at z75
        obtain ⟨i, v1, v2⟩ := u3 c hc' ((act c hc').mp za) z4 z75
        exact ⟨i, v1, by rw [lo q i (by omega) (by omega)]; exact v2⟩
  · -- k_sts
    obtain ⟨s1, s2⟩ := j10
    refine ⟨fun k c hEk hc hck => ?_, fun k g hk hk0 hkg => ?_⟩
    · rcases hEk with hEk | ⟨hEk, -⟩
      · have hk' := hEx k hEk
        obtain ⟨y1, y2⟩ := ch k c hk' (fun ep => (hpar k ep).2.1.2.2.2.2.1 hEk) hc hck
        rw [hI c 8 y1 (by decide)]
        exact s1 k c hEk y1 y2
      · rw [hEk] at hck
        exact absurd hck (chn c hc)
    · rw [h0, a 31 g (by decide) (by decide), a 32 g (by decide) (by decide)]
      by_cases e : k = (xm_n S 1 6)
      · rw [e, r4] at hkg
        rw [e, i16, a76, a72, r17]
        refine ⟨fun z => absurd (Or.inr ⟨rfl, by rw [hkg]; intro y; cases y⟩) z, fun _ c hc hck => absurd hck (chn c hc), fun z => ⟨fun y => absurd y (by decide), Or.inr (Or.inl (hD4 g hkg z))⟩, fun z => Or.inl ⟨rfl, Or.inr ⟨rfl, g, hkg, Or.inr z⟩⟩, fun _ _ _ => Or.inl rfl, fun _ => Or.inl rfl⟩
      · have hk' : k < (xm_n S 1 6) := by omega
        rw [hI k 8 hk' (by decide)] at hk0
        rw [hR k 4 hk' (by decide)] at hkg
        obtain ⟨x1, x2, x3, x4, x5, x6⟩ := s2 k g hk' hk0 hkg
        rw [ao 76 k hk' (by decide) (by decide), ao 72 k hk' (by decide) (by decide)]
        by_cases ep : par = some k
        · obtain ⟨-, ⟨p1, p2, p3, p4, p5, p6, g', m, p7, p8, p9, p10, p11, p12, p13, p14, p15⟩, -⟩ := hpar k ep
          have hgg : g' = g := Option.some.inj (p7.symm.trans hkg)
          rw [hgg] at p10 p11 p12 p13 p14 p15
          have e16 : xm_i S' 2 k 16 = nI (m + 1) := by rw [(fp k ep).1, p8, nI_1]
          have e17 := (fp k ep).2
          rw [e16, e17]
          refine ⟨fun _ _ z3 => ?_, fun z46 c hc hck hne => ?_, fun z4 => ⟨fun y => absurd y (p12 z4), ?_⟩, fun z5 => ?_, fun y4 y5 y6 => ?_, fun z6 => ?_⟩
          · rw [p10 (by rw [z3]; decide) (by rw [z3]; decide) (by rw [z3]; decide)]
            exact ⟨rfl, (xm_n S 1 6), rfl, i8⟩
          · rcases chp k c ep hc hck with y | ⟨y1, y2⟩
            · exact absurd (by rw [y]) hne
            · rw [hI c 8 y1 (by decide)]
              by_cases el : xm_r S 2 k 17 = some c
              · exact p11 z46 c el
              · exact x2 z46 c y1 y2 el
          · rcases (x3 z4).2 with y | y
            · exact absurd y (p12 z4)
            · exact Or.inr y
          · rcases p13 z5 with y | ⟨y, y'⟩
            · rw [y]; exact Or.inr (Or.inl rfl)
            · rw [y]; exact Or.inr (Or.inr ⟨rfl, y'⟩)
          · rw [p10 y4 y5 y6]; exact Or.inr rfl
          · have := p14 z6
            obtain rfl | rfl : m = 0 ∨ m = 1 := by omega
            · exact Or.inr (Or.inl rfl)
            · exact Or.inr (Or.inr rfl)
        · have e73 : A' 73 k = A 73 k := ao73 k hk' ep
          rw [hI16 k hk' ep, hR17 k hk' ep, e73]
          refine ⟨fun z1 z2 z3 => ?_, fun z46 c hc hck hne => ?_, fun z4 => ⟨fun y => ⟨((x3 z4).1 y).1, fun c hc => ?_⟩, (x3 z4).2⟩, fun z5 => ?_, x5, x6⟩
          · obtain ⟨y1, c, y2, y3⟩ := x1 (fun y => z1 (Or.inl y)) (fun y => z2 (Or.inl ⟨y, ep⟩)) z3
            refine ⟨y1, c, y2, ?_⟩
            have hc := ((j6.1 k hk').2.1 c y2).1
            rw [hI c 8 hc (by decide)]
            exact y3
          · obtain ⟨y1, y2⟩ := ch k c hk' ep hc hck
            rw [hI c 8 y1 (by decide)]
            exact x2 z46 c y1 y2 hne
          · have hc' := ((j6.1 k hk').2.1 c hc).1
            rw [hI c 8 hc' (by decide)]
            exact ((x3 z4).1 y).2 c hc
          · rcases x4 z5 with y | y
            · exact Or.inl ⟨y.1, Or.inl ⟨y.2, ep⟩⟩
            · exact Or.inr y
  · -- k_uni
    obtain ⟨u1, u2, u3⟩ := j11
    refine ⟨fun k e hk he z1 z2 z3 z4 z5 z6 => ?_, fun k g hk z1 z2 => ?_, fun k l hk z => ?_⟩
    · by_cases ek : k = (xm_n S 1 6)
      · rw [ek, i14] at z3; exact absurd z3 (by decide)
      by_cases ee : e = (xm_n S 1 6)
      · rw [ee, i14] at z4; exact absurd z4 (by decide)
      have hk' : k < (xm_n S 1 6) := by omega
      have he' : e < (xm_n S 1 6) := by omega
      rw [hI _ 8 hk' (by decide)] at z1
      rw [hI _ 8 he' (by decide)] at z2
      rw [hI _ 14 hk' (by decide)] at z3
      rw [hI _ 14 he' (by decide)] at z4
      rw [hR _ 4 hk' (by decide), hR _ 4 he' (by decide)] at z5
      exact u1 k e hk' he' z1 z2 z3 z4 z5 ((lik k e hk' he').mp z6)
    · by_cases ek : k = (xm_n S 1 6)
      · rw [ek]; exact Or.inl i16
      have hk' : k < (xm_n S 1 6) := by omega
      rw [hR _ 4 hk' (by decide)] at z1
      rw [oI 5 g 1 (by decide)] at z2
      rw [hI _ 14 hk' (by decide)]
      by_cases ep : par = some k
      · obtain ⟨-, ⟨p1, p2, p3, p4, p5, p6, g', m, p7, p8, p9, p10, p11, p12, p13, p14, p15⟩, -⟩ := hpar k ep
        have hgg : g' = g := Option.some.inj (p7.symm.trans z1)
        refine Or.inr (p15 ?_)
        rw [hgg, ← (h3 g ((h2 k hk').2.2.2.2.2.2.2.2.2.2.2.2.2.2.2.2.2.2.2.2.2.2.2.1 g z1)).2.1]
        exact z2
      · rw [hI16 k hk' ep]
        exact u2 k g hk' z1 z2
    · by_cases ek : k = (xm_n S 1 6)
      · rw [ek, r15] at z; cases z
      have hk' : k < (xm_n S 1 6) := by omega
      rw [hR _ 15 hk' (by decide)] at z
      have hlk := (h2 k hk').2.2.2.2.2.2.2.2.2.2.2.2.2.2.2.2.2.2.2.2.2.2.2.2.2.2.1 l z
      obtain ⟨y1, y2, y3, y4, y5⟩ := u3 k l hk' z
      rw [hR _ 4 hk' (by decide), hR l 4 (by omega) (by decide), hI l 14 (by omega) (by decide), hI k 14 hk' (by decide)]
      refine ⟨y1, (lik k l hk' (by omega)).mpr y2, y3, y4, ?_⟩
      by_cases ep : par = some k
      · exfalso
        obtain ⟨-, ⟨p1, p2, p3, p4, p5, p6, g', m, p7, p8, p9, p10, p11, p12, p13, p14, p15⟩, -⟩ := hpar k ep
        obtain ⟨g, v1, v2⟩ := (j7 k hk').2.2.2.2.1 (Or.inr (by rw [z]; intro y; cases y))
        have hgg : g' = g := Option.some.inj (p7.symm.trans v1)
        rw [hgg] at p15
        rw [p15 v2] at y4
        exact absurd y4 (by decide)
      · rw [hI16 k hk' ep]; exact y5
  · -- k_num
    obtain ⟨z1, z2, T, z3, z4, z5, z6⟩ := j12
    have how : ∀ v, v ≠ 0 → k_hows S' v = k_hows S v := fun v hv => by
      unfold k_hows
      rw [N6]
      show xs _ (xm_n S 1 6) + (if xm_i S' 2 (xm_n S 1 6) 8 = v then 1 else 0) = _
      rw [i8, if_neg (fun y => hv y.symm), Nat.add_zero]
      exact xs_congr (fun i hi => by rw [hI i 8 hi (by decide)])
    unfold k_num
    rw [how 1 (by decide), how 2 (by decide), how 3 (by decide), N1 8 (by decide) (by decide), N1 9 (by decide) (by decide), oI 0 0 15 (by decide), fa 82 0 (by decide) (fun y => absurd y.2.1 (by decide)) (fun y => absurd y.1 (by decide))]
    refine ⟨z1, z2, T, z3, z4, z5, fun k hk => ?_⟩
    by_cases ek : k = (xm_n S 1 6)
    · rw [ek, i19, i8, i10]
      exact ⟨⟨0, Nat.zero_le _, rfl⟩, fun y => absurd y (by decide), fun _ => rfl⟩
    · have hk' : k < (xm_n S 1 6) := by omega
      rw [hI k 19 hk' (by decide), hI k 8 hk' (by decide), hI k 10 hk' (by decide), hR k 11 hk' (by decide)]
      exact z6 k hk'
  · -- k_pot
    have poo : ∀ k, k < (xm_n S 1 6) → par ≠ some k → k_po S' k = k_po S k := fun k hk hkp => by
      obtain ⟨o', w1, w2, -⟩ := (h2 k hk).2.2.2.2.2.2.2.2.2.1
      obtain ⟨u, u1, u2, -⟩ := (h6 o' w2).2.1
      obtain ⟨q, y1, y2, y3, y4, y5, y6⟩ := h10 u u2
      unfold k_po
      simp only [hR k 4 hk (by decide), hR k 1 hk (by decide), w1]
      rcases xm_r S 2 k 4 with _ | g
      · rfl
      · simp only [hI k 3 hk (by decide), hI16 k hk hkp, oR6 o' 1 (by decide), u1, oR 10 u 0 (by decide) (by decide), y1, N1 q (by omega) (by omega)]
        have hm : k_mul S' g = k_mul S g := by unfold k_mul; rw [oI 5 g 1 (by decide), oI 5 g 2 (by decide)]
        simp only [hm, oI 5 g 1 (by decide)]
        rw [k_cp_rng (S := S) (S' := S') q _ _ (fun i hi1 hi2 => by
          obtain ⟨e, f1, -⟩ := y6 i (by omega)
          rw [f1]
          exact ⟨(lo q i (by omega) (by omega)).trans f1, oI 5 e 1 (by decide), oI 5 e 2 (by decide)⟩)]
    unfold k_pot
    rw [N6, N1 5 (by decide) (by decide)]
    show (xm_n S 1 6) + 1 + (xs (k_po S') (xm_n S 1 6) + k_po S' (xm_n S 1 6)) + 67 * w' ≤ 67 * xm_n S 1 5
    rcases hp : par with _ | p
    · obtain ⟨y1, -, -, y2, -⟩ := hnone hp
      rw [xs_congr (f := k_po S) (fun i hi => poo i hi (by rw [hp]; intro y; cases y))]
      omega
    · obtain ⟨y1, -, y2⟩ := hpar p hp
      have := xs_upd (f := k_po S) (g := fun i => if i = p then k_po S' p else k_po S i) (k := p) (n := (xm_n S 1 6)) (ppos p hp) (fun i hi => if_neg hi)
      rw [xs_congr (f := fun i => if i = p then k_po S' p else k_po S i) (g := k_po S') (fun i hi => by
        by_cases e : i = p
        · rw [if_pos e, e]
        · rw [if_neg e]; exact poo i hi (by rw [hp]; intro y; exact e (Option.some.inj y).symm))]
      rw [if_pos rfl] at this
      omega
  · -- k_pln
    unfold k_pln k_spn at j14 ⊢
    simp only [N1 0 (by decide) (by decide), N1 1 (by decide) (by decide), N1 2 (by decide) (by decide), N1 5 (by decide) (by decide), N1 10 (by decide) (by decide), oI 7 _ _ (by decide : 7 ≠ 2), a 2 _ (by decide : 2 ≠ 61) (by decide), a 3 _ (by decide : 3 ≠ 61) (by decide), a 10 _ (by decide : 10 ≠ 61) (by decide), a 16 _ (by decide : 16 ≠ 61) (by decide), a 54 _ (by decide : 54 ≠ 61) (by decide), a 93 _ (by decide : 93 ≠ 61) (by decide), a 97 _ (by decide : 97 ≠ 61) (by decide), a 94 _ (by decide : 94 ≠ 61) (by decide)]
    exact j14
  · rw [h0]; exact j15
  · intro k hk1 hk2
    rw [h0]
    by_cases ek : k = (xm_n S 1 6)
    · rw [ek, a72]; exact hD
    · rw [ao 72 k (by omega) (by decide) (by decide)]
      exact j17 k hk1 (by omega)
  · -- kof
    intro o' ho'
    rw [N1 5 (by decide) (by decide)] at ho'
    have old : o' + w < xm_n S 1 5 → kof S' A' o' := fun z => by
      obtain ⟨f, f1, f2, f3, f4, f5, f6, f7, f8⟩ := j18 o' z
      have e6 : xm_r S' 6 o' 6 = xm_r S 6 o' 6 := fR 6 o' 6 (fun y => absurd y.1 (by decide)) (fun y => absurd y.1 (by decide)) (fun y => by
        rw [y.2.1, (hnone y.2.2.2).2.2.2.2.1] at f1
        cases f1)
      refine ⟨f, e6.trans f1, by omega, by rw [hR f 1 f2 (by decide)]; exact f3, by rw [hR f 2 f2 (by decide)]; exact f4, ?_⟩
      rw [a 58 o' (by decide) (by decide), a 59 o' (by decide) (by decide), a 56 o' (by decide) (by decide), a 57 o' (by decide) (by decide), ao 69 f f2 (by decide) (by decide), ao 70 f f2 (by decide) (by decide), ao 71 f f2 (by decide) (by decide), ao 67 f f2 (by decide) (by decide), ao 68 f f2 (by decide) (by decide)]
      exact ⟨f5, f6, f7, f8⟩
    rcases hp : par with _ | p
    · obtain ⟨y1, y2, -, -, y5, y6, y7, y8⟩ := hnone hp
      by_cases e : o' + w < xm_n S 1 5
      · exact old e
      · have eo : o' = o := by omega
        rw [eo]
        refine ⟨(xm_n S 1 6), ff hp, by omega, r1, by rw [r2, hp], ?_⟩
        rw [a 58 o (by decide) (by decide), a 59 o (by decide) (by decide), a 56 o (by decide) (by decide), a 57 o (by decide) (by decide), a69, a71, a67, a68, y6, y7, y8]
        exact ⟨by decide, fun z => by rcases z with z | z <;> exact absurd z (by decide), rfl, rfl⟩
    · obtain ⟨y1, -⟩ := hpar p hp
      exact old (by omega)
end
