/-! ===== CALLS ARE TAKEN BACK: the relation behind the marks ===== -/
section
/-- the class has marked those below K -/
def kTk (S S' : xm_S) (c K : Nat) (tk : Int32) : Prop := xm_n S' = xm_n S ∧ xm_l S' = xm_l S ∧ xm_r S' = xm_r S ∧ (∀ p q j, ¬ (p = 2 ∧ (j = 8 ∨ j = 7 ∨ j = 19)) → ¬ (p = 0 ∧ j = 15) → xm_i S' p q j = xm_i S p q j) ∧ xm_i S' 0 0 15 = tk ∧ (∀ k, kT S c k → k < K → xm_i S' 2 k 8 = 3 ∧ xm_i S' 2 k 7 = xm_i S 0 0 13 ∧ xm_i S' 2 k 19 = tk) ∧ ∀ k, ¬ (kT S c k ∧ k < K) → xm_i S' 2 k 8 = xm_i S 2 k 8 ∧ xm_i S' 2 k 7 = xm_i S 2 k 7 ∧ xm_i S' 2 k 19 = xm_i S 2 k 19
/-- the reference has -/
def kTa (S : xm_S) (A A' : y_A) (c K h3 : Nat) : Prop := (∀ x k, x ≠ 68 → x ≠ 69 → x ≠ 80 → x ≠ 81 → x ≠ 82 → A' x k = A x k) ∧ (∀ k, kT S c k → k < K → A' 69 k = 3 ∧ A' 68 k = A 0 0 ∧ A' 81 (h3 + kTn S c k) = nI k) ∧ (∀ k, ¬ (kT S c k ∧ k < K) → A' 69 k = A 69 k ∧ A' 68 k = A 68 k) ∧ A' 82 0 = nI (h3 + kTn S c K) ∧ ∀ i, i < h3 → A' 81 i = A 81 i
theorem xs_add {f g : Nat → Nat} : ∀ {n : Nat}, xs (fun k => f k + g k) n = xs f n + xs g n
  | 0 => rfl
  | n + 1 => by
    show xs (fun k => f k + g k) n + (f n + g n) = xs f n + f n + (xs g n + g n)
    rw [xs_add]
    omega
theorem kTn.s {S : xm_S} {c K : Nat} : (kT S c K → kTn S c (K + 1) = kTn S c K + 1) ∧ (¬ kT S c K → kTn S c (K + 1) = kTn S c K) := by
  constructor
  · intro h
    show kTn S c K + @ite Nat (kT S c K) (Classical.propDecidable _) 1 0 = _
    rw [if_pos h]
  · intro h
    show kTn S c K + @ite Nat (kT S c K) (Classical.propDecidable _) 1 0 = _
    rw [if_neg h, Nat.add_zero]
theorem kTn.mono {S : xm_S} {c K : Nat} : ∀ {m : Nat}, kTn S c K ≤ kTn S c (K + m)
  | 0 => Nat.le_refl _
  | m + 1 => by
    have := kTn.mono (S := S) (c := c) (K := K) (m := m)
    by_cases h : kT S c (K + m)
    · have := kTn.s.1 h
      rw [show K + (m + 1) = K + m + 1 by omega]
      omega
    · have := kTn.s.2 h
      rw [show K + (m + 1) = K + m + 1 by omega]
      omega
theorem kTn.lt {S : xm_S} {c k K : Nat} (h : kT S c k) (hk : k < K) : kTn S c k < kTn S c K := by
  have := kTn.s.1 h
  have := kTn.mono (S := S) (c := c) (K := k + 1) (m := K - (k + 1))
  rw [show k + 1 + (K - (k + 1)) = K by omega] at this
  omega
theorem kTk.hows {S S' : xm_S} {c : Nat} {tk : Int32} (h : kTk S S' c (xm_n S 1 6) tk) (h0 : ∀ k, kT S c k → xm_i S 2 k 8 = 0) : k_hows S' 3 = k_hows S 3 + kTn S c (xm_n S 1 6) ∧ k_hows S' 1 = k_hows S 1 ∧ k_hows S' 2 = k_hows S 2 := by
  obtain ⟨a1, -, -, -, -, a6, a7⟩ := h
  have hv : ∀ v : Int32, v ≠ 0 → v ≠ 3 → k_hows S' v = k_hows S v := fun v v0 v3 => by
    unfold k_hows
    rw [a1]
    refine xs_congr (fun k hk => ?_)
    by_cases ht : kT S c k
    · rw [(a6 k ht hk).1, h0 k ht, if_neg (fun z => v3 z.symm), if_neg (fun z => v0 z.symm)]
    · rw [(a7 k (fun z => ht z.1)).1]
  refine ⟨?_, hv 1 (by decide) (by decide), hv 2 (by decide) (by decide)⟩
  unfold k_hows kTn
  rw [a1, ← xs_add]
  refine xs_congr (fun k hk => ?_)
  by_cases ht : kT S c k
  · rw [(a6 k ht hk).1, h0 k ht, if_pos rfl, if_neg (by decide), if_pos ht]
  · rw [(a7 k (fun z => ht z.1)).1, if_neg ht, Nat.add_zero]
theorem kM.take {S S' : xm_S} {A A' : y_A} {X E : Nat → Prop} {hb rb nb t w e1 e2 c h3 : Nat} (h : kM S A X E (fun _ => False) hb rb nb t w e1 e2) (hc : kT S c c) (hS1 : kTk S S' c (xm_n S 1 6) (xm_i S 0 0 15 + 1)) (h3e : h3 = k_hows S 3) (hA0 : ∀ x k, x ≠ 57 → x ≠ 58 → x ≠ 68 → x ≠ 69 → x ≠ 80 → x ≠ 81 → x ≠ 82 → A' x k = A x k) (hA1 : ∀ k, kT S c k → A' 69 k = 3 ∧ A' 68 k = A 0 0) (hA2 : ∀ k, ¬ kT S c k → A' 69 k = A 69 k ∧ A' 68 k = A 68 k) (hA3 : A' 82 0 = nI (h3 + kTn S c (xm_n S 1 6))) (hof : ∀ o, o + w < xm_n S 1 5 → kof S' A' o) :
    kM S' A' (fun k => X k ∨ kT S c k) (fun k => E k ∨ (xm_r S 2 c 2 = some k ∧ ∃ g, xm_r S 2 k 4 = some g ∧ A 31 g = 3)) (fun _ => False) hb rb nb t w e1 e2 := by
  obtain ⟨hE, hS, hgr, ⟨j1, j2, j3, j4, j5, j6, j7, j8, j9, j10, j11, j12, j13, j14, j15, j16, j17, j18⟩⟩ := h
  have hEE := hE
  obtain ⟨hC, hcnt, hb', hl, ht, hv, h1, h2, h3', h4, h5, h6, h7, h8, h9, h10, h11, h12⟩ := hE
  have hpk : ∀ k p, k < xm_n S 1 6 → xm_r S 2 k 2 = some p → p < k := fun k p hk hp => (h2 k hk).2.2.2.2.2.2.2.2.2.2.2.2.2.2.2.2.2.2.2.2.2.2.2.2.2.1 p hp
  have hTi := fun k (hk : k < xm_n S 1 6) => kT.i (c := c) hpk hk
  have hT0 : ∀ k, kT S c k → xm_i S 2 k 8 = 0 := fun k hk => ((hTi k hk.1).mp hk).1
  have hows := hS1.hows hT0
  obtain ⟨a1, a2, ar, a3, a15, a6, a7⟩ := hS1
  have a4 : ∀ p q j, xm_r S' p q j = xm_r S p q j := fun p q j => by rw [ar]
  have T8 : ∀ k, kT S c k → xm_i S' 2 k 8 = 3 := fun k hk => (a6 k hk hk.1).1
  have N8 : ∀ k, ¬ kT S c k → xm_i S' 2 k 8 = xm_i S 2 k 8 := fun k hk => (a7 k (fun z => hk z.1)).1
  have z8 : ∀ k, xm_i S' 2 k 8 = 0 → ¬ kT S c k ∧ xm_i S 2 k 8 = 0 := fun k hk => by
    have : ¬ kT S c k := fun z => by rw [T8 k z] at hk; exact absurd hk (by decide)
    exact ⟨this, by rw [← N8 k this]; exact hk⟩
  have act : ∀ k, k_act S' (fun k => X k ∨ kT S c k) k ↔ k_act S X k := fun k => by
    constructor
    · rintro (z | z | z)
      · exact Or.inl (z8 k z).2
      · exact Or.inr z
      · exact Or.inl (hT0 k z)
    · rintro (z | z)
      · by_cases hk : kT S c k
        · exact Or.inr (Or.inr hk)
        · exact Or.inl (by rw [N8 k hk]; exact z)
      · exact Or.inr (Or.inl z)
  have I : ∀ j, j ≠ 8 → j ≠ 7 → j ≠ 19 → ∀ k, xm_i S' 2 k j = xm_i S 2 k j := fun j z1 z2 z3 k => a3 2 k j (by omega) (by omega)
  have I5 : ∀ p q j, p ≠ 2 → p ≠ 0 → xm_i S' p q j = xm_i S p q j := fun p q j z1 z2 => a3 p q j (by omega) (by omega)
  have J : ∀ x, x ≠ 57 → x ≠ 58 → x ≠ 68 → x ≠ 69 → x ≠ 80 → x ≠ 81 → x ≠ 82 → ∀ k, A' x k = A x k := fun x z1 z2 z3 z4 z5 z6 z7 k => hA0 x k z1 z2 z3 z4 z5 z6 z7
  have b75 := J 75 (by decide) (by decide) (by decide) (by decide) (by decide) (by decide) (by decide)
  have b76 := J 76 (by decide) (by decide) (by decide) (by decide) (by decide) (by decide) (by decide)
  have b77 := J 77 (by decide) (by decide) (by decide) (by decide) (by decide) (by decide) (by decide)
  have b78 := J 78 (by decide) (by decide) (by decide) (by decide) (by decide) (by decide) (by decide)
  have b79 := J 79 (by decide) (by decide) (by decide) (by decide) (by decide) (by decide) (by decide)
  have b31 := J 31 (by decide) (by decide) (by decide) (by decide) (by decide) (by decide) (by decide)
  have b32 := J 32 (by decide) (by decide) (by decide) (by decide) (by decide) (by decide) (by decide)
  have b36 := J 36 (by decide) (by decide) (by decide) (by decide) (by decide) (by decide) (by decide)
  have b72 := J 72 (by decide) (by decide) (by decide) (by decide) (by decide) (by decide) (by decide)
  have b73 := J 73 (by decide) (by decide) (by decide) (by decide) (by decide) (by decide) (by decide)
  have b0 := J 0 (by decide) (by decide) (by decide) (by decide) (by decide) (by decide) (by decide)
  have rst : ∀ k, k_rest S' A' k ↔ k_rest S A k := fun k => by unfold k_rest; rw [I 13 (by decide) (by decide) (by decide), b75, b76, a4]
  refine ⟨hEE.calls (T := kT S c) ⟨a1, a2, fun p q j => ?_, fun p q j => Or.inr (Or.inr (a4 p q j))⟩ (fun x k => ?_) (fun k hk hk2 => ?_) (fun k hk h1 => ?_) (fun k hk h1 => ?_), fun k hk => ⟨by rw [a1]; exact (hS k hk).1, fun j hj => (I5 16 k j (by decide) (by decide)).trans ((hS k hk).2 j hj)⟩, fun g hg => ?_, ⟨?_, ?_, ?_, ?_, ?_, ?_, ?_, ?_, ?_, ?_, ?_, ?_, ?_, ?_, (b0 0).trans j15, j16, ?_, fun o ho => hof o (by rw [a1] at ho; exact ho)⟩⟩
  · by_cases hp : p = 2
    · by_cases hq : kT S c q
      · exact Or.inl ⟨hp, hq⟩
      · subst hp
        refine Or.inr (Or.inr ?_)
        obtain ⟨y1, y2, y3⟩ := a7 q (fun z => hq z.1)
        by_cases z8 : j = 8
        · rw [z8]; exact y1
        · by_cases z7 : j = 7
          · rw [z7]; exact y2
          · by_cases z19 : j = 19
            · rw [z19]; exact y3
            · exact I j z8 z7 z19 q
    · by_cases hp0 : p = 0
      · by_cases hj : j = 13
        · exact Or.inr (Or.inr (a3 p q j (by omega) (by omega)))
        · exact Or.inr (Or.inl ⟨hp0, hj⟩)
      · exact Or.inr (Or.inr (I5 p q j hp hp0))
  · by_cases hx : 57 ≤ x ∧ x ≤ 60
    · exact Or.inr (Or.inl hx)
    · by_cases hx2 : 80 ≤ x ∧ x ≤ 82
      · exact Or.inr (Or.inr (Or.inl hx2))
      · by_cases hx3 : x = 68 ∨ x = 69
        · by_cases hk : kT S c k
          · exact Or.inl ⟨by omega, by omega, hk⟩
          · refine Or.inr (Or.inr (Or.inr ?_))
            rcases hx3 with rfl | rfl
            · exact (hA2 k hk).2
            · exact (hA2 k hk).1
        · exact Or.inr (Or.inr (Or.inr (hA0 x k (by omega) (by omega) (by omega) (by omega) (by omega) (by omega) (by omega))))
  · obtain ⟨z1, z2, z3, z4, z5, z6, z7, z8, z9, z10, z11, z12, z13, z14, z15, z16, z17, z18, z19, z20, z21, z22, z23, z24, z25, z26, z27, z28⟩ := h2 k hk
    obtain ⟨y1, y2, y3⟩ := a6 k hk2 hk
    obtain ⟨x1, x2⟩ := hA1 k hk2
    have w0 : A 69 k = 0 := by rw [← z5]; exact hT0 k hk2
    rw [w0, if_neg (by decide)] at z15 z16
    unfold kc
    simp only [a1, ar, I 0 (by decide) (by decide) (by decide), I 3 (by decide) (by decide) (by decide), I 5 (by decide) (by decide) (by decide), I 9 (by decide) (by decide) (by decide), I 10 (by decide) (by decide) (by decide), I 12 (by decide) (by decide) (by decide), I 14 (by decide) (by decide) (by decide), I 16 (by decide) (by decide) (by decide), y1, y2, x1, x2, b75, b76, b77, b78, b79, b72, b73, J 62 (by decide) (by decide) (by decide) (by decide) (by decide) (by decide) (by decide), J 63 (by decide) (by decide) (by decide) (by decide) (by decide) (by decide) (by decide), J 64 (by decide) (by decide) (by decide) (by decide) (by decide) (by decide) (by decide), J 65 (by decide) (by decide) (by decide) (by decide) (by decide) (by decide) (by decide), J 66 (by decide) (by decide) (by decide) (by decide) (by decide) (by decide) (by decide), J 67 (by decide) (by decide) (by decide) (by decide) (by decide) (by decide) (by decide), J 70 (by decide) (by decide) (by decide) (by decide) (by decide) (by decide) (by decide), J 71 (by decide) (by decide) (by decide) (by decide) (by decide) (by decide) (by decide), J 74 (by decide) (by decide) (by decide) (by decide) (by decide) (by decide) (by decide)]
    refine ⟨z1, z2, z3, ht.1, trivial, z6, z7, z8, z9, z10, z11, z12, z13, z14, ?_, ?_, z17, z18, z19, z20, z21, z22, ?_, z24, z25, z26, z27, z28⟩
    · rw [if_neg (by decide)]; exact z15
    · rw [if_neg (by decide)]; exact z16
    · exact Or.inr (Or.inr (Or.inr trivial))
  · have w0 : A 69 k = 0 := by rw [← (h2 k hk.1).2.2.2.2.1]; exact hT0 k hk
    rw [w0] at h1
    exact absurd h1 (by decide)
  · rw [T8 k hk] at h1
    exact absurd h1 (by decide)
  · rw [a1] at hg
    have z := hgr g hg
    unfold kgr at z ⊢
    simp only [a1, b31, b32, J 33 (by decide) (by decide) (by decide) (by decide) (by decide) (by decide) (by decide), J 34 (by decide) (by decide) (by decide) (by decide) (by decide) (by decide) (by decide), J 35 (by decide) (by decide) (by decide) (by decide) (by decide) (by decide) (by decide), J 42 (by decide) (by decide) (by decide) (by decide) (by decide) (by decide) (by decide)]
    exact z
  · intro k hk
    rw [a1] at hk
    obtain ⟨z1, z0, z2, e, z3, z4, z5⟩ := j1 k hk
    simp only [a4, I 3 (by decide) (by decide) (by decide)]
    refine ⟨z1, z0, fun p hp => ?_, e, z3, z4, fun g o hg ho => ?_⟩
    · obtain ⟨y1, y2, y3, y4⟩ := z2 p hp
      refine ⟨y1, y2, y3, fun y => ?_⟩
      obtain ⟨y5, y6⟩ := z8 k y
      have hpT : ¬ kT S c p := fun z => y5 ((hTi k hk).mpr ⟨y6, Or.inr ⟨p, hp, z⟩⟩)
      rw [N8 p hpT]
      exact y4 y6
    · obtain ⟨t', q, y1, y2, y3, y4⟩ := z5 g o hg ho
      exact ⟨t', q, (a4 _ _ _).trans y1, (a4 _ _ _).trans y2, by rw [a1]; exact y3, by rw [a2]; exact y4⟩
  · unfold k_dst
    simp only [a1, a2, a4, I5 5 _ _ (by decide) (by decide)]
    exact j2
  · unfold k_own
    simp only [a1, a4]
    exact j3
  · unfold k_obj
    simp only [a1]
    exact j4
  · unfold k_cap
    simp only [a1]
    exact j5
  · unfold k_chn
    simp only [a1, a4, I 16 (by decide) (by decide) (by decide)]
    exact j6
  · intro k hk
    rw [a1] at hk
    simp only [act, rst, a4, b75, b76, b77, b78, b79, b31]
    obtain ⟨z1, z2, z3, z4, z5, z6⟩ := j7 k hk
    exact ⟨z1, z2, z3, z4, z5, fun g hg y1 y2 => z6 g hg y1 (fun z => y2 (Or.inl z))⟩
  · intro g k hg hk
    rw [a1] at hg
    rw [a4] at hk
    simp only [act, a1, a4, b79, b36]
    obtain ⟨y1, y2, y3, y4, y5, y6⟩ := j8 g k hg hk
    refine ⟨y1, y2, fun z => ?_, y4, y5, y6⟩
    rcases z with z | ⟨-, g', w1, w2⟩
    · exact y3 z
    · obtain ⟨g2, w3, w4⟩ := (j7 k y1).2.2.2.1 y5
      rw [w1] at w3
      rw [← Option.some.inj w3, w2] at w4
      exact absurd w4 (by decide)
  · intro g q hg hq
    rw [a1] at hg
    rw [a4] at hq
    simp only [act, a1, a2, a4, b75, I 16 (by decide) (by decide) (by decide)]
    exact j9 g q hg hq
  · obtain ⟨z1, z2⟩ := j10
    refine ⟨fun k e hk he hp => ?_, fun k g hk hk0 hg => ?_⟩
    · rw [a1] at he
      rw [a4] at hp
      by_cases hek : kT S c e
      · rw [T8 e hek]; decide
      · rw [N8 e hek]
        rcases hk with hk | ⟨hk1, g, hk2, hk3⟩
        · exact z1 k e hk he hp
        · intro he0
          have hkn : k < xm_n S 1 6 := by have := hpk c k hc.1 hk1; have := hc.1; omega
          have hk0 : xm_i S 2 k 8 = 0 := ((j1 c hc.1).2.2.1 k hk1).2.2.2 (hT0 c hc)
          have hkE : ¬ E k := fun z => z1 k c z hc.1 hk1 (hT0 c hc)
          obtain ⟨y1, l, y2, y3⟩ := (z2 k g hkn hk0 hk2).1 hkE (fun z => z) hk3
          have hl := (j6.1 k hkn).2.1 l y2
          obtain ⟨n, n1, n2, n3, n4⟩ := (j6.1 k hkn).2.2
          have hn1 : n = 1 := (nI_eq (a := n) (b := 1) (by omega) (by decide)).mp (n2.symm.trans y1)
          have hlb := ((n4 l y2).1).mp hn1
          have hone : ∀ x, x < xm_n S 1 6 → xm_r S 2 x 2 = some k → x = l := fun x hx hxp => by
            have x1 := hl.2.2 x hx hxp
            have x2 := (j6.2 l k hl.1 hl.2.1).1 hlb x hx hxp
            omega
          exact hek (by rw [(hone e he hp).trans (hone c hc.1 hk1).symm]; exact hc)
    · rw [a1] at hk
      obtain ⟨hkT, hk0⟩ := z8 k hk0
      rw [a4] at hg
      obtain ⟨y1, y6, y2, y3, y4, y5⟩ := z2 k g hk hk0 hg
      simp only [a1, a4, I 16 (by decide) (by decide) (by decide), b31, b76, b73, b32, b72, b0]
      have n2 : ∀ e, xm_i S 2 e 8 = 2 → xm_i S' 2 e 8 = 2 := fun e he => by
        have : ¬ kT S c e := fun z => by rw [hT0 e z] at he; exact absurd he (by decide)
        rw [N8 e this]; exact he
      refine ⟨fun x1 x0 x2 => ?_, fun x e he hp hl => n2 e (y6 x e he hp hl), fun x => ⟨fun y => ⟨((y2 x).1 y).1, fun e he => n2 e (((y2 x).1 y).2 e he)⟩, (y2 x).2⟩, y3, y4, y5⟩
      obtain ⟨v1, l, v2, v3⟩ := y1 (fun z => x1 (Or.inl z)) x0 x2
      refine ⟨v1, l, v2, ?_⟩
      obtain ⟨l1, l2, -⟩ := (j6.1 k hk).2.1 l v2
      have hlT : ¬ kT S c l := fun z => by
        rcases ((hTi l l1).mp z).2 with rfl | ⟨p, p1, p2⟩
        · exact x1 (Or.inr ⟨l2, g, hg, x2⟩)
        · rw [l2] at p1
          rw [← Option.some.inj p1] at p2
          exact hkT p2
      rw [N8 l hlT]
      exact v3
  · obtain ⟨z1, z0, z2⟩ := j11
    unfold k_uni k_lik
    simp only [a1, a4, I 14 (by decide) (by decide) (by decide), I 16 (by decide) (by decide) (by decide), I5 6 _ _ (by decide) (by decide), I5 5 _ _ (by decide) (by decide)]
    exact ⟨fun k e hk he x1 x2 => z1 k e hk he (z8 k x1).2 (z8 e x2).2, z0, z2⟩
  · obtain ⟨z1, z2, T, z3, z4, z5, z6⟩ := j12
    unfold k_num
    rw [a1, hows.1, hows.2.1, hows.2.2]
    have hpos := kTn.lt hc hc.1
    refine ⟨z1, z2, T + 1, by rw [a15, z3, nI_1], by omega, by rw [hA3, h3e], fun k hk => ?_⟩
    obtain ⟨⟨s, y1, y2⟩, y3, y4⟩ := z6 k hk
    by_cases hk2 : kT S c k
    · rw [T8 k hk2, (a6 k hk2 hk).2.2]
      exact ⟨⟨T + 1, Nat.le_refl _, by rw [z3, nI_1]⟩, fun z => absurd z (by decide), fun z => absurd z (by decide)⟩
    · rw [N8 k hk2, (a7 k (fun z => hk2 z.1)).2.2, a4, I 10 (by decide) (by decide) (by decide)]
      exact ⟨⟨s, by omega, y2⟩, y3, y4⟩
  · have e : ∀ q m n, k_cp S' q n m = k_cp S q n m := fun q m n => k_cp_rng q m n (fun i _ _ => ⟨by rw [a2], I5 5 _ _ (by decide) (by decide), I5 5 _ _ (by decide) (by decide)⟩)
    have e2 : k_po S' = k_po S := by
      funext k
      unfold k_po k_mul
      simp only [a1, a4, I5 5 _ _ (by decide) (by decide), I 16 (by decide) (by decide) (by decide), I 3 (by decide) (by decide) (by decide), e]
    unfold k_pot at j13 ⊢
    rw [a1, e2]
    exact j13
  · unfold k_pln k_spn at j14 ⊢
    simp only [a1, I5 7 _ _ (by decide) (by decide), J 2 (by decide) (by decide) (by decide) (by decide) (by decide) (by decide) (by decide), J 3 (by decide) (by decide) (by decide) (by decide) (by decide) (by decide) (by decide), J 10 (by decide) (by decide) (by decide) (by decide) (by decide) (by decide) (by decide), J 16 (by decide) (by decide) (by decide) (by decide) (by decide) (by decide) (by decide), J 54 (by decide) (by decide) (by decide) (by decide) (by decide) (by decide) (by decide), J 93 (by decide) (by decide) (by decide) (by decide) (by decide) (by decide) (by decide), J 94 (by decide) (by decide) (by decide) (by decide) (by decide) (by decide) (by decide), J 97 (by decide) (by decide) (by decide) (by decide) (by decide) (by decide) (by decide)]
    exact j14
  · intro k k1 k2
    rw [a1] at k2
    rw [b72, b0]
    exact j17 k k1 k2
end
