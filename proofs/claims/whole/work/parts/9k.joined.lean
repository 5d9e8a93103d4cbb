/-! ===== ENDJOINED (printed by wip/whole/gen9k.py) ===== -/
section
/-- no one that leads and is alike is under way -/
def kLN (S : xm_S) (L : Nat) : Prop := ∀ k, k < xm_n S 1 6 → xm_i S 2 k 8 = 0 → xm_i S 2 k 14 = 1 → xm_r S 2 k 4 = xm_r S 2 L 4 → ¬ k_lik S k L
theorem k_lik.L {S S' : xm_S} {A A' : y_A} {k L : Nat} (hE : kE S A) (hl : kL S S' A A') (hk : k < xm_n S 1 6) (hL : L < xm_n S 1 6) (h : k_lik S' k L) : k_lik S k L := by
  obtain ⟨o, u, z1, z2, z3, z4, z5⟩ := h
  have h2 := hE.2.2.2.2.2.2.2.1
  rw [(hl.2.2.1 k hk).1] at z1
  rw [(hl.2.2.1 L hL).1] at z2
  have ho : o < xm_n S 1 5 := by
    obtain ⟨o', y1, y2, -⟩ := (h2 k hk).2.2.2.2.2.2.2.2.2.1
    rw [← Option.some.inj (y1.symm.trans z1)]; exact y2
  have hu : u < xm_n S 1 5 := by
    obtain ⟨o', y1, y2, -⟩ := (h2 L hL).2.2.2.2.2.2.2.2.2.1
    rw [← Option.some.inj (y1.symm.trans z2)]; exact y2
  obtain ⟨a1, a2, a3⟩ := hl.2.2.2.2.2.1 o ho
  obtain ⟨b1, b2, b3⟩ := hl.2.2.2.2.2.1 u hu
  exact ⟨o, u, z1, z2, by rw [← a1, ← b1]; exact z3, by rw [← a2, ← b2]; exact z4, by rw [← a3, ← b3]; exact z5⟩
theorem kLN.L {S S' : xm_S} {A A' : y_A} {L : Nat} (h : kLN S L) (hE : kE S A) (hl : kL S S' A A') (hL : L < xm_n S 1 6) : kLN S' L := fun k hk h0 h14 h4 z => by
  by_cases e : k < xm_n S 1 6
  · have hc := hl.2.2.1 k e
    refine h k e (hc.2.2.2.2.2.2.1 h0) (hc.2.2.2.2.1.symm.trans h14) ?_ (k_lik.L hE hl e hL z)
    rw [← hc.2.2.1, ← (hl.2.2.1 L hL).2.2.1]
    exact h4
  · rw [(hl.2.2.2.1 k (by omega) hk).2] at h14
    exact absurd h14 (by decide)
/-- two guards of one sort in the tower of an order are one -/
theorem k_tw.u {S : xm_S} {A : y_A} {X E B : Nat → Prop} {hb rb nb t w e1 e2 o d d' g g' : Nat} (hM : kM S A X E B hb rb nb t w e1 e2) (ho : o < xm_n S 1 5) (h1 : k_tw S o d g) (h2 : k_tw S o d' g') (hs : xm_i S 5 g 1 = xm_i S 5 g' 1) : d = d' ∧ g = g' := by
  obtain ⟨u, q, a1, a2, a3, a4⟩ := h1
  obtain ⟨u', q', b1, b2, b3, b4⟩ := h2
  obtain rfl : u = u' := Option.some.inj (a1.symm.trans b1)
  obtain rfl : q = q' := Option.some.inj (a2.symm.trans b2)
  obtain ⟨x, x1, x2, -⟩ := (hM.1.2.2.2.2.2.2.2.2.2.2.2.1 o ho).2.1
  obtain rfl : u = x := Option.some.inj (a1.symm.trans x1)
  have j2 := hM.2.2.2.2.1
  have hd : d = d' := by
    rcases Nat.lt_trichotomy d d' with y | y | y
    · exact absurd hs (j2 u q (by omega) a2 d d' g g' y b3 a4 b4)
    · exact y
    · exact absurd hs.symm (j2 u q (by omega) a2 d' d g' g y a3 b4 a4)
  refine ⟨hd, ?_⟩
  rw [hd, b4] at a4
  exact (congrArg Prod.snd a4).symm
/-- one that is joined to L: in N-mode, if no one leads instead of L -/
theorem k_jn {S : xm_S} {A : y_A} {X E B : Nat → Prop} {hb rb nb t w e1 e2 k L : Nat} (hM : kM S A X E B hb rb nb t w e1 e2) (hk : k < (xm_n S 1 6)) (h15 : xm_r S 2 k 15 = some L) (h : kLN S L) : ∃ o g, xm_r S 2 k 1 = some o ∧ xm_r S 2 k 4 = some g ∧ A 31 g = 8 ∧ kNm True S k o ∧ (∀ c, c < (xm_n S 1 6) → xm_r S 2 c 2 ≠ some k) ∧ ¬ A 75 k = 1 ∧ ∃ e, e ≤ 5 ∧ xm_i S 2 k 3 = nI e := by
  have h2 := hM.1.2.2.2.2.2.2.2.1
  have h3 := hM.1.2.2.2.2.2.2.2.2.1
  obtain ⟨o, o1, o2, o3⟩ := (h2 k hk).2.2.2.2.2.2.2.2.2.1
  have j7 := hM.2.2.2.2.2.2.2.2.2.1
  have j11 := hM.2.2.2.2.2.2.2.2.2.2.2.2.2.1
  have j1 := hM.2.2.2.1
  have j6 := hM.2.2.2.2.2.2.2.2.1
  obtain ⟨g, g1, g2⟩ := (j7 k hk).2.2.2.2.1 (Or.inr (by rw [h15]; intro y; cases y))
  have hgn := hM.gb k g hk g1
  obtain ⟨u1, u2, u3, u4, u5⟩ := j11.2.2 k L hk h15
  obtain ⟨e, e1, e2, e3⟩ := (j1 k hk).2.2.2
  refine ⟨o, g, o1, g1, g2, ⟨hk, by rw [u4]; decide, fun _ k' hk' h0' h14' ho' => ?_⟩, fun c hc hcp => ?_, fun z => ?_, e, e1, e2⟩
  · have h78 : A 78 k' = 1 := (h2 k' hk').2.2.2.2.2.2.2.1.symm.trans h14'
    obtain ⟨g', y1, y2⟩ := (j7 k' hk').2.2.2.2.1 (Or.inl h78)
    have hgn' := hM.gb k' g' hk' y1
    obtain ⟨e', x1, x2, x3⟩ := (j1 k' hk').2.2.2
    have := (k_tw.u hM o2 (e3 g o g1 o1) (x3 g' o y1 ho') (((h3 g hgn).2.1.trans g2).trans ((h3 g' hgn').2.1.trans y2).symm)).2
    refine h k' hk' h0' h14' (by rw [y1, ← this, ← g1]; exact u1) ?_
    obtain ⟨o', v, q1, q2, q3⟩ := u2
    exact ⟨o', v, by rw [ho', ← o1]; exact q1, q2, q3⟩
  · obtain ⟨m1, m2, n, n1, n2, n3, n4⟩ := j6.1 k hk
    have hn0 : n = 0 := (nI_eq (a := n) (b := 0) (by omega) (by decide)).mp (n2.symm.trans u5)
    exact m1 (n3.mp hn0) c hc hcp
  · obtain ⟨g', y1, y2⟩ := (j7 k hk).2.1 (Or.inl z)
    rw [← Option.some.inj (g1.symm.trans y1), g2] at y2
    exact absurd y2 (by decide)
/-- the contract -/
def kJN (D : Nat) : Prop := ∀ (S : xm_S) (A : y_A) (X E : Nat → Prop) (hb rb nb t w L : Nat) (rest : List y_J), kM S A X E (fun _ => False) hb rb nb t w 0 0 → L < xm_n S 1 6 → xm_i S 2 L 8 ≠ 0 → kXd S X → kDl S A E → kLN S L → rest.length + 170 ≤ 20000 → xc D 36 [.inr (some (0, 0)), .inr (some (2, L))] S (kPo S A A (((if A 69 L = 3 then (5 : Int32) else 3), nI L, (-1 : Int32), (0 : Int32), (0 : Int32)) :: rest) rest X E hb rb nb t w)
theorem c_ej10 {d : Nat} (IH : ∀ e, e ≤ 5 → kEN True d e) {S : xm_S} {A : y_A} {X E : Nat → Prop} {hb rb nb t w L : Nat} {rest : List y_J} (hM : kM S A X E (fun _ => False) hb rb nb t w 0 0) (hL : L < xm_n S 1 6) (hL0 : xm_i S 2 L 8 ≠ 0) (hX : kXd S X) (hD : kDl S A E) (hLN : kLN S L) (hlen : rest.length + 170 ≤ 20000) :
    ∀ (r i K m : Nat) (Si : xm_S) (Ai : y_A) (af : Int32) (u : Option xm_V), i + r = xm_n S 1 7 → kG S i K → K ≤ (xm_n S 1 6) → m ≤ K → af + 1 = nI m → kM Si Ai X E (fun _ => False) hb rb nb t w 0 0 → kL S Si A Ai → (∀ e, m ≤ e → e < K → ¬ (xm_r Si 2 e 15 = some L ∧ xm_i Si 2 e 8 = 0)) → y_to A (((if A 69 L = 3 then (5 : Int32) else 3), nI L, (-1 : Int32), (0 : Int32), (0 : Int32)) :: rest) Ai (((if A 69 L = 3 then (5 : Int32) else 3), nI L, af, (0 : Int32), (0 : Int32)) :: rest) →
      xw (d + 2) 36 10 [some (.inr (some (0, 0))), some (.inr (some (2, L))), some (.inl (nI (xm_n S 1 7))), some (.inl (nI i)), u] [] Si (kPo S A A (((if A 69 L = 3 then (5 : Int32) else 3), nI L, (-1 : Int32), (0 : Int32), (0 : Int32)) :: rest) rest X E hb rb nb t w) := by
  have hbd := hM.1.2.2.1
  unfold k_bnd at hbd
  have hv := hM.1.2.2.2.2.2.1
  intro r
  induction r with
  | zero =>
    intro i K m Si Ai af u hi hg hK hm haf hMi hLi hno hy
    have cc : nI (xm_n S 1 7) ≤ nI i := nI_le (by omega) (by omega)
    refine cw_endJoined_10 hMi.1.1 ⟨fun _ => ?_, fun z => absurd cc z⟩
    have hbi := hMi.1.2.2.1
    unfold k_bnd at hbi
    have h61 : Ai 61 0 = nI (xm_n Si 1 6) := hMi.1.2.1.2.2.2.2.2.2.1
    have hn6 := hLi.1.2.1
    have h2i := hMi.1.2.2.2.2.2.2.2.1
    have no : ∀ e, m ≤ e → e < xm_n Si 1 6 → ¬ (Ai 74 e = nI L ∧ Ai 69 e = 0) := fun e e1 e2 z => by
      have h74 := (h2i e e2).2.2.2.2.2.2.2.2.2.2.2.2.2.1
      have h15 : xm_r Si 2 e 15 = some L := by
        rcases hz : xm_r Si 2 e 15 with _ | l
        · rw [hz] at h74
          rw [z.1] at h74
          exact absurd (show (0 : Int32) ≤ nI L from nI_pos' (by omega)) (by rw [h74]; decide)
        · rw [hz, z.1] at h74
          have hl := (h2i e e2).2.2.2.2.2.2.2.2.2.2.2.2.2.2.2.2.2.2.2.2.2.2.2.2.2.2.1 l hz
          rw [(nI_eq (a := L) (b := l) (by omega) (by omega)).mp h74]
      have h8 : xm_i Si 2 e 8 = 0 := (h2i e e2).2.2.2.2.1.trans z.2
      by_cases c1 : e < K
      · exact hno e e1 c1 ⟨h15, h8⟩
      · by_cases c2 : e < (xm_n S 1 6)
        · exact hg.fin (by omega) e (by omega) c2 ((hLi.2.2.1 e c2).2.2.2.2.2.2.1 h8)
        · rw [(hLi.2.2.2.1 e (by omega) e2).1] at h15; cases h15
    refine ⟨rfl, hMi.1.1, Ai, hy.tr ?_, hMi, hLi⟩
    have hmn : m ≤ xm_n Si 1 6 := by omega
    by_cases c3 : A 69 L = 3
    · rw [if_pos c3]
      obtain ⟨s1, s2⟩ := k_gn_no (af := af) (js := rest) (L := L) h61 (by omega) (xm_n Si 1 6 - m) m 20000 (by omega) (by omega) no
      refine y_to.s (B := Ai) (ks := rest) ?_ ?_ (y_to.rf _ _)
      · rw [y_ok_5]; unfold rg_gone; rw [haf]; exact s2
      · rw [y_do_5]; unfold rf_gone; rw [haf]; exact s1
    · rw [if_neg c3]
      obtain ⟨s1, s2⟩ := k_fj_no (af := af) (js := rest) (L := L) h61 (by omega) (xm_n Si 1 6 - m) m 20000 (by omega) (by omega) no
      refine y_to.s (B := Ai) (ks := rest) ?_ ?_ (y_to.rf _ _)
      · rw [y_ok_3]; unfold rg_freeJoined; rw [haf]; exact s2
      · rw [y_do_3]; unfold rf_freeJoined; rw [haf]; exact s1
  | succ r ih =>
    intro i K m Si Ai af u hi hg hK hm haf hMi hLi hno hy
    have hbi := hMi.1.2.2.1
    unfold k_bnd at hbi
    have hn6 := hLi.1.2.1
    have hn7 := hLi.1.2.2.1
    have h2i := hMi.1.2.2.2.2.2.2.2.1
    have cc : ¬ nI (xm_n S 1 7) ≤ nI i := nI_ge (by omega) (by omega)
    have cc2 : ¬ nI (xm_n Si 1 7) ≤ nI i := nI_ge (by omega) (by omega)
    obtain ⟨k, hk, hkn⟩ := hv.1 i (by omega)
    have hKk : K ≤ k := hg.2 i k (Nat.le_refl _) (by omega) hk
    have hgap : ∀ e, K ≤ e → e < k → xm_i Si 2 e 8 ≠ 0 := fun e e1 e2 z => hg.gap hv (by omega) hk e e1 e2 hkn ((hLi.2.2.1 e (by omega)).2.2.2.2.2.2.1 z)
    have hs' := hg.s hv (by omega) hk
    have hli : xm_l Si 7 i = (2, k) := by rw [hLi.2.1 i (by omega)]; exact hk
    have hkS : k < xm_n Si 1 6 := by omega
    have hLS : L < xm_n Si 1 6 := by omega
    have skip : ¬ (xm_r Si 2 k 15 = some L ∧ xm_i Si 2 k 8 = 0) → ∀ e, m ≤ e → e < k + 1 → ¬ (xm_r Si 2 e 15 = some L ∧ xm_i Si 2 e 8 = 0) := fun z e e1 e2 => by
      by_cases c1 : e < K
      · exact hno e e1 c1
      · by_cases c2 : e = k
        · rw [c2]; exact z
        · exact fun y => hgap e (by omega) (by omega) y.2
    have LL := (hLi.2.2.1 L hL).2.2.2.2.2.2.2 hL0
    have hL0i : xm_i Si 2 L 8 ≠ 0 := by rw [LL.1]; exact hL0
    have h69L : Ai 69 L = A 69 L := by
      rw [← (h2i L hLS).2.2.2.2.1, LL.1]
      exact (hM.1.2.2.2.2.2.2.2.1 L hL).2.2.2.2.1
    have h61 : Ai 61 0 = nI (xm_n Si 1 6) := hMi.1.2.1.2.2.2.2.2.2.1
    refine cw_endJoined_10 hMi.1.1 ⟨fun z => absurd z cc, fun _ => ⟨fun z => absurd z cc2, fun _ => ⟨y_in_nI (by omega) (by omega), k, by rw [y_ix_nI (by omega)]; exact hli, fun t6 e6 => ⟨fun h15 => ⟨fun h8 => ?_, fun h8 => ?_⟩, fun h15 => ?_⟩⟩⟩⟩
    · -- joined, and under way
      have h15' : xm_r Si 2 k 15 = some L := e6.trans h15
      obtain ⟨o, g, q1, q2, q3, q4, q5, q6, e, q7, q8⟩ := k_jn hMi hkS h15' (hLN.L hM.1 hLi hL)
      have h74 : Ai 74 k = nI L := by
        have := (h2i k hkS).2.2.2.2.2.2.2.2.2.2.2.2.2.1
        rw [h15'] at this
        exact this
      have h69 : Ai 69 k = 0 := (h2i k hkS).2.2.2.2.1.symm.trans h8
      have no : ∀ e, m ≤ e → e < k → ¬ (Ai 74 e = nI L ∧ Ai 69 e = 0) := fun e e1 e2 z => by
        have he2 : e < xm_n Si 1 6 := by omega
        have h74 := (h2i e he2).2.2.2.2.2.2.2.2.2.2.2.2.2.1
        have h15 : xm_r Si 2 e 15 = some L := by
          rcases hz : xm_r Si 2 e 15 with _ | l
          · rw [hz] at h74
            rw [z.1] at h74
            exact absurd (show (0 : Int32) ≤ nI L from nI_pos' (by omega)) (by rw [h74]; decide)
          · rw [hz, z.1] at h74
            have hl := (h2i e he2).2.2.2.2.2.2.2.2.2.2.2.2.2.2.2.2.2.2.2.2.2.2.2.2.2.2.1 l hz
            rw [(nI_eq (a := L) (b := l) (by omega) (by omega)).mp h74]
        have h8 : xm_i Si 2 e 8 = 0 := (h2i e he2).2.2.2.2.1.trans z.2
        by_cases c1 : e < K
        · exact hno e e1 c1 ⟨h15, h8⟩
        · exact hgap e (by omega) e2 h8
      have hns : ∀ g', xm_r Si 2 k 4 = some g' → Ai 31 g' ≠ 0 := fun g' hg' => by rw [← Option.some.inj (q2.symm.trans hg'), q3]; decide
      have nx : ∀ (S2 : xm_S) (A2 : y_A), kM S2 A2 X E (fun _ => False) hb rb nb t w 0 0 → kL Si S2 Ai A2 → y_to Ai (((if A 69 L = 3 then (5 : Int32) else 3), nI L, af, (0 : Int32), (0 : Int32)) :: rest) A2 (((if A 69 L = 3 then (5 : Int32) else 3), nI L, nI k, (0 : Int32), (0 : Int32)) :: rest) → xw (d + 2) 36 10 [some (.inr (some (0, 0))), some (.inr (some (2, L))), some (.inl (nI (xm_n S 1 7))), some (.inl (nI i + 1)), some (.inr (some (2, k)))] [] S2 (kPo S A A (((if A 69 L = 3 then (5 : Int32) else 3), nI L, (-1 : Int32), (0 : Int32), (0 : Int32)) :: rest) rest X E hb rb nb t w) := fun S2 A2 x1 x2 x3 => by
        rw [nI_1]
        exact ih (i + 1) (k + 1) (k + 1) S2 A2 (nI k) _ (by omega) hs' (by omega) (Nat.le_refl _) (nI_1 k) x1 (hLi.tr x2) (fun e e1 e2 => absurd e2 (by omega)) (hy.tr x3)
      have hXi := hX.L hLi
      have hDi := hD.L hLi hM.gb
      refine ⟨fun h3 t11 e11 => ?_, fun h3 => ⟨fun h1 => ?_, fun h1 t21 e21 => ?_⟩⟩
      · -- it was taken back
        have c3 : A 69 L = 3 := by rw [← h69L, ← (h2i L hLS).2.2.2.2.1]; exact h3
        rw [q2] at e11
        rw [← e11]
        obtain ⟨a1, a2, a3⟩ := c_addFailure (d := d) (kd := 13) (gd := some g) (st := none) hMi hkS h8 ⟨by decide, by decide⟩ (fun g' z => by rw [← Option.some.inj z]; exact hMi.gb k g hkS q2) (fun s z => by cases z)
        refine xc.mono a1 ?_
        rintro r S13 ⟨w1, w2, w3⟩
        refine ⟨some (xm_n Si 1 8), w1, w2.1.1, ?_⟩
        have hL1 : kL Si S13 Ai (kAf Ai (xm_n Si 1 8) 13 (kn (some g)) (kn none)) := w3.L hMi (Or.inl rfl) (fun x k hx => kAf.o (by omega) (by omega))
        have o2 := (hMi.2.2.2.2.2.2.1).2.2.2.2.1
        have hc2 : ∀ k j, k < xm_n Si 1 6 → xm_i S13 2 k j = xm_i Si 2 k j ∧ xm_r S13 2 k j = xm_r Si 2 k j := fun k j hk => w3.1 2 k j (by decide) (by omega)
        have n8 : xm_n S13 1 8 = xm_n Si 1 8 + 1 := w3.2.2.2
        have n6 : xm_n S13 1 6 = xm_n Si 1 6 := w3.2.1 6 (by decide)
        have hM3 := w2.exm (p := k) (by omega) (fun c hc hcp => absurd ((hc2 c 2 (by omega)).2.symm.trans hcp) (q5 c (by omega))) (fun g' hg' => by
          rw [kAf.o (by omega) (by decide)]
          exact hns g' ((hc2 k 4 hkS).2.symm.trans hg'))
        obtain ⟨-, i2⟩ := IH e q7 S13 _ X E hb rb nb t w 0 1 k o (((if A 69 L = 3 then (5 : Int32) else 3), nI L, nI k, (0 : Int32), (0 : Int32)) :: rest) hM3 (by omega) ((hc2 k 8 hkS).1.trans h8) (by rw [kAf.o (by omega) (by decide)]; exact q6) (hXi.L hL1) (hDi.L hL1 hMi.gb) ((hc2 k 3 hkS).1.trans q8) ((hc2 k 1 hkS).2.trans q1) (q4.L hL1) (by rw [List.length_cons, kC.t]; omega)
        refine xc.up (xc.mono (i2 (xm_n Si 1 8) 0 (by omega) (Or.inl rfl) rfl (by omega)) ?_) (show d ≤ d + 1 by omega)
        rintro r S16 ⟨v1, v2, A', v3, v4, v5⟩
        refine ⟨v1, v2, nx S16 A' v4 (hL1.tr v5) ?_⟩
        rw [if_pos c3] at v3 ⊢
        obtain ⟨s1, s2⟩ := k_gn_hit (af := af) (js := rest) (L := L) h61 (by omega) hkS (by omega) h74 h69 (by omega) (k - m) m 20000 (by omega) (by omega) no
        have h65 : Ai 65 k = nI g := by
          have := (h2i k hkS).2.2.2.2.2.2.2.2.2.2.2.1
          rw [q2] at this
          exact this
        have ixk : y_ix (nI k) = k := y_ix_nI (by omega)
        refine y_to.s (B := Ai) (ks := ((2 : Int32), nI k, (13 : Int32), (0 : Int32), (0 : Int32)) :: ((5 : Int32), nI L, nI k, (0 : Int32), (0 : Int32)) :: rest) ?_ ?_ (y_to.s (B := kAf Ai (xm_n Si 1 8) 13 (kn (some g)) (kn none)) (ks := ((1 : Int32), nI k, (2 : Int32), nI (xm_n Si 1 8), (0 : Int32)) :: ((5 : Int32), nI L, nI k, (0 : Int32), (0 : Int32)) :: rest) ?_ ?_ v3)
        · rw [y_ok_5]; unfold rg_gone; rw [haf]; exact s2
        · rw [y_do_5]; unfold rf_gone; rw [haf]; exact s1
        · rw [y_ok_2]
          unfold rg_failsNow
          rw [ixk, h65]
          exact ⟨y_in_nI (by omega) (by decide), fun _ => ⟨a3, by rw [List.length_cons]; omega, trivial⟩, fun z => absurd h69 z⟩
        · rw [y_do_2]
          have w8 := hMi.1.2.1.2.2.2.2.2.2.2.1
          unfold rf_failsNow kAf
          rw [ixk, if_pos h69, h65, w8, y_ix_nI (show xm_n Si 1 8 < 2 ^ 31 by omega), nI_1, nI_pred]
          rfl
      · -- GOOD
        have c3 : ¬ A 69 L = 3 := fun z => h3 (by rw [(h2i L hLS).2.2.2.2.1, h69L]; exact z)
        have c1 : Ai 69 L = 1 := (h2i L hLS).2.2.2.2.1.symm.trans h1
        have h9 := (h2i L hLS).2.2.2.2.2.2.2.2.2.2.2.2.2.2.1
        rw [c1, if_pos rfl] at h9
        have h10 := (h2i L hLS).2.2.2.2.2.1
        have h71 := (h2i L hLS).2.2.2.2.2.2.2.2.2.2.2.2.2.2.2.2.1
        have hM3 := hMi.exm (p := k) hkS (fun c hc hcp => absurd hcp (q5 c hc)) hns
        obtain ⟨i1, -⟩ := IH e q7 Si Ai X E hb rb nb t w 0 0 k o (((if A 69 L = 3 then (5 : Int32) else 3), nI L, nI k, (0 : Int32), (0 : Int32)) :: rest) hM3 hkS h8 q6 hXi hDi q8 q1 q4 (by rw [List.length_cons, kC.t]; omega)
        rw [h9, h10]
        refine xc.mono (i1 (Ai 70 L) (Ai 71 L) h71 (by omega) rfl) ?_
        rintro r S16 ⟨v1, v2, A', v3, v4, v5⟩
        refine ⟨v1, v2, nx S16 A' v4 v5 ?_⟩
        rw [if_neg c3] at v3 ⊢
        obtain ⟨s1, s2⟩ := k_fj_hit (af := af) (js := rest) (L := L) h61 (by omega) hkS (by omega) h74 h69 (by omega) (k - m) m 20000 (by omega) (by omega) no
        have eb : (if Ai 71 L = 0 then (0 : Int32) else 1) = Ai 71 L := by
          rcases h71 with y | y
          · rw [y, if_pos rfl]
          · rw [y, if_neg (by decide)]
        rw [c1, eb] at s1
        refine y_to.s (B := Ai) (ks := ((1 : Int32), nI k, (1 : Int32), Ai 70 L, Ai 71 L) :: ((3 : Int32), nI L, nI k, (0 : Int32), (0 : Int32)) :: rest) ?_ ?_ v3
        · rw [y_ok_3]; unfold rg_freeJoined; rw [haf]; exact s2
        · rw [y_do_3]; unfold rf_freeJoined; rw [haf]; exact s1
      · -- FAILED
        have c3 : ¬ A 69 L = 3 := fun z => h3 (by rw [(h2i L hLS).2.2.2.2.1, h69L]; exact z)
        have c2 : Ai 69 L = 2 := by
          rcases (h2i L hLS).2.2.2.2.2.2.2.2.2.2.2.2.2.2.2.2.2.2.2.2.2.2.1 with y | y | y | y
          · exact absurd ((h2i L hLS).2.2.2.2.1.trans y) hL0i
          · exact absurd ((h2i L hLS).2.2.2.2.1.trans y) h1
          · exact y
          · exact absurd (h69L.symm.trans y) c3
        obtain ⟨f, hf⟩ := ((hMi.2.2.2.2.2.2.2.2.2.2.2.2.2.2.1).2.2.choose_spec.2.2.2 L hLS).2.1 ((h2i L hLS).2.2.2.2.1.trans c2)
        have h11 := (h2i L hLS).2.2.2.2.2.2.2.2.2.2.2.2.2.2.2.1
        rw [hf, c2, if_pos rfl] at h11
        have hfn := (h2i L hLS).2.2.2.2.2.2.2.2.2.2.2.2.2.2.2.2.2.2.2.2.2.2.2.2.2.2.2 f hf
        rw [hf] at e21
        rw [← e21]
        have hM3 := hMi.exm (p := k) hkS (fun c hc hcp => absurd hcp (q5 c hc)) hns
        obtain ⟨-, i2⟩ := IH e q7 Si Ai X E hb rb nb t w 0 0 k o (((if A 69 L = 3 then (5 : Int32) else 3), nI L, nI k, (0 : Int32), (0 : Int32)) :: rest) hM3 hkS h8 q6 hXi hDi q8 q1 q4 (by rw [List.length_cons, kC.t]; omega)
        have hbb : (if Ai 71 L = 0 then (0 : Int32) else 1) = 0 ∨ (if Ai 71 L = 0 then (0 : Int32) else 1) = 1 := by
          by_cases y : Ai 71 L = 0
          · exact Or.inl (if_pos y)
          · exact Or.inr (if_neg y)
        refine xc.mono (i2 f _ hfn hbb rfl (by omega)) ?_
        rintro r S16 ⟨v1, v2, A', v3, v4, v5⟩
        refine ⟨v1, v2, nx S16 A' v4 v5 ?_⟩
        rw [if_neg c3] at v3 ⊢
        obtain ⟨s1, s2⟩ := k_fj_hit (af := af) (js := rest) (L := L) h61 (by omega) hkS (by omega) h74 h69 (by omega) (k - m) m 20000 (by omega) (by omega) no
        rw [c2, ← h11] at s1
        refine y_to.s (B := Ai) (ks := ((1 : Int32), nI k, (2 : Int32), nI f, (if Ai 71 L = 0 then (0 : Int32) else 1)) :: ((3 : Int32), nI L, nI k, (0 : Int32), (0 : Int32)) :: rest) ?_ ?_ v3
        · rw [y_ok_3]; unfold rg_freeJoined; rw [haf]; exact s2
        · rw [y_do_3]; unfold rf_freeJoined; rw [haf]; exact s1
    · rw [nI_1]
      exact ih (i + 1) (k + 1) m Si Ai af _ (by omega) hs' (by omega) (by omega) haf hMi hLi (skip (fun z => h8 z.2)) hy
    · rw [nI_1]
      exact ih (i + 1) (k + 1) m Si Ai af _ (by omega) hs' (by omega) (by omega) haf hMi hLi (skip (fun z => h15 (e6.symm.trans z.1))) hy
theorem kJN.of {d : Nat} (IH : ∀ e, e ≤ 5 → kEN True d e) : kJN (d + 2) := by
  intro S A X E hb rb nb t w L rest hM hL hL0 hX hD hLN hlen
  refine cw_endJoined hM.1.1 ?_
  exact c_ej10 IH hM hL hL0 hX hD hLN hlen (xm_n S 1 7) 0 0 0 S A (-1) _ (by omega) (kG.z hM.1.2.2.2.2.2.1) (by omega) (by omega) (by decide) hM hM.later (fun e e1 e2 => absurd e2 (by omega)) (y_to.rf _ _)
end
