/-! ===== BEGIN: the contract (printed by wip/whole/gen9p.py) ===== -/
section
/-- what stays when calls begin: of those below N; the queues of gs may grow -/
def kB (N : Nat) (gs : List Nat) (S S' : xm_S) (A A' : y_A) : Prop :=
  ((∀ r, r < 6 ∨ r = 10 ∨ r = 11 → xm_n S' 1 r = xm_n S 1 r) ∧ xm_n S 1 6 ≤ xm_n S' 1 6 ∧ xm_n S 1 7 ≤ xm_n S' 1 7) ∧
  (∀ i, i < xm_n S 1 7 → xm_l S' 7 i = xm_l S 7 i) ∧ (∀ k, k < N → kLc S S' k) ∧
  (∀ g, g < xm_n S 1 3 → A' 31 g = A 31 g ∧ xm_i S' 5 g 1 = xm_i S 5 g 1 ∧ ∀ q, xm_r S 5 g 12 = some q → xm_r S' 5 g 12 = some q ∧ (g ∉ gs → xm_n S' 1 q ≤ xm_n S 1 q)) ∧
  (A' 0 0 = A 0 0 ∧ xm_i S' 0 0 13 = xm_i S 0 0 13) ∧ xm_i S' 0 0 14 + A 60 0 = xm_i S 0 0 14 + A' 60 0
theorem kL.B {S S' : xm_S} {A A' : y_A} (h : kL S S' A A') {N : Nat} (hN : N ≤ xm_n S 1 6) (gs : List Nat) : kB N gs S S' A A' := by
  obtain ⟨⟨a1, a2, a3, a4⟩, a5, a6, a7, a8, a9, a10, a11, -⟩ := h
  exact ⟨⟨a1, a2, a3⟩, a5, fun k hk => a6 k (by omega), fun g hg => ⟨(a8 g hg).1, (a8 g hg).2.1, fun q hq => ⟨((a8 g hg).2.2 q hq).1, fun _ => ((a8 g hg).2.2 q hq).2⟩⟩, a10, a11⟩
theorem kB.tr {N : Nat} {gs : List Nat} {S S' S'' : xm_S} {A A' A'' : y_A} (h : kB N gs S S' A A') (g : kB N gs S' S'' A' A'') : kB N gs S S'' A A'' := by
  obtain ⟨⟨a1, a2, a3⟩, a5, a6, a8, ⟨a10, a10'⟩, a11⟩ := h
  obtain ⟨⟨b1, b2, b3⟩, b5, b6, b8, ⟨b10, b10'⟩, b11⟩ := g
  refine ⟨⟨fun r hr => (b1 r hr).trans (a1 r hr), by omega, by omega⟩, fun i hi => (b5 i (by omega)).trans (a5 i hi), fun k hk => (a6 k hk).tr (b6 k hk), fun g hg => ?_, ⟨b10.trans a10, b10'.trans a10'⟩, ?_⟩
  · have hg' : g < xm_n S' 1 3 := by rw [a1 3 (by decide)]; exact hg
    obtain ⟨c1, c2, c3⟩ := a8 g hg
    obtain ⟨d1, d2, d3⟩ := b8 g hg'
    refine ⟨d1.trans c1, d2.trans c2, fun q hq => ?_⟩
    obtain ⟨c4, c5⟩ := c3 q hq
    obtain ⟨d4, d5⟩ := d3 q c4
    exact ⟨d4, fun z => Nat.le_trans (d5 z) (c5 z)⟩
  · have e : xm_i S'' 0 0 14 + A 60 0 + A' 60 0 = xm_i S 0 0 14 + A'' 60 0 + A' 60 0 := by
      rw [Int32.add_assoc, Int32.add_comm (A 60 0), ← Int32.add_assoc, b11, Int32.add_assoc, Int32.add_comm (A'' 60 0), ← Int32.add_assoc, a11, Int32.add_assoc, Int32.add_comm (A' 60 0), ← Int32.add_assoc]
    exact (Int32.add_left_inj _).mp e
theorem kB.w {N N' : Nat} {gs gs' : List Nat} {S S' : xm_S} {A A' : y_A} (h : kB N gs S S' A A') (hN : N' ≤ N) (hg : ∀ g, g ∈ gs → g ∈ gs') : kB N' gs' S S' A A' := by
  obtain ⟨a1, a5, a6, a8, a10, a11⟩ := h
  exact ⟨a1, a5, fun k hk => a6 k (by omega), fun g hg' => ⟨(a8 g hg').1, (a8 g hg').2.1, fun q hq => ⟨((a8 g hg').2.2 q hq).1, fun z => ((a8 g hg').2.2 q hq).2 (fun y => z (hg g y))⟩⟩, a10, a11⟩
theorem kF.B {c g : Nat} {I R : List (Nat × Nat)} {Z : List Nat} {S S' : xm_S} {A A' : y_A} (h : kF c g I R Z S S' A A') {N : Nat} {gs : List Nat} (hN : N ≤ c) (hI : ∀ x ∈ [(5, 1), (0, 13), (0, 14)], x ∉ I) (hR : ∀ x ∈ [(5, 12)], x ∉ R) (hZ : ∀ x ∈ [0, 31, 60], x ∉ Z) : kB N gs S S' A A' := by
  obtain ⟨a1, a2, a3, a4, a5, a6, a7, a8, a9⟩ := h
  refine ⟨⟨fun r _ => by rw [a1], by rw [a1]; exact Nat.le_refl _, by rw [a1]; exact Nat.le_refl _⟩, fun i _ => by rw [a2], fun k hk => ?_, fun g' _ => ⟨a5 31 (hZ 31 (by decide)) g', a3 5 1 (hI (5, 1) (by decide)) g', fun q hq => ⟨by rw [a4 5 12 (hR (5, 12) (by decide))]; exact hq, fun _ => by rw [a1]; exact Nat.le_refl _⟩⟩, ⟨a5 0 (hZ 0 (by decide)) 0, a3 0 13 (hI (0, 13) (by decide)) 0⟩, ?_⟩
  · have hkc : k ≠ c := by omega
    exact ⟨(a6 k 1 hkc).2, (a6 k 2 hkc).2, (a6 k 4 hkc).2, (a6 k 3 hkc).1, (a6 k 14 hkc).1, (a6 k 15 hkc).2, fun z => by rw [← (a6 k 8 hkc).1]; exact z, fun _ => ⟨(a6 k 8 hkc).1, (a6 k 9 hkc).1, (a6 k 10 hkc).1, (a6 k 11 hkc).2, (a6 k 7 hkc).1, (a6 k 19 hkc).1⟩⟩
  · rw [a3 0 14 (hI (0, 14) (by decide)) 0, a5 60 (hZ 60 (by decide)) 0]
/-- a new call n at its guard g; gs: the guards within -/
def kIn (S : xm_S) (A : y_A) (n o dp g tw q : Nat) (gs : List Nat) : Prop := n + 1 = xm_n S 1 6 ∧ xm_i S 2 n 8 = 0 ∧ xm_r S 2 n 1 = some o ∧ xm_i S 2 n 3 = nI dp ∧ xm_r S 2 n 4 = some g ∧ xm_i S 2 n 16 = 0 ∧ ¬ A 75 n = 1 ∧ ¬ A 76 n = 1 ∧ (o < xm_n S 1 5 ∧ xm_r S 6 o 1 = some tw ∧ xm_r S 10 tw 0 = some q ∧ xm_n S 1 q = dp + 1 + gs.length ∧ (∀ i (h : i < gs.length), xm_l S q (dp + 1 + i) = (5, gs[i])) ∧ dp ≤ 4)
theorem kIn.F {S S' : xm_S} {A A' : y_A} {n o dp g tw q g' : Nat} {gs : List Nat} {I R : List (Nat × Nat)} {Z : List Nat} (h : kIn S A n o dp g tw q gs) (hF : kF n g' I R Z S S' A A') (hI : ∀ x ∈ [(2, 8), (2, 3), (2, 16)], x ∉ I) (hR : ∀ x ∈ [(2, 1), (2, 4), (6, 1), (10, 0)], x ∉ R) (hZ : ∀ x ∈ [75, 76], x ∉ Z) : kIn S' A' n o dp g tw q gs := by
  obtain ⟨a1, a2, a3, a4, a5, -⟩ := hF
  unfold kIn
  rw [a1, a2, a3 2 8 (hI _ (by decide)), a3 2 3 (hI _ (by decide)), a3 2 16 (hI _ (by decide)), a4 2 1 (hR _ (by decide)), a4 2 4 (hR _ (by decide)), a4 6 1 (hR _ (by decide)), a4 10 0 (hR _ (by decide)), a5 75 (hZ _ (by decide)), a5 76 (hZ _ (by decide))]
  exact h
/-- behind it -/
def kBp (S : xm_S) (A A0 : y_A) (js rest : List y_J) (hb rb nb t w N : Nat) (gs : List Nat) (r : Option xm_V) (S' : xm_S) : Prop := r = none ∧ xk_C S' ∧ ∃ A', y_to A0 js A' rest ∧ kM S' A' (fun _ => False) (fun _ => False) (fun _ => False) hb rb nb t w 0 0 ∧ kB N gs S S' A A'
/-- the contract: gs the guards that are left -/
def kBG (D : Nat) (gs : List Nat) : Prop := ∀ (S : xm_S) (A : y_A) (B : Nat → Prop) (hb rb nb t w w' o dp tw q : Nat) (par : Option Nat) (rest : List y_J), kM S A (fun _ => False) (fun _ => False) B hb rb nb t w 0 0 → (∀ k, B k → par = some k) → o < xm_n S 1 5 → xm_r S 6 o 1 = some tw → xm_r S 10 tw 0 = some q → xm_n S 1 q = dp + gs.length → (∀ i (h : i < gs.length), xm_l S q (dp + i) = (5, gs[i])) →
  (∀ p, par = some p → w' = w ∧ kNp S A (fun _ => False) hb o dp p ∧ ∀ g m, xm_r S 2 p 4 = some g → xm_i S 2 p 16 = nI m → m ≤ 5 → m < k_mul S g) → (par = none → w = w' + 1 ∧ o + w = xm_n S 1 5 ∧ dp = 0 ∧ xm_r S 6 o 6 = none ∧ A 58 o = 0 ∧ A 56 o = A 0 0 ∧ A 57 o = -1) → rest.length + 400 ≤ 20000 →
  xc D 16 [.inr (some (0, 0)), .inr (some (6, o)), .inr (xo 2 par)] S (kBp S A A (((0 : Int32), nI o, nI dp, kn par, (-1 : Int32)) :: rest) rest hb rb nb t w' (xm_n S 1 6) gs)
theorem k_mul1 {S : xm_S} {A : y_A} {X E B : Nat → Prop} {hb rb nb t w e1 e2 g : Nat} (hM : kM S A X E B hb rb nb t w e1 e2) (hg : g < xm_n S 1 3) : 0 < k_mul S g := by
  have h3 := hM.1.2.2.2.2.2.2.2.2.1 g hg
  unfold k_mul
  by_cases c4 : xm_i S 5 g 1 = 4
  · rw [if_pos c4]
    obtain ⟨r1, r2, -⟩ := (hM.2.2.1 g hg).2.2.2.2.2.2.2.2.1 (h3.2.1.symm.trans c4)
    obtain ⟨z, z1, z2, z3⟩ := k_rg (x := A 32 g) (a := 2) (b := 6) (by decide) r1 r2
    rw [h3.2.2.1, z1, y_ix_nI (by omega)]
    omega
  · rw [if_neg c4]
    by_cases c5 : xm_i S 5 g 1 = 5
    · rw [if_pos c5]; decide
    · rw [if_neg c5]; decide
theorem c_goIn {D : Nat} {gs : List Nat} (IH : kBG D gs) {S : xm_S} {A : y_A} {P : Prop} {hb rb nb t w n o dp g tw q : Nat} {rest : List y_J} (hM : kM S A (fun _ => False) (fun _ => False) (fun k => k = n ∧ P) hb rb nb t w 0 0) (h : kIn S A n o dp g tw q gs) (h8 : A 31 g = 8 → xm_i S 2 n 14 = 1) (hlen : rest.length + 400 ≤ 20000) :
    xc D 16 [.inr (some (0, 0)), .inr (some (6, o)), .inr (some (2, n))] S (kBp S A A (((0 : Int32), A 62 n, A 63 n + 1, nI n, (-1 : Int32)) :: rest) rest hb rb nb t w (xm_n S 1 6) gs) := by
  obtain ⟨i1, i2, i3, i4, i5, i6, i7, i8, i9, i10, i11, i12, i13, i14⟩ := h
  have hn : n < xm_n S 1 6 := by omega
  have hbb := hM.1.2.2.1
  unfold k_bnd at hbb
  have hc := hM.1.2.2.2.2.2.2.2.1 n hn
  have h62 : A 62 n = nI o := by
    obtain ⟨o', x1, x2, x3⟩ := hc.2.2.2.2.2.2.2.2.2.1
    rw [x3, Option.some.inj (x1.symm.trans i3)]
  have h63 : A 63 n + 1 = nI (dp + 1) := by rw [← hc.2.1, i4, nI_1]
  have h17 : xm_r S 2 n 17 = none := by
    obtain ⟨m1, m2, m, n1, n2, n3, n4⟩ := (hM.2.2.2.2.2.2.2.2.1).1 n hn
    exact n3.mp ((nI_eq (a := m) (b := 0) (by omega) (by decide)).mp (n2.symm.trans i6))
  rw [h62, h63]
  refine IH S A (fun k => k = n ∧ P) hb rb nb t w w o (dp + 1) tw q (some n) rest hM (fun k hk => by rw [hk.1]) i9 i10 i11 i12 i13 (fun p hp => ?_) (fun z => by cases z) hlen
  rw [← Option.some.inj hp]
  refine ⟨rfl, ⟨hn, i2, i3, by rw [i4, nI_1], id, i7, g, 0, i5, i6, by omega, fun _ _ _ => rfl, fun _ c hc => ?_, fun _ => i8, fun _ => Or.inl rfl, fun _ => by omega, h8⟩, fun g' m hg' hm hm5 => ?_⟩
  · rw [h17] at hc; cases hc
  · rw [← Option.some.inj (i5.symm.trans hg')]
    have : m = 0 := (nI_eq (a := m) (b := 0) (by omega) (by decide)).mp (hm.symm.trans i6)
    rw [this]
    exact k_mul1 hM (hM.gb n g hn i5)
/-- it fails at its guard -/
theorem c_failN {d : Nat} (hd : 90 ≤ d + 1) {S : xm_S} {A : y_A} {hb rb nb t w n o dp g tw q : Nat} {gs gs' : List Nat} {kd : Int32} {rest : List y_J} (hM : kM S A (fun _ => False) (fun k => False ∨ k = n) (fun _ => False) hb rb nb t w 0 0) (h : kIn S A n o dp g tw q gs) (h14 : xm_i S 2 n 14 = 0) (hk : 0 ≤ kd ∧ kd ≤ 15) (hlen : rest.length + 400 ≤ 20000) :
    xc (d + 1) 21 [.inr (some (0, 0)), .inl kd, .inr (some (5, g)), .inr none] S (fun r S2 => ∃ t4 : Option Nat, r = some (.inr (xo 4 t4)) ∧ xk_C S2 ∧ (xc (d + 1) 22 [.inr (some (0, 0)), .inr (some (2, n)), .inr (xo 4 t4)] S2 (fun r S5 => r = none ∧ xk_C S5 ∧ kBp S A A (((2 : Int32), nI n, kd, (0 : Int32), (0 : Int32)) :: rest) rest hb rb nb t w n gs' none S5))) := by
  obtain ⟨i1, i2, i3, i4, i5, i6, i7, i8, i9, i10, i11, i12, i13, i14⟩ := h
  have hn : n < xm_n S 1 6 := by omega
  have hbb := hM.1.2.2.1
  unfold k_bnd at hbb
  have hgn := hM.gb n g hn i5
  obtain ⟨a1, a2, a3⟩ := c_addFailure (d := d) (kd := kd) (gd := some g) (st := none) hM hn i2 hk (fun g' z => by rw [← Option.some.inj z]; exact hgn) (fun s z => by cases z)
  refine xc.mono a1 ?_
  rintro r S13 ⟨w1, w2, w3⟩
  refine ⟨some (xm_n S 1 8), w1, w2.1.1, ?_⟩
  have hL1 : kL S S13 A (kAf A (xm_n S 1 8) kd (kn (some g)) (kn none)) := w3.L hM (Or.inl rfl) (fun x k hx => kAf.o (by omega) (by omega))
  have o2 := (hM.2.2.2.2.2.2.1).2.2.2.2.1
  have hc2 : ∀ k j, k < xm_n S 1 6 → xm_i S13 2 k j = xm_i S 2 k j ∧ xm_r S13 2 k j = xm_r S 2 k j := fun k j hk => w3.1 2 k j (by decide) (by omega)
  have n8 : xm_n S13 1 8 = xm_n S 1 8 + 1 := w3.2.2.2
  have n6 : xm_n S13 1 6 = xm_n S 1 6 := w3.2.1 6 (by decide)
  obtain ⟨-, i2'⟩ := kEN.all dp (by omega) S13 _ (fun _ => False) (fun _ => False) hb rb nb t w 0 1 n o rest w2 (by omega) ((hc2 n 8 hn).1.trans i2) (by rw [kAf.o (by omega) (by decide)]; exact i7) (fun k z => z.elim) (fun k z => z.elim) ((hc2 n 3 hn).1.trans i4) ((hc2 n 1 hn).2.trans i3) ⟨by omega, by rw [(hc2 n 14 hn).1, h14]; decide, fun z => z.elim⟩ (by rw [kC.f]; omega)
  refine xc.up (xc.mono (i2' (xm_n S 1 8) 0 (by omega) (Or.inl rfl) rfl (by omega)) ?_) hd
  rintro r S16 ⟨v1, v2, A', v3, v4, v5⟩
  refine ⟨v1, v2, rfl, v2, A', ?_, v4, (hL1.tr v5).B (by omega) gs'⟩
  have hcn := hM.1.2.2.2.2.2.2.2.1 n hn
  have h65 : A 65 n = nI g := by
    have := hcn.2.2.2.2.2.2.2.2.2.2.2.1
    rw [i5] at this
    exact this
  have h69 : A 69 n = 0 := hcn.2.2.2.2.1.symm.trans i2
  have ixk : y_ix (nI n) = n := y_ix_nI (by omega)
  refine y_to.s (B := kAf A (xm_n S 1 8) kd (kn (some g)) (kn none)) (ks := ((1 : Int32), nI n, (2 : Int32), nI (xm_n S 1 8), (0 : Int32)) :: rest) ?_ ?_ v3
  · rw [y_ok_2]
    unfold rg_failsNow
    rw [ixk, h65]
    exact ⟨y_in_nI (by omega) (by decide), fun _ => ⟨a3, by omega, trivial⟩, fun z => absurd h69 z⟩
  · rw [y_do_2]
    have w8 := hM.1.2.1.2.2.2.2.2.2.2.1
    unfold rf_failsNow kAf
    rw [ixk, if_pos h69, h65, w8, y_ix_nI (show xm_n S 1 8 < 2 ^ 31 by omega), nI_1, nI_pred]
    rfl
end
