/-! ===== CANCEL (printed by wip/whole/gen9w.py) ===== -/
section
/-- what lies within the first call of an order: all of it that is under way -/
theorem kT.all {S : xm_S} {A : y_A} {X E B : Nat → Prop} {hb rb nb t w e1 e2 c o : Nat} (hM : kM S A X E B hb rb nb t w e1 e2) (hco : xm_r S 2 c 1 = some o) (hfo : xm_r S 6 o 6 = some c) : ∀ k, k < xm_n S 1 6 → (kT S c k ↔ xm_i S 2 k 8 = 0 ∧ xm_r S 2 k 1 = some o) := by
  have h2 := hM.1.2.2.2.2.2.2.2.1
  have hpk : ∀ k p, k < xm_n S 1 6 → xm_r S 2 k 2 = some p → p < k := fun k p hk hp => (h2 k hk).2.2.2.2.2.2.2.2.2.2.2.2.2.2.2.2.2.2.2.2.2.2.2.2.2.1 p hp
  intro k
  induction k using Nat.strongRecOn with
  | ind k ih =>
    intro hk
    refine ⟨fun z => ⟨((kT.i hpk hk).mp z).1, (kT.ord hM k z).trans hco⟩, fun z => (kT.i hpk hk).mpr ⟨z.1, ?_⟩⟩
    obtain ⟨p1, -, p3, -⟩ := hM.2.2.2.1 k hk
    rcases hp : xm_r S 2 k 2 with _ | p
    · left
      exact (Option.some.inj (hfo.symm.trans ((p1 hp).2 o z.2))).symm
    · right
      obtain ⟨q1, q2, q3, q4⟩ := p3 p hp
      have hpl := hpk k p hk hp
      exact ⟨p, rfl, (ih p hpl (by omega)).mpr ⟨q4 z.1, q1.trans z.2⟩⟩
theorem k_tbo {S : xm_S} {A A0 : y_A} {c o h3 : Nat} {l3 : Int32} (hE : kE S A) (hA0 : ∀ x k, x ≠ 57 → x ≠ 58 → A0 x k = A x k) (hT : ∀ k, k < xm_n S 1 6 → (kT S c k ↔ xm_i S 2 k 8 = 0 ∧ xm_r S 2 k 1 = some o)) (hpo : ∀ k p, k < xm_n S 1 6 → xm_r S 2 k 2 = some p → xm_r S 2 p 1 = xm_r S 2 k 1) (ho : o < 60) (h3b : h3 + kTn S c (xm_n S 1 6) ≤ 4400) :
    ∀ (r k n : Nat) (A' : y_A), k + r = xm_n S 1 6 → r < n → kTa S A0 A' c k h3 → (∀ e, e < k → xm_r S 2 e 1 ≠ some o → A' 80 e = 0) → rg_takeBack_8 n (-1) (nI o) l3 (nI k) A' ∧ kTa S A0 (rf_takeBack_8 n (-1) (nI o) l3 (nI k) A').2 c (xm_n S 1 6) h3 := by
  obtain ⟨hC, hcnt, hb, hl, ht, hv, h1, h2, -⟩ := hE
  have hbb := hb
  unfold k_bnd at hbb
  have hN := hcnt.2.2.2.2.2.2.1
  have hpk : ∀ k p, k < xm_n S 1 6 → xm_r S 2 k 2 = some p → p < k := fun k p hk hp => (h2 k hk).2.2.2.2.2.2.2.2.2.2.2.2.2.2.2.2.2.2.2.2.2.2.2.2.2.1 p hp
  intro r
  induction r with
  | zero =>
    intro k n A' hk hn ha hm
    obtain ⟨n, rfl⟩ : ∃ m, n = m + 1 := ⟨n - 1, by omega⟩
    have e61 : A' 61 0 = nI (xm_n S 1 6) := ((ha.1 61 0 (by decide) (by decide) (by decide) (by decide) (by decide)).trans (hA0 61 0 (by decide) (by decide))).trans hN
    have cc : nI (xm_n S 1 6) ≤ nI k := nI_le (by omega) (by omega)
    unfold rg_takeBack_8 rf_takeBack_8
    rw [e61, if_pos cc]
    refine ⟨⟨fun _ => trivial, fun z => absurd cc z⟩, ?_⟩
    rw [show xm_n S 1 6 = k by omega]
    exact ha
  | succ r ih =>
    intro k n A' hk hn ha hm
    obtain ⟨n, rfl⟩ : ∃ m, n = m + 1 := ⟨n - 1, by omega⟩
    have hkn : k < xm_n S 1 6 := by omega
    have e61 : A' 61 0 = nI (xm_n S 1 6) := ((ha.1 61 0 (by decide) (by decide) (by decide) (by decide) (by decide)).trans (hA0 61 0 (by decide) (by decide))).trans hN
    have e0 : A' 0 0 = A0 0 0 := ha.1 0 0 (by decide) (by decide) (by decide) (by decide) (by decide)
    have e64 : A' 64 k = kn (xm_r S 2 k 2) := ((ha.1 64 k (by decide) (by decide) (by decide) (by decide) (by decide)).trans (hA0 64 k (by decide) (by decide))).trans (h2 k hkn).2.2.2.2.2.2.2.2.2.2.1
    have e69 : A' 69 k = xm_i S 2 k 8 := (((ha.2.2.1 k (fun z => by omega)).1).trans (hA0 69 k (by decide) (by decide))).trans (h2 k hkn).2.2.2.2.1.symm
    obtain ⟨u, u1, u2, u3⟩ := (h2 k hkn).2.2.2.2.2.2.2.2.2.1
    have e62 : A' 62 k = nI u := ((ha.1 62 k (by decide) (by decide) (by decide) (by decide) (by decide)).trans (hA0 62 k (by decide) (by decide))).trans u3
    have cc : ¬ nI (xm_n S 1 6) ≤ nI k := nI_ge hkn (by omega)
    have ixk : y_ix (nI k) = k := y_ix_nI (by omega)
    have c1 : ¬ nI k = -1 := fun z => absurd (show (0 : Int32) ≤ nI k from nI_pos' (by omega)) (by rw [z]; decide)
    have c2 : ¬ nI o < 0 := nI_pos (by omega)
    have yk : y_in (nI k) 4400 := y_in_nI (by omega) (by decide)
    have e82 := ha.2.2.2.1
    have yes : kT S c k → y_in (A' 82 0) 4400 ∧ rg_takeBack_8 n (-1) (nI o) l3 (nI k + 1) (xm_u2 (xm_u2 (xm_u2 (xm_u2 (xm_u2 A' 80 k (1 : Int32)) 69 k (3 : Int32)) 68 k (A' 0 0)) 81 (y_ix (A' 82 0)) (nI k)) 82 0 ((A' 82 0) + (1 : Int32))) ∧ kTa S A0 (rf_takeBack_8 n (-1) (nI o) l3 (nI k + 1) (xm_u2 (xm_u2 (xm_u2 (xm_u2 (xm_u2 A' 80 k (1 : Int32)) 69 k (3 : Int32)) 68 k (A' 0 0)) 81 (y_ix (A' 82 0)) (nI k)) 82 0 ((A' 82 0) + (1 : Int32)))).2 c (xm_n S 1 6) h3 := fun hTk => by
      have hlt := kTn.lt hTk hkn
      rw [e82, y_ix_nI (by omega), nI_1 k]
      obtain ⟨i1, i2⟩ := ih (k + 1) n _ (by omega) (by omega) (ha.mark hTk e0) (fun e he hne => by
        have ek : e ≠ k := fun z => hne (by rw [z]; exact ((hT k hkn).mp hTk).2)
        exact ((y_off (by omega)).trans ((y_off (by omega)).trans ((y_off (by omega)).trans ((y_off (by omega)).trans (y_off (by omega)))))).trans (hm e (by omega) hne))
      exact ⟨y_in_nI (by omega) (by decide), i1, i2⟩
    have no : ¬ kT S c k → ∀ v : Int32, (xm_r S 2 k 1 ≠ some o → v = 0) → rg_takeBack_8 n (-1) (nI o) l3 (nI k + 1) (xm_u2 A' 80 k v) ∧ kTa S A0 (rf_takeBack_8 n (-1) (nI o) l3 (nI k + 1) (xm_u2 A' 80 k v)).2 c (xm_n S 1 6) h3 := fun hTk v hv => by
      rw [nI_1 k]
      refine ih (k + 1) n _ (by omega) (by omega) (ha.skip v hTk) (fun e he hne => ?_)
      by_cases ek : e = k
      · subst ek
        rw [show xm_u2 A' 80 e v 80 e = v from y_same _ _ _ _]
        exact hv hne
      · rw [show xm_u2 A' 80 k v 80 e = A' 80 e from if_neg (fun z => ek z.2)]
        exact hm e (by omega) hne
    unfold rg_takeBack_8 rf_takeBack_8
    rw [e61, if_neg cc, ixk, e64, e69, e62, if_neg c1, if_neg c2]
    by_cases hu : nI u = nI o
    · have huo : u = o := (nI_eq (by omega) (by omega)).mp hu
      rw [if_pos hu]
      by_cases h0 : xm_i S 2 k 8 = 0
      · obtain ⟨y1, y2, y3⟩ := yes ((hT k hkn).mpr ⟨h0, by rw [u1, huo]⟩)
        rw [if_pos h0]
        exact ⟨⟨fun z => absurd z cc, fun _ => ⟨fun z => absurd z c1, fun _ => ⟨fun z => absurd z c2, fun _ => ⟨yk, fun _ => ⟨fun _ => ⟨y1, y2⟩, fun z => absurd h0 z⟩, fun z => absurd hu z⟩⟩⟩⟩, y3⟩
      · obtain ⟨y1, y2⟩ := no (fun z => h0 ((hT k hkn).mp z).1) 1 (fun z => absurd (by rw [u1, huo]) z)
        rw [if_neg h0]
        exact ⟨⟨fun z => absurd z cc, fun _ => ⟨fun z => absurd z c1, fun _ => ⟨fun z => absurd z c2, fun _ => ⟨yk, fun _ => ⟨fun z => absurd z h0, fun _ => y1⟩, fun z => absurd hu z⟩⟩⟩⟩, y2⟩
    · have hne : xm_r S 2 k 1 ≠ some o := fun z => hu (by rw [Option.some.inj (u1.symm.trans z)])
      have hTn : ¬ kT S c k := fun z => hne ((hT k hkn).mp z).2
      obtain ⟨y1, y2⟩ := no hTn 0 (fun _ => rfl)
      rw [if_neg hu]
      rcases hp : xm_r S 2 k 2 with _ | p
      · have c3 : kn none < 0 := by decide
        rw [if_pos c3]
        exact ⟨⟨fun z => absurd z cc, fun _ => ⟨fun z => absurd z c1, fun _ => ⟨fun z => absurd z c2, fun _ => ⟨yk, fun z => absurd z hu, fun _ => ⟨fun _ => y1, fun z => absurd c3 z⟩⟩⟩⟩⟩, y2⟩
      · have hpl := hpk k p hkn hp
        have c3 : ¬ kn (some p) < 0 := nI_pos (by omega)
        have ixp : y_ix (kn (some p)) = p := y_ix_nI (by omega)
        have yp : y_in (kn (some p)) 4400 := y_in_nI (by omega) (by decide)
        have c4 : A' 80 p = 0 := hm p hpl (by rw [hpo k p hkn hp]; exact hne)
        rw [if_neg c3, ixp, if_pos c4]
        exact ⟨⟨fun z => absurd z cc, fun _ => ⟨fun z => absurd z c1, fun _ => ⟨fun z => absurd z c2, fun _ => ⟨yk, fun z => absurd z hu, fun _ => ⟨fun z => absurd z c3, fun _ => ⟨yp, fun _ => y1, fun z => absurd c4 z⟩⟩⟩⟩⟩⟩, y2⟩
theorem c_takeBackO {d : Nat} (hJN : kJN d) {S : xm_S} {A : y_A} {hb rb nb t c o : Nat} {rest : List y_J} (h : kM S A (fun _ => False) (fun _ => False) (fun _ => False) hb rb nb t 0 0 0) (hc : c < xm_n S 1 6) (h0 : xm_i S 2 c 8 = 0) (hp : xm_r S 2 c 2 = none) (hco : xm_r S 2 c 1 = some o) (hfo : xm_r S 6 o 6 = some c) (ho : o < xm_n S 1 5) (hlen : rest.length + 200 ≤ 20000) :
    ∃ A1 J1, rf_takeBack (-1) (nI o) (xm_u2 (xm_u2 A 58 o 4) 57 o (A 0 0)) rest = (nI (kTn S c (xm_n S 1 6)), A1, J1) ∧ rg_takeBack (-1) (nI o) (xm_u2 (xm_u2 A 58 o 4) 57 o (A 0 0)) rest ∧ xc (d + 2) 34 [.inr (some (0, 0)), .inr (some (2, c))] S (fun r S' => ∃ x, r = some (.inl x) ∧ xk_C S' ∧ x = nI (kTn S c (xm_n S 1 6)) ∧ ∃ A', y_to A1 J1 A' rest ∧ kM S' A' (fun _ => False) (fun _ => False) (fun _ => False) hb rb nb t 0 0 0 ∧ kL S S' A A') := by
  have hXd : kXd S (fun _ => False) := fun k hk => hk.elim
  have hD : kDl S A (fun _ => False) := fun k hk => hk.elim
  have hA0 : ∀ x k, x ≠ 57 → x ≠ 58 → (xm_u2 (xm_u2 A 58 o 4) 57 o (A 0 0)) x k = A x k := fun x k z1 z2 => (y_off (by omega)).trans (y_off (by omega))
  have hTall := kT.all h hco hfo
  have hpo : ∀ k p, k < xm_n S 1 6 → xm_r S 2 k 2 = some p → xm_r S 2 p 1 = xm_r S 2 k 1 := fun k p hk hkp => ((h.2.2.2.1 k hk).2.2.1 p hkp).1
  have ho60 : o < 60 := by
    have := h.1.2.2.1
    unfold k_bnd at this
    omega
  generalize hAz : xm_u2 (xm_u2 A 58 o 4) 57 o (A 0 0) = A0 at *
  have a58 : A0 58 o = 4 := by rw [← hAz]; exact (y_off (by omega)).trans (y_same _ _ _ _)
  have a57 : A0 57 o = A 0 0 := by rw [← hAz]; exact y_same _ _ _ _
  have aoff : ∀ x k, k ≠ o → A0 x k = A x k := fun x k z => by rw [← hAz]; exact (y_off (by omega)).trans (y_off (by omega))
  have a82 : A0 82 0 = A 82 0 := hA0 82 0 (by decide) (by decide)
  have hX : ∀ k, (fun _ : Nat => False) k → xm_i S 2 k 8 ≠ 0 := fun k hk => (hXd k hk).2
  have hM := h
  obtain ⟨hE, hS, hgr, ⟨j1, j2, j3, j4, j5, j6, j7, j8, j9, j10, j11, j12, j13, j14, j15, j16, j17, j18⟩⟩ := h
  have hEE := hE
  obtain ⟨hC, hcnt, hb', hl, ht, hv, h1, h2, -⟩ := hE
  have hbb := hb'
  unfold k_bnd at hbb
  have hpk : ∀ k p, k < xm_n S 1 6 → xm_r S 2 k 2 = some p → p < k := fun k p hk hp => (h2 k hk).2.2.2.2.2.2.2.2.2.2.2.2.2.2.2.2.2.2.2.2.2.2.2.2.2.1 p hp
  have hcT : kT S c c := (kT.i hpk hc).mpr ⟨h0, Or.inl rfl⟩
  have hT0 : ∀ k, kT S c k → xm_i S 2 k 8 = 0 := fun k hk => ((kT.i hpk hk.1).mp hk).1
  obtain ⟨z1, z2, T, z3, z4, z5, z6⟩ := j12
  have hsum : k_hows S 3 + kTn S c (xm_n S 1 6) ≤ xm_n S 1 6 := by
    unfold k_hows kTn
    rw [← xs_add]
    refine xs_le1 (fun k => ?_)
    by_cases hk : kT S c k
    · rw [hT0 k hk, if_neg (by decide), if_pos hk]; exact Nat.le_refl _
    · rw [if_neg hk]
      by_cases e : xm_i S 2 k 8 = 3
      · rw [if_pos e]; exact Nat.le_refl _
      · rw [if_neg e]; exact Nat.zero_le _
  have hpos := kTn.lt hcT hc
  obtain ⟨g1, g2⟩ := k_tbo (A0 := A0) (l3 := A 82 0) hEE hA0 hTall hpo ho60 (h3 := k_hows S 3) (by omega) (xm_n S 1 6) 0 20000 A0 (by omega) (by omega) ⟨fun _ _ _ _ _ _ _ => rfl, fun k _ z => absurd z (by omega), fun k _ => ⟨rfl, rfl⟩, by rw [a82, z5]; rfl, fun _ _ => rfl⟩ (fun e z => absurd z (by omega))
  rw [show nI 0 = (0 : Int32) from rfl] at g1 g2
  have e82 := g2.2.2.2.1
  have hnle : ¬ (rf_takeBack_8 20000 (-1) (nI o) (A 82 0) 0 A0).2 82 0 ≤ A 82 0 := by
    rw [e82, z5]
    exact nI_ge (by omega) (by omega)
  refine ⟨(rf_takeBack_8 20000 (-1) (nI o) (A 82 0) 0 A0).2, ((4 : Int32), A 82 0, (rf_takeBack_8 20000 (-1) (nI o) (A 82 0) 0 A0).2 82 0, (0 : Int32), (0 : Int32)) :: rest, ?_, ⟨by rw [a82]; exact g1, fun z => absurd (by rw [a82] at z; exact z) hnle, fun _ => ⟨by omega, trivial⟩⟩, ?_⟩
  · unfold rf_takeBack
    rw [a82, if_neg hnle, e82, z5]
    have : nI (k_hows S 3 + kTn S c (xm_n S 1 6)) - nI (k_hows S 3) = nI (kTn S c (xm_n S 1 6)) := by
      rw [← nI_add, Int32.sub_eq_add_neg, Int32.add_comm (nI (k_hows S 3)), Int32.add_assoc, Int32.add_right_neg, Int32.add_zero]
    rw [this]
  generalize hA1e : (rf_takeBack_8 20000 (-1) (nI o) (A 82 0) 0 A0).2 = A1 at *
  obtain ⟨b1', b2', b3', b4, b5'⟩ := g2
  have b1 : ∀ x k, x ≠ 57 → x ≠ 58 → x ≠ 68 → x ≠ 69 → x ≠ 80 → x ≠ 81 → x ≠ 82 → A1 x k = A x k := fun x k y1 y2 y3 y4 y5 y6 y7 => (b1' x k y3 y4 y5 y6 y7).trans (hA0 x k y1 y2)
  have b2 : ∀ k, kT S c k → k < xm_n S 1 6 → A1 69 k = 3 ∧ A1 68 k = A 0 0 ∧ A1 81 (k_hows S 3 + kTn S c k) = nI k := fun k y1 y2 => by
    obtain ⟨x1, x2, x3⟩ := b2' k y1 y2
    exact ⟨x1, x2.trans (hA0 0 0 (by decide) (by decide)), x3⟩
  have b3 : ∀ k, ¬ (kT S c k ∧ k < xm_n S 1 6) → A1 69 k = A 69 k ∧ A1 68 k = A 68 k := fun k y => by
    obtain ⟨x1, x2⟩ := b3' k y
    exact ⟨x1.trans (hA0 69 k (by decide) (by decide)), x2.trans (hA0 68 k (by decide) (by decide))⟩
  have b5 : ∀ i, i < k_hows S 3 → A1 81 i = A 81 i := fun i hi => (b5' i hi).trans (hA0 81 i (by decide) (by decide))
  have htk : ∀ k, k < xm_n S 1 6 → xm_i S 2 k 19 ≠ nI T + 1 := fun k hk z => by
    obtain ⟨⟨s, s1, s2⟩, -⟩ := z6 k hk
    rw [s2, nI_1] at z
    have := (nI_eq (by omega) (by omega)).mp z
    omega
  refine cw_takeBack hC ?_
  intro S0 e0
  rw [z3] at e0 ⊢
  have hk0 : kTk S S0 c 0 (nI T + 1) := by
    subst e0
    exact ⟨rfl, rfl, rfl, fun p q j w1 w2 => xi_si w2, xi_same, fun k _ z => absurd z (by omega), fun k _ => ⟨xi_si (by decide), xi_si (by decide), xi_si (by decide)⟩⟩
  refine c_tb29 (d := d + 1) hEE htk (fun S1 u6 u7 hk1 => ?_) (xm_n S 1 7) 0 0 S0 none none (by omega) (kG.z hv) (by omega) hk0
  have hows := hk1.hows hT0
  have hfc : ∀ o', o' + 0 < xm_n S 1 5 → kof S1 A1 o' := fun o' ho' => by
    obtain ⟨f, y1, y2, y3, y4, y5, y6, y7, y8⟩ := j18 o' ho'
    by_cases e : o' = o
    · rw [e, hfo] at y1
      obtain rfl := Option.some.inj y1
      obtain ⟨x1, x2, -⟩ := b2 c hcT hc
      rw [e]
      refine ⟨c, by rw [hk1.2.2.1]; exact hfo, by rw [hk1.1]; exact hc, by rw [hk1.2.2.1]; exact hco, by rw [hk1.2.2.1]; exact hp, ?_, ?_, ?_, ?_⟩
      · rw [b1' 58 o (by decide) (by decide) (by decide) (by decide) (by decide), a58, x1]; rfl
      · rw [x1]; exact fun z => z.elim (fun z => absurd z (by decide)) (fun z => absurd z (by decide))
      · rw [b1 56 o (by decide) (by decide) (by decide) (by decide) (by decide) (by decide) (by decide), b1 67 c (by decide) (by decide) (by decide) (by decide) (by decide) (by decide) (by decide), ← e]; exact y7
      · rw [b1' 57 o (by decide) (by decide) (by decide) (by decide) (by decide), a57, x2]
    · have hfT : ¬ kT S c f := fun z => e (Option.some.inj (y3.symm.trans ((hTall f y2).mp z).2))
      obtain ⟨x1, x2⟩ := b3 f (fun z => hfT z.1)
      refine ⟨f, by rw [hk1.2.2.1]; exact y1, by rw [hk1.1]; exact y2, by rw [hk1.2.2.1]; exact y3, by rw [hk1.2.2.1]; exact y4, ?_, ?_, ?_, ?_⟩
      · rw [b1' 58 o' (by decide) (by decide) (by decide) (by decide) (by decide), aoff 58 o' e, x1, b1 71 f (by decide) (by decide) (by decide) (by decide) (by decide) (by decide) (by decide)]; exact y5
      · rw [b1 59 o' (by decide) (by decide) (by decide) (by decide) (by decide) (by decide) (by decide), x1, b1 70 f (by decide) (by decide) (by decide) (by decide) (by decide) (by decide) (by decide)]; exact y6
      · rw [b1 56 o' (by decide) (by decide) (by decide) (by decide) (by decide) (by decide) (by decide), b1 67 f (by decide) (by decide) (by decide) (by decide) (by decide) (by decide) (by decide)]; exact y7
      · rw [b1' 57 o' (by decide) (by decide) (by decide) (by decide) (by decide), aoff 57 o' e, x2]; exact y8
  have hM1 := hM.take hcT (show kTk S S1 c (xm_n S 1 6) (xm_i S 0 0 15 + 1) by rw [z3]; exact hk1) rfl (A' := A1) (fun x k w1 w2 w3 w4 w5 w6 w7 => b1 x k w1 w2 w3 w4 w5 w6 w7) (fun k hk => ⟨(b2 k hk hk.1).1, (b2 k hk hk.1).2.1⟩) (fun k hk => b3 k (fun z => hk z.1)) b4 hfc
  have hX0 : (fun k => False ∨ kT S c k) = (fun e => False ∨ (kT S c e ∧ 0 ≤ e)) := by
    funext e
    exact propext (or_congr_right ⟨fun z => ⟨z, by omega⟩, fun z => z.1⟩)
  rw [hX0] at hM1
  have b31 : ∀ g, A1 31 g = A 31 g := fun g => b1 31 g (by decide) (by decide) (by decide) (by decide) (by decide) (by decide) (by decide)
  have hJ0 : kJk S c 0 (k_hows S 3) (kTn S c (xm_n S 1 6)) rest = ((4 : Int32), A 82 0, A1 82 0, (0 : Int32), (0 : Int32)) :: rest := by
    unfold kJk
    have k0 : kTn S c 0 = 0 := rfl
    rw [if_pos (by omega), k0, b4, z5]
    rfl
  have hLt : kL S S1 A A1 := by
    obtain ⟨a1, a2, a3, a4, a5, a6, a7⟩ := hk1
    refine ⟨⟨fun r _ => by rw [a1], by rw [a1]; exact Nat.le_refl _, by rw [a1]; exact Nat.le_refl _, by rw [a1]; exact Nat.le_refl _⟩, fun i _ => by rw [a2], fun k hk => ⟨by rw [a3], by rw [a3], by rw [a3], a4 2 k 3 (by omega) (by omega), a4 2 k 14 (by omega) (by omega), by rw [a3], fun z => ?_, fun z => ?_⟩, fun k y1 y2 => absurd y2 (by rw [a1]; omega), fun g _ => ⟨b31 g, a4 5 g 1 (by omega) (by omega), fun q hq => ⟨by rw [a3]; exact hq, by rw [a1]; exact Nat.le_refl _⟩⟩, fun o _ => ⟨by rw [a3], a4 6 o 3 (by omega) (by omega), a4 6 o 4 (by omega) (by omega)⟩, ⟨b1 0 0 (by decide) (by decide) (by decide) (by decide) (by decide) (by decide) (by decide), a4 0 0 13 (by omega) (by omega)⟩, ?_, ⟨by rw [hows.1]; omega, b5⟩, ⟨T, T + 1, z3, by rw [a5, nI_1], by omega, by omega, fun k s hk hs y => ?_⟩⟩
    · by_cases hk2 : kT S c k
      · rw [(a6 k hk2 hk).1] at z; exact absurd z (by decide)
      · rw [(a7 k (fun y => hk2 y.1)).1] at z; exact z
    · have hk2 : ¬ kT S c k := fun y => z (hT0 k y)
      obtain ⟨c1, c2, c3⟩ := a7 k (fun y => hk2 y.1)
      exact ⟨c1, a4 2 k 9 (by omega) (by omega), a4 2 k 10 (by omega) (by omega), by rw [a3], c2, c3⟩
    · rw [a4 0 0 14 (by omega) (by omega), b1 60 0 (by decide) (by decide) (by decide) (by decide) (by decide) (by decide) (by decide)]
    · by_cases hk2 : kT S c k
      · rw [(a6 k hk2 hk).2.2, nI_1] at y
        have := (nI_eq (by omega) (by omega)).mp y
        omega
      · rw [(a7 k (fun x => hk2 x.1)).2.2] at y; exact y
  have hEb : ∀ e, (False ∨ (xm_r S 2 c 2 = some e ∧ ∃ g, xm_r S 2 e 4 = some g ∧ A 31 g = 3)) → e < xm_n S 1 6 ∧ ∃ g, xm_r S 2 e 4 = some g ∧ A 31 g = 3 := fun e he => by
    rcases he with he | ⟨he, he2⟩
    · exact he.elim
    · rw [hp] at he; cases he
  refine c_tb129G hJN (S1 := S1) (A1 := A1) (X := fun _ => False) (h3 := k_hows S 3) (rest := rest) hEE z3 (by omega) (fun k hk => (z6 k hk).1) hX hk1 (fun k hk => (b2 k hk hk.1).2.2) (by omega) hows.1 (fun k hk hk14 => k_lLN hM hk.1 (hT0 k hk) ?_ hLt (by rw [(hk1.2.2.2.2.2.1 k hk hk.1).1]; decide)) (by omega) hM1.1 ?_ ?_ hM1.gb (fun e he => (hEb e he).1) (fun e g he hge => ?_) (fun e g he hge => hM.gb e g he hge) (fun S' A' m1 m2 m3 => ?_) (xm_n S 1 7) 0 0 S1 A1 u6 u7 (by omega) (kG.z hv) (by omega) hM1 hM1.later (y_to.rf _ _)
  · have z := (h2 k hk.1).2.2.2.2.2.2.2.1
    rcases (h2 k hk.1).2.2.2.2.2.2.2.2.2.2.2.2.2.2.2.2.2.1 with y | y
    · exact absurd (z.trans y) hk14
    · exact z.trans y
  · intro e he
    rcases he with he | ⟨he, -⟩
    · exact he.elim
    · exact ⟨by rw [hk1.1]; exact he.1, by rw [(hk1.2.2.2.2.2.1 e he he.1).1]; decide⟩
  · intro e he
    obtain ⟨y1, g, y2, y3⟩ := hEb e he
    exact ⟨by rw [hk1.1]; exact y1, g, by rw [hk1.2.2.1]; exact y2, by rw [b31]; exact y3⟩
  · rw [b31]
    obtain ⟨y1, g', y2, y3⟩ := hEb e he
    rw [← Option.some.inj (hge.symm.trans y2).symm, y3]
    decide
  · rw [hJ0] at m3
    have eE : (fun k => False ∨ (xm_r S 2 c 2 = some k ∧ ∃ g, xm_r S 2 k 4 = some g ∧ A 31 g = 3)) = (fun _ => False) := funext fun k => propext ⟨fun z => z.elim id (fun y => absurd (hp.symm.trans y.1) (fun q => by cases q)), fun z => z.elim⟩
    rw [eE] at m1
    exact ⟨_, rfl, m1.1.1, rfl, A', m3, m1, hLt.tr m2⟩
theorem p_cancel : kPub 47 156 1 := by
  intro as hn S A t hK _
  obtain ⟨a1, rfl⟩ := k_l1 hn
  have hM := hK.M
  have hC := hM.1.1
  have hbb := hM.1.2.2.1
  unfold k_bnd at hbb
  have w6 : A 50 0 = nI (xm_n S 1 5) := hM.1.2.1.2.2.2.2.2.1
  have hl := hM.1.2.2.2.1
  have ask : ∀ v, rf_cancel a1 A [] = (v, A, []) → rg_cancel a1 A [] → xc 200 47 [.inr (some (0, 0)), .inl a1] S (fun r S' => r = some (.inl v) ∧ S' = S) → ∃ (f : Int32) (A' : y_A) (t' : Nat), t' ≤ t + 100 ∧ xc 1000 47 [.inr (some (0, 0)), .inl a1] S (fun r S' => r = some (.inl f) ∧ kK S' A' t') ∧ rc 20 156 [.inr (some (11, 0)), .inl a1] A [] (fun r A2 js => r = some (.inl f) ∧ A2 = A' ∧ js = []) := fun v e G x => by
    refine ⟨v, A, t, by omega, xc.up (xc.mono x ?_) (by omega), ra.mono (rh_cancel (d := 20) (js := []) (by decide) G) (fun r A2 js y => ?_)⟩
    · rintro r S' ⟨h1, rfl⟩
      exact ⟨h1, hK⟩
    · rw [e] at y
      exact y
  by_cases c1 : a1 < 0
  · refine ask (-1) (by unfold rf_cancel; rw [if_pos c1]) ⟨fun _ => trivial, fun z => absurd c1 z⟩ (cw_cancel (d := 199) hC ⟨fun _ => ⟨rfl, rfl⟩, fun z => absurd c1 z⟩)
  by_cases c2 : nI (xm_n S 1 5) ≤ a1
  · have c2' : ¬ a1 < A 50 0 := by rw [w6]; exact Int32.not_lt.mpr c2
    refine ask (-1) (by unfold rf_cancel; rw [if_neg c1, if_neg c2']) ⟨fun z => absurd z c1, fun _ => ⟨fun z => absurd z c2', fun _ => trivial⟩⟩ (cw_cancel (d := 199) hC ⟨fun z => absurd z c1, fun _ => ⟨fun _ => ⟨rfl, rfl⟩, fun z => absurd c2 z⟩⟩)
  have c2' : a1 < A 50 0 := by rw [w6]; exact Int32.not_le.mp c2
  obtain ⟨yi, yo, ye⟩ := k_at c1 c2 (by omega)
  have y60 : y_in a1 60 := by rw [ye]; exact y_in_nI (by omega) (by decide)
  obtain ⟨f, f1, f2, f3, f4, f5, f6, f7, f8⟩ := hM.2.2.2.2.2.2.2.2.2.2.2.2.2.2.2.2.2.2.2.2 (y_ix a1) (by omega)
  have hcf := hM.1.2.2.2.2.2.2.2.1 f f2
  have h8 := hcf.2.2.2.2.1
  have h69 := hcf.2.2.2.2.2.2.2.2.2.2.2.2.2.2.2.2.2.2.2.2.2.2.1
  have hiff : A 58 (y_ix a1) = 0 ↔ A 69 f = 0 := by
    rw [f5]
    unfold k_how
    rcases h69 with y | y | y | y
    · rw [y, if_neg (by decide), if_neg (by decide), if_neg (by decide)]
    · rw [y, if_pos rfl]
      by_cases b : A 71 f = 0
      · rw [if_pos b]
      · rw [if_neg b]; decide
    · rw [y, if_neg (by decide), if_pos rfl]
    · rw [y, if_neg (by decide), if_neg (by decide), if_pos rfl]; decide
  by_cases c3 : A 58 (y_ix a1) = 0
  · have h0 : xm_i S 2 f 8 = 0 := h8.trans (hiff.mp c3)
    obtain ⟨A1, J1, r1, r2, r3⟩ := c_takeBackO (rest := []) kJN.all hM f2 h0 f4 f3 f1 yo (by decide)
    rw [← ye] at r1 r2
    obtain ⟨-, r, S', -, x, -, -, -, A', x1, x2, -⟩ := r3
    have hw := rf_work_eq x1
    refine ⟨nI (kTn S f (xm_n S 1 6)), A', t, by omega, ?_, ?_⟩
    · refine xc.up (d := 39) (show xc 39 47 [.inr (some (0, 0)), .inl a1] S _ from cw_cancel (d := 38) hC ⟨fun z => absurd z c1, fun _ => ⟨fun z => absurd z c2, fun _ => ⟨yi, y_ix a1, hl.2.2.2.1 _ yo, fun t6 e6 => ⟨fun z => ?_, fun k8 e8 => ⟨fun _ => ?_, fun z => ?_⟩⟩⟩⟩⟩) (by decide)
      · rw [f1, z] at e6; cases e6
      · rw [f1, e8] at e6
        obtain rfl := Option.some.inj e6
        obtain ⟨A1', J1', q1, q2, q3⟩ := c_takeBackO (rest := []) kJN.all hM f2 h0 f4 f3 f1 yo (by decide)
        rw [← ye] at q1
        refine xc.mono q3 ?_
        rintro r S' ⟨x, x1, x2, x3, A2, x4, x5, -⟩
        refine ⟨x, x1, x2, by rw [x3], ?_⟩
        have e := q1.symm.trans r1
        have e1 : A1' = A1 := congrArg (fun z => z.2.1) e
        have e2 : J1' = J1 := congrArg (fun z => z.2.2) e
        rw [e1, e2] at x4
        have e3 := (rf_work_eq x4).symm.trans hw
        have e4 : A2 = A' := congrArg (fun z => z.1) e3
        rw [e4] at x5
        exact x5.K
      · rw [f1, e8] at e6
        rw [← Option.some.inj e6] at z
        exact absurd h0 z
    · have G : rg_cancel a1 A [] := ⟨fun z => absurd z c1, fun _ => ⟨fun _ => ⟨y60, fun _ => ⟨r2, by rw [r1]; exact ⟨A', x1⟩, trivial⟩, fun z => absurd c3 z⟩, fun z => absurd c2' z⟩⟩
      refine ra.mono (rh_cancel (d := 20) (js := []) (by decide) G) (fun r A2 js y => ?_)
      have e : rf_cancel a1 A [] = (nI (kTn S f (xm_n S 1 6)), A', []) := by
        unfold rf_cancel
        rw [if_neg c1, if_pos c2', if_pos c3, r1, hw]
      rw [e] at y
      exact y
  · have h0 : ¬ xm_i S 2 f 8 = 0 := fun z => c3 (hiff.mpr (h8.symm.trans z))
    refine ask (-4) (by unfold rf_cancel; rw [if_neg c1, if_pos c2', if_neg c3]) ⟨fun z => absurd z c1, fun _ => ⟨fun _ => ⟨y60, fun z => absurd z c3, fun _ => trivial⟩, fun z => absurd c2' z⟩⟩ (cw_cancel (d := 199) hC ⟨fun z => absurd z c1, fun _ => ⟨fun z => absurd z c2, fun _ => ⟨yi, y_ix a1, hl.2.2.2.1 _ yo, fun t6 e6 => ⟨fun z => ?_, fun k8 e8 => ⟨fun z => ?_, fun _ => ⟨rfl, rfl⟩⟩⟩⟩⟩⟩)
    · rw [f1, z] at e6; cases e6
    · rw [f1, e8] at e6
      rw [← Option.some.inj e6] at z
      exact absurd z h0
end
