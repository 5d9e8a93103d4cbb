/-! ===== WHO LEADS (printed by wip/whole/gen9q.py) ===== -/
section
/-- one that leads and is alike, as the reference sees it -/
def k_ldA (A : y_A) (g o k : Nat) : Prop := A 69 k = 0 ∧ A 65 k = nI g ∧ ¬ A 78 k = 0 ∧ ¬ rf_isAlike (A 62 k) (nI o) A = 0
theorem k_ldA.u (A : y_A) (g o k n : Nat) (v : Int32) : k_ldA (xm_u2 A 74 n v) g o k ↔ k_ldA A g o k := by
  unfold k_ldA rf_isAlike
  rw [y_off (by omega), y_off (by omega), y_off (by omega), y_off (by omega), y_off (by omega), y_off (by omega), y_off (by omega), y_off (by omega), y_off (by omega), y_off (by omega)]
theorem k_ld_no {n g o : Nat} (hn : n < 4400) : ∀ (j N : Nat) (A : y_A), j ≤ n + 1 → j < N → (∀ k, k < n → rg_isAlike (A 62 k) (nI o) A) → (∀ k, k < j → k ≠ n → ¬ k_ldA A g o k) → rf_entered_429 N (nI n) (nI g) (nI o) (nI j + (-1)) A = (-1, A) ∧ rg_entered_429 N (nI n) (nI g) (nI o) (nI j + (-1)) A := by
  intro j
  induction j with
  | zero =>
    intro N A hj hN hal hno
    obtain ⟨N, rfl⟩ : ∃ x, N = x + 1 := ⟨N - 1, by omega⟩
    have c0 : nI 0 + (-1) < 0 := by decide
    unfold rf_entered_429 rg_entered_429
    rw [if_pos c0]
    exact ⟨rfl, fun _ => trivial, fun z => absurd c0 z⟩
  | succ j ih =>
    intro N A hj hN hal hno
    obtain ⟨N, rfl⟩ : ∃ x, N = x + 1 := ⟨N - 1, by omega⟩
    have ej : nI (j + 1) + (-1) = nI j := by rw [← nI_1, Int32.add_assoc, show (1 : Int32) + (-1) = 0 from rfl, Int32.add_zero]
    have c0 : ¬ nI j < 0 := nI_pos (by omega)
    have ixj : y_ix (nI j) = j := y_ix_nI (by omega)
    obtain ⟨i1, i2⟩ := ih N A (by omega) (by omega) hal (fun k hk hkn => hno k (by omega) hkn)
    unfold rf_entered_429 rg_entered_429
    rw [ej, if_neg c0, ixj]
    by_cases c1 : nI j = nI n
    · rw [if_pos c1]
      exact ⟨i1, fun z => absurd z c0, fun _ => ⟨fun _ => i2, fun z => absurd c1 z⟩⟩
    · rw [if_neg c1]
      have hjn : j ≠ n := fun z => c1 (by rw [z])
      have yj : y_in (nI j) 4400 := y_in_nI (by omega) (by decide)
      have hno' := hno j (by omega) hjn
      have hal' := hal j (by omega)
      refine ⟨?_, fun z => absurd z c0, fun _ => ⟨fun z => absurd z c1, fun _ => ⟨yj, fun z69 => ⟨fun z65 => ⟨fun _ => i2, fun z78 => ⟨hal', fun _ => i2, fun za => absurd ⟨z69, z65, z78, za⟩ hno'⟩⟩, fun _ => i2⟩, fun _ => i2⟩⟩⟩
      by_cases z69 : A 69 j = 0
      · rw [if_pos z69]
        by_cases z65 : A 65 j = nI g
        · rw [if_pos z65]
          by_cases z78 : A 78 j = 0
          · rw [if_pos z78]; exact i1
          · rw [if_neg z78]
            by_cases za : rf_isAlike (A 62 j) (nI o) A = 0
            · rw [if_pos za]; exact i1
            · exact absurd ⟨z69, z65, z78, za⟩ hno'
        · rw [if_neg z65]; exact i1
      · rw [if_neg z69]; exact i1
theorem k_ld_hit {n g o l : Nat} (hn : n < 4400) (hl : l < n) {A : y_A} (hal : ∀ k, k < n → rg_isAlike (A 62 k) (nI o) A) (hla : k_ldA A g o l) (hu : ∀ k, k < n → k_ldA A g o k → k = l) : ∀ (j N : Nat), l < j → j ≤ n + 1 → j < N → rf_entered_429 N (nI n) (nI g) (nI o) (nI j + (-1)) A = (-1, xm_u2 A 74 n (nI l)) ∧ rg_entered_429 N (nI n) (nI g) (nI o) (nI j + (-1)) A := by
  intro j
  induction j with
  | zero => intro N h1; exact absurd h1 (by omega)
  | succ j ih =>
    intro N hlj hj hN
    obtain ⟨N, rfl⟩ : ∃ x, N = x + 1 := ⟨N - 1, by omega⟩
    have ej : nI (j + 1) + (-1) = nI j := by rw [← nI_1, Int32.add_assoc, show (1 : Int32) + (-1) = 0 from rfl, Int32.add_zero]
    have c0 : ¬ nI j < 0 := nI_pos (by omega)
    have ixj : y_ix (nI j) = j := y_ix_nI (by omega)
    have ixn : y_ix (nI n) = n := y_ix_nI (by omega)
    unfold rf_entered_429 rg_entered_429
    rw [ej, if_neg c0, ixj]
    by_cases c1 : nI j = nI n
    · have hjn : j = n := (nI_eq (by omega) (by omega)).mp c1
      obtain ⟨i1, i2⟩ := ih N (by omega) (by omega) (by omega)
      rw [if_pos c1]
      exact ⟨i1, fun z => absurd z c0, fun _ => ⟨fun _ => i2, fun z => absurd c1 z⟩⟩
    · rw [if_neg c1]
      have hjn : j ≠ n := fun z => c1 (by rw [z])
      have yj : y_in (nI j) 4400 := y_in_nI (by omega) (by decide)
      have yn : y_in (nI n) 4400 := y_in_nI (by omega) (by decide)
      have hal' := hal j (by omega)
      by_cases e : j = l
      · obtain ⟨z69, z65, z78, za⟩ := hla
        rw [← e] at z69 z65 z78 za
        have hal2 : ∀ k, k < n → rg_isAlike (xm_u2 A 74 n (nI j) 62 k) (nI o) (xm_u2 A 74 n (nI j)) := fun k hk => by
          have := hal k hk
          unfold rg_isAlike at this ⊢
          rw [y_off (by omega), y_off (by omega), y_off (by omega), y_off (by omega), y_off (by omega), y_off (by omega), y_off (by omega)]
          exact this
        obtain ⟨i1, i2⟩ := k_ld_no (g := g) (o := o) hn j N (xm_u2 A 74 n (nI j)) (by omega) (by omega) hal2 (fun k hk hkn z => by
          have := hu k (by omega) ((k_ldA.u A g o k n (nI j)).mp z)
          omega)
        rw [if_pos z69, if_pos z65, if_neg z78, if_neg za, ixn, ← e]
        exact ⟨i1, fun z => absurd z c0, fun _ => ⟨fun z => absurd z c1, fun _ => ⟨yj, fun _ => ⟨fun _ => ⟨fun z => absurd z z78, fun _ => ⟨hal', fun z => absurd z za, fun _ => ⟨yn, i2⟩⟩⟩, fun z => absurd z65 z⟩, fun z => absurd z69 z⟩⟩⟩
      · obtain ⟨i1, i2⟩ := ih N (by omega) (by omega) (by omega)
        have hno' : ¬ k_ldA A g o j := fun z => e (hu j (by omega) z)
        refine ⟨?_, fun z => absurd z c0, fun _ => ⟨fun z => absurd z c1, fun _ => ⟨yj, fun z69 => ⟨fun z65 => ⟨fun _ => i2, fun z78 => ⟨hal', fun _ => i2, fun za => absurd ⟨z69, z65, z78, za⟩ hno'⟩⟩, fun _ => i2⟩, fun _ => i2⟩⟩⟩
        by_cases z69 : A 69 j = 0
        · rw [if_pos z69]
          by_cases z65 : A 65 j = nI g
          · rw [if_pos z65]
            by_cases z78 : A 78 j = 0
            · rw [if_pos z78]; exact i1
            · rw [if_neg z78]
              by_cases za : rf_isAlike (A 62 j) (nI o) A = 0
              · rw [if_pos za]; exact i1
              · exact absurd ⟨z69, z65, z78, za⟩ hno'
          · rw [if_neg z65]; exact i1
        · rw [if_neg z69]; exact i1
/-- as the class sees it -/
def k_ldS (S : xm_S) (g n k : Nat) : Prop := xm_i S 2 k 8 = 0 ∧ xm_r S 2 k 4 = some g ∧ ¬ xm_i S 2 k 14 = 0 ∧ k_lik S k n
theorem k_ldA.S {S : xm_S} {A : y_A} {X E B : Nat → Prop} {hb rb nb t w e1 e2 g n o k : Nat} (hM : kM S A X E B hb rb nb t w e1 e2) (hg : g < xm_n S 1 3) (hn : n < xm_n S 1 6) (hk : k < xm_n S 1 6) (ho : xm_r S 2 n 1 = some o) : (k_ldA A g o k ↔ k_ldS S g n k) ∧ rg_isAlike (A 62 k) (nI o) A := by
  have hbb := hM.1.2.2.1
  unfold k_bnd at hbb
  have h2 := hM.1.2.2.2.2.2.2.2.1
  have h6 := hM.1.2.2.2.2.2.2.2.2.2.2.2.1
  have hck := h2 k hk
  obtain ⟨u, u1, u2, u3⟩ := hck.2.2.2.2.2.2.2.2.2.1
  obtain ⟨o', o1, o2, o3⟩ := (h2 n hn).2.2.2.2.2.2.2.2.2.1
  obtain rfl : o = o' := Option.some.inj (ho.symm.trans o1)
  have ixu : y_ix (nI u) = u := y_ix_nI (by omega)
  have ixo : y_ix (nI o) = o := y_ix_nI (by omega)
  obtain ⟨-, -, ⟨s, s1, s2, s3⟩, s4, s5, -⟩ := h6 u u2
  obtain ⟨-, -, ⟨r, r1, r2, r3⟩, r4, r5, -⟩ := h6 o o2
  refine ⟨?_, ?_⟩
  · unfold k_ldA k_ldS rf_isAlike
    rw [u3, ixu, ixo, s3, r3, ← s4, ← s5, ← r4, ← r5, ← hck.2.2.2.2.1, ← hck.2.2.2.2.2.2.2.1, hck.2.2.2.2.2.2.2.2.2.2.2.1]
    have e65 : kn (xm_r S 2 k 4) = nI g ↔ xm_r S 2 k 4 = some g := by
      rcases hz : xm_r S 2 k 4 with _ | g'
      · exact ⟨fun z => absurd (show (0 : Int32) ≤ nI g from nI_pos' (by omega)) (by rw [← z]; decide), fun z => by cases z⟩
      · have := hM.gb k g' hk hz
        exact ⟨fun z => by rw [(nI_eq (a := g') (b := g) (by omega) (by omega)).mp z], fun z => by rw [Option.some.inj z]; rfl⟩
    rw [e65]
    refine and_congr_right fun _ => and_congr_right fun _ => and_congr_right fun _ => ⟨fun z => ?_, fun z => ?_⟩
    · by_cases c1 : nI s = nI r
      · rw [if_pos c1] at z
        by_cases c2 : xm_i S 6 u 3 = xm_i S 6 o 3
        · rw [if_pos c2] at z
          by_cases c3 : xm_i S 6 u 4 = xm_i S 6 o 4
          · exact ⟨u, o, u1, ho, by rw [s1, r1, (nI_eq (a := s) (b := r) (by omega) (by omega)).mp c1], c2, c3⟩
          · rw [if_neg c3] at z; exact absurd rfl z
        · rw [if_neg c2] at z; exact absurd rfl z
      · rw [if_neg c1] at z; exact absurd rfl z
    · obtain ⟨x, y, z1, z2, z3, z4, z5⟩ := z
      obtain rfl : u = x := Option.some.inj (u1.symm.trans z1)
      obtain rfl : o = y := Option.some.inj (ho.symm.trans z2)
      rw [s1, r1] at z3
      rw [if_pos (by rw [Option.some.inj z3]), if_pos z4, if_pos z5]
      decide
  · rw [u3]
    exact ⟨y_in_nI (by omega) (by decide), y_in_nI (by omega) (by decide), fun _ => ⟨fun _ => ⟨fun _ => trivial, fun _ => trivial⟩, fun _ => trivial⟩, fun _ => trivial⟩
theorem c_leaderFor {d : Nat} {S : xm_S} {A : y_A} {X E B : Nat → Prop} {hb rb nb t w e1 e2 g n o : Nat} {Q : Option xm_V → xm_S → Prop} (hM : kM S A X E B hb rb nb t w e1 e2) (hn : n < xm_n S 1 6) (ho : xm_r S 2 n 1 = some o) (hno : (∀ k, k < xm_n S 1 6 → ¬ k_ldS S g n k) → Q (some (.inr none)) S) (hit : ∀ l, l < xm_n S 1 6 → k_ldS S g n l → Q (some (.inr (some (2, l)))) S) : xc (d + 1) 46 [.inr (some (0, 0)), .inr (some (2, n)), .inr (some (5, g))] S Q := by
  have hC := hM.1.1
  have hbb := hM.1.2.2.1
  unfold k_bnd at hbb
  have hv := hM.1.2.2.2.2.2.1
  have h2 := hM.1.2.2.2.2.2.2.2.1
  have loop : ∀ (r i K : Nat) (u : Option xm_V), i + r = xm_n S 1 7 → kG S i K → K ≤ xm_n S 1 6 → (∀ k, k < K → ¬ k_ldS S g n k) → xw (d + 1) 46 2 [some (.inr (some (0, 0))), some (.inr (some (2, n))), some (.inr (some (5, g))), some (.inl (nI i)), u] [] S Q := by
    intro r
    induction r with
    | zero =>
      intro i K u hi hg hK hk
      have cc : nI (xm_n S 1 7) ≤ nI i := nI_le (by omega) (by omega)
      refine cw_leaderFor_2 hC ⟨fun _ => hno (fun k hkn z => ?_), fun z => absurd cc z⟩
      by_cases e : k < K
      · exact hk k e z
      · exact hg.fin (by omega) k (by omega) hkn z.1
    | succ r ih =>
      intro i K u hi hg hK hk
      have cc : ¬ nI (xm_n S 1 7) ≤ nI i := nI_ge (by omega) (by omega)
      obtain ⟨k, hk1, hkn⟩ := hv.1 i (by omega)
      have nx : ¬ k_ldS S g n k → xw (d + 1) 46 2 [some (.inr (some (0, 0))), some (.inr (some (2, n))), some (.inr (some (5, g))), some (.inl (nI i + 1)), some (.inr (some (2, k)))] [] S Q := fun z => by
        rw [nI_1]
        refine ih (i + 1) (k + 1) _ (by omega) (hg.s hv (by omega) hk1) (by omega) (fun e he y => ?_)
        by_cases c1 : e < K
        · exact hk e c1 y
        · by_cases c2 : e = k
          · rw [c2] at y; exact z y
          · exact hg.gap hv (by omega) hk1 e (by omega) (by omega) hkn y.1
      obtain ⟨u', u1, u2, u3⟩ := (h2 k hkn).2.2.2.2.2.2.2.2.2.1
      refine cw_leaderFor_2 hC ⟨fun z => absurd z cc, fun _ => ⟨y_in_nI (by omega) (by omega), k, by rw [y_ix_nI (by omega)]; exact hk1, fun h8 t6 e6 => ⟨fun h4 => ⟨fun h14 => nx (fun z => z.2.2.1 h14), fun h14 t10 e10 t12 e12 => ⟨u', e10.symm.trans u1, fun t15 e15 => ⟨o, e12.symm.trans ho, fun t18 e18 => ⟨fun z2 => ⟨fun z3 => ⟨fun z4 => ?_, fun z4 => ?_⟩, fun z3 => ?_⟩, fun z2 => ?_⟩⟩⟩⟩, fun h4 => nx (fun z => h4 (e6.symm.trans z.2.1))⟩, fun h8 => nx (fun z => h8 z.1)⟩⟩
      · exact hit k hkn ⟨h8, e6.trans h4, h14, u', o, u1, ho, (e15.trans z2).trans e18.symm, z3, z4⟩
      · refine nx (fun z => ?_)
        obtain ⟨x, y, q1, q2, q3, q4, q5⟩ := z.2.2.2
        rw [← Option.some.inj (u1.symm.trans q1), ← Option.some.inj (ho.symm.trans q2)] at q5
        exact z4 q5
      · refine nx (fun z => ?_)
        obtain ⟨x, y, q1, q2, q3, q4, q5⟩ := z.2.2.2
        rw [← Option.some.inj (u1.symm.trans q1), ← Option.some.inj (ho.symm.trans q2)] at q4
        exact z3 q4
      · refine nx (fun z => ?_)
        obtain ⟨x, y, q1, q2, q3, q4, q5⟩ := z.2.2.2
        rw [← Option.some.inj (u1.symm.trans q1), ← Option.some.inj (ho.symm.trans q2)] at q3
        exact z2 ((e15.symm.trans q3).trans e18)
  exact cw_leaderFor hC (loop (xm_n S 1 7) 0 0 none (by omega) (kG.z hv) (by omega) (fun k hk => absurd hk (by omega)))
end
