/-! ===== A HEDGE IS TOLD (printed by wip/whole/gen9b.py) ===== -/
section
/-- the other inner one, below K -/
def kOk (S : xm_S) (p c K : Nat) (ot : Option Nat) : Prop := (∀ x, ot = some x → x < K ∧ x < xm_n S 1 6 ∧ xm_r S 2 x 2 = some p ∧ x ≠ c) ∧ ∀ e, e < K → e < xm_n S 1 6 → xm_r S 2 e 2 = some p → e ≠ c → ∃ x, ot = some x ∧ e ≤ x
theorem kOk.u {S : xm_S} {p c K : Nat} {a b : Option Nat} (h : kOk S p c K a) (g : kOk S p c K b) : a = b := by
  rcases a with _ | x
  · rcases b with _ | y
    · rfl
    · obtain ⟨g1, g2, g3, g4⟩ := g.1 y rfl
      obtain ⟨x, hx, -⟩ := h.2 y g1 g2 g3 g4
      cases hx
  · obtain ⟨h1, h2, h3, h4⟩ := h.1 x rfl
    obtain ⟨y, hy, hxy⟩ := g.2 x h1 h2 h3 h4
    obtain ⟨g1, g2, g3, g4⟩ := g.1 y hy
    obtain ⟨z, hz, hyz⟩ := h.2 y g1 g2 g3 g4
    rw [hy]
    have := Option.some.inj hz
    congr 1
    omega
theorem k_oth {S : xm_S} {A : y_A} {p c : Nat} (hE : kE S A) (hp : p < xm_n S 1 6) (hc : c < xm_n S 1 6) : ∀ (r k n : Nat) (ot : Option Nat), k + r = xm_n S 1 6 → r < n → kOk S p c k ot → rg_otherOf_5 n (nI p) (nI c) (kn ot) (nI k) A ∧ ∃ o2, (rf_otherOf_5 n (nI p) (nI c) (kn ot) (nI k) A).1 = kn o2 ∧ kOk S p c (xm_n S 1 6) o2 := by
  obtain ⟨hC, hcnt, hb', hl, ht, hv, h1, h2, -⟩ := hE
  have hbb := hb'
  unfold k_bnd at hbb
  have hN := hcnt.2.2.2.2.2.2.1
  intro r
  induction r with
  | zero =>
    intro k n ot hk hn ho
    obtain ⟨n, rfl⟩ : ∃ j, n = j + 1 := ⟨n - 1, by omega⟩
    have cc : nI (xm_n S 1 6) ≤ nI k := nI_le (by omega) (by omega)
    unfold rg_otherOf_5 rf_otherOf_5
    rw [hN, if_pos cc]
    exact ⟨⟨fun _ => trivial, fun z => absurd cc z⟩, ot, rfl, by rw [show xm_n S 1 6 = k by omega]; exact ho⟩
  | succ r ih =>
    intro k n ot hk hn ho
    obtain ⟨n, rfl⟩ : ∃ j, n = j + 1 := ⟨n - 1, by omega⟩
    have hkn : k < xm_n S 1 6 := by omega
    have cc : ¬ nI (xm_n S 1 6) ≤ nI k := nI_ge hkn (by omega)
    have ixk : y_ix (nI k) = k := y_ix_nI (by omega)
    have yk : y_in (nI k) 4400 := y_in_nI (by omega) (by decide)
    have h64 := (h2 k hkn).2.2.2.2.2.2.2.2.2.2.1
    have par : (A 64 k = nI p) ↔ xm_r S 2 k 2 = some p := by
      rw [h64]
      rcases hx : xm_r S 2 k 2 with _ | q
      · exact ⟨fun z => absurd (show (0 : Int32) ≤ nI p from nI_pos' (by omega)) (by rw [← z]; decide), fun z => by cases z⟩
      · have hq := (h2 k hkn).2.2.2.2.2.2.2.2.2.2.2.2.2.2.2.2.2.2.2.2.2.2.2.2.2.1 q hx
        exact ⟨fun z => by rw [(nI_eq (a := q) (b := p) (by omega) (by omega)).mp z], fun z => by rw [Option.some.inj z]; rfl⟩
    have skip : ¬ (xm_r S 2 k 2 = some p ∧ k ≠ c) → kOk S p c (k + 1) ot := fun z => ⟨fun x hx => by
      obtain ⟨a, b⟩ := ho.1 x hx
      exact ⟨by omega, b⟩, fun e e1 e2 e3 e4 => ho.2 e (Nat.lt_of_le_of_ne (by omega) (fun y => z (by rw [← y]; exact ⟨e3, e4⟩))) e2 e3 e4⟩
    unfold rg_otherOf_5 rf_otherOf_5
    rw [hN, if_neg cc, ixk]
    by_cases c1 : A 64 k = nI p
    · rw [if_pos c1]
      by_cases c2 : nI k = nI c
      · have ekc : k = c := (nI_eq (by omega) (by omega)).mp c2
        obtain ⟨i1, i2⟩ := ih (k + 1) n ot (by omega) (by omega) (skip (fun z => z.2 ekc))
        rw [if_pos c2, nI_1]
        exact ⟨⟨fun z => absurd z cc, fun _ => ⟨yk, fun _ => ⟨fun _ => i1, fun z => absurd c2 z⟩, fun z => absurd c1 z⟩⟩, i2⟩
      · have ekc : k ≠ c := fun z => c2 (by rw [z])
        obtain ⟨i1, i2⟩ := ih (k + 1) n (some k) (by omega) (by omega) ⟨fun x hx => by rw [← Option.some.inj hx]; exact ⟨by omega, hkn, par.mp c1, ekc⟩, fun e e1 e2 e3 e4 => ⟨k, rfl, by omega⟩⟩
        rw [if_neg c2, nI_1]
        exact ⟨⟨fun z => absurd z cc, fun _ => ⟨yk, fun _ => ⟨fun z => absurd z c2, fun _ => i1⟩, fun z => absurd c1 z⟩⟩, i2⟩
    · obtain ⟨i1, i2⟩ := ih (k + 1) n ot (by omega) (by omega) (skip (fun z => c1 (par.mpr z.1)))
      rw [if_neg c1, nI_1]
      exact ⟨⟨fun z => absurd z cc, fun _ => ⟨yk, fun z => absurd z c1, fun _ => i1⟩⟩, i2⟩
theorem k_otherOf {S : xm_S} {A : y_A} {p c : Nat} {ot : Option Nat} (hE : kE S A) (hp : p < xm_n S 1 6) (hc : c < xm_n S 1 6) (ho : kOk S p c (xm_n S 1 6) ot) : rf_otherOf (nI p) (nI c) A = kn ot ∧ rg_otherOf (nI p) (nI c) A := by
  obtain ⟨i1, o2, i2, i3⟩ := k_oth hE hp hc (xm_n S 1 6) 0 20000 none (by omega) (by have := hE.2.2.1; unfold k_bnd at this; omega) ⟨fun x hx => (by cases hx), fun e e1 => by omega⟩
  unfold rf_otherOf rg_otherOf
  rw [ho.u i3]
  exact ⟨i2, i1, trivial⟩
theorem k_two {S : xm_S} {A : y_A} {X E : Nat → Prop} {hb rb nb t w e1 e2 p c g : Nat} (hM : kM S A X E (fun _ => False) hb rb nb t w e1 e2) (hc : c < xm_n S 1 6) (hp : p < xm_n S 1 6) (h0 : xm_i S 2 p 8 = 0) (hcp : xm_r S 2 c 2 = some p) (hg : xm_r S 2 p 4 = some g) (hs : A 31 g = 5) :
    ∃ l, xm_r S 2 p 17 = some l ∧ ∀ ot, ot = (if l = c then xm_r S 2 c 18 else some l) → (∀ k, ot = some k → k < xm_n S 1 6 ∧ xm_r S 2 k 2 = some p ∧ k ≠ c) ∧ (∀ k, k < xm_n S 1 6 → xm_r S 2 k 2 = some p → k = c ∨ ot = some k) := by
  have j6 := hM.2.2.2.2.2.2.2.2.1
  have j10 := hM.2.2.2.2.2.2.2.2.2.2.2.2.1
  obtain ⟨m1, m2, n, n1, n2, n3, n4⟩ := j6.1 p hp
  have hst := (j10.2 p g hp h0 hg).2.2.2.1 hs
  have hn12 : n = 1 ∨ n = 2 := by
    rcases hst with z | z | z
    · exact z.2.elim
    · exact Or.inl ((nI_eq (a := n) (b := 1) (by omega) (by decide)).mp (n2.symm.trans z))
    · exact Or.inr ((nI_eq (a := n) (b := 2) (by omega) (by decide)).mp (n2.symm.trans z.1))
  rcases hl : xm_r S 2 p 17 with _ | l
  · exact absurd hcp (m1 hl c hc)
  obtain ⟨l1, l2, l3⟩ := m2 l hl
  obtain ⟨n5, n6⟩ := n4 l hl
  obtain ⟨b1, b2⟩ := j6.2 l p l1 l2
  refine ⟨l, rfl, fun ot hot => ?_⟩
  by_cases e : l = c
  · rw [if_pos e] at hot
    subst e
    rcases hb : xm_r S 2 l 18 with _ | b
    · rw [hb] at hot
      exact ⟨fun k hk => (by rw [hot] at hk; cases hk), fun k hk hkp => Or.inl (Nat.le_antisymm (l3 k hk hkp) (b1 hb k hk hkp))⟩
    · rw [hb] at hot
      obtain ⟨c1, c2, c3⟩ := b2 b hb
      have hn2 : n = 2 := hn12.resolve_left (fun z => by rw [n5.mp z] at hb; cases hb)
      have hbb := (n6 b hb).mp hn2
      have hb6 : b < xm_n S 1 6 := by omega
      refine ⟨fun k hk => ?_, fun k hk hkp => ?_⟩
      · rw [hot] at hk
        rw [← Option.some.inj hk]
        exact ⟨hb6, c2, by omega⟩
      · by_cases ek : k = l
        · exact Or.inl ek
        · have k1 := l3 k hk hkp
          have k2 := c3 k hk hkp (by omega)
          have k3 := (j6.2 b p hb6 c2).1 hbb k hk hkp
          rw [hot]
          exact Or.inr (by congr 1; omega)
  · rw [if_neg e] at hot
    have hcl : c < l := by have := l3 c hc hcp; omega
    rcases hb : xm_r S 2 l 18 with _ | b
    · have := b1 hb c hc hcp
      omega
    · obtain ⟨c1, c2, c3⟩ := b2 b hb
      have hn2 : n = 2 := hn12.resolve_left (fun z => by rw [n5.mp z] at hb; cases hb)
      have hbb := (n6 b hb).mp hn2
      have hb6 : b < xm_n S 1 6 := by omega
      refine ⟨fun k hk => ?_, fun k hk hkp => ?_⟩
      · rw [hot] at hk
        rw [← Option.some.inj hk]
        exact ⟨l1, l2, e⟩
      · by_cases ek : k = l
        · rw [hot, ek]; exact Or.inr rfl
        · have k1 := l3 k hk hkp
          have k2 := c3 k hk hkp (by omega)
          have k3 := (j6.2 b p hb6 c2).1 hbb k hk hkp
          have k4 := c3 c hc hcp (by omega)
          have k5 := (j6.2 b p hb6 c2).1 hbb c hc hcp
          exact Or.inl (by omega)
/-- one that has ended ends no more -/
theorem c_noop {d : Nat} {S : xm_S} {A : y_A} {X E : Nat → Prop} {hb rb nb t w p : Nat} {rest : List y_J} {h v b : Int32} (hM : kM S A X E (fun _ => False) hb rb nb t w 0 0) (hp : p < xm_n S 1 6) (h0 : ¬ xm_i S 2 p 8 = 0) : (∀ x y : Int32, xc (d + 1) 30 [.inr (some (0, 0)), .inr (some (2, p)), .inl x, .inl y] S (kPo S A A (((1 : Int32), nI p, h, v, b) :: rest) rest X E hb rb nb t w)) ∧ (∀ u, xc (d + 1) 22 [.inr (some (0, 0)), .inr (some (2, p)), .inr (xo 4 u)] S (kPo S A A (((1 : Int32), nI p, h, v, b) :: rest) rest X E hb rb nb t w)) := by
  have hbd := hM.1.2.2.1
  unfold k_bnd at hbd
  have h69 : ¬ A 69 p = 0 := fun z => h0 (((hM.1.2.2.2.2.2.2.2.1 p hp).2.2.2.2.1).trans z)
  have ix : y_ix (nI p) = p := y_ix_nI (by omega)
  have hy : kPo S A A (((1 : Int32), nI p, h, v, b) :: rest) rest X E hb rb nb t w none S := by
    refine ⟨rfl, hM.1.1, A, y_to.s (B := A) (ks := rest) ?_ ?_ (y_to.rf _ _), hM, hM.later⟩
    · rw [y_ok_1]
      unfold rg_ends
      rw [ix]
      exact ⟨y_in_nI (by omega) (by decide), fun z => absurd z h69, fun _ => trivial⟩
    · rw [y_do_1]
      unfold rf_ends
      rw [ix, if_neg h69]
  exact ⟨fun x y => cw_endGood hM.1.1 ⟨fun z => absurd z h0, fun _ => hy⟩, fun u => cw_endFailed hM.1.1 ⟨fun z => absurd z h0, fun _ => hy⟩⟩
theorem kT.ord {S : xm_S} {A : y_A} {X E B : Nat → Prop} {hb rb nb t w e1 e2 c : Nat} (hM : kM S A X E B hb rb nb t w e1 e2) : ∀ (k : Nat), kT S c k → xm_r S 2 k 1 = xm_r S 2 c 1 := by
  have h2 := hM.1.2.2.2.2.2.2.2.1
  have hpk : ∀ k p, k < xm_n S 1 6 → xm_r S 2 k 2 = some p → p < k := fun k p hk hp => (h2 k hk).2.2.2.2.2.2.2.2.2.2.2.2.2.2.2.2.2.2.2.2.2.2.2.2.2.1 p hp
  intro k
  induction k using Nat.strongRecOn with
  | _ k ih =>
    intro hk
    rcases ((kT.i hpk hk.1).mp hk).2 with z | ⟨p, z1, z2⟩
    · rw [z]
    · rw [← ((hM.2.2.2.1 k hk.1).2.2.1 p z1).1]
      exact ih p (hpk k p hk.1 z1) z2
theorem c_hedgeG {Nm : Prop} {D e : Nat} (IH : kEN Nm D e) {S : xm_S} {A : y_A} {X E : Nat → Prop} {hb rb nb t w p c o g : Nat} {rest : List y_J} {ot : Option Nat} {F : y_A × List y_J} (hD1 : 1 ≤ D) (hTB : kTB Nm (D + 1)) (hM : kM S A X E (fun _ => False) hb rb nb t w 0 0) (hTT : kTp Nm S A p c e o) (hX : kXd S X) (hD : kDl S A E) (h75 : ¬ A 75 p = 1) (hg : xm_r S 2 p 4 = some g) (hs : A 31 g = 5) (hlen : rest.length + 10 * e + 114 + kC Nm ≤ 20000) (hok : ∀ k, ot = some k → k < xm_n S 1 6 ∧ xm_r S 2 k 2 = some p ∧ k ≠ c) (hkids : ∀ k, k < xm_n S 1 6 → xm_r S 2 k 2 = some p → k = c ∨ ot = some k)
    (hF : F = (if A 69 c = 1 then (if kn ot < 0 then (A, ((1 : Int32), nI p, A 69 c, A 70 c, if A 71 c = 0 then (0 : Int32) else 1) :: rest) else (if A 69 (y_ix (kn ot)) = 0 then ((rf_takeBack (kn ot) (-1) A (((1 : Int32), nI p, A 69 c, A 70 c, if A 71 c = 0 then (0 : Int32) else 1) :: rest)).2.1, (rf_takeBack (kn ot) (-1) A (((1 : Int32), nI p, A 69 c, A 70 c, if A 71 c = 0 then (0 : Int32) else 1) :: rest)).2.2) else (A, ((1 : Int32), nI p, A 69 c, A 70 c, if A 71 c = 0 then (0 : Int32) else 1) :: rest))) else (if kn ot < 0 then (A, ((1 : Int32), nI p, A 69 c, A 70 c, if A 71 c = 0 then (0 : Int32) else 1) :: rest) else (if A 69 (y_ix (kn ot)) = 0 then (A, rest) else (if A 69 (y_ix (kn ot)) = 2 then (if A 70 c = A 70 (y_ix (kn ot)) then (A, ((1 : Int32), nI p, (2 : Int32), A 70 (y_ix (kn ot)), (0 : Int32)) :: rest) else (if A 29 (y_ix (A 70 c)) = -1 then (xm_u2 A 29 (y_ix (A 70 c)) (A 70 (y_ix (kn ot))), ((1 : Int32), nI p, (2 : Int32), A 70 (y_ix (kn ot)), (0 : Int32)) :: rest) else (A, ((1 : Int32), nI p, (2 : Int32), A 70 (y_ix (kn ot)), (0 : Int32)) :: rest))) else (A, ((1 : Int32), nI p, A 69 c, A 70 c, if A 71 c = 0 then (0 : Int32) else 1) :: rest)))))) : ((xm_i S 2 c 8) = (1 : Int32) → (ot = none → xc D 30 [.inr (some (0, 0)), .inr (some (2, p)), .inl (xm_i S 2 c 9), .inl (xm_i S 2 c 10)] S (fun r S8 => r = none ∧ xk_C S8 ∧ (kPo S A F.1 F.2 rest X E hb rb nb t w none S8))) ∧ (∀ k7, ot = some k7 → ((xm_i S 2 k7 8) = (0 : Int32) → xc (D + 1) 34 [.inr (some (0, 0)), .inr (some (2, k7))] S (fun r S11 => ∃ x13 : Int32, r = some (.inl x13) ∧ xk_C S11 ∧ (((xm_i S11 2 c 8) = (1 : Int32) → xc D 30 [.inr (some (0, 0)), .inr (some (2, p)), .inl (xm_i S11 2 c 9), .inl (xm_i S11 2 c 10)] S11 (fun r S15 => r = none ∧ xk_C S15 ∧ (kPo S A F.1 F.2 rest X E hb rb nb t w none S15))) ∧ (¬ (xm_i S11 2 c 8) = (1 : Int32) → ∀ t17, (xm_r S11 2 c 11) = t17 → (xc D 22 [.inr (some (0, 0)), .inr (some (2, p)), .inr (xo 4 t17)] S11 (fun r S19 => r = none ∧ xk_C S19 ∧ (kPo S A F.1 F.2 rest X E hb rb nb t w none S19))))))) ∧ (¬ (xm_i S 2 k7 8) = (0 : Int32) → xc D 30 [.inr (some (0, 0)), .inr (some (2, p)), .inl (xm_i S 2 c 9), .inl (xm_i S 2 c 10)] S (fun r S21 => r = none ∧ xk_C S21 ∧ (kPo S A F.1 F.2 rest X E hb rb nb t w none S21))))) ∧ (¬ (xm_i S 2 c 8) = (1 : Int32) → (ot = none → ∀ t24, (xm_r S 2 c 11) = t24 → (xc D 22 [.inr (some (0, 0)), .inr (some (2, p)), .inr (xo 4 t24)] S (fun r S26 => r = none ∧ xk_C S26 ∧ (kPo S A F.1 F.2 rest X E hb rb nb t w none S26)))) ∧ (∀ k23, ot = some k23 → ((xm_i S 2 k23 8) = (2 : Int32) → ∀ t29, (xm_r S 2 c 11) = t29 → (∀ t31, (xm_r S 2 k23 11) = t31 → ((t29 = none → xc D 22 [.inr (some (0, 0)), .inr (some (2, p)), .inr (xo 4 t31)] S (fun r S34 => r = none ∧ xk_C S34 ∧ (kPo S A F.1 F.2 rest X E hb rb nb t w none S34))) ∧ (∀ k33, t29 = some k33 → ((some k33) = t31 → xc D 22 [.inr (some (0, 0)), .inr (some (2, p)), .inr (xo 4 t31)] S (fun r S37 => r = none ∧ xk_C S37 ∧ (kPo S A F.1 F.2 rest X E hb rb nb t w none S37))) ∧ (¬ (some k33) = t31 → ∀ t39, (xm_r S 4 k33 6) = t39 → ((t39 = none → ∀ S42, S42 = xm_sr S 4 k33 6 t31 → (xc D 22 [.inr (some (0, 0)), .inr (some (2, p)), .inr (xo 4 t31)] S42 (fun r S44 => r = none ∧ xk_C S44 ∧ (kPo S A F.1 F.2 rest X E hb rb nb t w none S44)))) ∧ (∀ k41, t39 = some k41 → xc D 22 [.inr (some (0, 0)), .inr (some (2, p)), .inr (xo 4 t31)] S (fun r S46 => r = none ∧ xk_C S46 ∧ (kPo S A F.1 F.2 rest X E hb rb nb t w none S46))))))))) ∧ (¬ (xm_i S 2 k23 8) = (2 : Int32) → ((xm_i S 2 k23 8) = (0 : Int32) → kPo S A F.1 F.2 rest X E hb rb nb t w none S) ∧ (¬ (xm_i S 2 k23 8) = (0 : Int32) → ∀ t49, (xm_r S 2 c 11) = t49 → (xc D 22 [.inr (some (0, 0)), .inr (some (2, p)), .inr (xo 4 t49)] S (fun r S51 => r = none ∧ xk_C S51 ∧ (kPo S A F.1 F.2 rest X E hb rb nb t w none S51))))))) := by
  obtain ⟨t1, t2, t3, t4, t5, t6, t7, t8, t9⟩ := hTT
  have hTT : kTp Nm S A p c e o := ⟨t1, t2, t3, t4, t5, t6, t7, t8, t9⟩
  have hbd := hM.1.2.2.1
  unfold k_bnd at hbd
  have h2 := hM.1.2.2.2.2.2.2.2.1
  have e8 : ∀ k, k < xm_n S 1 6 → xm_i S 2 k 8 = A 69 k := fun k hk => (h2 k hk).2.2.2.2.1
  have hc0 : xm_i S 2 c 8 ≠ 0 := by
    rw [e8 c t1]
    rcases t5 with z | z
    · rw [z]; decide
    · rw [z]; decide
  have hns : ∀ g', xm_r S 2 p 4 = some g' → A 31 g' ≠ 0 := fun g' hg' => by rw [← Option.some.inj (hg.symm.trans hg'), hs]; decide
  have ixo : ∀ k, ot = some k → y_ix (kn ot) = k ∧ ¬ kn ot < 0 := fun k hk => by
    have := (hok k hk).1
    rw [hk]
    exact ⟨y_ix_nI (by omega), nI_pos (by omega)⟩
  -- as the inner one, no one else under way
  have al : (∀ k, ot = some k → xm_i S 2 k 8 ≠ 0) → _ := fun z => c_al IH hM.later (hM.exm t2 (fun k hk hkp => by
    rcases hkids k hk hkp with y | y
    · rw [y]; exact hc0
    · exact z k y) hns) hTT hX hD h75 (show rest.length + 10 * e + 110 + kC Nm ≤ 20000 by omega) rfl rfl rfl rfl
  -- as the other one
  have endF : ∀ (S2 : xm_S) (A2 : y_A) (f2 : Nat), kL S S2 A A2 → kM S2 A2 X E (fun _ => False) hb rb nb t w 0 0 → (∀ j k, xm_i S2 2 k j = xm_i S 2 k j) → (∀ j k, xm_r S2 2 k j = xm_r S 2 k j) → xm_n S2 = xm_n S → (∀ x k, x ≠ 29 → A2 x k = A x k) → (∀ k, ot = some k → xm_i S 2 k 8 ≠ 0) → f2 < xm_n S 1 8 → xc D 22 [.inr (some (0, 0)), .inr (some (2, p)), .inr (some (4, f2))] S2 (fun r S' => r = none ∧ xk_C S' ∧ kPo S A A2 (((1 : Int32), nI p, (2 : Int32), nI f2, (0 : Int32)) :: rest) rest X E hb rb nb t w none S') := fun S2 A2 f2 hL hM2 hI hR hn hA hz hf2 => by
    have hM3 := hM2.exm (p := p) (by rw [hn]; exact t2) (fun k hk hkp => by
      rw [hn] at hk
      rw [hI]
      rw [hR] at hkp
      rcases hkids k hk hkp with y | y
      · rw [y]; exact hc0
      · exact hz k y) (fun g' hg' => by rw [hA 31 g' (by decide)]; rw [hR] at hg'; exact hns g' hg')
    obtain ⟨-, i2⟩ := IH S2 A2 X E hb rb nb t w 0 0 p o rest hM3 (by rw [hn]; exact t2) ((hI _ _).trans t4) (by rw [hA 75 p (by decide)]; exact h75) (hX.L hL) (hD.L hL hM.gb) ((hI _ _).trans t7) ((hR _ _).trans t8) (t9.L hL) (by omega)
    refine xc.mono (i2 f2 0 (by rw [hn]; exact hf2) (Or.inl rfl) rfl (by omega)) ?_
    rintro r S' ⟨v1, v2, A', v3, v4, v5⟩
    exact ⟨v1, v2, rfl, v2, A', v3, v4, hL.tr v5⟩
  have fail : ∀ k, k < xm_n S 1 6 → A 69 k = 2 → ∃ f, xm_r S 2 k 11 = some f ∧ f < xm_n S 1 8 ∧ A 70 k = nI f := fun k hk h69 => by
    have h82 : xm_i S 2 k 8 = 2 := (e8 k hk).trans h69
    obtain ⟨f, hf⟩ := ((hM.2.2.2.2.2.2.2.2.2.2.2.2.2.2.1).2.2.choose_spec.2.2.2 k hk).2.1 h82
    have h11 := (h2 k hk).2.2.2.2.2.2.2.2.2.2.2.2.2.2.2.1
    rw [hf, h69, if_pos rfl] at h11
    exact ⟨f, hf, (h2 k hk).2.2.2.2.2.2.2.2.2.2.2.2.2.2.2.2.2.2.2.2.2.2.2.2.2.2.2 f hf, h11.symm⟩
  refine ⟨fun h8 => ⟨fun hn => ?_, fun k hk => ⟨fun hk0 => ?_, fun hk0 => ?_⟩⟩, fun h8 => ⟨fun hn u24 e24 => ?_, fun k hk => ⟨fun hk2 u29 e29 u31 e31 => ?_, fun hk2 => ⟨fun hk0 => ?_, fun hk0 u49 e49 => ?_⟩⟩⟩⟩
  · have h69 : A 69 c = 1 := (e8 c t1).symm.trans h8
    rw [if_pos h69, if_pos (by rw [hn]; decide)] at hF
    rw [hF]
    exact (al (fun k hk => by rw [hn] at hk; cases hk)).1 h8
  · have h69 : A 69 c = 1 := (e8 c t1).symm.trans h8
    obtain ⟨o1, o2, o3⟩ := hok k hk
    obtain ⟨x1, x2⟩ := ixo k hk
    have hk69 : A 69 k = 0 := (e8 k o1).symm.trans hk0
    obtain ⟨A1, J1, v, b1, b2, b3⟩ := hTB S A X E hb rb nb t w k p o (((1 : Int32), nI p, A 69 c, A 70 c, if A 71 c = 0 then (0 : Int32) else 1) :: rest) hM o1 hk0 o2 t8 hX hD t9.2.2 (by rw [List.length_cons]; omega)
    have hkn : kn ot = nI k := by rw [hk]; rfl
    rw [if_pos h69, if_neg x2, x1, if_pos hk69, hkn, b1] at hF
    rw [hF]
    refine xc.mono b3 ?_
    rintro r S11 ⟨x, w1, w2, A', w3, w4, w5, w6⟩
    have hn6 := w5.1.2.1
    have hEq : (fun k' => E k' ∨ (xm_r S 2 k 2 = some k' ∧ ∃ g, xm_r S 2 k' 4 = some g ∧ A 31 g = 3)) = E := by
      funext k'
      refine propext ⟨fun z => z.resolve_right (fun y => ?_), Or.inl⟩
      obtain ⟨y1, g', y2, y3⟩ := y
      rw [← Option.some.inj (o2.symm.trans y1)] at y2
      rw [← Option.some.inj (hg.symm.trans y2), hs] at y3
      exact absurd y3 (by decide)
    rw [hEq] at w4
    have hpk : ∀ k p, k < xm_n S 1 6 → xm_r S 2 k 2 = some p → p < k := fun k p hk hp => (h2 k hk).2.2.2.2.2.2.2.2.2.2.2.2.2.2.2.2.2.2.2.2.2.2.2.2.2.1 p hp
    have hkT : kT S k k := (kT.i hpk o1).mpr ⟨hk0, Or.inl rfl⟩
    have Lc := w5.2.2.1 c t1
    have Lp := w5.2.2.1 p t2
    obtain ⟨d1, d2, d3, d4, d5, d6⟩ := Lc.2.2.2.2.2.2.2 hc0
    have hcc' := w4.1.2.2.2.2.2.2.2.1 c (by omega)
    have hA8 : A' 69 c = A 69 c := by rw [← hcc'.2.2.2.2.1, d1, e8 c t1]
    have hA68 : A' 68 c = A 68 c := by rw [← hcc'.2.2.2.1, d5, (h2 c t1).2.2.2.1]
    have hA71 : A' 71 c = A 71 c := by rw [← hcc'.2.2.2.2.2.1, d3, (h2 c t1).2.2.2.2.2.1]
    have hA70 : A' 70 c = A 70 c := by
      have q1 := hcc'.2.2.2.2.2.2.2.2.2.2.2.2.2.2.1
      have q2 := (h2 c t1).2.2.2.2.2.2.2.2.2.2.2.2.2.2.1
      rw [hA8, if_pos h69, d2] at q1
      rw [if_pos h69] at q2
      rw [← q1, q2]
    have al3 : (xm_i S11 2 c 8 = 1 → xc D 30 [.inr (some (0, 0)), .inr (some (2, p)), .inl (xm_i S11 2 c 9), .inl (xm_i S11 2 c 10)] S11 (fun r S12 => r = none ∧ xk_C S12 ∧ kPo S11 A' A' (((1 : Int32), nI p, A 69 c, A 70 c, if A 71 c = 0 then (0 : Int32) else 1) :: rest) rest X E hb rb nb t w none S12)) ∧ (¬ xm_i S11 2 c 8 = 1 → ∀ t14, xm_r S11 2 c 11 = t14 → xc D 22 [.inr (some (0, 0)), .inr (some (2, p)), .inr (xo 4 t14)] S11 (fun r S16 => r = none ∧ xk_C S16 ∧ kPo S11 A' A' (((1 : Int32), nI p, A 69 c, A 70 c, if A 71 c = 0 then (0 : Int32) else 1) :: rest) rest X E hb rb nb t w none S16)) := by
      by_cases hp' : xm_i S11 2 p 8 = 0
      · have hg' : xm_r S11 2 p 4 = some g := Lp.2.2.1.trans hg
        have hs' : A' 31 g = 5 := ((w5.2.2.2.2.1 g (hM.gb p g t2 hg)).1).trans hs
        obtain ⟨l', -, hot'⟩ := k_two w4 (by omega) (by omega) hp' (Lc.2.1.trans t3) hg' hs'
        obtain ⟨-, hkids'⟩ := hot' _ rfl
        have hkk := (hkids' k (by omega) ((w5.2.2.1 k o1).2.1.trans o2)).resolve_left o3
        have hM3 := w4.exm (p := p) (by omega) (fun k' hk' hkp' => by
          rcases hkids' k' hk' hkp' with y | y
          · rw [y, d1]; exact hc0
          · have : k' = k := Option.some.inj (y.symm.trans hkk)
            rw [this, w6 k hkT]; decide) (fun g2 hg2 => by
          rw [← Option.some.inj (hg'.symm.trans hg2), hs']; decide)
        have h75' : ¬ A' 75 p = 1 := fun z => by
          obtain ⟨g2, y1, y2⟩ := (w4.2.2.2.2.2.2.2.2.2.1 p (by omega)).2.1 (Or.inl z)
          rw [← Option.some.inj (hg'.symm.trans y1), hs'] at y2
          exact absurd y2 (by decide)
        have al3 := c_al IH (S := S11) (A := A') w4.later hM3 ⟨by omega, by omega, Lc.2.1.trans t3, hp', by rw [hA8]; exact t5, by rw [hA68, w5.2.2.2.2.2.2.1.1]; exact t6, Lp.2.2.2.1.trans t7, Lp.1.trans t8, t9.L w5⟩ (hX.L w5) (hD.L w5 hM.gb) h75' (show rest.length + 10 * e + 110 + kC Nm ≤ 20000 by omega) rfl rfl rfl rfl
        rw [hA8, hA70, hA71] at al3
        exact al3
      · obtain ⟨D', rfl⟩ : ∃ D', D = D' + 1 := ⟨D - 1, by omega⟩
        have hno := c_noop (d := D') (rest := rest) (h := A 69 c) (v := A 70 c) (b := if A 71 c = 0 then (0 : Int32) else 1) w4 (show p < xm_n S11 1 6 by omega) hp'
        exact ⟨fun _ => xc.mono (hno.1 _ _) (fun r S' z => ⟨z.1, z.2.1, rfl, z.2⟩), fun _ u _ => xc.mono (hno.2 u) (fun r S' z => ⟨z.1, z.2.1, rfl, z.2⟩)⟩
    have up : ∀ (r : Option xm_V) (S' : xm_S), (r = none ∧ xk_C S' ∧ kPo S11 A' A' (((1 : Int32), nI p, A 69 c, A 70 c, if A 71 c = 0 then (0 : Int32) else 1) :: rest) rest X E hb rb nb t w none S') → r = none ∧ xk_C S' ∧ kPo S A A1 J1 rest X E hb rb nb t w none S' := fun r S' z => by
      obtain ⟨z1, z2, z3, z4, A3, z5, z6, z7⟩ := z
      exact ⟨z1, z2, z3, z4, A3, w3.tr z5, z6, w5.tr z7⟩
    exact ⟨x, w1, w2, fun y => xc.mono (al3.1 y) up, fun y u eu => xc.mono (al3.2 y u eu) up⟩
  · have h69 : A 69 c = 1 := (e8 c t1).symm.trans h8
    obtain ⟨o1, o2, o3⟩ := hok k hk
    obtain ⟨x1, x2⟩ := ixo k hk
    rw [if_pos h69, if_neg x2, x1, if_neg (fun z => hk0 ((e8 k o1).trans z))] at hF
    rw [hF]
    exact (al (fun k' hk' => by rw [← Option.some.inj (hk.symm.trans hk')]; exact hk0)).1 h8
  · have h69 : ¬ A 69 c = 1 := fun z => h8 ((e8 c t1).trans z)
    rw [if_neg h69, if_pos (by rw [hn]; decide)] at hF
    rw [hF]
    exact (al (fun k hk => by rw [hn] at hk; cases hk)).2 h8 u24 e24
  · have h69 : ¬ A 69 c = 1 := fun z => h8 ((e8 c t1).trans z)
    have h692 : A 69 c = 2 := t5.resolve_left h69
    obtain ⟨o1, o2, o3⟩ := hok k hk
    obtain ⟨x1, x2⟩ := ixo k hk
    have hk69 : A 69 k = 2 := (e8 k o1).symm.trans hk2
    obtain ⟨f, f1, f2, f3⟩ := fail c t1 h692
    obtain ⟨m, m1, m2, m3⟩ := fail k o1 hk69
    have hz : ∀ k', ot = some k' → xm_i S 2 k' 8 ≠ 0 := fun k' hk' => by rw [← Option.some.inj (hk.symm.trans hk'), hk2]; decide
    rw [f1] at e29
    rw [m1] at e31
    rw [if_neg h69, if_neg x2, x1, if_neg (show ¬ A 69 k = 0 by rw [hk69]; decide), if_pos hk69, f3, m3, y_ix_nI (show f < 2 ^ 31 by omega)] at hF
    rw [← e29, ← e31]
    refine ⟨fun z => (by cases z), fun k33 hk33 => ?_⟩
    obtain rfl := Option.some.inj hk33
    have h29 := (hM.1.2.2.2.2.2.2.2.2.2.1 f f2).2.2.2.2.2.2.1
    refine ⟨fun z => ?_, fun z u39 e39 => ⟨fun hn S42 e42 => ?_, fun k41 hk41 => ?_⟩⟩
    · rw [if_pos (by rw [Option.some.inj z])] at hF
      rw [hF]
      exact endF S A m hM.later hM (fun _ _ => rfl) (fun _ _ => rfl) rfl (fun _ _ _ => rfl) hz m2
    · rw [if_neg (fun y => z (by rw [(nI_eq (by omega) (by omega)).mp y])), if_pos (by rw [h29, e39, hn]; rfl)] at hF
      rw [hF]
      subst e42
      have hF2 : kF 0 0 [] [(4, 6)] [29] S (xm_sr S 4 f 6 (some m)) A (xm_u2 A 29 f (nI m)) := ((kF.rf 0 0 S A).sr 4 f 6 (some m) (fun z => absurd z (by decide)) (fun z => absurd z (by decide))).u 29 f (nI m) (fun z => absurd z.1 (by decide)) (fun z => absurd z.1 (by decide))
      exact endF _ _ m (hF2.L hM (by decide) (by decide) (by decide)) (hM.under f2 m2) (fun _ _ => rfl) (fun j k => hF2.2.2.2.1 2 j (by simp) k) rfl (fun x k hx => y_off (fun y => hx y.1)) hz m2
    · have hb41 := (hM.1.2.2.2.2.2.2.2.2.2.1 f f2).2.2.2.2.2.2.2.2.2.2.1 k41 (e39.trans hk41)
      rw [if_neg (fun y => z (by rw [(nI_eq (by omega) (by omega)).mp y])), if_neg (fun y => absurd (show (0 : Int32) ≤ nI k41 from nI_pos' (by omega)) (by
        rw [h29, e39, hk41] at y
        rw [show nI k41 = -1 from y]; decide))] at hF
      rw [hF]
      exact endF S A m hM.later hM (fun _ _ => rfl) (fun _ _ => rfl) rfl (fun _ _ _ => rfl) hz m2
  · have h69 : ¬ A 69 c = 1 := fun z => h8 ((e8 c t1).trans z)
    obtain ⟨o1, o2, o3⟩ := hok k hk
    obtain ⟨x1, x2⟩ := ixo k hk
    rw [if_neg h69, if_neg x2, x1, if_pos ((e8 k o1).symm.trans hk0)] at hF
    rw [hF]
    exact ⟨rfl, hM.1.1, A, y_to.rf _ _, hM, hM.later⟩
  · have h69 : ¬ A 69 c = 1 := fun z => h8 ((e8 c t1).trans z)
    obtain ⟨o1, o2, o3⟩ := hok k hk
    obtain ⟨x1, x2⟩ := ixo k hk
    rw [if_neg h69, if_neg x2, x1, if_neg (fun z => hk0 ((e8 k o1).trans z)), if_neg (fun z => hk2 ((e8 k o1).trans z))] at hF
    rw [hF]
    exact (al (fun k' hk' => by rw [← Option.some.inj (hk.symm.trans hk')]; exact hk0)).2 h8 u49 e49
end
