/-! ===== FINISHTRY (printed by wip/whole/gen9za.py) ===== -/
section
theorem nI_mod {a b : Nat} (h : nI a = nI b) (ha : a < 2 ^ 32) (hb : b < 2 ^ 32) : a = b := by
  have := congrArg (fun x : Int32 => x.toBitVec.toNat) h
  have h1 : ∀ n, (nI n).toBitVec.toNat = n % 2 ^ 32 := fun n => BitVec.toNat_ofNat n 32
  have h2 : a % 2 ^ 32 = b % 2 ^ 32 := by rw [← h1 a, ← h1 b]; exact this
  omega
theorem nI_sub {a b : Nat} (h : b ≤ a) : nI a + -(nI b) = nI (a - b) := by
  have : nI a = nI (a - b) + nI b := by rw [nI_add]; congr 1; omega
  rw [this, Int32.add_assoc, Int32.add_right_neg, Int32.add_zero]
theorem nI_sub_neg {a b : Nat} (ha : a ≤ 1000000) (hb : b ≤ 1000000) : 0 ≤ nI a + -(nI b) ↔ b ≤ a := by
  refine ⟨fun h => ?_, fun h => by rw [nI_sub h]; exact nI_pos' (by omega)⟩
  obtain ⟨z, hz, e⟩ := nI_of (x := nI a + -(nI b)) (Int32.not_lt.mpr h)
  have e2 : nI (z + b) = nI a := by
    rw [← nI_add, ← e, Int32.add_assoc, Int32.add_left_neg, Int32.add_zero]
  have := nI_mod e2 (by omega) (by omega)
  omega
/-- an effect with the same key at the station -/
def k_efA (A : y_A) (s : Nat) (key : Int32) (m : Nat) : Prop := ¬ key = 0 ∧ A 20 m = key ∧ A 18 m = nI s
theorem k_te_no {A : y_A} {n s : Nat} {l1 l3 l4 key : Int32} {js : List y_J} (h17 : A 17 0 = nI n) (hn : n ≤ 4400) : ∀ (r i N : Nat), i + r = n → r < N → (∀ m, i ≤ m → m < n → ¬ k_efA A s key m) → rf_tryEnds_147 N l1 (nI s) l3 l4 key (nI i) A js = rf_tryEnds_147 1 l1 (nI s) l3 l4 key (nI n) A js ∧ (rg_tryEnds_147 1 l1 (nI s) l3 l4 key (nI n) A js → rg_tryEnds_147 N l1 (nI s) l3 l4 key (nI i) A js) := by
  intro r
  induction r with
  | zero =>
    intro i N hi hN hno
    obtain ⟨N, rfl⟩ : ∃ x, N = x + 1 := ⟨N - 1, by omega⟩
    obtain rfl : i = n := by omega
    have cc : A 17 0 ≤ nI i := by rw [h17]; exact nI_le (Nat.le_refl _) (by omega)
    unfold rf_tryEnds_147 rg_tryEnds_147
    rw [if_pos cc, if_pos cc]
    exact ⟨rfl, fun z => ⟨z.1, fun y => absurd cc y⟩⟩
  | succ r ih =>
    intro i N hi hN hno
    obtain ⟨N, rfl⟩ : ∃ x, N = x + 1 := ⟨N - 1, by omega⟩
    have cc : ¬ A 17 0 ≤ nI i := by rw [h17]; exact nI_ge (by omega) (by omega)
    have ixi : y_ix (nI i) = i := y_ix_nI (by omega)
    have yi : y_in (nI i) 4400 := y_in_nI (by omega) (by decide)
    obtain ⟨i1, i2⟩ := ih (i + 1) N (by omega) (by omega) (fun m h1 h2 => hno m (by omega) h2)
    have hno' := hno i (Nat.le_refl _) (by omega)
    have e1 : rf_tryEnds_147 (N + 1) l1 (nI s) l3 l4 key (nI i) A js = rf_tryEnds_147 N l1 (nI s) l3 l4 key (nI (i + 1)) A js := by
      conv => lhs; unfold rf_tryEnds_147
      rw [if_neg cc, ixi, nI_1]
      by_cases c0 : key = 0
      · rw [if_pos c0]
      · rw [if_neg c0]
        by_cases c1 : A 20 i = key
        · rw [if_pos c1]
          by_cases c2 : A 18 i = nI s
          · exact absurd ⟨c0, c1, c2⟩ hno'
          · rw [if_neg c2]
        · rw [if_neg c1]
    refine ⟨e1.trans i1, fun z => ?_⟩
    have y := i2 z
    unfold rg_tryEnds_147
    rw [ixi, nI_1]
    exact ⟨fun z => absurd z cc, fun _ => ⟨fun _ => y, fun c0 => ⟨yi, fun c1 => ⟨fun c2 => absurd ⟨c0, c1, c2⟩ hno', fun _ => y⟩, fun _ => y⟩⟩⟩
theorem k_te_hit {A : y_A} {n s m : Nat} {l1 l3 l4 key : Int32} {js : List y_J} (h17 : A 17 0 = nI n) (hn : n ≤ 4400) (hm : m < n) (hk : k_efA A s key m) (hlen : js.length < 20000) : ∀ (r i N : Nat), i + r = m → r < N → (∀ e, i ≤ e → e < m → ¬ k_efA A s key e) → rf_tryEnds_147 N l1 (nI s) l3 l4 key (nI i) A js = (A, ((1 : Int32), l1, (1 : Int32), (if (0 : Int32) ≤ A 21 m then A 21 m else -(A 21 m)), (0 : Int32)) :: js) ∧ rg_tryEnds_147 N l1 (nI s) l3 l4 key (nI i) A js := by
  intro r
  induction r with
  | zero =>
    intro i N hi hN hno
    obtain ⟨N, rfl⟩ : ∃ x, N = x + 1 := ⟨N - 1, by omega⟩
    obtain rfl : i = m := by omega
    have cc : ¬ A 17 0 ≤ nI i := by rw [h17]; exact nI_ge (by omega) (by omega)
    have ixi : y_ix (nI i) = i := y_ix_nI (by omega)
    have yi : y_in (nI i) 4400 := y_in_nI (by omega) (by decide)
    obtain ⟨c0, c1, c2⟩ := hk
    unfold rf_tryEnds_147 rg_tryEnds_147
    rw [if_neg cc, ixi, if_neg c0, if_pos c1, if_pos c2]
    refine ⟨?_, fun z => absurd z cc, fun _ => ⟨fun z => absurd z c0, fun _ => ⟨yi, fun _ => ⟨fun _ => ⟨fun _ => ⟨hlen, trivial⟩, fun _ => ⟨hlen, trivial⟩⟩, fun z => absurd c2 z⟩, fun z => absurd c1 z⟩⟩⟩
    by_cases c3 : (0 : Int32) ≤ A 21 i
    · rw [if_pos c3, if_pos c3]
    · rw [if_neg c3, if_neg c3]
  | succ r ih =>
    intro i N hi hN hno
    obtain ⟨N, rfl⟩ : ∃ x, N = x + 1 := ⟨N - 1, by omega⟩
    have cc : ¬ A 17 0 ≤ nI i := by rw [h17]; exact nI_ge (by omega) (by omega)
    have ixi : y_ix (nI i) = i := y_ix_nI (by omega)
    have yi : y_in (nI i) 4400 := y_in_nI (by omega) (by decide)
    obtain ⟨i1, i2⟩ := ih (i + 1) N (by omega) (by omega) (fun m h1 h2 => hno m (by omega) h2)
    have hno' := hno i (Nat.le_refl _) (by omega)
    unfold rf_tryEnds_147 rg_tryEnds_147
    rw [if_neg cc, ixi, nI_1]
    refine ⟨?_, fun z => absurd z cc, fun _ => ⟨fun _ => i2, fun c0 => ⟨yi, fun c1 => ⟨fun c2 => absurd ⟨c0, c1, c2⟩ hno', fun _ => i2⟩, fun _ => i2⟩⟩⟩
    by_cases c0 : key = 0
    · rw [if_pos c0]; exact i1
    · rw [if_neg c0]
      by_cases c1 : A 20 i = key
      · rw [if_pos c1]
        by_cases c2 : A 18 i = nI s
        · exact absurd ⟨c0, c1, c2⟩ hno'
        · rw [if_neg c2]; exact i1
      · rw [if_neg c1]; exact i1
theorem c_effectOf {d : Nat} {S : xm_S} {A : y_A} {X E B : Nat → Prop} {hb rb nb t w e1 e2 s : Nat} {key : Int32} {Q : Option xm_V → xm_S → Prop} (hM : kM S A X E B hb rb nb t w e1 e2) (hs : s < xm_n S 1 0) (hno : (∀ m, m < xm_n S 1 9 → ¬ k_efA A s key m) → Q (some (.inr none)) S) (hit : ∀ m, m < xm_n S 1 9 → k_efA A s key m → (∀ e, e < m → ¬ k_efA A s key e) → Q (some (.inr (some (3, m)))) S) : xc d 56 [.inr (some (0, 0)), .inl key, .inr (some (9, s))] S Q := by
  have hC := hM.1.1
  have hbb := hM.1.2.2.1
  unfold k_bnd at hbb
  have h5 := hM.1.2.2.2.2.2.2.2.2.2.2.1
  have hl9 := hM.1.2.2.2.1.2.2.2.2.2.2.1
  have loop : ∀ (r i : Nat), i + r = xm_n S 1 9 → (∀ e, e < i → ¬ k_efA A s key e) → xw d 56 2 [some (.inr (some (0, 0))), some (.inl key), some (.inr (some (9, s))), some (.inl (nI i))] [] S Q := by
    intro r
    induction r with
    | zero =>
      intro i hi hk
      have cc : nI (xm_n S 1 9) ≤ nI i := nI_le (by omega) (by omega)
      exact cw_effectOf_2 hC ⟨fun z => hno (fun m hm y => y.1 z), fun _ => ⟨fun _ => hno (fun m hm => hk m (by omega)), fun z => absurd cc z⟩⟩
    | succ r ih =>
      intro i hi hk
      have cc : ¬ nI (xm_n S 1 9) ≤ nI i := nI_ge (by omega) (by omega)
      obtain ⟨⟨s', s1, s2, s3⟩, ⟨o, o1, o2, o3, o4⟩, -⟩ := h5 i (by omega)
      have yi : y_in (nI i) (xm_n S 1 9) := y_in_nI (by omega) (by omega)
      have nx : ¬ k_efA A s key i → xw d 56 2 [some (.inr (some (0, 0))), some (.inl key), some (.inr (some (9, s))), some (.inl (nI i + 1))] [] S Q := fun z => by
        rw [nI_1]
        refine ih (i + 1) (by omega) (fun e he => ?_)
        by_cases c : e = i
        · rw [c]; exact z
        · exact hk e (by omega)
      refine cw_effectOf_2 hC ⟨fun z => hno (fun m hm y => y.1 z), fun c0 => ⟨fun z => absurd z cc, fun _ => ⟨yi, i, by rw [y_ix_nI (by omega)]; exact hl9 i (by omega), fun t6 e6 => ⟨o, e6.symm.trans o1, fun c1 => ⟨yi, fun t11 e11 => ⟨fun c2 => ⟨yi, ?_⟩, fun c2 => ?_⟩⟩, fun c1 => ?_⟩⟩⟩⟩
      · refine hit i (by omega) ⟨c0, o4.symm.trans c1, ?_⟩ hk
        rw [s3, Option.some.inj (s1.symm.trans (e11.trans c2))]
      · refine nx (fun z => c2 (e11.symm.trans ?_))
        have := z.2.2
        rw [s3] at this
        rw [s1, (nI_eq (a := s') (b := s) (by omega) (by omega)).mp this]
      · exact nx (fun z => c1 (o4.trans z.2.1))
  exact cw_effectOf hC (loop (xm_n S 1 9) 0 (by omega) (fun e he => absurd he (by omega)))
/-- water is moved -/
theorem c_moveWater {d : Nat} (hd : 90 ≤ d) {S : xm_S} {A : y_A} {hb rb nb t c s o : Nat} (hM : kM S A (fun _ => False) (fun _ => False) (fun _ => False) hb rb nb t 0 0 0) (hc : c < xm_n S 1 6) (h0 : xm_i S 2 c 8 = 0) (hg : xm_r S 2 c 4 = none) (hs : s < xm_n S 1 0) (hco : xm_r S 2 c 1 = some o) (ho : o < xm_n S 1 5) (hact : ¬ A 53 o = 0) :
    ∃ A2 js2, rf_tryEnds_147 20000 (nI c) (nI s) (nI o) (A 53 o) (A 55 o) 0 A [] = (A2, js2) ∧ rg_tryEnds_147 20000 (nI c) (nI s) (nI o) (A 53 o) (A 55 o) 0 A [] ∧ xc (d + 1) 55 [.inr (some (0, 0)), .inr (some (2, c)), .inr (some (9, s))] S (kPo S A A2 js2 [] (fun _ => False) (fun _ => False) hb rb nb t 0) := by
  have hC := hM.1.1
  have hbb := hM.1.2.2.1
  unfold k_bnd at hbb
  have h17 : A 17 0 = nI (xm_n S 1 9) := hM.1.2.1.2.2.2.2.2.2.2.2.1
  have w8 := hM.1.2.1.2.2.2.2.2.2.2.1
  obtain ⟨-, -, -, q3, q4, q5, -⟩ := hM.1.2.2.2.2.2.2.2.2.2.2.2.1 o ho
  obtain ⟨k1, k2, k3, k4, -⟩ := hM.1.2.2.2.2.2.2.1 s hs
  obtain ⟨sp1, sp2, sp3, sp4, -⟩ := (hM.2.2.2.2.2.2.2.2.2.2.2.2.2.2.2.2.1).1
  obtain ⟨r1, r2, r3⟩ := sp1 s hs
  obtain ⟨r4, r5⟩ := sp4 o ho
  obtain ⟨cap, cap1, cap2, cap3⟩ := k_rg (x := A 3 s) (a := 0) (b := 1000000) (by decide) (Int32.le_trans r1 r2) r3
  obtain ⟨lev, lev1, lev2, lev3⟩ := k_rg (x := A 2 s) (a := 0) (b := cap) (by omega) r1 (by rw [← cap1]; exact r2) (by omega)
  obtain ⟨v, v1, v2, v3⟩ := k_rg (x := A 54 o) (a := 0) (b := 1000000) (by decide) r4 r5
  have ixs : y_ix (nI s) = s := y_ix_nI (by omega)
  have ixo : y_ix (nI o) = o := y_ix_nI (by omega)
  have ix9 : y_ix (nI (xm_n S 1 9)) = xm_n S 1 9 := y_ix_nI (by omega)
  have ix8 : y_ix (nI (xm_n S 1 8)) = xm_n S 1 8 := y_ix_nI (by omega)
  have ys : y_in (nI s) 8 := y_in_nI (by omega) (by decide)
  have yo : y_in (nI o) 60 := y_in_nI (by omega) (by decide)
  have hn9 : xm_n S 1 9 < 4400 := by
    have := (hM.2.2.2.2.2.2.2.2.2.2.2.2.2.2.1).2.1
    have := k_hows.lt (v := 1) hc (by rw [h0]; decide)
    omega
  have y9 : y_in (nI (xm_n S 1 9)) 4400 := y_in_nI hn9 (by decide)
  have cc : nI (xm_n S 1 9) ≤ nI (xm_n S 1 9) := Int32.le_refl _
  obtain ⟨f1, f2⟩ := c_failTry (d := d - 1) (kd := 5) (rest := []) (by omega) hM hc h0 hg hs (by decide) (by decide)
  obtain ⟨g1, g2⟩ := c_failTry (d := d - 1) (kd := 6) (rest := []) (by omega) hM hc h0 hg hs (by decide) (by decide)
  rw [show d - 1 + 1 = d by omega] at f2 g2
  by_cases hex : ∃ m, m < xm_n S 1 9 ∧ k_efA A s (A 55 o) m
  · -- done before
    obtain ⟨m, hm, hme, hmin⟩ : ∃ m, m < xm_n S 1 9 ∧ k_efA A s (A 55 o) m ∧ ∀ e, e < m → ¬ k_efA A s (A 55 o) e := by
      obtain ⟨m, hm, hme⟩ := hex
      induction m using Nat.strongRecOn with
      | ind m ih =>
        by_cases h : ∃ e, e < m ∧ k_efA A s (A 55 o) e
        · obtain ⟨e, e1, e2⟩ := h
          exact ih e e1 (by omega) e2
        · exact ⟨m, hm, hme, fun e he z => h ⟨e, he, z⟩⟩
    obtain ⟨t1, t2⟩ := k_te_hit (l1 := nI c) (l3 := nI o) (l4 := A 53 o) (js := []) h17 (by omega) hm hme (by decide) m 0 20000 (by omega) (by omega) (fun e _ he => hmin e he)
    rw [show nI 0 = (0 : Int32) from rfl] at t1 t2
    refine ⟨_, _, t1, t2, cw_moveWater hC (fun t1' e1 => ⟨o, e1.symm.trans hco, ?_⟩)⟩
    rw [q5]
    refine c_effectOf hM hs (fun z => absurd hme (z m hm)) (fun m' hm' hme' hmin' => ?_)
    have hmm : m' = m := by
      rcases Nat.lt_trichotomy m' m with y | y | y
      · exact absurd hme' (hmin m' y)
      · exact y
      · exact absurd hme (hmin' m y)
    subst hmm
    refine ⟨some m', rfl, hC, (fun z => by cases z), fun k7 e7 => ?_⟩
    obtain rfl := Option.some.inj e7
    have e21 := (hM.1.2.2.2.2.2.2.2.2.2.2.1 m' hm').2.2.1
    rw [e21]
    obtain ⟨i1, -⟩ := c_endTry (rest := []) hM hc h0 hg (by decide)
    refine xc.up (xc.mono (i1 (if (0 : Int32) ≤ A 21 m' then A 21 m' else -(A 21 m')) 0 (Or.inl rfl) (by omega) rfl) ?_) hd
    rintro r S16 ⟨v1, v2, v3⟩
    exact ⟨v1, v2, rfl, v2, v3⟩
  · have hno : ∀ m, m < xm_n S 1 9 → ¬ k_efA A s (A 55 o) m := fun m hm z => hex ⟨m, hm, z⟩
    obtain ⟨t1, t2⟩ := k_te_no (s := s) (key := A 55 o) (l1 := nI c) (l3 := nI o) (l4 := A 53 o) (js := []) h17 (by omega) (xm_n S 1 9) 0 20000 (by omega) (by omega) (fun m _ hm => hno m hm)
    rw [show nI 0 = (0 : Int32) from rfl] at t1 t2
    suffices H : ∀ G : Prop, ((∃ A2 js2, rf_tryEnds_147 20000 (nI c) (nI s) (nI o) (A 53 o) (A 55 o) 0 A [] = (A2, js2) ∧ rg_tryEnds_147 20000 (nI c) (nI s) (nI o) (A 53 o) (A 55 o) 0 A [] ∧ xc (d + 1) 55 [.inr (some (0, 0)), .inr (some (2, c)), .inr (some (9, s))] S (kPo S A A2 js2 [] (fun _ => False) (fun _ => False) hb rb nb t 0)) → G) → G from H _ id
    intro G hG
    have out : ∀ A2 js2, rf_tryEnds_147 1 (nI c) (nI s) (nI o) (A 53 o) (A 55 o) (nI (xm_n S 1 9)) A [] = (A2, js2) → rg_tryEnds_147 1 (nI c) (nI s) (nI o) (A 53 o) (A 55 o) (nI (xm_n S 1 9)) A [] → xc (d + 1) 55 [.inr (some (0, 0)), .inr (some (2, c)), .inr (some (9, s))] S (kPo S A A2 js2 [] (fun _ => False) (fun _ => False) hb rb nb t 0) → G := fun A2 js2 x1 x2 x3 => hG ⟨A2, js2, t1.trans x1, t2 x2, x3⟩
    unfold rf_tryEnds_147 rg_tryEnds_147 at out
    rw [h17, w8, ixs, ixo, ix9, ix8, nI_1, nI_1, nI_pred, if_pos cc] at out
    by_cases ca : A 53 o = 1
    · rw [if_pos ca] at out
      by_cases cb : A 54 o ≤ A 2 s
      · have hvl : v ≤ lev := by
          rw [v1, lev1] at cb
          exact (nI_leI (by omega) (by omega)).mp cb
        have es : A 2 s + -(A 54 o) = nI (lev - v) := by rw [lev1, v1, nI_sub hvl]
        have c0 : (0 : Int32) ≤ A 2 s + -(A 54 o) := by rw [es]; exact nI_pos' (by omega)
        have c1 : A 2 s + -(A 54 o) ≤ A 3 s := by rw [es, cap1]; exact nI_le (by omega) (by omega)
        rw [if_pos cb] at out
        refine out _ _ rfl ⟨fun _ => ⟨yo, fun _ => ⟨ys, fun _ => ⟨y9, by decide, trivial⟩, fun z => absurd cb z⟩, fun z => absurd ca z⟩, fun z => absurd cc z⟩ ?_
        refine cw_moveWater hC (fun t1' e1 => ⟨o, e1.symm.trans hco, ?_⟩)
        rw [q5]
        refine c_effectOf hM hs (fun _ => ⟨none, rfl, hC, fun _ => ?_, (fun k7 e7 => by cases e7)⟩) (fun m hm hme => absurd hme (hno m hm))
        rw [q3, k4, q4, k2]
        exact ⟨fun _ => ⟨fun _ => ⟨fun _ => c_effect (lit := -(A 54 o)) hd hM hc h0 hg hs ho ⟨c0, c1⟩ (by decide), fun z => absurd c1 z⟩, fun z => absurd c0 z⟩, fun z => absurd ca z⟩
      · have hvl : ¬ v ≤ lev := fun y => cb (by rw [v1, lev1]; exact nI_le y (by omega))
        have c0 : ¬ (0 : Int32) ≤ A 2 s + -(A 54 o) := by
          rw [lev1, v1]
          exact fun y => hvl ((nI_sub_neg (by omega) (by omega)).mp y)
        rw [if_neg cb] at out
        refine out _ _ rfl ⟨fun _ => ⟨yo, fun _ => ⟨ys, fun z => absurd z cb, fun _ => ⟨f1, by decide, trivial⟩⟩, fun z => absurd ca z⟩, fun z => absurd cc z⟩ ?_
        refine cw_moveWater hC (fun t1' e1 => ⟨o, e1.symm.trans hco, ?_⟩)
        rw [q5]
        refine c_effectOf hM hs (fun _ => ⟨none, rfl, hC, fun _ => ?_, (fun k7 e7 => by cases e7)⟩) (fun m hm hme => absurd hme (hno m hm))
        rw [q3, k4, q4, k2]
        exact ⟨fun _ => ⟨fun z => absurd z c0, fun _ => f2⟩, fun z => absurd ca z⟩
    · rw [if_neg ca] at out
      have es : A 2 s + A 54 o = nI (lev + v) := by rw [lev1, v1, nI_add]
      have c0 : (0 : Int32) ≤ A 2 s + A 54 o := by rw [es]; exact nI_pos' (by omega)
      by_cases cb : A 2 s + A 54 o ≤ A 3 s
      · rw [if_pos cb] at out
        refine out _ _ rfl ⟨fun _ => ⟨yo, fun z => absurd z ca, fun _ => ⟨ys, fun _ => ⟨y9, by decide, trivial⟩, fun z => absurd cb z⟩⟩, fun z => absurd cc z⟩ ?_
        refine cw_moveWater hC (fun t1' e1 => ⟨o, e1.symm.trans hco, ?_⟩)
        rw [q5]
        refine c_effectOf hM hs (fun _ => ⟨none, rfl, hC, fun _ => ?_, (fun k7 e7 => by cases e7)⟩) (fun m hm hme => absurd hme (hno m hm))
        rw [q3, k4, q4, k2]
        exact ⟨fun z => absurd z ca, fun _ => ⟨fun _ => ⟨fun _ => c_effect (lit := A 54 o) hd hM hc h0 hg hs ho ⟨c0, cb⟩ (by decide), fun z => absurd cb z⟩, fun z => absurd c0 z⟩⟩
      · rw [if_neg cb] at out
        refine out _ _ rfl ⟨fun _ => ⟨yo, fun z => absurd z ca, fun _ => ⟨ys, fun z => absurd z cb, fun _ => ⟨g1, by decide, trivial⟩⟩⟩, fun z => absurd cc z⟩ ?_
        refine cw_moveWater hC (fun t1' e1 => ⟨o, e1.symm.trans hco, ?_⟩)
        rw [q5]
        refine c_effectOf hM hs (fun _ => ⟨none, rfl, hC, fun _ => ?_, (fun k7 e7 => by cases e7)⟩) (fun m hm hme => absurd hme (hno m hm))
        rw [q3, k4, q4, k2]
        exact ⟨fun z => absurd z ca, fun _ => ⟨fun _ => ⟨fun z => absurd z cb, fun _ => g2⟩, fun z => absurd c0 z⟩⟩
/-- a try ends -/
theorem c_finishTry {d : Nat} (hd : 91 ≤ d) {S : xm_S} {A : y_A} {hb rb nb t c : Nat} (hM : kM S A (fun _ => False) (fun _ => False) (fun _ => False) hb rb nb t 0 0 0) (hc : c < xm_n S 1 6) (h0 : xm_i S 2 c 8 = 0) (hg : xm_r S 2 c 4 = none) :
    ∃ A2 js2, rf_tryEnds (nI c) A [] = (A2, js2) ∧ rg_tryEnds (nI c) A [] ∧ xc (d + 1) 54 [.inr (some (0, 0)), .inr (some (2, c))] S (kPo S A A2 js2 [] (fun _ => False) (fun _ => False) hb rb nb t 0) := by
  have hC := hM.1.1
  have hbb := hM.1.2.2.1
  unfold k_bnd at hbb
  have hcc := hM.1.2.2.2.2.2.2.2.1 c hc
  obtain ⟨o, o1, o2, o3⟩ := hcc.2.2.2.2.2.2.2.2.2.1
  obtain ⟨s, s1⟩ := (hM.2.2.2.1 c hc).2.1 hg
  have h66 := hcc.2.2.2.2.2.2.2.2.2.2.2.2.1
  rw [s1] at h66
  have h66' : A 66 c = nI s := h66
  have hs : s < xm_n S 1 0 := hcc.2.2.2.2.2.2.2.2.2.2.2.2.2.2.2.2.2.2.2.2.2.2.2.2.1 s s1
  have w2 : A 5 0 = nI (xm_n S 1 1) := hM.1.2.1.2.1
  have w8 := hM.1.2.1.2.2.2.2.2.2.2.1
  obtain ⟨-, -, -, q3, q4, q5, -⟩ := hM.1.2.2.2.2.2.2.2.2.2.2.2.1 o o2
  have k4 := (hM.1.2.2.2.2.2.2.1 s hs).2.2.2.1
  have ht := hM.1.2.2.2.2.1.1
  have sp2 := ((hM.2.2.2.2.2.2.2.2.2.2.2.2.2.2.2.2.1).1).2.1
  have h11 := hM.1.2.2.2.2.2.2.2.2.2.2.2.2.2.2.2.2.1
  have ixc : y_ix (nI c) = c := y_ix_nI (by omega)
  have ixs : y_ix (nI s) = s := y_ix_nI (by omega)
  have ixo : y_ix (nI o) = o := y_ix_nI (by omega)
  have ix8 : y_ix (nI (xm_n S 1 8)) = xm_n S 1 8 := y_ix_nI (by omega)
  have ys : y_in (nI s) 8 := y_in_nI (by omega) (by decide)
  have yo : y_in (nI o) 60 := y_in_nI (by omega) (by decide)
  have yc : y_in (nI c) 4400 := y_in_nI (by omega) (by decide)
  obtain ⟨e1, -⟩ := c_endTry (rest := []) hM hc h0 hg (by decide)
  have loop : ∀ (r i N : Nat), i + r = xm_n S 1 1 → r < N → ∃ A2 js2, rf_tryEnds_25 N (nI c) (nI s) (nI o) (A 53 o) (nI i) A [] = (A2, js2) ∧ rg_tryEnds_25 N (nI c) (nI s) (nI o) (A 53 o) (nI i) A [] ∧ xw (d + 1) 54 12 [some (.inr (some (0, 0))), some (.inr (some (2, c))), some (.inr (some (9, s))), some (.inl (nI i))] [] S (kPo S A A2 js2 [] (fun _ => False) (fun _ => False) hb rb nb t 0) := by
    intro r
    induction r with
    | zero =>
      intro i N hi hN
      obtain ⟨N, rfl⟩ : ∃ x, N = x + 1 := ⟨N - 1, by omega⟩
      have cc : nI (xm_n S 1 1) ≤ nI i := nI_le (by omega) (by omega)
      unfold rf_tryEnds_25 rg_tryEnds_25
      rw [w2, if_pos cc, ixs, ixo]
      by_cases ca : A 53 o = 0
      · rw [if_pos ca]
        refine ⟨_, _, rfl, ⟨fun _ => ⟨fun _ => ⟨ys, by decide, trivial⟩, fun z => absurd ca z⟩, fun z => absurd cc z⟩, cw_finishTry_12 hC ⟨fun _ t2 e2 => ⟨o, e2.symm.trans o1, fun _ => ?_, fun z => absurd (q3.trans ca) z⟩, fun z => absurd cc z⟩⟩
        rw [k4]
        refine xc.up (xc.mono (e1 (A 2 s) 0 (Or.inl rfl) (by omega) rfl) ?_) (show 90 ≤ d by omega)
        rintro r S16 ⟨v1, v2, v3⟩
        exact ⟨v1, v2, rfl, v2, v3⟩
      · rw [if_neg ca]
        obtain ⟨A2, js2, m1, m2, m3⟩ := c_moveWater (d := d - 1) (by omega) hM hc h0 hg hs o1 o2 ca
        rw [show d - 1 + 1 = d by omega] at m3
        refine ⟨A2, js2, m1, ⟨fun _ => ⟨fun z => absurd z ca, fun _ => ⟨yo, m2⟩⟩, fun z => absurd cc z⟩, cw_finishTry_12 hC ⟨fun _ t2 e2 => ⟨o, e2.symm.trans o1, fun z => absurd (q3.symm.trans z) ca, fun _ => ?_⟩, fun z => absurd cc z⟩⟩
        refine xc.mono m3 ?_
        rintro r S16 ⟨v1, v2, v3⟩
        exact ⟨v1, v2, rfl, v2, v3⟩
    | succ r ih =>
      intro i N hi hN
      obtain ⟨N, rfl⟩ : ∃ x, N = x + 1 := ⟨N - 1, by omega⟩
      have cc : ¬ nI (xm_n S 1 1) ≤ nI i := nI_ge (by omega) (by omega)
      have ixi : y_ix (nI i) = i := y_ix_nI (by omega)
      have y30 : y_in (nI i) 30 := y_in_nI (by omega) (by decide)
      have yi : y_in (nI i) (xm_n S 1 1) := y_in_nI (by omega) (by omega)
      obtain ⟨A2, js2, m1, m2, m3⟩ := ih (i + 1) N (by omega) (by omega)
      obtain ⟨e, f1, f2, ⟨s', f3, f4, f5⟩, f6, f7, f8, f9⟩ := h11 i (by omega)
      have f6' : xm_i S 8 e 1 = A 7 i := f6
      have f7' : xm_i S 8 e 2 = A 8 i := f7
      have f8' : xm_i S 8 e 3 = A 9 i := f8
      have f9' : xm_i S 8 e 4 = A 10 i := f9
      have hsi : A 6 i = nI s ↔ xm_r S 8 e 0 = some s := by
        rw [f5, f3]
        exact ⟨fun z => by rw [(nI_eq (a := s') (b := s) (by omega) (by omega)).mp z], fun z => by rw [Option.some.inj z]⟩
      have hls : xm_l S 1 (y_ix (nI i)) = (8, e) := by rw [ixi]; exact f1
      unfold rf_tryEnds_25 rg_tryEnds_25
      rw [w2, if_neg cc, ixi, nI_1]
      rw [← nI_1] at m3
      by_cases c1 : A 6 i = nI s
      · rw [if_pos c1]
        by_cases c2 : A 7 i = A 53 o
        · rw [if_pos c2]
          have c2' : xm_i S 8 e 1 = xm_i S 6 o 3 := by rw [f6', q3]; exact c2
          by_cases c3 : A 0 0 < A 8 i
          · rw [if_pos c3]
            exact ⟨A2, js2, m1, ⟨fun z => absurd z cc, fun _ => ⟨y30, fun _ => ⟨fun _ => ⟨fun _ => m2, fun z => absurd c3 z⟩, fun z => absurd c2 z⟩, fun z => absurd c1 z⟩⟩, cw_finishTry_12 hC ⟨fun z => absurd z cc, fun _ => ⟨yi, e, hls, fun t13 e13 => ⟨o, e13.symm.trans o1, fun t16 e16 => ⟨fun _ => ⟨fun _ => ⟨fun _ => m3, fun z => absurd (by rw [ht, f7']; exact c3) z⟩, fun z => absurd c2' z⟩, fun z => absurd (e16.symm.trans (hsi.mp c1)) z⟩⟩⟩⟩⟩
          · rw [if_neg c3]
            by_cases c4 : A 0 0 ≤ A 9 i
            · rw [if_pos c4]
              obtain ⟨b1, b2⟩ := sp2 i (by omega)
              obtain ⟨g1, g2⟩ := c_failTry (d := d - 1) (kd := A 10 i) (rest := []) (by omega) hM hc h0 hg hs ⟨Int32.le_trans (by decide) b1, Int32.le_trans b2 (by decide)⟩ (by decide)
              rw [show d - 1 + 1 = d by omega] at g2
              refine ⟨_, _, rfl, ⟨fun z => absurd z cc, fun _ => ⟨y30, fun _ => ⟨fun _ => ⟨fun z => absurd z c3, fun _ => ⟨fun _ => ⟨g1, by decide, trivial⟩, fun z => absurd c4 z⟩⟩, fun z => absurd c2 z⟩, fun z => absurd c1 z⟩⟩, cw_finishTry_12 hC ⟨fun z => absurd z cc, fun _ => ⟨yi, e, hls, fun t13 e13 => ⟨o, e13.symm.trans o1, fun t16 e16 => ⟨fun _ => ⟨fun _ => ⟨fun z => absurd (by rw [ht, f7'] at z; exact z) c3, fun _ => ⟨fun z => absurd (by rw [ht, f8'] at z; exact z) (Int32.not_lt.mpr c4), fun _ => ⟨yi, ?_⟩⟩⟩, fun z => absurd c2' z⟩, fun z => absurd (e16.symm.trans (hsi.mp c1)) z⟩⟩⟩⟩⟩
              rw [f9', w8, ix8, nI_1, nI_pred]
              exact g2
            · rw [if_neg c4]
              exact ⟨A2, js2, m1, ⟨fun z => absurd z cc, fun _ => ⟨y30, fun _ => ⟨fun _ => ⟨fun z => absurd z c3, fun _ => ⟨fun z => absurd z c4, fun _ => m2⟩⟩, fun z => absurd c2 z⟩, fun z => absurd c1 z⟩⟩, cw_finishTry_12 hC ⟨fun z => absurd z cc, fun _ => ⟨yi, e, hls, fun t13 e13 => ⟨o, e13.symm.trans o1, fun t16 e16 => ⟨fun _ => ⟨fun _ => ⟨fun z => absurd (by rw [ht, f7'] at z; exact z) c3, fun _ => ⟨fun _ => m3, fun z => absurd (by rw [ht, f8']; exact Int32.not_le.mp c4) z⟩⟩, fun z => absurd c2' z⟩, fun z => absurd (e16.symm.trans (hsi.mp c1)) z⟩⟩⟩⟩⟩
        · rw [if_neg c2]
          have c2' : ¬ xm_i S 8 e 1 = xm_i S 6 o 3 := by rw [f6', q3]; exact c2
          exact ⟨A2, js2, m1, ⟨fun z => absurd z cc, fun _ => ⟨y30, fun _ => ⟨fun z => absurd z c2, fun _ => m2⟩, fun z => absurd c1 z⟩⟩, cw_finishTry_12 hC ⟨fun z => absurd z cc, fun _ => ⟨yi, e, hls, fun t13 e13 => ⟨o, e13.symm.trans o1, fun t16 e16 => ⟨fun _ => ⟨fun z => absurd z c2', fun _ => m3⟩, fun z => absurd (e16.symm.trans (hsi.mp c1)) z⟩⟩⟩⟩⟩
      · rw [if_neg c1]
        exact ⟨A2, js2, m1, ⟨fun z => absurd z cc, fun _ => ⟨y30, fun z => absurd z c1, fun _ => m2⟩⟩, cw_finishTry_12 hC ⟨fun z => absurd z cc, fun _ => ⟨yi, e, hls, fun t13 e13 => ⟨o, e13.symm.trans o1, fun t16 e16 => ⟨fun z => absurd (hsi.mpr (e16.trans z)) c1, fun _ => m3⟩⟩⟩⟩⟩
  obtain ⟨A2, js2, m1, m2, m3⟩ := loop (xm_n S 1 1) 0 20000 (by omega) (by omega)
  refine ⟨A2, js2, ?_, ?_, cw_finishTry hC (fun t1 e1 => ⟨fun z => ?_, fun k3 e3 => ?_⟩)⟩
  · unfold rf_tryEnds
    rw [ixc, h66', o3, ixo]
    exact m1
  · unfold rg_tryEnds
    rw [ixc, h66', o3, ixo]
    exact ⟨yc, yo, m2⟩
  · rw [s1, z] at e1; cases e1
  · rw [s1, e3] at e1
    rw [← Option.some.inj e1]
    exact m3
end
