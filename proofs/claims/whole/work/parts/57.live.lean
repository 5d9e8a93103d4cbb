/-! ===== LOOPS over the live against loops over all calls ===== -/
section
/-- from the live's place i on lie all calls under way from number c on -/
def kG (S : xm_S) (i c : Nat) : Prop := (∀ e, c ≤ e → e < xm_n S 1 6 → xm_i S 2 e 8 = 0 → ∃ m, i ≤ m ∧ m < xm_n S 1 7 ∧ xm_l S 7 m = (2, e)) ∧ ∀ m k, i ≤ m → m < xm_n S 1 7 → xm_l S 7 m = (2, k) → c ≤ k
theorem kG.z {S : xm_S} (h : k_live S) : kG S 0 0 := ⟨fun e _ he h0 => by
  obtain ⟨m, h1, h2⟩ := h.2.2 e he h0
  exact ⟨m, Nat.zero_le _, h1, h2⟩, fun _ _ _ _ _ => Nat.zero_le _⟩
theorem kG.s {S : xm_S} {i c k : Nat} (h : k_live S) (g : kG S i c) (hi : i < xm_n S 1 7) (hk : xm_l S 7 i = (2, k)) : kG S (i + 1) (k + 1) := by
  refine ⟨fun e he hn h0 => ?_, fun m e hm hn he => h.2.1 i m k e (by omega) hn hk he⟩
  obtain ⟨m, a, b, c'⟩ := g.1 e (by have := g.2 i k (Nat.le_refl _) hi hk; omega) hn h0
  refine ⟨m, ?_, b, c'⟩
  by_cases hm : m = i
  · subst hm
    rw [hk] at c'
    cases c'
    omega
  · omega
theorem kG.gap {S : xm_S} {i c k : Nat} (h : k_live S) (g : kG S i c) (hi : i < xm_n S 1 7) (hk : xm_l S 7 i = (2, k)) (e : Nat) (h1 : c ≤ e) (h2 : e < k) (hn : k < xm_n S 1 6) : xm_i S 2 e 8 ≠ 0 := fun z => by
  obtain ⟨m, a, b, c'⟩ := g.1 e h1 (by omega) z
  by_cases hm : m = i
  · subst hm
    rw [hk] at c'
    cases c'
    omega
  · have := h.2.1 i m k e (by omega) b hk c'
    omega
theorem kG.fin {S : xm_S} {i c : Nat} (g : kG S i c) (hi : xm_n S 1 7 ≤ i) (e : Nat) (h1 : c ≤ e) (hn : e < xm_n S 1 6) : xm_i S 2 e 8 ≠ 0 := fun z => by
  obtain ⟨m, a, b, -⟩ := g.1 e h1 hn z
  omega
/-- the reference counts calls: those that have ended are passed over -/
theorem k_cskip {A : y_A} {N : Nat} (hN : A 61 0 = nI N) (hb : N ≤ 4400) (l1 l2 : Int32) : ∀ (m c n : Nat), c + m ≤ N → (∀ e, c ≤ e → e < c + m → A 69 e ≠ 0) → rf_count_123 (n + m) l1 l2 (nI c) A = rf_count_123 n l1 l2 (nI (c + m)) A ∧ (rg_count_123 n l1 l2 (nI (c + m)) A → rg_count_123 (n + m) l1 l2 (nI c) A) := by
  intro m
  induction m with
  | zero => intro c n _ _; exact ⟨rfl, id⟩
  | succ m ih =>
    intro c n hc hz
    obtain ⟨i1, i2⟩ := ih (c + 1) n (by omega) (fun e h1 h2 => hz e (by omega) (by omega))
    rw [show c + 1 + m = c + (m + 1) by omega] at i1 i2
    have hix : y_ix (nI c) = c := y_ix_nI (by omega)
    have e1 : ¬ nI N ≤ nI c := nI_ge (by omega) (by omega)
    have e2 := hz c (Nat.le_refl _) (by omega)
    rw [show n + (m + 1) = (n + m) + 1 by omega]
    refine ⟨?_, fun g => ?_⟩
    · rw [← i1]
      show (if A 61 0 ≤ nI c then _ else _) = _
      rw [hN, if_neg e1, hix, if_neg e2, Int32.add_zero, nI_1]
    · show (A 61 0 ≤ nI c → True) ∧ (¬ A 61 0 ≤ nI c → _)
      rw [hN, hix]
      refine ⟨fun _ => trivial, fun _ => ⟨y_in_nI (by omega) (by decide), fun z => absurd z e2, fun _ => ?_⟩⟩
      rw [Int32.add_zero, nI_1]
      exact i2 g
theorem k_cend {A : y_A} {N : Nat} (hN : A 61 0 = nI N) (l1 l2 : Int32) (n : Nat) : (rf_count_123 (n + 1) l1 l2 (nI N) A).1 = l2 ∧ rg_count_123 (n + 1) l1 l2 (nI N) A := by
  have e : A 61 0 ≤ nI N := by rw [hN]; exact Int32.le_refl _
  refine ⟨?_, fun _ => trivial, fun z => absurd e z⟩
  show ((if A 61 0 ≤ nI N then (l2, nI N) else _) : Int32 × Int32).1 = _
  rw [if_pos e]
theorem q_callsUnderWay {S : xm_S} {A : y_A} (h : kQ S A) {Q : Option xm_V → xm_S → Prop} : ∀ (r i c n : Nat) (l : Int32), i + r = xm_n S 1 7 → kG S i c → c ≤ xm_n S 1 6 → xm_n S 1 6 - c + 1 ≤ n → (Q (some (.inl (rf_count_123 n 9 l (nI c) A).1)) S → xw 0 88 4 [some (.inr (some (0, 0))), some (.inl l), some (.inl (nI i))] [] S Q) ∧ rg_count_123 n 9 l (nI c) A := by
  obtain ⟨⟨hC, hcnt, hb, hl, ht, hv, h1, h2, -⟩, -⟩ := h
  have hN := hcnt.2.2.2.2.2.2.1
  have hbb := hb
  unfold k_bnd at hbb
  intro r
  induction r with
  | zero =>
    intro i c n l hi hg hc hn
    obtain ⟨n, rfl⟩ : ∃ m, n = (m + 1) + (xm_n S 1 6 - c) := ⟨n - (xm_n S 1 6 - c) - 1, by omega⟩
    have hz : ∀ e, c ≤ e → e < c + (xm_n S 1 6 - c) → A 69 e ≠ 0 := fun e a b => by
      rw [← (h2 e (by omega)).2.2.2.2.1]
      exact hg.fin (by omega) e a (by omega)
    obtain ⟨s1, s2⟩ := k_cskip hN (by omega) 9 l (xm_n S 1 6 - c) c (n + 1) (by omega) hz
    rw [show c + (xm_n S 1 6 - c) = xm_n S 1 6 by omega] at s1 s2
    obtain ⟨t1, t2⟩ := k_cend hN 9 l n
    refine ⟨fun hq => cw_callsUnderWay_4 hC ⟨fun _ => ?_, fun z => absurd (nI_le (by omega) (by omega)) z⟩, s2 t2⟩
    rw [s1, t1] at hq
    exact hq
  | succ r ih =>
    intro i c n l hi hg hc hn
    obtain ⟨k, hk, hkn⟩ := hv.1 i (by omega)
    have hck : c ≤ k := hg.2 i k (Nat.le_refl _) (by omega) hk
    obtain ⟨n, rfl⟩ : ∃ m, n = (m + 1) + (k - c) := ⟨n - (k - c) - 1, by omega⟩
    have hz : ∀ e, c ≤ e → e < c + (k - c) → A 69 e ≠ 0 := fun e a b => by
      rw [← (h2 e (by omega)).2.2.2.2.1]
      exact hg.gap hv (by omega) hk e a (by omega) hkn
    obtain ⟨s1, s2⟩ := k_cskip hN (by omega) 9 l (k - c) c (n + 1) (by omega) hz
    rw [show c + (k - c) = k by omega] at s1 s2
    have e1 : ¬ nI (xm_n S 1 6) ≤ nI k := nI_ge hkn (by omega)
    have e2 : ¬ nI (xm_n S 1 7) ≤ nI i := nI_ge (by omega) (by omega)
    have hw := (h2 k hkn).2.2.2.2.1
    have hix : y_ix (nI k) = k := y_ix_nI (by omega)
    have hi2 : y_ix (nI i) = i := y_ix_nI (by omega)
    by_cases h0 : xm_i S 2 k 8 = 0
    · have h0' : A 69 k = 0 := by rw [← hw]; exact h0
      obtain ⟨i1, i2⟩ := ih (i + 1) (k + 1) n (l + 1) (by omega) (hg.s hv (by omega) hk) (by omega) (by omega)
      have sf : rf_count_123 (n + 1) 9 l (nI k) A = rf_count_123 n 9 (l + 1) (nI (k + 1)) A := by
        show (if A 61 0 ≤ nI k then _ else _) = _
        rw [hN, if_neg e1, hix, if_pos h0', if_pos rfl, nI_1]
      refine ⟨fun hq => cw_callsUnderWay_4 hC ⟨fun z => absurd z e2, fun _ => ⟨y_in_nI (by omega) (by omega), k, by rw [hi2]; exact hk, fun _ => ?_, fun z => absurd h0 z⟩⟩, s2 ?_⟩
      · rw [s1, sf] at hq
        rw [nI_1]
        exact i1 hq
      · show (A 61 0 ≤ nI k → True) ∧ (¬ A 61 0 ≤ nI k → _)
        rw [hix]
        refine ⟨fun _ => trivial, fun _ => ⟨y_in_nI (by omega) (by decide), fun _ => ⟨fun _ => ?_, fun z => absurd rfl z⟩, fun z => absurd h0' z⟩⟩
        rw [nI_1]
        exact i2
    · have h0' : ¬ A 69 k = 0 := by rw [← hw]; exact h0
      obtain ⟨i1, i2⟩ := ih (i + 1) (k + 1) n l (by omega) (hg.s hv (by omega) hk) (by omega) (by omega)
      have sf : rf_count_123 (n + 1) 9 l (nI k) A = rf_count_123 n 9 l (nI (k + 1)) A := by
        show (if A 61 0 ≤ nI k then _ else _) = _
        rw [hN, if_neg e1, hix, if_neg h0', Int32.add_zero, nI_1]
      refine ⟨fun hq => cw_callsUnderWay_4 hC ⟨fun z => absurd z e2, fun _ => ⟨y_in_nI (by omega) (by omega), k, by rw [hi2]; exact hk, fun z => absurd z h0, fun _ => ?_⟩⟩, s2 ?_⟩
      · rw [s1, sf] at hq
        rw [nI_1, Int32.add_zero]
        exact i1 hq
      · show (A 61 0 ≤ nI k → True) ∧ (¬ A 61 0 ≤ nI k → _)
        rw [hix]
        refine ⟨fun _ => trivial, fun _ => ⟨y_in_nI (by omega) (by decide), fun z => absurd z h0', fun _ => ?_⟩⟩
        rw [nI_1, Int32.add_zero]
        exact i2
end
