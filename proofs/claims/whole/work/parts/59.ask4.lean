/-! ===== WHAT IS ASKED: joined, waiting, kept ===== -/
section
theorem kn_eq {o : Option Nat} {b : Nat} (h : ∀ k, o = some k → k < 2 ^ 31) (hb : b < 2 ^ 31) : kn o = nI b ↔ o = some b := by
  cases o with
  | none => exact ⟨fun z => absurd (show (0 : Int32) ≤ kn none by rw [z]; exact nI_pos' hb) (by decide), fun z => by cases z⟩
  | some k => exact ⟨fun z => by rw [(nI_eq (h k rfl) hb).mp z], fun z => by cases z; rfl⟩
theorem k_jskip {A : y_A} {N : Nat} (hN : A 61 0 = nI N) (hb : N ≤ 4400) (l1 l2 l3 : Int32) : ∀ (m c n : Nat), c + m ≤ N → (∀ e, c ≤ e → e < c + m → A 69 e ≠ 0) → rf_joined_23 (n + m) l1 l2 l3 (nI c) A = rf_joined_23 n l1 l2 l3 (nI (c + m)) A ∧ (rg_joined_23 n l1 l2 l3 (nI (c + m)) A → rg_joined_23 (n + m) l1 l2 l3 (nI c) A) := by
  intro m
  induction m with
  | zero => intro c n _ _; exact ⟨rfl, id⟩
  | succ m ih =>
    intro c n hc hz
    obtain ⟨i1, i2⟩ := ih (c + 1) n (by omega) (fun e h1 h2 => hz e (by omega) (by omega))
    rw [show c + 1 + m = c + (m + 1) by omega] at i1 i2
    have hix : y_ix (nI c) = c := y_ix_nI (by omega)
    have e1 : ¬ nI N ≤ nI c := nI_ge (by omega) (by omega)
    have e2 := hz c (Nat.le_refl _) (by omega)
    rw [show n + (m + 1) = (n + m) + 1 by omega]
    refine ⟨?_, fun g => ?_⟩
    · rw [← i1]
      show (if A 61 0 ≤ nI c then _ else _) = _
      rw [hN, if_neg e1, hix, nI_1]
      by_cases hj : A 74 c = l1
      · rw [if_pos hj, if_neg e2]
      · rw [if_neg hj]
    · show (A 61 0 ≤ nI c → True) ∧ (¬ A 61 0 ≤ nI c → _)
      rw [hN, hix, nI_1]
      exact ⟨fun _ => trivial, fun _ => ⟨y_in_nI (by omega) (by decide), fun _ => ⟨fun z => absurd z e2, fun _ => i2 g⟩, fun _ => i2 g⟩⟩
theorem q_joined_l {S : xm_S} {A : y_A} (h : kQ S A) {Q : Option xm_V → xm_S → Prop} {b : Nat} (hbn : b < xm_n S 1 6) {w : Int32} : ∀ (r i c n : Nat) (l : Int32) (u : Option xm_V), i + r = xm_n S 1 7 → kG S i c → c ≤ xm_n S 1 6 → xm_n S 1 6 - c + 1 ≤ n → (Q (some (.inl (rf_joined_23 n (nI b) w (w - l) (nI c) A))) S → xw 1 83 39 [some (.inr (some (0, 0))), some (.inl (nI b)), some (.inl w), some (.inr (some (2, b))), some (.inl l), some (.inl (nI i)), u] [] S Q) ∧ rg_joined_23 n (nI b) w (w - l) (nI c) A := by
  obtain ⟨⟨hC, hcnt, hb, hl, ht, hv, h1, h2, -⟩, -⟩ := h
  have hN := hcnt.2.2.2.2.2.2.1
  have hbb := hb
  unfold k_bnd at hbb
  intro r
  induction r with
  | zero =>
    intro i c n l u hi hg hc hn
    obtain ⟨n, rfl⟩ : ∃ m, n = (m + 1) + (xm_n S 1 6 - c) := ⟨n - (xm_n S 1 6 - c) - 1, by omega⟩
    have hz : ∀ e, c ≤ e → e < c + (xm_n S 1 6 - c) → A 69 e ≠ 0 := fun e a b => by
      rw [← (h2 e (by omega)).2.2.2.2.1]
      exact hg.fin (by omega) e a (by omega)
    obtain ⟨s1, s2⟩ := k_jskip hN (by omega) (nI b) w (w - l) (xm_n S 1 6 - c) c (n + 1) (by omega) hz
    rw [show c + (xm_n S 1 6 - c) = xm_n S 1 6 by omega] at s1 s2
    have e : A 61 0 ≤ nI (xm_n S 1 6) := by rw [hN]; exact Int32.le_refl _
    have t1 : rf_joined_23 (n + 1) (nI b) w (w - l) (nI (xm_n S 1 6)) A = -1 := if_pos e
    refine ⟨fun hq => cw_joined_39 hC ⟨fun _ => ?_, fun z => absurd (nI_le (by omega) (by omega)) z⟩, s2 ⟨fun _ => trivial, fun z => absurd e z⟩⟩
    rw [s1, t1] at hq
    exact hq
  | succ r ih =>
    intro i c n l u hi hg hc hn
    obtain ⟨k, hk, hkn⟩ := hv.1 i (by omega)
    have hck : c ≤ k := hg.2 i k (Nat.le_refl _) (by omega) hk
    obtain ⟨n, rfl⟩ : ∃ m, n = (m + 1) + (k - c) := ⟨n - (k - c) - 1, by omega⟩
    have hz : ∀ e, c ≤ e → e < c + (k - c) → A 69 e ≠ 0 := fun e a b => by
      rw [← (h2 e (by omega)).2.2.2.2.1]
      exact hg.gap hv (by omega) hk e a (by omega) hkn
    obtain ⟨s1, s2⟩ := k_jskip hN (by omega) (nI b) w (w - l) (k - c) c (n + 1) (by omega) hz
    rw [show c + (k - c) = k by omega] at s1 s2
    have e1 : ¬ A 61 0 ≤ nI k := by rw [hN]; exact nI_ge hkn (by omega)
    have e2 : ¬ nI (xm_n S 1 7) ≤ nI i := nI_ge (by omega) (by omega)
    have hw := (h2 k hkn).2.2.2.2.1
    have hnum := (h2 k hkn).1
    have hjo := (h2 k hkn).2.2.2.2.2.2.2.2.2.2.2.2.2.1
    have hjb := (h2 k hkn).2.2.2.2.2.2.2.2.2.2.2.2.2.2.2.2.2.2.2.2.2.2.2.2.2.2.1
    have hix : y_ix (nI k) = k := y_ix_nI (by omega)
    have hi2 : y_ix (nI i) = i := y_ix_nI (by omega)
    have hin : y_in (nI i) (xm_n S 1 7) := y_in_nI (by omega) (by omega)
    have hin2 : y_in (nI k) 4400 := y_in_nI (by omega) (by decide)
    have hkb : A 74 k = nI b ↔ xm_r S 2 k 15 = some b := by
      rw [hjo]
      exact kn_eq (fun x hx => by have := hjb x hx; omega) (by omega)
    have nxt := fun l => ih (i + 1) (k + 1) n l (some (.inr (some (2, k)))) (by omega) (hg.s hv (by omega) hk) (by omega) (by omega)
    by_cases hm : xm_r S 2 k 15 = some b
    · have hm' := hkb.mpr hm
      by_cases h0 : xm_i S 2 k 8 = 0
      · have h0' : A 69 k = 0 := by rw [← hw]; exact h0
        by_cases hlw : l = w
        · have hz0 : w - l = 0 := by rw [hlw, Int32.sub_self]
          have sf : rf_joined_23 (n + 1) (nI b) w (w - l) (nI k) A = nI k := by
            show (if A 61 0 ≤ nI k then _ else _) = _
            rw [if_neg e1, hix, if_pos hm', if_pos h0', if_pos hz0]
          refine ⟨fun hq => cw_joined_39 hC ⟨fun z => absurd z e2, fun _ => ⟨hin, k, by rw [hi2]; exact hk, fun t ht2 => ⟨fun _ => ⟨fun _ => ⟨fun _ => ?_, fun z => absurd hlw z⟩, fun z => absurd h0 z⟩, fun z => absurd (ht2 ▸ hm) z⟩⟩⟩, s2 ?_⟩
          · rw [s1, sf] at hq
            rw [hnum]
            exact hq
          · refine ⟨fun z => absurd z e1, fun _ => ⟨hin2, ?_⟩⟩
            rw [hix]
            exact ⟨fun _ => ⟨fun _ => ⟨fun _ => trivial, fun z => absurd hz0 z⟩, fun z => absurd h0' z⟩, fun z => absurd hm' z⟩
        · have hz0 : ¬ w - l = 0 := fun z => hlw (by
            have : w = l := by
              have e := congrArg (fun x => x + l) z
              simp only [Int32.sub_add_cancel, Int32.zero_add] at e
              exact e
            exact this.symm)
          have hs : w - l + -1 = w - (l + 1) := by
            rw [← Int32.sub_eq_add_neg, Int32.sub_sub]
          obtain ⟨i1, i2⟩ := nxt (l + 1)
          have sf : rf_joined_23 (n + 1) (nI b) w (w - l) (nI k) A = rf_joined_23 n (nI b) w (w - (l + 1)) (nI (k + 1)) A := by
            show (if A 61 0 ≤ nI k then _ else _) = _
            rw [if_neg e1, hix, if_pos hm', if_pos h0', if_neg hz0, nI_1, hs]
          refine ⟨fun hq => cw_joined_39 hC ⟨fun z => absurd z e2, fun _ => ⟨hin, k, by rw [hi2]; exact hk, fun t ht2 => ⟨fun _ => ⟨fun _ => ⟨fun z => absurd z hlw, fun _ => ?_⟩, fun z => absurd h0 z⟩, fun z => absurd (ht2 ▸ hm) z⟩⟩⟩, s2 ?_⟩
          · rw [s1, sf] at hq
            rw [nI_1]
            exact i1 hq
          · refine ⟨fun z => absurd z e1, fun _ => ⟨hin2, ?_⟩⟩
            rw [hix, nI_1, hs]
            exact ⟨fun _ => ⟨fun _ => ⟨fun z => absurd z hz0, fun _ => i2⟩, fun z => absurd h0' z⟩, fun z => absurd hm' z⟩
      · have h0' : ¬ A 69 k = 0 := by rw [← hw]; exact h0
        obtain ⟨i1, i2⟩ := nxt l
        have sf : rf_joined_23 (n + 1) (nI b) w (w - l) (nI k) A = rf_joined_23 n (nI b) w (w - l) (nI (k + 1)) A := by
          show (if A 61 0 ≤ nI k then _ else _) = _
          rw [if_neg e1, hix, if_pos hm', if_neg h0', nI_1]
        refine ⟨fun hq => cw_joined_39 hC ⟨fun z => absurd z e2, fun _ => ⟨hin, k, by rw [hi2]; exact hk, fun t ht2 => ⟨fun _ => ⟨fun z => absurd z h0, fun _ => ?_⟩, fun z => absurd (ht2 ▸ hm) z⟩⟩⟩, s2 ?_⟩
        · rw [s1, sf] at hq
          rw [nI_1]
          exact i1 hq
        · refine ⟨fun z => absurd z e1, fun _ => ⟨hin2, ?_⟩⟩
          rw [hix, nI_1]
          exact ⟨fun _ => ⟨fun z => absurd z h0', fun _ => i2⟩, fun z => absurd hm' z⟩
    · have hm' : ¬ A 74 k = nI b := fun z => hm (hkb.mp z)
      obtain ⟨i1, i2⟩ := nxt l
      have sf : rf_joined_23 (n + 1) (nI b) w (w - l) (nI k) A = rf_joined_23 n (nI b) w (w - l) (nI (k + 1)) A := by
        show (if A 61 0 ≤ nI k then _ else _) = _
        rw [if_neg e1, hix, if_neg hm', nI_1]
      refine ⟨fun hq => cw_joined_39 hC ⟨fun z => absurd z e2, fun _ => ⟨hin, k, by rw [hi2]; exact hk, fun t ht2 => ⟨fun z => absurd (ht2.trans z) hm, fun _ => ?_⟩⟩⟩, s2 ?_⟩
      · rw [s1, sf] at hq
        rw [nI_1]
        exact i1 hq
      · refine ⟨fun z => absurd z e1, fun _ => ⟨hin2, ?_⟩⟩
        rw [hix, nI_1]
        exact ⟨fun z => absurd z hm', fun _ => i2⟩
theorem q_joined {S : xm_S} {A : y_A} (h : kQ S A) (i w : Int32) : xc 1 83 [.inr (some (0, 0)), .inl i, .inl w] S (fun r S' => r = some (.inl (rf_joined i w A)) ∧ S' = S) ∧ rg_joined i w A := by
  have hh := h
  obtain ⟨⟨hC, hcnt, hb, hl, ht, hv, h1, h2, -⟩, -⟩ := h
  have hN := hcnt.2.2.2.2.2.2.1
  have hbb := hb
  unfold k_bnd at hbb
  unfold rf_joined rg_joined
  rcases k_idx i (n := xm_n S 1 6) (by omega) with hi | ⟨hi, hi2, hi3⟩ | ⟨j, hj, rfl⟩
  · exact ⟨cw_joined hC (by simp [hi]), by simp [hi]⟩
  · exact ⟨cw_joined hC (by simp [hi, hi2, hN]), by simp [hi, hi2, hN]⟩
  · have e1 : ¬ nI j < 0 := nI_pos (by omega)
    have e2 : ¬ nI (xm_n S 1 6) ≤ nI j := nI_ge hj (by omega)
    have e4 : y_ix (nI j) = j := y_ix_nI (by omega)
    rw [if_neg e1, hN, if_neg e2]
    by_cases hw : 0 ≤ w
    · rw [if_pos hw]
      have a := q_joined_l hh hj (w := w) (Q := fun r S' => r = some (.inl (rf_joined_23 20000 (nI j) w w 0 A)) ∧ S' = S) (xm_n S 1 7) 0 0 20000 0 none (by omega) (kG.z hv) (by omega) (by omega)
      rw [Int32.sub_zero] at a
      exact ⟨cw_joined hC ⟨fun z => absurd z e1, fun _ => ⟨fun z => absurd z e2, fun _ => ⟨fun _ => ⟨y_in_nI hj (by omega), j, by rw [e4]; exact hl.2.2.2.2.1 j hj, a.1 ⟨rfl, rfl⟩⟩, fun z => absurd hw z⟩⟩⟩, fun z => absurd z e1, fun _ => ⟨fun z => absurd z e2, fun _ => ⟨fun _ => a.2, fun z => absurd hw z⟩⟩⟩
    · rw [if_neg hw]
      exact ⟨cw_joined hC ⟨fun z => absurd z e1, fun _ => ⟨fun z => absurd z e2, fun _ => ⟨fun z => absurd z hw, fun _ => ⟨rfl, rfl⟩⟩⟩⟩, fun z => absurd z e1, fun _ => ⟨fun z => absurd z e2, fun _ => ⟨fun z => absurd z hw, fun _ => trivial⟩⟩⟩
theorem nI_mulc (a b : Nat) : nI a * nI b = nI (a * b) := (Int32.ofNat_mul a b).symm
theorem q_waiting {S : xm_S} {A : y_A} (h : kQ S A) (i w : Int32) : xc 2 80 [.inr (some (0, 0)), .inl i, .inl w] S (fun r S' => r = some (.inl (rf_waiting i w A)) ∧ S' = S) ∧ rg_waiting i w A := by
  obtain ⟨⟨hC, hcnt, hb, hl, ht, hv, h1, h2, h3, -⟩, -⟩ := h
  have hN := hcnt.2.2.2.1
  have hbb := hb
  unfold k_bnd at hbb
  unfold rf_waiting rg_waiting rf_isGuard rg_isGuard
  rcases k_idx i (n := xm_n S 1 3) (by omega) with hi | ⟨hi, hi2, hi3⟩ | ⟨j, hj, rfl⟩
  · exact ⟨cw_waiting hC (by simp [hi]), by simp [hi]⟩
  · exact ⟨cw_waiting hC (by simp [hi, hi2, hN]), by simp [hi, hi2, hN]⟩
  · have e1 : ¬ nI j < 0 := nI_pos (by omega)
    have e2 : ¬ nI (xm_n S 1 3) ≤ nI j := nI_ge hj (by omega)
    have e4 : y_ix (nI j) = j := y_ix_nI (by omega)
    have hin : y_in (nI j) 24 := y_in_nI (by omega) (by omega)
    have hk := h3 j hj
    obtain ⟨q, hq1, hq2, hq3, hq4, hq5, hq6⟩ := hk.2.2.2.2.2.2.2.2.2.2.2.2.1
    rw [if_neg e1, hN, if_neg e2, e4]
    by_cases hg : A 31 j = 1
    · have hg' : xm_i S 5 j 1 = 1 := by rw [hk.2.1]; exact hg
      rw [if_pos hg, if_neg (by decide)]
      rcases k_idx w (n := xm_n S 1 q) (by omega) with hw | ⟨hw, hw2, hw3⟩ | ⟨m, hm, rfl⟩
      · exact ⟨cw_waiting hC ⟨fun z => absurd z e1, fun _ => ⟨fun z => absurd z e2, fun _ => ⟨y_in_nI hj (by omega), j, by rw [e4]; exact hl.2.1 j hj, fun _ => ⟨fun _ => by rw [if_pos hw]; exact ⟨rfl, rfl⟩, fun z => absurd hw z⟩, fun z => absurd hg' z⟩⟩⟩, ⟨fun z => absurd z e1, fun _ => ⟨fun z => absurd z e2, fun _ => ⟨hin, fun _ => trivial, fun _ => trivial⟩⟩⟩, fun _ => trivial, fun _ => ⟨fun _ => trivial, fun z => absurd hw z⟩⟩
      · refine ⟨cw_waiting hC ⟨fun z => absurd z e1, fun _ => ⟨fun z => absurd z e2, fun _ => ⟨y_in_nI hj (by omega), j, by rw [e4]; exact hl.2.1 j hj, fun _ => ⟨fun z => absurd z hw, fun _ t ht2 => ⟨q, ht2.symm.trans hq1, fun z => absurd z hw3, fun _ => ?_⟩⟩, fun z => absurd hg' z⟩⟩⟩, ⟨fun z => absurd z e1, fun _ => ⟨fun z => absurd z e2, fun _ => ⟨hin, fun _ => trivial, fun _ => trivial⟩⟩⟩, fun _ => trivial, fun _ => ⟨fun z => absurd z hw, fun _ => ⟨hin, fun z => absurd (hq4 ▸ z) hw3, fun _ => trivial⟩⟩⟩
        rw [if_neg hw, hq4, if_neg hw3]
        exact ⟨rfl, rfl⟩
      · obtain ⟨c, hc1, hc2, hc3⟩ := hq6 m hm
        have f1 : ¬ nI m < 0 := nI_pos (by omega)
        have f3 : nI m < nI (xm_n S 1 q) := nI_lt hm (by omega)
        have hmul : (10 : Int32) * nI j + nI m = nI (10 * j + m) := by
          rw [show (10 : Int32) = nI 10 from rfl, nI_mulc, nI_add]
        have hmx : y_ix ((10 : Int32) * nI j + nI m) = 10 * j + m := by rw [hmul]; exact y_ix_nI (by omega)
        refine ⟨cw_waiting hC ⟨fun z => absurd z e1, fun _ => ⟨fun z => absurd z e2, fun _ => ⟨y_in_nI hj (by omega), j, by rw [e4]; exact hl.2.1 j hj, fun _ => ⟨fun z => absurd z f1, fun _ t ht2 => ⟨q, ht2.symm.trans hq1, fun _ => ⟨y_in_nI hm (by omega), c, by rw [y_ix_nI (by omega)]; exact hc1, ?_⟩, fun z => absurd f3 z⟩⟩, fun z => absurd hg' z⟩⟩⟩, ⟨fun z => absurd z e1, fun _ => ⟨fun z => absurd z e2, fun _ => ⟨hin, fun _ => trivial, fun _ => trivial⟩⟩⟩, fun _ => trivial, fun _ => ⟨fun z => absurd z f1, fun _ => ⟨hin, fun _ => ⟨by rw [hmul]; exact y_in_nI (by omega) (by decide), trivial⟩, fun z => absurd (hq4 ▸ f3) z⟩⟩⟩
        rw [if_neg f1, hq4, if_pos f3, hmx, hc3, (h2 c hc2).1]
        exact ⟨rfl, rfl⟩
    · have hg' : ¬ xm_i S 5 j 1 = 1 := by rw [hk.2.1]; exact hg
      rw [if_neg hg, if_pos rfl]
      exact ⟨cw_waiting hC ⟨fun z => absurd z e1, fun _ => ⟨fun z => absurd z e2, fun _ => ⟨y_in_nI hj (by omega), j, by rw [e4]; exact hl.2.1 j hj, fun z => absurd z hg', fun _ => ⟨rfl, rfl⟩⟩⟩⟩, ⟨fun z => absurd z e1, fun _ => ⟨fun z => absurd z e2, fun _ => ⟨hin, fun _ => trivial, fun _ => trivial⟩⟩⟩, fun _ => trivial, fun z => absurd rfl z⟩
theorem q_kept {S : xm_S} {A : y_A} (h : kQ S A) (i s w : Int32) : xc 2 82 [.inr (some (0, 0)), .inl i, .inl s, .inl w] S (fun r S' => r = some (.inl (rf_kept i s w A)) ∧ S' = S) ∧ rg_kept i s w A := by
  obtain ⟨⟨hC, hcnt, hb, hl, ht, hv, h1, h2, h3, -⟩, -⟩ := h
  have hN := hcnt.2.2.2.1
  have hM := hcnt.1
  have hbb := hb
  unfold k_bnd at hbb
  unfold rf_kept rg_kept rf_isGuard rg_isGuard rf_isStation rg_isStation
  have hst : ∀ {P : Prop}, P → (s < 0 → P) ∧ (¬ s < 0 → (nI (xm_n S 1 0) ≤ s → P) ∧ (¬ nI (xm_n S 1 0) ≤ s → y_in s (xm_n S 1 0) ∧ ∃ k, xm_l S 0 (y_ix s) = (9, k) ∧ P)) := fun {P} hP => by
    rcases k_idx s (n := xm_n S 1 0) (by omega) with hi | ⟨hi, hi2, hi3⟩ | ⟨j, hj, rfl⟩
    · exact ⟨fun _ => hP, fun z => absurd hi z⟩
    · exact ⟨fun _ => hP, fun _ => ⟨fun _ => hP, fun z => absurd hi2 z⟩⟩
    · exact ⟨fun _ => hP, fun _ => ⟨fun _ => hP, fun _ => ⟨y_in_nI hj (by omega), j, by rw [y_ix_nI (by omega)]; exact hl.1 j hj, hP⟩⟩⟩
  rcases k_idx i (n := xm_n S 1 3) (by omega) with hi | ⟨hi, hi2, hi3⟩ | ⟨j, hj, rfl⟩
  · refine ⟨cw_kept hC ⟨fun _ => hst ?_, fun z => absurd hi z⟩, by simp [hi]⟩
    rw [if_pos hi, if_pos rfl]
    exact ⟨rfl, rfl⟩
  · refine ⟨cw_kept hC ⟨fun z => absurd z hi, fun _ => ⟨fun _ => hst ?_, fun z => absurd hi2 z⟩⟩, by simp [hi, hi2, hN]⟩
    rw [if_neg hi, hN, if_pos hi2, if_pos rfl]
    exact ⟨rfl, rfl⟩
  · have e1 : ¬ nI j < 0 := nI_pos (by omega)
    have e2 : ¬ nI (xm_n S 1 3) ≤ nI j := nI_ge hj (by omega)
    have e4 : y_ix (nI j) = j := y_ix_nI (by omega)
    have hin : y_in (nI j) 24 := y_in_nI (by omega) (by omega)
    have hk := h3 j hj
    obtain ⟨hm1, hm2, hm3⟩ := hk.2.2.2.2.2.2.2.2.2.2.2.2.2
    rw [if_neg e1, hN, if_neg e2, e4]
    have gG : (nI j < 0 → True) ∧ (¬ nI j < 0 → (nI (xm_n S 1 3) ≤ nI j → True) ∧ (¬ nI (xm_n S 1 3) ≤ nI j → y_in (nI j) 24 ∧ ((A 31 j = 7 → True) ∧ (¬ A 31 j = 7 → True)))) := ⟨fun _ => trivial, fun _ => ⟨fun _ => trivial, fun _ => ⟨hin, fun _ => trivial, fun _ => trivial⟩⟩⟩
    have gS : (s < 0 → True) ∧ (¬ s < 0 → (A 1 0 ≤ s → True) ∧ (¬ A 1 0 ≤ s → True)) := ⟨fun _ => trivial, fun _ => ⟨fun _ => trivial, fun _ => trivial⟩⟩
    by_cases hg : A 31 j = 7
    · have hg' : xm_i S 5 j 1 = 7 := by rw [hk.2.1]; exact hg
      rw [if_pos hg, if_neg (by decide)]
      rcases k_idx s (n := xm_n S 1 0) (by omega) with hs | ⟨hs, hs2, hs3⟩ | ⟨m, hm, rfl⟩
      · rw [if_pos hs, if_pos rfl]
        exact ⟨cw_kept hC ⟨fun z => absurd z e1, fun _ => ⟨fun z => absurd z e2, fun _ => ⟨y_in_nI hj (by omega), j, by rw [e4]; exact hl.2.1 j hj, fun _ => ⟨fun _ => ⟨rfl, rfl⟩, fun z => absurd hs z⟩, fun z => absurd hg' z⟩⟩⟩, gG, fun z => absurd z (by decide), fun _ => ⟨gS, fun _ => trivial, fun z => absurd rfl z⟩⟩
      · rw [if_neg hs, hM, if_pos hs2, if_pos rfl]
        exact ⟨cw_kept hC ⟨fun z => absurd z e1, fun _ => ⟨fun z => absurd z e2, fun _ => ⟨y_in_nI hj (by omega), j, by rw [e4]; exact hl.2.1 j hj, fun _ => ⟨fun z => absurd z hs, fun _ => ⟨fun _ => ⟨rfl, rfl⟩, fun z => absurd hs2 z⟩⟩, fun z => absurd hg' z⟩⟩⟩, gG, fun z => absurd z (by decide), fun _ => ⟨hM ▸ gS, fun _ => trivial, fun z => absurd rfl z⟩⟩
      · have f1 : ¬ nI m < 0 := nI_pos (by omega)
        have f2 : ¬ nI (xm_n S 1 0) ≤ nI m := nI_ge hm (by omega)
        have f4 : y_ix (nI m) = m := y_ix_nI (by omega)
        have hnum : xm_i S 9 m 0 = nI m := (h1 m hm).1
        have hmul : (8 : Int32) * nI j + nI m = nI (8 * j + m) := by
          rw [show (8 : Int32) = nI 8 from rfl, nI_mulc, nI_add]
        have hmx : y_ix ((8 : Int32) * nI j + nI m) = 8 * j + m := by rw [hmul]; exact y_ix_nI (by omega)
        have hin8 : y_in ((8 : Int32) * nI j + nI m) 192 := by rw [hmul]; exact y_in_nI (by omega) (by decide)
        have f5 : ¬ nI (xm_n S 25 j) ≤ nI m := by rw [hm2]; exact nI_ge (by omega) (by decide)
        have hinm : y_in (nI m) (xm_n S 25 j) := by rw [hm2]; exact y_in_nI (by omega) (by decide)
        rw [if_neg f1, hM, if_neg f2, if_neg (by decide), hmx]
        have gK : (w < 0 → True) ∧ (¬ w < 0 → ((1 : Int32) < w → True) ∧ (¬ (1 : Int32) < w → y_in ((8 : Int32) * nI j + nI m) 192 ∧ (((0 : Int32) ≤ A 45 (8 * j + m) → (w = 0 → True) ∧ (¬ w = 0 → True)) ∧ (¬ (0 : Int32) ≤ A 45 (8 * j + m) → True)))) := ⟨fun _ => trivial, fun _ => ⟨fun _ => trivial, fun _ => ⟨hin8, fun _ => ⟨fun _ => trivial, fun _ => trivial⟩, fun _ => trivial⟩⟩⟩
        refine ⟨cw_kept hC ⟨fun z => absurd z e1, fun _ => ⟨fun z => absurd z e2, fun _ => ⟨y_in_nI hj (by omega), j, by rw [e4]; exact hl.2.1 j hj, fun _ => ⟨fun z => absurd z f1, fun _ => ⟨fun z => absurd z f2, fun _ => ⟨y_in_nI hm (by omega), m, by rw [f4]; exact hl.1 m hm, ?_⟩⟩⟩, fun z => absurd hg' z⟩⟩⟩, gG, fun z => absurd z (by decide), fun _ => ⟨hM ▸ gS, fun z => absurd z (by decide), fun _ => gK⟩⟩
        rw [hnum, f4]
        refine ⟨fun z => absurd z f1, fun _ t ht2 => ⟨j, ht2.symm.trans hm1, fun z => absurd z f5, fun _ => ⟨hinm, fun t3 ht3 => ?_⟩⟩⟩
        have hw1 : ∀ x : Int32, x = 0 → ¬ x < 0 ∧ ¬ (1 : Int32) < x := fun x hx => by subst hx; exact ⟨by decide, by decide⟩
        have hw2 : ∀ x : Int32, x = 1 → ¬ x < 0 ∧ ¬ (1 : Int32) < x := fun x hx => by subst hx; exact ⟨by decide, by decide⟩
        have hw3 : ¬ w = 0 → ¬ w = 1 → w < 0 ∨ (1 : Int32) < w := fun n0 n1 => by
          by_cases hw0 : w < 0
          · exact Or.inl hw0
          · obtain ⟨x, hx, rfl⟩ := nI_of hw0
            refine Or.inr (nI_lt (a := 1) (b := x) ?_ hx)
            have a0 : x ≠ 0 := fun z => n0 (by rw [z]; rfl)
            have a1 : x ≠ 1 := fun z => n1 (by rw [z]; rfl)
            omega
        rcases hm3 m (by omega) with ⟨hx1, hx2⟩ | ⟨c, hx1, hx2, hx3, hx4, hx5, hx6, hx7⟩
        · have hno : ¬ (0 : Int32) ≤ A 45 (8 * j + m) := by rw [hx2]; decide
          refine ⟨fun _ => ?_, fun k hk2 => (by rw [← ht3, hx1] at hk2; cases hk2)⟩
          rw [if_neg hno]
          refine ⟨?_, rfl⟩
          split <;> first | rfl | (split <;> rfl)
        · have hyes : (0 : Int32) ≤ A 45 (8 * j + m) := by rw [hx5]; exact hx7
          have hans := (h2 c hx2).2.2.2.2.2.2.2.2.2.2.2.2.2.2.1
          have hend := (h2 c hx2).2.2.2.1
          refine ⟨fun z => (by rw [← ht3, hx1] at z; cases z), fun k hk2 => ?_⟩
          rw [← ht3, hx1] at hk2
          cases hk2
          rw [if_pos hyes]
          refine ⟨fun w0 => ?_, fun w0 => ⟨fun w1 => ?_, fun w1 => ?_⟩⟩
          · rw [if_neg (hw1 w w0).1, if_neg (hw1 w w0).2, if_pos w0, hans, if_pos hx3, hx4]
            exact ⟨rfl, rfl⟩
          · rw [if_neg (hw2 w w1).1, if_neg (hw2 w w1).2, if_neg w0, hend, hx5]
            exact ⟨rfl, rfl⟩
          · rcases hw3 w0 w1 with z | z
            · rw [if_pos z]
              exact ⟨rfl, rfl⟩
            · by_cases z0 : w < 0
              · rw [if_pos z0]
                exact ⟨rfl, rfl⟩
              · rw [if_neg z0, if_pos z]
                exact ⟨rfl, rfl⟩
    · have hg' : ¬ xm_i S 5 j 1 = 7 := by rw [hk.2.1]; exact hg
      rw [if_neg hg, if_pos rfl]
      exact ⟨cw_kept hC ⟨fun z => absurd z e1, fun _ => ⟨fun z => absurd z e2, fun _ => ⟨y_in_nI hj (by omega), j, by rw [e4]; exact hl.2.1 j hj, fun z => absurd z hg', fun _ => hst ⟨rfl, rfl⟩⟩⟩⟩, gG, fun _ => trivial, fun z => absurd rfl z⟩
end
