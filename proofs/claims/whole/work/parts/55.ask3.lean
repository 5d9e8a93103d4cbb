/-! ===== WHAT IS ASKED: the rest without loops ===== -/
section
theorem q_tokens {S : xm_S} {A : y_A} (h : kQ S A) (i : Int32) : xc 2 81 [.inr (some (0, 0)), .inl i] S (fun r S' => r = some (.inl (rf_tokens i A)) ∧ S' = S) ∧ rg_tokens i A := by
  obtain ⟨⟨hC, hcnt, hb, hl, ht, hv, h1, h2, h3, h4, h5, h6, h7, h8, h9, h10, h11, h12⟩, ho, hr⟩ := h
  have hbb := hb
  unfold k_bnd at hbb
  rcases k_idx i (n := xm_n S 1 3) (by omega) with hi | ⟨hi, hi2, hi3⟩ | ⟨j, hj, rfl⟩
  · exact ⟨cw_tokens hC (by simp [hi, rf_isGuard, rf_tokens]), by simp [hi, rf_isGuard, rg_isGuard, rg_tokens]⟩
  · exact ⟨cw_tokens hC (by simp [hi, hi2, hi3, rf_isGuard, rf_tokens, hcnt.2.2.2.1]), by simp [hi, hi2, hi3, rf_isGuard, rg_isGuard, rg_tokens, hcnt.2.2.2.1]⟩
  · obtain ⟨e1, e2, e3, e4⟩ := k_idx3 hj (by omega)
    have hk := h3 j hj
    have hin : y_in (nI j) 24 := y_in_nI (by omega) (by omega)
    refine ⟨cw_tokens hC ?_, ?_⟩
    · simp only [e1, e2, e3, e4, false_implies, true_implies, not_false_eq_true, not_true_eq_false, true_and, and_true, rf_isGuard, rf_tokens, hcnt.2.2.2.1, if_false, if_true, k01, hl.2.1 j hj, Prod.mk.injEq, exists_eq_left']
      refine ⟨y_in_nI hj (by omega), ?_⟩
      by_cases hg : A 31 j = 2
      · simp [hg, hk.2.1, hk.2.2.2.2.2.2.2.2.2.2.2.1 hg]
      · simp [hg, hk.2.1]
    · simp only [e1, e2, e3, e4, false_implies, true_implies, not_false_eq_true, not_true_eq_false, true_and, and_true, rf_isGuard, rg_isGuard, rg_tokens, hcnt.2.2.2.1, if_false, if_true, k01]
      repeat' (first | exact hin | trivial | (refine ⟨?_, ?_⟩) | intro _)
theorem q_outcome {S : xm_S} {A : y_A} (h : kQ S A) (i : Int32) : xc 1 73 [.inr (some (0, 0)), .inl i] S (fun r S' => r = some (.inl (rf_outcome i A)) ∧ S' = S) ∧ rg_outcome i A := by
  obtain ⟨⟨hC, hcnt, hb, hl, ht, hv, h1, h2, h3, h4, h5, h6, h7, h8, h9, h10, h11, h12⟩, ho, hr⟩ := h
  have hbb := hb
  unfold k_bnd at hbb
  rcases k_idx i (n := xm_n S 1 5) (by omega) with hi | ⟨hi, hi2, hi3⟩ | ⟨j, hj, rfl⟩
  · exact ⟨cw_outcome hC (by simp [hi, rf_outcome]), by simp [hi, rg_outcome]⟩
  · exact ⟨cw_outcome hC (by simp [hi, hi2, hi3, rf_outcome, hcnt.2.2.2.2.2.1]), by simp [hi, hi2, hi3, rg_outcome, hcnt.2.2.2.2.2.1]⟩
  · obtain ⟨e1, e2, e3, e4⟩ := k_idx3 hj (by omega)
    obtain ⟨f, hf1, hf2, hf3, hf4, hf5, hf6, hf7, hf8⟩ := ho j hj
    have hk := h2 f hf2
    have hin : y_in (nI j) 60 := y_in_nI (by omega) (by omega)
    refine ⟨cw_outcome hC ?_, ?_⟩
    · simp only [e1, e2, e3, e4, false_implies, true_implies, not_false_eq_true, not_true_eq_false, true_and, and_true, rf_outcome, hcnt.2.2.2.2.2.1, if_false, if_true, k01, hl.2.2.2.1 j hj, Prod.mk.injEq, exists_eq_left']
      refine ⟨y_in_nI hj (by omega), ?_⟩
      have hw := hk.2.2.2.2.1
      have hby := hk.2.2.2.2.2.1
      rw [hf5]
      simp only [hf1, forall_eq', reduceCtorEq, Option.some.injEq, false_implies, true_and, hw, hby, k_how]
      rcases hk.2.2.2.2.2.2.2.2.2.2.2.2.2.2.2.2.2.2.2.2.2.2.1 with z | z | z | z <;> rcases hk.2.2.2.2.2.2.2.2.2.2.2.2.2.2.2.2.1 with y | y <;> simp (decide := true) [z, y]
    · simp only [e1, e2, e3, e4, false_implies, true_implies, not_false_eq_true, not_true_eq_false, true_and, and_true, rg_outcome, hcnt.2.2.2.2.2.1, if_false, if_true, k01]
      exact hin
theorem q_of {S : xm_S} {A : y_A} (h : kQ S A) (i w : Int32) : xc 1 74 [.inr (some (0, 0)), .inl i, .inl w] S (fun r S' => r = some (.inl (rf_of i w A)) ∧ S' = S) ∧ rg_of i w A := by
  obtain ⟨⟨hC, hcnt, hb, hl, ht, hv, h1, h2, h3, h4, h5, h6, h7, h8, h9, h10, h11, h12⟩, ho, hr⟩ := h
  have hbb := hb
  unfold k_bnd at hbb
  rcases k_idx i (n := xm_n S 1 5) (by omega) with hi | ⟨hi, hi2, hi3⟩ | ⟨j, hj, rfl⟩
  · exact ⟨cw_of hC (by simp [hi, rf_of]), by simp [hi, rg_of]⟩
  · exact ⟨cw_of hC (by simp [hi, hi2, hi3, rf_of, hcnt.2.2.2.2.2.1]), by simp [hi, hi2, hi3, rg_of, hcnt.2.2.2.2.2.1]⟩
  · obtain ⟨e1, e2, e3, e4⟩ := k_idx3 hj (by omega)
    obtain ⟨f, hf1, hf2, hf3, hf4, hf5, hf6, hf7, hf8⟩ := ho j hj
    have hk := h2 f hf2
    have hin : y_in (nI j) 60 := y_in_nI (by omega) (by omega)
    refine ⟨cw_of hC ?_, ?_⟩
    · simp only [e1, e2, e3, e4, false_implies, true_implies, not_false_eq_true, not_true_eq_false, true_and, and_true, rf_of, hcnt.2.2.2.2.2.1, if_false, if_true, k01, hl.2.2.2.1 j hj, Prod.mk.injEq, exists_eq_left', hf1, forall_eq', reduceCtorEq, Option.some.injEq]
      refine ⟨y_in_nI hj (by omega), ?_⟩
      have hbg := hk.2.2.1
      have hen := hk.2.2.2.1
      have hans := hk.2.2.2.2.2.2.2.2.2.2.2.2.2.2.1
      have hfa := hk.2.2.2.2.2.2.2.2.2.2.2.2.2.2.2.1
      have hhow := hk.2.2.2.2.2.2.2.2.2.2.2.2.2.2.2.2.2.2.2.2.2.2.1
      have hb2 := hk.2.2.2.2.2.2.2.2.2.2.2.2.2.2.2.2.1
      have hfb := hk.2.2.2.2.2.2.2.2.2.2.2.2.2.2.2.2.2.2.2.2.2.2.2.2.2.2.2
      by_cases c0 : w = 0
      · subst c0
        simp only [hans, hf5, k_how]
        rcases hhow with z | z | z | z <;> rcases hb2 with y | y <;> simp (decide := true) [z, y, hf6]
      by_cases c1 : w = 1
      · subst c1
        simp only [hf5, k_how]
        rcases hx : xm_r S 2 f 11 with _ | g
        · rw [hx] at hfa
          rcases hhow with z | z | z | z <;> rcases hb2 with y | y <;> simp (decide := true) [z, y, hf6]
          all_goals (simp [z] at hfa; exact hfa)
        · rw [hx] at hfa
          have hg := (h4 g (hfb g hx)).1
          rcases hhow with z | z | z | z <;> rcases hb2 with y | y <;> simp (decide := true) [z, y, hf6, hg]
          all_goals (simp [z] at hfa; exact hfa)
      by_cases c2 : w = 2
      · subst c2
        simp (decide := true) [hbg, hf7]
      by_cases c3 : w = 3
      · subst c3
        simp (decide := true) [hen, hf8]
      simp only [c0, c1, c2, c3, false_implies, not_false_eq_true, true_implies, true_and, if_false]
    · simp only [e1, e2, e3, e4, false_implies, true_implies, not_false_eq_true, not_true_eq_false, true_and, and_true, rg_of, hcnt.2.2.2.2.2.1, if_false, if_true, k01]
      repeat' (first | exact hin | trivial | (refine ⟨?_, ?_⟩) | intro _)
end
