/-! ===== WHAT IS ASKED: an index, and what of it (printed by wip/whole/gen54.py) ===== -/
section
theorem q_failure {S : xm_S} {A : y_A} (h : kQ S A) (i w : Int32) : xc 1 76 [.inr (some (0, 0)), .inl i, .inl w] S (fun r S' => r = some (.inl (rf_failure i w A)) ∧ S' = S) ∧ rg_failure i w A := by
  obtain ⟨⟨hC, hcnt, hb, hl, ht, hv, h1, h2, h3, h4, h5, h6, h7, h8, h9, h10, h11, h12⟩, ho, hr⟩ := h
  have hbb := hb
  unfold k_bnd at hbb
  rcases k_idx i (n := xm_n S 1 8) (by omega) with hi | ⟨hi, hi2, hi3⟩ | ⟨j, hj, rfl⟩
  · exact ⟨cw_failure hC (by simp [hi, rf_failure]), by simp [hi, rg_failure]⟩
  · exact ⟨cw_failure hC (by simp [hi, hi2, hi3, rf_failure, hcnt.2.2.2.2.2.2.2.1]), by simp [hi, hi2, hi3, rg_failure, hcnt.2.2.2.2.2.2.2.1]⟩
  · obtain ⟨e1, e2, e3, e4⟩ := k_idx3 hj (by omega)
    have hk := h4 j hj
    have hin : y_in (nI j) 4400 := y_in_nI (by omega) (by omega)
    refine ⟨cw_failure hC ?_, ?_⟩
    · simp only [e1, e2, e3, e4, false_implies, true_implies, not_false_eq_true, not_true_eq_false, true_and, and_true, rf_failure, hcnt.2.2.2.2.2.2.2.1, if_false, if_true, k01, hl.2.2.2.2.2.1 j hj, Prod.mk.injEq, exists_eq_left']
      refine ⟨y_in_nI hj (by omega), ?_⟩
      by_cases c0 : w = 0
      · subst c0
        simp (decide := true) [hk.2.1]
      by_cases c1 : w = 1
      · subst c1
        simp (decide := true) [hk.2.2.1]
      by_cases c2 : w = 2
      · subst c2
        rcases hx : xm_r S 4 j 3 with _ | g
        · simp (decide := true) [hk.2.2.2.1, hx, kn]
        · simp (decide := true) [hk.2.2.2.1, hx, kn, (h3 g (hk.2.2.2.2.2.2.2.1 g hx)).1]
      by_cases c3 : w = 3
      · subst c3
        rcases hx : xm_r S 4 j 4 with _ | g
        · simp (decide := true) [hk.2.2.2.2.1, hx, kn]
        · simp (decide := true) [hk.2.2.2.2.1, hx, kn, (h1 g (hk.2.2.2.2.2.2.2.2.1 g hx)).1]
      by_cases c4 : w = 4
      · subst c4
        rcases hx : xm_r S 4 j 5 with _ | g
        · simp (decide := true) [hk.2.2.2.2.2.1, hx, kn]
        · simp (decide := true) [hk.2.2.2.2.2.1, hx, kn, (h4 g (hk.2.2.2.2.2.2.2.2.2.1 g hx)).1]
      by_cases c5 : w = 5
      · subst c5
        rcases hx : xm_r S 4 j 6 with _ | g
        · simp (decide := true) [hk.2.2.2.2.2.2.1, hx, kn]
        · simp (decide := true) [hk.2.2.2.2.2.2.1, hx, kn, (h4 g (hk.2.2.2.2.2.2.2.2.2.2.1 g hx)).1]
      simp only [c0, c1, c2, c3, c4, c5, false_implies, not_false_eq_true, true_implies, true_and, if_false]
    · simp only [e1, e2, e3, e4, false_implies, true_implies, not_false_eq_true, not_true_eq_false, true_and, and_true, rg_failure, hcnt.2.2.2.2.2.2.2.1, if_false, if_true, k01]
      repeat' (first | exact hin | trivial | (refine ⟨?_, ?_⟩) | intro _)
theorem q_planned {S : xm_S} {A : y_A} (h : kQ S A) (i w : Int32) : xc 1 66 [.inr (some (0, 0)), .inl i, .inl w] S (fun r S' => r = some (.inl (rf_planned i w A)) ∧ S' = S) ∧ rg_planned i w A := by
  obtain ⟨⟨hC, hcnt, hb, hl, ht, hv, h1, h2, h3, h4, h5, h6, h7, h8, h9, h10, h11, h12⟩, ho, hr⟩ := h
  have hbb := hb
  unfold k_bnd at hbb
  rcases k_idx i (n := xm_n S 1 10) (by omega) with hi | ⟨hi, hi2, hi3⟩ | ⟨j, hj, rfl⟩
  · exact ⟨cw_planned hC (by simp [hi, rf_planned]), by simp [hi, rg_planned]⟩
  · exact ⟨cw_planned hC (by simp [hi, hi2, hi3, rf_planned, hcnt.2.2.2.2.2.2.2.2.2.1]), by simp [hi, hi2, hi3, rg_planned, hcnt.2.2.2.2.2.2.2.2.2.1]⟩
  · obtain ⟨e1, e2, e3, e4⟩ := k_idx3 hj (by omega)
    have hk := h7 j hj
    have hin : y_in (nI j) 12 := y_in_nI (by omega) (by omega)
    refine ⟨cw_planned hC ?_, ?_⟩
    · simp only [e1, e2, e3, e4, false_implies, true_implies, not_false_eq_true, not_true_eq_false, true_and, and_true, rf_planned, hcnt.2.2.2.2.2.2.2.2.2.1, if_false, if_true, k01, hl.2.2.2.2.2.2.2.1 j hj, Prod.mk.injEq, exists_eq_left']
      refine ⟨y_in_nI hj (by omega), ?_⟩
      by_cases c0 : w = 0
      · subst c0
        simp (decide := true) [hk.2.2.2.2.2.2.2.1]
      by_cases c1 : w = 1
      · subst c1
        simp (decide := true) [hk.2.2.2.2.2.2.2.2.1]
      by_cases c2 : w = 2
      · subst c2
        simp (decide := true) [hk.2.2.2.2.2.2.2.2.2.1]
      by_cases c3 : w = 3
      · subst c3
        simp (decide := true) [hk.2.2.2.2.2.2.2.2.2.2.1]
      by_cases c4 : w = 4
      · subst c4
        rcases hk.2.2.2.2.2.2.2.2.2.2.2.2.1 with z | z
        · simp (decide := true) [hk.2.2.2.2.2.2.2.2.2.2.2.1, z]
        · simp (decide := true) [hk.2.2.2.2.2.2.2.2.2.2.2.1, z]
      simp only [c0, c1, c2, c3, c4, false_implies, not_false_eq_true, true_implies, true_and, if_false]
    · simp only [e1, e2, e3, e4, false_implies, true_implies, not_false_eq_true, not_true_eq_false, true_and, and_true, rg_planned, hcnt.2.2.2.2.2.2.2.2.2.1, if_false, if_true, k01]
      repeat' (first | exact hin | trivial | (refine ⟨?_, ?_⟩) | intro _)
theorem q_alarmed {S : xm_S} {A : y_A} (h : kQ S A) (i w : Int32) : xc 0 71 [.inr (some (0, 0)), .inl i, .inl w] S (fun r S' => r = some (.inl (rf_alarmed i w A)) ∧ S' = S) ∧ rg_alarmed i w A := by
  obtain ⟨⟨hC, hcnt, hb, hl, ht, hv, h1, h2, h3, h4, h5, h6, h7, h8, h9, h10, h11, h12⟩, ho, hr⟩ := h
  have hbb := hb
  unfold k_bnd at hbb
  rcases k_idx i (n := xm_n S 1 11) (by omega) with hi | ⟨hi, hi2, hi3⟩ | ⟨j, hj, rfl⟩
  · exact ⟨cw_alarmed hC (by simp [hi, rf_alarmed]), by simp [hi, rg_alarmed]⟩
  · exact ⟨cw_alarmed hC (by simp [hi, hi2, hi3, rf_alarmed, hcnt.2.2.2.2.2.2.2.2.2.2]), by simp [hi, hi2, hi3, rg_alarmed, hcnt.2.2.2.2.2.2.2.2.2.2]⟩
  · obtain ⟨e1, e2, e3, e4⟩ := k_idx3 hj (by omega)
    have hk := h8 j hj
    have hin : y_in (nI j) 10 := y_in_nI (by omega) (by omega)
    refine ⟨cw_alarmed hC ?_, ?_⟩
    · simp only [e1, e2, e3, e4, false_implies, true_implies, not_false_eq_true, not_true_eq_false, true_and, and_true, rf_alarmed, hcnt.2.2.2.2.2.2.2.2.2.2, if_false, if_true, k01, hl.2.2.2.2.2.2.2.2 j hj, Prod.mk.injEq, exists_eq_left']
      refine ⟨y_in_nI hj (by omega), ?_⟩
      by_cases c0 : w = 0
      · subst c0
        simp (decide := true) [hk.2.2.2.1]
      by_cases c1 : w = 1
      · subst c1
        simp (decide := true) [hk.2.2.2.2.1]
      by_cases c2 : w = 2
      · subst c2
        simp (decide := true) [hk.2.2.2.2.2.1]
      simp only [c0, c1, c2, false_implies, not_false_eq_true, true_implies, true_and, if_false]
    · simp only [e1, e2, e3, e4, false_implies, true_implies, not_false_eq_true, not_true_eq_false, true_and, and_true, rg_alarmed, hcnt.2.2.2.2.2.2.2.2.2.2, if_false, if_true, k01]
      repeat' (first | exact hin | trivial | (refine ⟨?_, ?_⟩) | intro _)
theorem q_effect {S : xm_S} {A : y_A} (h : kQ S A) (i w : Int32) : xc 0 85 [.inr (some (0, 0)), .inl i, .inl w] S (fun r S' => r = some (.inl (rf_effect i w A)) ∧ S' = S) ∧ rg_effect i w A := by
  obtain ⟨⟨hC, hcnt, hb, hl, ht, hv, h1, h2, h3, h4, h5, h6, h7, h8, h9, h10, h11, h12⟩, ho, hr⟩ := h
  have hbb := hb
  unfold k_bnd at hbb
  rcases k_idx i (n := xm_n S 1 9) (by omega) with hi | ⟨hi, hi2, hi3⟩ | ⟨j, hj, rfl⟩
  · exact ⟨cw_effect hC (by simp [hi, rf_effect]), by simp [hi, rg_effect]⟩
  · exact ⟨cw_effect hC (by simp [hi, hi2, hi3, rf_effect, hcnt.2.2.2.2.2.2.2.2.1]), by simp [hi, hi2, hi3, rg_effect, hcnt.2.2.2.2.2.2.2.2.1]⟩
  · obtain ⟨e1, e2, e3, e4⟩ := k_idx3 hj (by omega)
    have hk := h5 j hj
    obtain ⟨s, hs1, hs2, hs3⟩ := hk.1
    obtain ⟨o, ho1, ho2, ho3, ho4⟩ := hk.2.1
    have hin : y_in (nI j) 4400 := y_in_nI (by omega) (by omega)
    refine ⟨cw_effect hC ?_, ?_⟩
    · simp only [e1, e2, e3, e4, false_implies, true_implies, not_false_eq_true, not_true_eq_false, true_and, and_true, rf_effect, hcnt.2.2.2.2.2.2.2.2.1, if_false, if_true, k01, hl.2.2.2.2.2.2.1 j hj, Prod.mk.injEq, exists_eq_left']
      refine ⟨y_in_nI hj (by omega), ?_⟩
      by_cases c0 : w = 0
      · subst c0
        simp (decide := true) [hs1, hs3, (h1 s hs2).1]
      by_cases c1 : w = 1
      · subst c1
        simp (decide := true) [ho1, ho3, (h6 o ho2).1]
      by_cases c2 : w = 2
      · subst c2
        simp (decide := true) [ho1, ho4]
      by_cases c3 : w = 3
      · subst c3
        simp (decide := true) [hk.2.2.1]
      by_cases c4 : w = 4
      · subst c4
        simp (decide := true) [hk.2.2.2]
      simp only [c0, c1, c2, c3, c4, false_implies, not_false_eq_true, true_implies, true_and, if_false]
    · simp only [e1, e2, e3, e4, false_implies, true_implies, not_false_eq_true, not_true_eq_false, true_and, and_true, rg_effect, hcnt.2.2.2.2.2.2.2.2.1, if_false, if_true, k01]
      repeat' (first | exact hin | trivial | (refine ⟨?_, ?_⟩) | intro _)
theorem q_fuse {S : xm_S} {A : y_A} (h : kQ S A) (i w : Int32) : xc 2 78 [.inr (some (0, 0)), .inl i, .inl w] S (fun r S' => r = some (.inl (rf_fuse i w A)) ∧ S' = S) ∧ rg_fuse i w A := by
  obtain ⟨⟨hC, hcnt, hb, hl, ht, hv, h1, h2, h3, h4, h5, h6, h7, h8, h9, h10, h11, h12⟩, ho, hr⟩ := h
  have hbb := hb
  unfold k_bnd at hbb
  rcases k_idx i (n := xm_n S 1 3) (by omega) with hi | ⟨hi, hi2, hi3⟩ | ⟨j, hj, rfl⟩
  · exact ⟨cw_fuse hC (by simp [hi, rf_isGuard, rf_fuse]), by simp [hi, rf_isGuard, rg_isGuard, rg_fuse]⟩
  · exact ⟨cw_fuse hC (by simp [hi, hi2, hi3, rf_isGuard, rf_fuse, hcnt.2.2.2.1]), by simp [hi, hi2, hi3, rf_isGuard, rg_isGuard, rg_fuse, hcnt.2.2.2.1]⟩
  · obtain ⟨e1, e2, e3, e4⟩ := k_idx3 hj (by omega)
    have hk := h3 j hj
    have hin : y_in (nI j) 24 := y_in_nI (by omega) (by omega)
    refine ⟨cw_fuse hC ?_, ?_⟩
    · simp only [e1, e2, e3, e4, false_implies, true_implies, not_false_eq_true, not_true_eq_false, true_and, and_true, rf_isGuard, rf_fuse, hcnt.2.2.2.1, if_false, if_true, k01, hl.2.1 j hj, Prod.mk.injEq, exists_eq_left']
      refine ⟨y_in_nI hj (by omega), ?_⟩
      by_cases hg : ¬ A 31 j = 0
      · simp [hg, hk.2.1]
      replace hg := Decidable.not_not.mp hg
      simp only [hk.2.1, hg, if_true, true_implies, not_true_eq_false, false_implies, and_true, k01, if_false]
      by_cases c0 : w = 0
      · subst c0
        simp (decide := true) [hk.2.2.2.2.2.2.1]
      by_cases c1 : w = 1
      · subst c1
        simp (decide := true) [hk.2.2.2.2.2.2.2.1]
      by_cases c2 : w = 2
      · subst c2
        simp (decide := true) [hk.2.2.2.2.2.2.2.2.1]
      simp only [c0, c1, c2, false_implies, not_false_eq_true, true_implies, true_and, if_false]
    · simp only [e1, e2, e3, e4, false_implies, true_implies, not_false_eq_true, not_true_eq_false, true_and, and_true, rf_isGuard, rg_isGuard, rg_fuse, hcnt.2.2.2.1, if_false, if_true, k01]
      repeat' (first | exact hin | trivial | (refine ⟨?_, ?_⟩) | intro _)
theorem q_bulkhead {S : xm_S} {A : y_A} (h : kQ S A) (i w : Int32) : xc 2 79 [.inr (some (0, 0)), .inl i, .inl w] S (fun r S' => r = some (.inl (rf_bulkhead i w A)) ∧ S' = S) ∧ rg_bulkhead i w A := by
  obtain ⟨⟨hC, hcnt, hb, hl, ht, hv, h1, h2, h3, h4, h5, h6, h7, h8, h9, h10, h11, h12⟩, ho, hr⟩ := h
  have hbb := hb
  unfold k_bnd at hbb
  rcases k_idx i (n := xm_n S 1 3) (by omega) with hi | ⟨hi, hi2, hi3⟩ | ⟨j, hj, rfl⟩
  · exact ⟨cw_bulkhead hC (by simp [hi, rf_isGuard, rf_bulkhead]), by simp [hi, rf_isGuard, rg_isGuard, rg_bulkhead]⟩
  · exact ⟨cw_bulkhead hC (by simp [hi, hi2, hi3, rf_isGuard, rf_bulkhead, hcnt.2.2.2.1]), by simp [hi, hi2, hi3, rf_isGuard, rg_isGuard, rg_bulkhead, hcnt.2.2.2.1]⟩
  · obtain ⟨e1, e2, e3, e4⟩ := k_idx3 hj (by omega)
    have hk := h3 j hj
    obtain ⟨q, hq1, hq2, hq3, hq4, hq5⟩ := hk.2.2.2.2.2.2.2.2.2.2.2.2.1
    have hin : y_in (nI j) 24 := y_in_nI (by omega) (by omega)
    refine ⟨cw_bulkhead hC ?_, ?_⟩
    · simp only [e1, e2, e3, e4, false_implies, true_implies, not_false_eq_true, not_true_eq_false, true_and, and_true, rf_isGuard, rf_bulkhead, hcnt.2.2.2.1, if_false, if_true, k01, hl.2.1 j hj, Prod.mk.injEq, exists_eq_left']
      refine ⟨y_in_nI hj (by omega), ?_⟩
      by_cases hg : ¬ A 31 j = 1
      · simp [hg, hk.2.1]
      replace hg := Decidable.not_not.mp hg
      simp only [hk.2.1, hg, if_true, true_implies, not_true_eq_false, false_implies, and_true, k01, if_false]
      by_cases c0 : w = 0
      · subst c0
        simp (decide := true) [hk.2.2.2.2.2.2.2.2.2.1]
      by_cases c1 : w = 1
      · subst c1
        simp (decide := true) [hq1, hq4]
      by_cases c2 : w = 2
      · subst c2
        simp (decide := true) [hk.2.2.2.2.2.2.2.2.2.2.1]
      simp only [c0, c1, c2, false_implies, not_false_eq_true, true_implies, true_and, if_false]
    · simp only [e1, e2, e3, e4, false_implies, true_implies, not_false_eq_true, not_true_eq_false, true_and, and_true, rf_isGuard, rg_isGuard, rg_bulkhead, hcnt.2.2.2.1, if_false, if_true, k01]
      repeat' (first | exact hin | trivial | (refine ⟨?_, ?_⟩) | intro _)
theorem q_call {S : xm_S} {A : y_A} (h : kQ S A) (i w : Int32) : xc 1 77 [.inr (some (0, 0)), .inl i, .inl w] S (fun r S' => r = some (.inl (rf_call i w A)) ∧ S' = S) ∧ rg_call i w A := by
  obtain ⟨⟨hC, hcnt, hb, hl, ht, hv, h1, h2, h3, h4, h5, h6, h7, h8, h9, h10, h11, h12⟩, ho, hr⟩ := h
  have hbb := hb
  unfold k_bnd at hbb
  rcases k_idx i (n := xm_n S 1 6) (by omega) with hi | ⟨hi, hi2, hi3⟩ | ⟨j, hj, rfl⟩
  · exact ⟨cw_call hC (by simp [hi, rf_call]), by simp [hi, rg_call]⟩
  · exact ⟨cw_call hC (by simp [hi, hi2, hi3, rf_call, hcnt.2.2.2.2.2.2.1]), by simp [hi, hi2, hi3, rg_call, hcnt.2.2.2.2.2.2.1]⟩
  · obtain ⟨e1, e2, e3, e4⟩ := k_idx3 hj (by omega)
    have hk := h2 j hj
    obtain ⟨o, ho1, ho2, ho3⟩ := hk.2.2.2.2.2.2.2.2.2.1
    have hin : y_in (nI j) 4400 := y_in_nI (by omega) (by omega)
    refine ⟨cw_call hC ?_, ?_⟩
    · simp only [e1, e2, e3, e4, false_implies, true_implies, not_false_eq_true, not_true_eq_false, true_and, and_true, rf_call, hcnt.2.2.2.2.2.2.1, if_false, if_true, k01, hl.2.2.2.2.1 j hj, Prod.mk.injEq, exists_eq_left']
      refine ⟨y_in_nI hj (by omega), ?_⟩
      by_cases c0 : w = 0
      · subst c0
        simp (decide := true) [ho1, ho3, (h6 o ho2).1]
      by_cases c1 : w = 1
      · subst c1
        simp (decide := true) [hk.2.1]
      by_cases c2 : w = 2
      · subst c2
        rcases hx : xm_r S 2 j 2 with _ | g
        · simp (decide := true) [hk.2.2.2.2.2.2.2.2.2.2.1, hx, kn]
        · simp (decide := true) [hk.2.2.2.2.2.2.2.2.2.2.1, hx, kn, (h2 g (by have := hk.2.2.2.2.2.2.2.2.2.2.2.2.2.2.2.2.2.2.2.2.2.2.2.2.2.1 g hx; omega)).1]
      by_cases c3 : w = 3
      · subst c3
        rcases hx : xm_r S 2 j 4 with _ | g
        · simp (decide := true) [hk.2.2.2.2.2.2.2.2.2.2.2.1, hx, kn]
        · simp (decide := true) [hk.2.2.2.2.2.2.2.2.2.2.2.1, hx, kn, (h3 g (hk.2.2.2.2.2.2.2.2.2.2.2.2.2.2.2.2.2.2.2.2.2.2.2.1 g hx)).1]
      by_cases c4 : w = 4
      · subst c4
        rcases hx : xm_r S 2 j 6 with _ | g
        · simp (decide := true) [hk.2.2.2.2.2.2.2.2.2.2.2.2.1, hx, kn]
        · simp (decide := true) [hk.2.2.2.2.2.2.2.2.2.2.2.2.1, hx, kn, (h1 g (hk.2.2.2.2.2.2.2.2.2.2.2.2.2.2.2.2.2.2.2.2.2.2.2.2.1 g hx)).1]
      by_cases c5 : w = 5
      · subst c5
        simp (decide := true) [hk.2.2.1]
      by_cases c6 : w = 6
      · subst c6
        simp (decide := true) [hk.2.2.2.1]
      by_cases c7 : w = 7
      · subst c7
        simp (decide := true) [hk.2.2.2.2.1]
      by_cases c8 : w = 8
      · subst c8
        simp (decide := true) [hk.2.2.2.2.2.2.2.2.2.2.2.2.2.2.1]
      by_cases c9 : w = 9
      · subst c9
        have hz := hk.2.2.2.2.2.2.2.2.2.2.2.2.2.2.2.1
        rcases hx : xm_r S 2 j 11 with _ | g
        · rw [hx] at hz; simp (decide := true) [hx, ← hz, kn]
        · rw [hx] at hz; simp (decide := true) [hx, ← hz, kn, (h4 g (hk.2.2.2.2.2.2.2.2.2.2.2.2.2.2.2.2.2.2.2.2.2.2.2.2.2.2.2 g hx)).1]
      by_cases c10 : w = 10
      · subst c10
        have hz := hk.2.2.2.2.2.2.2.2.2.2.2.2.2.1
        by_cases h0 : A 69 j = 0
        · have hy := hr j hj h0
          unfold k_rest at hy
          rcases hk.2.2.2.2.2.2.2.2.2.2.2.2.2.2.2.2.2.2.1 with z | z <;> rcases hk.2.2.2.2.2.2.2.2.2.2.2.2.2.2.2.2.2.2.2.1 with y | y <;> rcases hx : xm_r S 2 j 15 with _ | g <;> rw [hx] at hz hy <;> simp (decide := true) [hk.2.2.2.2.1, h0, hy, z, y, hz, kn]
          exact (nI_pos' (n := g) (by have := hk.2.2.2.2.2.2.2.2.2.2.2.2.2.2.2.2.2.2.2.2.2.2.2.2.2.2.1 g hx; omega))
        · simp (decide := true) [hk.2.2.2.2.1, h0]
      simp only [c0, c1, c2, c3, c4, c5, c6, c7, c8, c9, c10, false_implies, not_false_eq_true, true_implies, true_and, if_false]
    · simp only [e1, e2, e3, e4, false_implies, true_implies, not_false_eq_true, not_true_eq_false, true_and, and_true, rg_call, hcnt.2.2.2.2.2.2.1, if_false, if_true, k01]
      repeat' (first | exact hin | trivial | (refine ⟨?_, ?_⟩) | intro _)
end
