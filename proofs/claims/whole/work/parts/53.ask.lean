/-! ===== WHAT IS ASKED, without loops ===== -/
section
/-- at rest: orders by their first calls, what calls wait for -/
def kQ (S : xm_S) (A : y_A) : Prop := kE S A ∧ (∀ o, o < xm_n S 1 5 → kof S A o) ∧ ∀ k, k < xm_n S 1 6 → A 69 k = 0 → k_rest S A k
theorem k_idx (i : Int32) {n : Nat} (hn : n < 2 ^ 31) : i < 0 ∨ (¬ i < 0 ∧ nI n ≤ i ∧ ¬ i < nI n) ∨ ∃ j, j < n ∧ i = nI j := by
  by_cases h : i < 0
  · exact Or.inl h
  · obtain ⟨j, hj, rfl⟩ := nI_of h
    by_cases hjn : j < n
    · exact Or.inr (Or.inr ⟨j, hjn, rfl⟩)
    · exact Or.inr (Or.inl ⟨h, nI_le (by omega) hj, nI_nlt (by omega) hj⟩)
/-- an index that is within -/
theorem k_idx3 {j n : Nat} (h : j < n) (hn : n < 2 ^ 31) : (nI j < 0) = False ∧ (nI n ≤ nI j) = False ∧ (nI j < nI n) = True ∧ y_ix (nI j) = j := ⟨eq_false (nI_pos (by omega)), eq_false (nI_ge h hn), eq_true (nI_lt h hn), y_ix_nI (by omega)⟩
theorem k01 : ((1 : Int32) = 0) = False := by decide
theorem k10 : ((0 : Int32) = 1) = False := by decide
theorem q_now {S : xm_S} {A : y_A} (h : kQ S A) : xc 0 72 [.inr (some (0, 0))] S (fun r S' => r = some (.inl (rf_now A)) ∧ S' = S) ∧ rg_now A := by
  obtain ⟨⟨hC, hcnt, hb, hl, ht, hv, h1, h2, h3, h4, h5, h6, h7, h8, h9, h10, h11, h12⟩, ho, hr⟩ := h
  refine ⟨cw_now hC ⟨?_, rfl⟩, trivial⟩
  rw [ht.1]
  rfl
theorem q_level {S : xm_S} {A : y_A} (h : kQ S A) (i : Int32) : xc 1 84 [.inr (some (0, 0)), .inl i] S (fun r S' => r = some (.inl (rf_level i A)) ∧ S' = S) ∧ rg_level i A := by
  obtain ⟨⟨hC, hcnt, hb, hl, ht, hv, h1, h2, h3, h4, h5, h6, h7, h8, h9, h10, h11, h12⟩, ho, hr⟩ := h
  have hn := hb.1
  rcases k_idx i (n := xm_n S 1 0) (by omega) with hi | ⟨hi, hi2, hi3⟩ | ⟨j, hj, rfl⟩
  · refine ⟨cw_level hC ?_, ?_⟩
    · simp [hi, rf_level, rf_isStation]
    · simp [hi, rg_level, rg_isStation, rf_isStation]
  · refine ⟨cw_level hC ?_, ?_⟩
    · simp [hi, hi2, hi3, rf_level, rf_isStation, hcnt.1]
    · simp [hi, hi2, hi3, rg_level, rg_isStation, rf_isStation, hcnt.1]
  · obtain ⟨e1, e2, e3, e4⟩ := k_idx3 hj (by omega)
    refine ⟨cw_level hC ?_, ?_⟩
    · simp only [e1, e2, e3, e4, false_implies, true_implies, not_false_eq_true, true_and, rf_level, rf_isStation, hcnt.1, if_false, if_true, k01]
      exact ⟨y_in_nI hj (by omega), j, hl.1 j hj, by rw [(h1 j hj).2.2.2.1], trivial⟩
    · simp only [e1, e2, e3, e4, false_implies, true_implies, not_false_eq_true, true_and, rg_level, rg_isStation, rf_isStation, hcnt.1, if_false, if_true, k01, and_true]
      exact y_in_nI (by omega) (by omega)
end
