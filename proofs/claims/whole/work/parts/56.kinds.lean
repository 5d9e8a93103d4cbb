/-! ===== KINDS: which is OF which ===== -/
section
/-- the static arrays: bounds of the guards' numbers by sort, the kinds' table -/
def kS_T : List (List Int32) := [[1, 1, 1, 1, 2, 1, 0, 1, 0, 0], [20, 10, 100, 1000, 6, 100, 1, 1000, 0, 0], [1, 0, 1, 0, 1, 0, 0, 0, 0, 0], [1000, 10, 100, 0, 50, 0, 1000000, 0, 0, 15], [0, 0, 0, 0, 1, 0, 0, 0, 0, 0], [15, 0, 0, 0, 15, 0, 15, 0, 0, 15], [-1, 0, 1, 1, 0, 4, 4, 4, 0, 8, 8, 8, 8, 8, 0, 14]]
def kS (S : xm_S) : Prop := ∀ k, k < 7 → xm_n S 26 k = (kS_T.getD k []).length ∧ ∀ j, j < (kS_T.getD k []).length → xm_i S 16 k j = (kS_T.getD k []).getD j 0
def ku_up (j : Nat) : Option Nat := [none, some 0, some 1, some 1, some 0, some 4, some 4, some 4, some 0, some 8, some 8, some 8, some 8, some 8, some 0, some 14].getD j none
theorem ku_over : ∀ j, j < 16 → rf_over (nI j) (fun _ _ => 0) = kn (ku_up j) := by decide +kernel
theorem ku_tab : ∀ j, j < 16 → (kS_T.getD 6 []).getD j 0 = kn (ku_up j) := by decide +kernel
theorem ku_lt : ∀ j, j < 16 → (match ku_up j with | none => true | some k => decide (k < j)) = true := by decide +kernel
theorem rg_over_t (a : Int32) (A : y_A) : rg_over a A := by
  unfold rg_over
  repeat' (first | trivial | (refine ⟨?_, ?_⟩) | intro _)
theorem ku_run {d : Nat} {S : xm_S} {Q : Option xm_V → xm_S → Prop} (A : y_A) (hC : xk_C S) (hS : kS S) {l0 l1 : Int32} {o : Nat} (ho : o < 16) : ∀ (j s n : Nat), j < 16 → s + j ≤ 15 → j + 2 ≤ n → (Q (some (.inl (if rf_isUnder_2 n l1 (nI o) (nI j) A = nI o then 1 else 0))) S → xw d 27 4 [some (.inl l0), some (.inl (nI o)), some (.inl (nI j)), some (.inl (nI s))] [] S Q) ∧ rg_isUnder_2 n l1 (nI o) (nI j) A := by
  intro j
  induction j using Nat.strongRecOn with
  | _ j ih =>
  intro s n hj hs hn
  obtain ⟨n, rfl⟩ : ∃ m, n = m + 1 := ⟨n - 1, by omega⟩
  have hN : xm_n S 26 6 = 16 := (hS 6 (by decide)).1
  have e1 : ¬ nI j = -1 := fun z => by
    have := nI_pos (n := j) (by omega)
    rw [z] at this
    exact this (by decide)
  have e2 : ¬ (15 : Int32) < nI s := nI_nlt (a := 15) (b := s) (by omega) (by decide)
  have e3 : ¬ nI j < 0 := nI_pos (by omega)
  have e4 : ¬ nI (xm_n S 26 6) ≤ nI j := by rw [hN]; exact nI_ge hj (by decide)
  have hin : y_in (nI j) (xm_n S 26 6) := by rw [hN]; exact y_in_nI hj (by decide)
  have hv : xm_i S 16 6 (y_ix (nI j)) = kn (ku_up j) := by rw [y_ix_nI (by omega), (hS 6 (by decide)).2 j hj, ku_tab j hj]
  have hov : rf_over (nI j) A = kn (ku_up j) := ku_over j hj
  unfold rf_isUnder_2 rg_isUnder_2
  rw [if_neg e1]
  by_cases hjo : nI j = nI o
  · rw [if_pos hjo, if_pos hjo]
    exact ⟨fun hq => cw_kindIsOf_4 hC ⟨fun z => absurd z e2, fun _ => ⟨fun z => absurd z e3, fun _ => ⟨fun z => absurd z e4, fun _ => ⟨fun _ => hq, fun z => absurd hjo z⟩⟩⟩⟩, fun z => absurd z e1, fun _ => ⟨fun _ => trivial, fun z => absurd hjo z⟩⟩
  · rw [if_neg hjo, hov]
    have hl := ku_lt j hj
    rcases hu : ku_up j with _ | k
    · obtain ⟨n, rfl⟩ : ∃ m, n = m + 1 := ⟨n - 1, by omega⟩
      have h1o : ¬ (-1 : Int32) = nI o := fun z => by
        have := nI_pos (n := o) (by omega)
        rw [← z] at this
        exact this (by decide)
      refine ⟨fun hq => cw_kindIsOf_4 hC ⟨fun z => absurd z e2, fun _ => ⟨fun z => absurd z e3, fun _ => ⟨fun z => absurd z e4, fun _ => ⟨fun z => absurd z hjo, fun _ => ⟨hin, cw_kindIsOf_4 hC ?_⟩⟩⟩⟩⟩, fun z => absurd z e1, fun _ => ⟨fun _ => trivial, fun _ => ⟨rg_over_t _ _, ?_⟩⟩⟩
      · have hq2 : Q (some (.inl 0)) S := by simpa [kn, rf_isUnder_2, h1o] using hq
        rw [hv, hu]
        exact ⟨fun _ => hq2, fun _ => ⟨fun _ => hq2, fun z => absurd (by decide) z⟩⟩
      · unfold rg_isUnder_2
        exact ⟨fun _ => trivial, fun z => absurd rfl z⟩
    · rw [hu] at hl
      have hkj : k < j := of_decide_eq_true hl
      obtain ⟨i1, i2⟩ := ih k hkj (s + 1) n (by omega) (by omega) (by omega)
      refine ⟨fun hq => cw_kindIsOf_4 hC ⟨fun z => absurd z e2, fun _ => ⟨fun z => absurd z e3, fun _ => ⟨fun z => absurd z e4, fun _ => ⟨fun z => absurd z hjo, fun _ => ⟨hin, ?_⟩⟩⟩⟩⟩, fun z => absurd z e1, fun _ => ⟨fun _ => trivial, fun _ => ⟨rg_over_t _ _, i2⟩⟩⟩
      rw [hv, hu, nI_1]
      exact i1 hq
theorem c_kindIsOf {d : Nat} {S : xm_S} {Q : Option xm_V → xm_S → Prop} (A : y_A) (hC : xk_C S) (hS : kS S) {j o : Nat} (hj : j < 16) (ho : o < 16) (hq : Q (some (.inl (rf_isUnder (nI j) (nI o) A))) S) : xc d 27 [.inl (nI j), .inl (nI o)] S Q :=
  cw_kindIsOf hC ((ku_run A hC hS ho j 0 20000 hj (by omega) (by omega)).1 hq)
theorem g_isUnder {j o : Nat} (A : y_A) (S : xm_S) (hC : xk_C S) (hS : kS S) (hj : j < 16) (ho : o < 16) : rg_isUnder (nI j) (nI o) A :=
  ⟨(ku_run (d := 0) (Q := fun _ _ => True) (l0 := 0) A hC hS ho j 0 20000 hj (by omega) (by omega)).2, fun _ => trivial, fun _ => trivial⟩
theorem f_isUnder (a b : Int32) (A : y_A) : rf_isUnder a b A = 0 ∨ rf_isUnder a b A = 1 := by
  unfold rf_isUnder
  split
  · exact Or.inr rfl
  · exact Or.inl rfl
theorem q_isOf {S : xm_S} {A : y_A} (h : kQ S A) (hS : kS S) (a b : Int32) : xc 1 86 [.inr (some (0, 0)), .inl a, .inl b] S (fun r S' => r = some (.inl (rf_isOf a b A)) ∧ S' = S) ∧ rg_isOf a b A := by
  have hC := h.1.1
  have h15 : ∀ x : Int32, ¬ x < 0 → ¬ (15 : Int32) < x → ∃ j, j < 16 ∧ x = nI j := fun x h0 h1 => by
    obtain ⟨j, hj, rfl⟩ := nI_of h0
    refine ⟨j, ?_, rfl⟩
    by_cases hh : j < 16
    · exact hh
    · exact absurd (nI_lt (a := 15) (b := j) (by omega) hj) h1
  unfold rf_isOf rg_isOf
  by_cases a0 : a < 0
  · exact ⟨cw_isOf hC (by simp [a0]), by simp [a0]⟩
  by_cases a1 : (15 : Int32) < a
  · exact ⟨cw_isOf hC (by simp [a0, a1]), by simp [a0, a1]⟩
  by_cases b0 : b < 0
  · exact ⟨cw_isOf hC (by simp [a0, a1, b0]), by simp [a0, a1, b0]⟩
  by_cases b1 : (15 : Int32) < b
  · have b2 : ¬ b ≤ 15 := Int32.not_le.mpr b1
    exact ⟨cw_isOf hC (by simp [a0, a1, b0, b1, b2]), by simp [a0, a1, b0, b2]⟩
  have b2 : b ≤ 15 := Int32.not_lt.mp b1
  obtain ⟨j, hj, rfl⟩ := h15 a a0 a1
  obtain ⟨o, ho, rfl⟩ := h15 b b0 b1
  refine ⟨cw_isOf hC ⟨fun z => absurd z a0, fun _ => ⟨fun z => absurd z a1, fun _ => ⟨fun z => absurd z b0, fun _ => ⟨fun z => absurd z b1, fun _ => c_kindIsOf A hC hS hj ho ⟨_, rfl, hC, ?_⟩⟩⟩⟩⟩, ?_⟩
  · rw [if_neg a0, if_neg a1, if_neg b0, if_pos b2]
    exact ⟨fun z => by simp [z], fun z => by simp [z]⟩
  · exact ⟨fun z => absurd z a0, fun _ => ⟨fun z => absurd z a1, fun _ => ⟨fun z => absurd z b0, fun _ => ⟨fun _ => ⟨g_isUnder A S hC hS hj ho, fun _ => trivial, fun _ => trivial⟩, fun z => absurd b2 z⟩⟩⟩⟩
end
