/-! ===== FIELDS ARE CHANGED, of one call, one guard, and others: what stays (printed by wip/whole/gen77.py) ===== -/
section
/-- all of it, in the midst of things -/
def kM (S : xm_S) (A : y_A) (X E B : Nat → Prop) (hb rb nb t w e1 e2 : Nat) : Prop := kE S A ∧ kS S ∧ (∀ g, g < xm_n S 1 3 → kgr S A g) ∧ kI S A X E B hb rb nb t w e1 e2
theorem kK.M {S : xm_S} {A : y_A} {t : Nat} (h : kK S A t) : kM S A (fun _ => False) (fun _ => False) (fun _ => False) 5000 5000 5000 t 0 0 0 := ⟨h.1.1.1, h.1.2.1, h.1.2.2, h.2⟩
theorem kM.K {S : xm_S} {A : y_A} {t : Nat} (h : kM S A (fun _ => False) (fun _ => False) (fun _ => False) 5000 5000 5000 t 0 0 0) : kK S A t := by
  obtain ⟨h1, h2, h3, h4⟩ := h
  refine ⟨⟨⟨h1, fun o ho => ?_, fun k hk h0 => ?_⟩, h2, h3⟩, h4⟩
  · exact h4.2.2.2.2.2.2.2.2.2.2.2.2.2.2.2.2.2 o (by omega)
  · refine (h4.2.2.2.2.2.2.1 k hk).1 (Or.inl ?_)
    rw [(h1.2.2.2.2.2.2.2.1 k hk).2.2.2.2.1]
    exact h0
/-- slots that are changed: of objects (kind, slot), of the reference's state; of calls c alone, of guards g alone -/
def kF (c g : Nat) (I R : List (Nat × Nat)) (Z : List Nat) (S S' : xm_S) (A A' : y_A) : Prop := xm_n S' = xm_n S ∧ xm_l S' = xm_l S ∧ (∀ p j, (p, j) ∉ I → ∀ q, xm_i S' p q j = xm_i S p q j) ∧ (∀ p j, (p, j) ∉ R → ∀ q, xm_r S' p q j = xm_r S p q j) ∧ (∀ x, x ∉ Z → ∀ k, A' x k = A x k) ∧ (∀ k j, k ≠ c → xm_i S' 2 k j = xm_i S 2 k j ∧ xm_r S' 2 k j = xm_r S 2 k j) ∧ (∀ k j, k ≠ g → xm_i S' 5 k j = xm_i S 5 k j ∧ xm_r S' 5 k j = xm_r S 5 k j) ∧ (∀ x k, 62 ≤ x ∧ x ≤ 79 → k ≠ c → A' x k = A x k) ∧ ∀ x k, 31 ≤ x ∧ x ≤ 42 → k ≠ g → A' x k = A x k
theorem kF.rf (c g : Nat) (S : xm_S) (A : y_A) : kF c g [] [] [] S S A A := ⟨rfl, rfl, fun _ _ _ _ => rfl, fun _ _ _ _ => rfl, fun _ _ _ => rfl, fun _ _ _ => ⟨rfl, rfl⟩, fun _ _ _ => ⟨rfl, rfl⟩, fun _ _ _ _ => rfl, fun _ _ _ _ => rfl⟩
theorem kF.si {c g : Nat} {I R : List (Nat × Nat)} {Z : List Nat} {S S' : xm_S} {A A' : y_A} (h : kF c g I R Z S S' A A') (p q j : Nat) (x : Int32) (h2 : p = 2 → q = c) (h5 : p = 5 → q = g) : kF c g ((p, j) :: I) R Z S (xm_si S' p q j x) A A' := by
  obtain ⟨a1, a2, a3, a4, a5, a6, a7, a8, a9⟩ := h
  refine ⟨a1, a2, fun p' j' hm q' => ?_, a4, a5, fun k j' hk => ⟨?_, (a6 k j' hk).2⟩, fun k j' hk => ⟨?_, (a7 k j' hk).2⟩, a8, a9⟩
  · rw [xi_si (fun z => hm (by rw [z.1, z.2]; exact List.mem_cons_self))]
    exact a3 p' j' (fun z => hm (List.mem_cons_of_mem _ z)) q'
  · rw [xi_sk (fun z => hk (z.2.trans (h2 z.1.symm)))]
    exact (a6 k j' hk).1
  · rw [xi_sk (fun z => hk (z.2.trans (h5 z.1.symm)))]
    exact (a7 k j' hk).1
theorem kF.sr {c g : Nat} {I R : List (Nat × Nat)} {Z : List Nat} {S S' : xm_S} {A A' : y_A} (h : kF c g I R Z S S' A A') (p q j : Nat) (x : Option Nat) (h2 : p = 2 → q = c) (h5 : p = 5 → q = g) : kF c g I ((p, j) :: R) Z S (xm_sr S' p q j x) A A' := by
  obtain ⟨a1, a2, a3, a4, a5, a6, a7, a8, a9⟩ := h
  refine ⟨a1, a2, a3, fun p' j' hm q' => ?_, a5, fun k j' hk => ⟨(a6 k j' hk).1, ?_⟩, fun k j' hk => ⟨(a7 k j' hk).1, ?_⟩, a8, a9⟩
  · rw [xr_sr (fun z => hm (by rw [z.1, z.2]; exact List.mem_cons_self))]
    exact a4 p' j' (fun z => hm (List.mem_cons_of_mem _ z)) q'
  · rw [xr_sk (fun z => hk (z.2.trans (h2 z.1.symm)))]
    exact (a6 k j' hk).2
  · rw [xr_sk (fun z => hk (z.2.trans (h5 z.1.symm)))]
    exact (a7 k j' hk).2
theorem kF.u {c g : Nat} {I R : List (Nat × Nat)} {Z : List Nat} {S S' : xm_S} {A A' : y_A} (h : kF c g I R Z S S' A A') (x i : Nat) (v : Int32) (h2 : 62 ≤ x ∧ x ≤ 79 → i = c) (h5 : 31 ≤ x ∧ x ≤ 42 → i = g) : kF c g I R (x :: Z) S S' A (xm_u2 A' x i v) := by
  obtain ⟨a1, a2, a3, a4, a5, a6, a7, a8, a9⟩ := h
  refine ⟨a1, a2, a3, a4, fun y hm k => ?_, a6, a7, fun y k hy hk => ?_, fun y k hy hk => ?_⟩
  · refine (if_neg (fun z => hm (by rw [z.1]; exact List.mem_cons_self))).trans ?_
    exact a5 y (fun z => hm (List.mem_cons_of_mem _ z)) k
  · refine (if_neg (fun z => hk (z.2.trans (h2 (by omega))))).trans ?_
    exact a8 y k hy hk
  · refine (if_neg (fun z => hk (z.2.trans (h5 (by omega))))).trans ?_
    exact a9 y k hy hk
theorem k_cnt.F {c g : Nat} {I R : List (Nat × Nat)} {Z : List Nat} {S S' : xm_S} {A A' : y_A} (h : kF c g I R Z S S' A A') (ha1 : 1 ∉ Z) (ha5 : 5 ∉ Z) (ha11 : 11 ∉ Z) (ha30 : 30 ∉ Z) (ha47 : 47 ∉ Z) (ha50 : 50 ∉ Z) (ha61 : 61 ∉ Z) (ha23 : 23 ∉ Z) (ha17 : 17 ∉ Z) (ha89 : 89 ∉ Z) (ha103 : 103 ∉ Z) (z : k_cnt S A) : k_cnt S' A' := by
  obtain ⟨a1, a2, a3, a4, a5, -⟩ := h
  unfold k_cnt at z ⊢
  simp only [a1, a2, a5 1 ha1, a5 5 ha5, a5 11 ha11, a5 30 ha30, a5 47 ha47, a5 50 ha50, a5 61 ha61, a5 23 ha23, a5 17 ha17, a5 89 ha89, a5 103 ha103] at z ⊢
  exact z
theorem k_bnd.F {c g : Nat} {I R : List (Nat × Nat)} {Z : List Nat} {S S' : xm_S} {A A' : y_A} (h : kF c g I R Z S S' A A') (z : k_bnd S) : k_bnd S' := by
  obtain ⟨a1, a2, a3, a4, a5, -⟩ := h
  unfold k_bnd at z ⊢
  simp only [a1, a2] at z ⊢
  exact z
theorem k_lst.F {c g : Nat} {I R : List (Nat × Nat)} {Z : List Nat} {S S' : xm_S} {A A' : y_A} (h : kF c g I R Z S S' A A') (z : k_lst S) : k_lst S' := by
  obtain ⟨a1, a2, a3, a4, a5, -⟩ := h
  unfold k_lst at z ⊢
  simp only [a1, a2] at z ⊢
  exact z
theorem k_top.F {c g : Nat} {I R : List (Nat × Nat)} {Z : List Nat} {S S' : xm_S} {A A' : y_A} (h : kF c g I R Z S S' A A') (hi0_13 : (0, 13) ∉ I) (hr0_12 : (0, 12) ∉ R) (ha0 : 0 ∉ Z) (z : k_top S A) : k_top S' A' := by
  obtain ⟨a1, a2, a3, a4, a5, -⟩ := h
  unfold k_top at z ⊢
  simp only [a1, a2, a3 0 13 hi0_13, a4 0 12 hr0_12, a5 0 ha0] at z ⊢
  exact z
theorem k_live.F {c g : Nat} {I R : List (Nat × Nat)} {Z : List Nat} {S S' : xm_S} {A A' : y_A} (h : kF c g I R Z S S' A A') (hi2_8 : (2, 8) ∉ I) (z : k_live S) : k_live S' := by
  obtain ⟨a1, a2, a3, a4, a5, -⟩ := h
  unfold k_live at z ⊢
  simp only [a1, a2, a3 2 8 hi2_8] at z ⊢
  exact z
theorem ks.F {c g : Nat} {I R : List (Nat × Nat)} {Z : List Nat} {S S' : xm_S} {A A' : y_A} (h : kF c g I R Z S S' A A') {k : Nat} (hi9_0 : (9, 0) ∉ I) (hi9_1 : (9, 1) ∉ I) (hi9_2 : (9, 2) ∉ I) (hi9_3 : (9, 3) ∉ I) (ha2 : 2 ∉ Z) (ha3 : 3 ∉ Z) (ha4 : 4 ∉ Z) (z : ks S A k) : ks S' A' k := by
  obtain ⟨a1, a2, a3, a4, a5, -⟩ := h
  unfold ks at z ⊢
  simp only [a1, a2, a3 9 0 hi9_0, a3 9 1 hi9_1, a3 9 2 hi9_2, a3 9 3 hi9_3, a5 2 ha2, a5 3 ha3, a5 4 ha4] at z ⊢
  exact z
theorem kc.F {c g : Nat} {I R : List (Nat × Nat)} {Z : List Nat} {S S' : xm_S} {A A' : y_A} (h : kF c g I R Z S S' A A') {k : Nat} (hi2_0 : (2, 0) ∉ I) (hi2_3 : (2, 3) ∉ I) (hi2_5 : (2, 5) ∉ I) (hi2_7 : (2, 7) ∉ I) (hi2_8 : (2, 8) ∉ I) (hi2_9 : (2, 9) ∉ I) (hi2_10 : (2, 10) ∉ I) (hi2_12 : (2, 12) ∉ I) (hi2_14 : (2, 14) ∉ I) (hi2_16 : (2, 16) ∉ I) (hr2_1 : (2, 1) ∉ R) (hr2_2 : (2, 2) ∉ R) (hr2_4 : (2, 4) ∉ R) (hr2_6 : (2, 6) ∉ R) (hr2_11 : (2, 11) ∉ R) (hr2_15 : (2, 15) ∉ R) (ha62 : 62 ∉ Z) (ha63 : 63 ∉ Z) (ha64 : 64 ∉ Z) (ha65 : 65 ∉ Z) (ha66 : 66 ∉ Z) (ha67 : 67 ∉ Z) (ha68 : 68 ∉ Z) (ha69 : 69 ∉ Z) (ha70 : 70 ∉ Z) (ha71 : 71 ∉ Z) (ha72 : 72 ∉ Z) (ha73 : 73 ∉ Z) (ha74 : 74 ∉ Z) (ha75 : 75 ∉ Z) (ha76 : 76 ∉ Z) (ha77 : 77 ∉ Z) (ha78 : 78 ∉ Z) (ha79 : 79 ∉ Z) (z : kc S A k) : kc S' A' k := by
  obtain ⟨a1, a2, a3, a4, a5, -⟩ := h
  unfold kc at z ⊢
  simp only [a1, a2, a3 2 0 hi2_0, a3 2 3 hi2_3, a3 2 5 hi2_5, a3 2 7 hi2_7, a3 2 8 hi2_8, a3 2 9 hi2_9, a3 2 10 hi2_10, a3 2 12 hi2_12, a3 2 14 hi2_14, a3 2 16 hi2_16, a4 2 1 hr2_1, a4 2 2 hr2_2, a4 2 4 hr2_4, a4 2 6 hr2_6, a4 2 11 hr2_11, a4 2 15 hr2_15, a5 62 ha62, a5 63 ha63, a5 64 ha64, a5 65 ha65, a5 66 ha66, a5 67 ha67, a5 68 ha68, a5 69 ha69, a5 70 ha70, a5 71 ha71, a5 72 ha72, a5 73 ha73, a5 74 ha74, a5 75 ha75, a5 76 ha76, a5 77 ha77, a5 78 ha78, a5 79 ha79] at z ⊢
  exact z
theorem kf.F {c g : Nat} {I R : List (Nat × Nat)} {Z : List Nat} {S S' : xm_S} {A A' : y_A} (h : kF c g I R Z S S' A A') {k : Nat} (hi4_0 : (4, 0) ∉ I) (hi4_1 : (4, 1) ∉ I) (hi4_2 : (4, 2) ∉ I) (hr4_3 : (4, 3) ∉ R) (hr4_4 : (4, 4) ∉ R) (hr4_5 : (4, 5) ∉ R) (hr4_6 : (4, 6) ∉ R) (ha24 : 24 ∉ Z) (ha25 : 25 ∉ Z) (ha26 : 26 ∉ Z) (ha27 : 27 ∉ Z) (ha28 : 28 ∉ Z) (ha29 : 29 ∉ Z) (z : kf S A k) : kf S' A' k := by
  obtain ⟨a1, a2, a3, a4, a5, -⟩ := h
  unfold kf at z ⊢
  simp only [a1, a2, a3 4 0 hi4_0, a3 4 1 hi4_1, a3 4 2 hi4_2, a4 4 3 hr4_3, a4 4 4 hr4_4, a4 4 5 hr4_5, a4 4 6 hr4_6, a5 24 ha24, a5 25 ha25, a5 26 ha26, a5 27 ha27, a5 28 ha28, a5 29 ha29] at z ⊢
  exact z
theorem ke.F {c g : Nat} {I R : List (Nat × Nat)} {Z : List Nat} {S S' : xm_S} {A A' : y_A} (h : kF c g I R Z S S' A A') {k : Nat} (hi3_2 : (3, 2) ∉ I) (hi3_3 : (3, 3) ∉ I) (hi6_5 : (6, 5) ∉ I) (hr3_0 : (3, 0) ∉ R) (hr3_1 : (3, 1) ∉ R) (ha18 : 18 ∉ Z) (ha19 : 19 ∉ Z) (ha20 : 20 ∉ Z) (ha21 : 21 ∉ Z) (ha22 : 22 ∉ Z) (z : ke S A k) : ke S' A' k := by
  obtain ⟨a1, a2, a3, a4, a5, -⟩ := h
  unfold ke at z ⊢
  simp only [a1, a2, a3 3 2 hi3_2, a3 3 3 hi3_3, a3 6 5 hi6_5, a4 3 0 hr3_0, a4 3 1 hr3_1, a5 18 ha18, a5 19 ha19, a5 20 ha20, a5 21 ha21, a5 22 ha22] at z ⊢
  exact z
theorem ko.F {c g : Nat} {I R : List (Nat × Nat)} {Z : List Nat} {S S' : xm_S} {A A' : y_A} (h : kF c g I R Z S S' A A') {k : Nat} (hi6_0 : (6, 0) ∉ I) (hi6_3 : (6, 3) ∉ I) (hi6_4 : (6, 4) ∉ I) (hi6_5 : (6, 5) ∉ I) (hr6_1 : (6, 1) ∉ R) (hr6_2 : (6, 2) ∉ R) (ha51 : 51 ∉ Z) (ha52 : 52 ∉ Z) (ha53 : 53 ∉ Z) (ha54 : 54 ∉ Z) (ha55 : 55 ∉ Z) (z : ko S A k) : ko S' A' k := by
  obtain ⟨a1, a2, a3, a4, a5, -⟩ := h
  unfold ko at z ⊢
  simp only [a1, a2, a3 6 0 hi6_0, a3 6 3 hi6_3, a3 6 4 hi6_4, a3 6 5 hi6_5, a4 6 1 hr6_1, a4 6 2 hr6_2, a5 51 ha51, a5 52 ha52, a5 53 ha53, a5 54 ha54, a5 55 ha55] at z ⊢
  exact z
theorem kp.F {c g : Nat} {I R : List (Nat × Nat)} {Z : List Nat} {S S' : xm_S} {A A' : y_A} (h : kF c g I R Z S S' A A') {k : Nat} (hi7_2 : (7, 2) ∉ I) (hi7_3 : (7, 3) ∉ I) (hi7_4 : (7, 4) ∉ I) (hi7_5 : (7, 5) ∉ I) (hi7_6 : (7, 6) ∉ I) (hi7_8 : (7, 8) ∉ I) (hi7_9 : (7, 9) ∉ I) (hi7_10 : (7, 10) ∉ I) (hi7_11 : (7, 11) ∉ I) (hi7_12 : (7, 12) ∉ I) (hr7_0 : (7, 0) ∉ R) (hr7_1 : (7, 1) ∉ R) (ha90 : 90 ∉ Z) (ha91 : 91 ∉ Z) (ha92 : 92 ∉ Z) (ha93 : 93 ∉ Z) (ha94 : 94 ∉ Z) (ha95 : 95 ∉ Z) (ha96 : 96 ∉ Z) (ha98 : 98 ∉ Z) (ha99 : 99 ∉ Z) (ha100 : 100 ∉ Z) (ha101 : 101 ∉ Z) (ha102 : 102 ∉ Z) (z : kp S A k) : kp S' A' k := by
  obtain ⟨a1, a2, a3, a4, a5, -⟩ := h
  unfold kp at z ⊢
  simp only [a1, a2, a3 7 2 hi7_2, a3 7 3 hi7_3, a3 7 4 hi7_4, a3 7 5 hi7_5, a3 7 6 hi7_6, a3 7 8 hi7_8, a3 7 9 hi7_9, a3 7 10 hi7_10, a3 7 11 hi7_11, a3 7 12 hi7_12, a4 7 0 hr7_0, a4 7 1 hr7_1, a5 90 ha90, a5 91 ha91, a5 92 ha92, a5 93 ha93, a5 94 ha94, a5 95 ha95, a5 96 ha96, a5 98 ha98, a5 99 ha99, a5 100 ha100, a5 101 ha101, a5 102 ha102] at z ⊢
  exact z
theorem ka.F {c g : Nat} {I R : List (Nat × Nat)} {Z : List Nat} {S S' : xm_S} {A A' : y_A} (h : kF c g I R Z S S' A A') {k : Nat} (hi1_0 : (1, 0) ∉ I) (hi1_1 : (1, 1) ∉ I) (hi1_2 : (1, 2) ∉ I) (hi1_3 : (1, 3) ∉ I) (hi1_4 : (1, 4) ∉ I) (hi1_5 : (1, 5) ∉ I) (ha104 : 104 ∉ Z) (ha105 : 105 ∉ Z) (ha106 : 106 ∉ Z) (ha107 : 107 ∉ Z) (ha108 : 108 ∉ Z) (ha109 : 109 ∉ Z) (z : ka S A k) : ka S' A' k := by
  obtain ⟨a1, a2, a3, a4, a5, -⟩ := h
  unfold ka at z ⊢
  simp only [a1, a2, a3 1 0 hi1_0, a3 1 1 hi1_1, a3 1 2 hi1_2, a3 1 3 hi1_3, a3 1 4 hi1_4, a3 1 5 hi1_5, a5 104 ha104, a5 105 ha105, a5 106 ha106, a5 107 ha107, a5 108 ha108, a5 109 ha109] at z ⊢
  exact z
theorem kt.F {c g : Nat} {I R : List (Nat × Nat)} {Z : List Nat} {S S' : xm_S} {A A' : y_A} (h : kF c g I R Z S S' A A') {t a b : Nat} (hr10_0 : (10, 0) ∉ R) (ha48 : 48 ∉ Z) (ha49 : 49 ∉ Z) (z : kt S A t a b) : kt S' A' t a b := by
  obtain ⟨a1, a2, a3, a4, a5, -⟩ := h
  unfold kt at z ⊢
  simp only [a1, a2, a4 10 0 hr10_0, a5 48 ha48, a5 49 ha49] at z ⊢
  exact z
theorem kgr.F {c g : Nat} {I R : List (Nat × Nat)} {Z : List Nat} {S S' : xm_S} {A A' : y_A} (h : kF c g I R Z S S' A A') {k : Nat} (ha31 : 31 ∉ Z) (ha32 : 32 ∉ Z) (ha33 : 33 ∉ Z) (ha34 : 34 ∉ Z) (ha35 : 35 ∉ Z) (ha42 : 42 ∉ Z) (z : kgr S A k) : kgr S' A' k := by
  obtain ⟨a1, a2, a3, a4, a5, -⟩ := h
  unfold kgr at z ⊢
  simp only [a1, a2, a5 31 ha31, a5 32 ha32, a5 33 ha33, a5 34 ha34, a5 35 ha35, a5 42 ha42] at z ⊢
  exact z
theorem k_dst.F {c g : Nat} {I R : List (Nat × Nat)} {Z : List Nat} {S S' : xm_S} {A A' : y_A} (h : kF c g I R Z S S' A A') (hi5_1 : (5, 1) ∉ I) (hr10_0 : (10, 0) ∉ R) (z : k_dst S) : k_dst S' := by
  obtain ⟨a1, a2, a3, a4, a5, -⟩ := h
  unfold k_dst at z ⊢
  simp only [a1, a2, a3 5 1 hi5_1, a4 10 0 hr10_0] at z ⊢
  exact z
theorem k_own.F {c g : Nat} {I R : List (Nat × Nat)} {Z : List Nat} {S S' : xm_S} {A A' : y_A} (h : kF c g I R Z S S' A A') (hr5_12 : (5, 12) ∉ R) (hr10_0 : (10, 0) ∉ R) (z : k_own S) : k_own S' := by
  obtain ⟨a1, a2, a3, a4, a5, -⟩ := h
  unfold k_own at z ⊢
  simp only [a1, a2, a4 5 12 hr5_12, a4 10 0 hr10_0] at z ⊢
  exact z
theorem k_obj.F {c g : Nat} {I R : List (Nat × Nat)} {Z : List Nat} {S S' : xm_S} {A A' : y_A} (h : kF c g I R Z S S' A A') (z : k_obj S) : k_obj S' := by
  obtain ⟨a1, a2, a3, a4, a5, -⟩ := h
  unfold k_obj at z ⊢
  simp only [a1, a2] at z ⊢
  exact z
theorem k_cap.F {c g : Nat} {I R : List (Nat × Nat)} {Z : List Nat} {S S' : xm_S} {A A' : y_A} (h : kF c g I R Z S S' A A') (z : k_cap S) : k_cap S' := by
  obtain ⟨a1, a2, a3, a4, a5, -⟩ := h
  unfold k_cap at z ⊢
  simp only [a1, a2] at z ⊢
  exact z
theorem k_chn.F {c g : Nat} {I R : List (Nat × Nat)} {Z : List Nat} {S S' : xm_S} {A A' : y_A} (h : kF c g I R Z S S' A A') (hi2_16 : (2, 16) ∉ I) (hr2_17 : (2, 17) ∉ R) (hr2_2 : (2, 2) ∉ R) (hr2_18 : (2, 18) ∉ R) (z : k_chn S) : k_chn S' := by
  obtain ⟨a1, a2, a3, a4, a5, -⟩ := h
  unfold k_chn at z ⊢
  simp only [a1, a2, a3 2 16 hi2_16, a4 2 17 hr2_17, a4 2 2 hr2_2, a4 2 18 hr2_18] at z ⊢
  exact z
theorem k_par.F {c g : Nat} {I R : List (Nat × Nat)} {Z : List Nat} {S S' : xm_S} {A A' : y_A} (h : kF c g I R Z S S' A A') (hi2_3 : (2, 3) ∉ I) (hi2_8 : (2, 8) ∉ I) (hr2_1 : (2, 1) ∉ R) (hr2_2 : (2, 2) ∉ R) (hr2_4 : (2, 4) ∉ R) (hr2_6 : (2, 6) ∉ R) (hr6_6 : (6, 6) ∉ R) (hr6_1 : (6, 1) ∉ R) (hr10_0 : (10, 0) ∉ R) (z : k_par S) : k_par S' := by
  obtain ⟨a1, a2, a3, a4, a5, -⟩ := h
  unfold k_par k_tw at z ⊢
  simp only [a1, a2, a3 2 3 hi2_3, a3 2 8 hi2_8, a4 2 1 hr2_1, a4 2 2 hr2_2, a4 2 4 hr2_4, a4 2 6 hr2_6, a4 6 6 hr6_6, a4 6 1 hr6_1, a4 10 0 hr10_0] at z ⊢
  exact z
theorem k_occ.F {c g : Nat} {I R : List (Nat × Nat)} {Z : List Nat} {S S' : xm_S} {A A' : y_A} (h : kF c g I R Z S S' A A') {X E : Nat → Prop} (hi2_8 : (2, 8) ∉ I) (hi2_13 : (2, 13) ∉ I) (hr2_4 : (2, 4) ∉ R) (hr2_15 : (2, 15) ∉ R) (hr5_9 : (5, 9) ∉ R) (ha75 : 75 ∉ Z) (ha76 : 76 ∉ Z) (ha77 : 77 ∉ Z) (ha78 : 78 ∉ Z) (ha79 : 79 ∉ Z) (ha31 : 31 ∉ Z) (z : k_occ S A X E) : k_occ S' A' X E := by
  obtain ⟨a1, a2, a3, a4, a5, -⟩ := h
  unfold k_occ k_act k_rest at z ⊢
  simp only [a1, a2, a3 2 8 hi2_8, a3 2 13 hi2_13, a4 2 4 hr2_4, a4 2 15 hr2_15, a4 5 9 hr5_9, a5 75 ha75, a5 76 ha76, a5 77 ha77, a5 78 ha78, a5 79 ha79, a5 31 ha31] at z ⊢
  exact z
theorem k_tri.F {c g : Nat} {I R : List (Nat × Nat)} {Z : List Nat} {S S' : xm_S} {A A' : y_A} (h : kF c g I R Z S S' A A') {X E : Nat → Prop} (hi2_8 : (2, 8) ∉ I) (hr2_4 : (2, 4) ∉ R) (hr5_9 : (5, 9) ∉ R) (ha79 : 79 ∉ Z) (ha36 : 36 ∉ Z) (z : k_tri S A X E) : k_tri S' A' X E := by
  obtain ⟨a1, a2, a3, a4, a5, -⟩ := h
  unfold k_tri k_act at z ⊢
  simp only [a1, a2, a3 2 8 hi2_8, a4 2 4 hr2_4, a4 5 9 hr5_9, a5 79 ha79, a5 36 ha36] at z ⊢
  exact z
theorem k_que.F {c g : Nat} {I R : List (Nat × Nat)} {Z : List Nat} {S S' : xm_S} {A A' : y_A} (h : kF c g I R Z S S' A A') {X : Nat → Prop} (hi2_8 : (2, 8) ∉ I) (hi2_16 : (2, 16) ∉ I) (hr2_4 : (2, 4) ∉ R) (hr5_12 : (5, 12) ∉ R) (ha75 : 75 ∉ Z) (z : k_que S A X) : k_que S' A' X := by
  obtain ⟨a1, a2, a3, a4, a5, -⟩ := h
  unfold k_que k_act at z ⊢
  simp only [a1, a2, a3 2 8 hi2_8, a3 2 16 hi2_16, a4 2 4 hr2_4, a4 5 12 hr5_12, a5 75 ha75] at z ⊢
  exact z
theorem k_sts.F {c g : Nat} {I R : List (Nat × Nat)} {Z : List Nat} {S S' : xm_S} {A A' : y_A} (h : kF c g I R Z S S' A A') {E B : Nat → Prop} {hb rb : Nat} (hi2_8 : (2, 8) ∉ I) (hi2_16 : (2, 16) ∉ I) (hr2_2 : (2, 2) ∉ R) (hr2_4 : (2, 4) ∉ R) (hr2_17 : (2, 17) ∉ R) (ha31 : 31 ∉ Z) (ha76 : 76 ∉ Z) (ha73 : 73 ∉ Z) (ha32 : 32 ∉ Z) (ha72 : 72 ∉ Z) (ha0 : 0 ∉ Z) (z : k_sts S A E B hb rb) : k_sts S' A' E B hb rb := by
  obtain ⟨a1, a2, a3, a4, a5, -⟩ := h
  unfold k_sts at z ⊢
  simp only [a1, a2, a3 2 8 hi2_8, a3 2 16 hi2_16, a4 2 2 hr2_2, a4 2 4 hr2_4, a4 2 17 hr2_17, a5 31 ha31, a5 76 ha76, a5 73 ha73, a5 32 ha32, a5 72 ha72, a5 0 ha0] at z ⊢
  exact z
theorem k_uni.F {c g : Nat} {I R : List (Nat × Nat)} {Z : List Nat} {S S' : xm_S} {A A' : y_A} (h : kF c g I R Z S S' A A') (hi2_8 : (2, 8) ∉ I) (hi2_14 : (2, 14) ∉ I) (hi2_16 : (2, 16) ∉ I) (hi6_3 : (6, 3) ∉ I) (hi6_4 : (6, 4) ∉ I) (hi5_1 : (5, 1) ∉ I) (hr2_4 : (2, 4) ∉ R) (hr2_15 : (2, 15) ∉ R) (hr2_1 : (2, 1) ∉ R) (hr6_2 : (6, 2) ∉ R) (z : k_uni S) : k_uni S' := by
  obtain ⟨a1, a2, a3, a4, a5, -⟩ := h
  unfold k_uni k_lik at z ⊢
  simp only [a1, a2, a3 2 8 hi2_8, a3 2 14 hi2_14, a3 2 16 hi2_16, a3 6 3 hi6_3, a3 6 4 hi6_4, a3 5 1 hi5_1, a4 2 4 hr2_4, a4 2 15 hr2_15, a4 2 1 hr2_1, a4 6 2 hr6_2] at z ⊢
  exact z
theorem k_num.F {c g : Nat} {I R : List (Nat × Nat)} {Z : List Nat} {S S' : xm_S} {A A' : y_A} (h : kF c g I R Z S S' A A') {e1 e2 : Nat} (hi2_8 : (2, 8) ∉ I) (hi2_19 : (2, 19) ∉ I) (hi2_10 : (2, 10) ∉ I) (hi0_15 : (0, 15) ∉ I) (hr2_11 : (2, 11) ∉ R) (ha82 : 82 ∉ Z) (z : k_num S A e1 e2) : k_num S' A' e1 e2 := by
  obtain ⟨a1, a2, a3, a4, a5, -⟩ := h
  unfold k_num k_hows at z ⊢
  simp only [a1, a2, a3 2 8 hi2_8, a3 2 19 hi2_19, a3 2 10 hi2_10, a3 0 15 hi0_15, a4 2 11 hr2_11, a5 82 ha82] at z ⊢
  exact z
theorem k_pln.F {c g : Nat} {I R : List (Nat × Nat)} {Z : List Nat} {S S' : xm_S} {A A' : y_A} (h : kF c g I R Z S S' A A') {t nb : Nat} (hi7_12 : (7, 12) ∉ I) (hi7_7 : (7, 7) ∉ I) (ha2 : 2 ∉ Z) (ha3 : 3 ∉ Z) (ha10 : 10 ∉ Z) (ha16 : 16 ∉ Z) (ha54 : 54 ∉ Z) (ha93 : 93 ∉ Z) (ha97 : 97 ∉ Z) (ha94 : 94 ∉ Z) (z : k_pln S A t nb) : k_pln S' A' t nb := by
  obtain ⟨a1, a2, a3, a4, a5, -⟩ := h
  unfold k_pln k_spn at z ⊢
  simp only [a1, a2, a3 7 12 hi7_12, a3 7 7 hi7_7, a5 2 ha2, a5 3 ha3, a5 10 ha10, a5 16 ha16, a5 54 ha54, a5 93 ha93, a5 97 ha97, a5 94 ha94] at z ⊢
  exact z
theorem kof.F {c g : Nat} {I R : List (Nat × Nat)} {Z : List Nat} {S S' : xm_S} {A A' : y_A} (h : kF c g I R Z S S' A A') {k : Nat} (hr6_6 : (6, 6) ∉ R) (hr2_1 : (2, 1) ∉ R) (hr2_2 : (2, 2) ∉ R) (ha58 : 58 ∉ Z) (ha69 : 69 ∉ Z) (ha71 : 71 ∉ Z) (ha59 : 59 ∉ Z) (ha70 : 70 ∉ Z) (ha56 : 56 ∉ Z) (ha67 : 67 ∉ Z) (ha57 : 57 ∉ Z) (ha68 : 68 ∉ Z) (z : kof S A k) : kof S' A' k := by
  obtain ⟨a1, a2, a3, a4, a5, -⟩ := h
  unfold kof at z ⊢
  simp only [a1, a2, a4 6 6 hr6_6, a4 2 1 hr2_1, a4 2 2 hr2_2, a5 58 ha58, a5 69 ha69, a5 71 ha71, a5 59 ha59, a5 70 ha70, a5 56 ha56, a5 67 ha67, a5 57 ha57, a5 68 ha68] at z ⊢
  exact z
theorem kw.F1 {c g : Nat} {I R : List (Nat × Nat)} {Z : List Nat} {S S' : xm_S} {A A' : y_A} (h : kF c g I R Z S S' A A') {k : Nat} (h0 : (8, 0) ∉ R) (h1 : (8, 1) ∉ I) (h2 : (8, 2) ∉ I) (h3 : (8, 3) ∉ I) (h4 : (8, 4) ∉ I) (ha6 : 6 ∉ Z) (ha7 : 7 ∉ Z) (ha8 : 8 ∉ Z) (ha9 : 9 ∉ Z) (ha10 : 10 ∉ Z) (z : kw S A 1 6 k) : kw S' A' 1 6 k := by
  obtain ⟨a1, a2, a3, a4, a5, -⟩ := h
  unfold kw at z ⊢
  simp only [a1, a2, a4 8 0 h0, a3 8 1 h1, a3 8 2 h2, a3 8 3 h3, a3 8 4 h4, Nat.reduceAdd, a5 6 ha6, a5 7 ha7, a5 8 ha8, a5 9 ha9, a5 10 ha10] at z ⊢
  exact z
theorem kw.F2 {c g : Nat} {I R : List (Nat × Nat)} {Z : List Nat} {S S' : xm_S} {A A' : y_A} (h : kF c g I R Z S S' A A') {k : Nat} (h0 : (8, 0) ∉ R) (h1 : (8, 1) ∉ I) (h2 : (8, 2) ∉ I) (h3 : (8, 3) ∉ I) (h4 : (8, 4) ∉ I) (ha12 : 12 ∉ Z) (ha13 : 13 ∉ Z) (ha14 : 14 ∉ Z) (ha15 : 15 ∉ Z) (ha16 : 16 ∉ Z) (z : kw S A 2 12 k) : kw S' A' 2 12 k := by
  obtain ⟨a1, a2, a3, a4, a5, -⟩ := h
  unfold kw at z ⊢
  simp only [a1, a2, a4 8 0 h0, a3 8 1 h1, a3 8 2 h2, a3 8 3 h3, a3 8 4 h4, Nat.reduceAdd, a5 12 ha12, a5 13 ha13, a5 14 ha14, a5 15 ha15, a5 16 ha16] at z ⊢
  exact z
theorem xk_C.F {c g : Nat} {I R : List (Nat × Nat)} {Z : List Nat} {S S' : xm_S} {A A' : y_A} (h : kF c g I R Z S S' A A') (h0 : ∀ j, j < 12 → (0, j) ∉ R) (z : xk_C S) : xk_C S' := fun j hj => (h.2.2.2.1 0 j (h0 j hj) 0).trans (z j hj)
theorem kS.F {c g : Nat} {I R : List (Nat × Nat)} {Z : List Nat} {S S' : xm_S} {A A' : y_A} (h : kF c g I R Z S S' A A') (h0 : ∀ j, j < 16 → (16, j) ∉ I) (z : kS S) : kS S' := by
  intro k hk
  refine ⟨by rw [h.1]; exact (z k hk).1, fun j hj => ?_⟩
  rw [h.2.2.1 16 j (h0 j ?_) k]
  · exact (z k hk).2 j hj
  · obtain rfl | rfl | rfl | rfl | rfl | rfl | rfl : k = 0 ∨ k = 1 ∨ k = 2 ∨ k = 3 ∨ k = 4 ∨ k = 5 ∨ k = 6 := by omega
    all_goals exact Nat.lt_of_lt_of_le hj (by decide)
theorem kg.F {c g : Nat} {I R : List (Nat × Nat)} {Z : List Nat} {S S' : xm_S} {A A' : y_A} (h : kF c g I R Z S S' A A') {k : Nat} (hi5_0 : (5, 0) ∉ I) (hi5_1 : (5, 1) ∉ I) (hi5_2 : (5, 2) ∉ I) (hi5_3 : (5, 3) ∉ I) (hi5_4 : (5, 4) ∉ I) (hi5_5 : (5, 5) ∉ I) (hi5_6 : (5, 6) ∉ I) (hi5_7 : (5, 7) ∉ I) (hi5_8 : (5, 8) ∉ I) (hi5_10 : (5, 10) ∉ I) (hi5_11 : (5, 11) ∉ I) (hi5_13 : (5, 13) ∉ I) (hr5_12 : (5, 12) ∉ R) (hr5_14 : (5, 14) ∉ R) (hm : ∀ j, j < 8 → (15, j) ∉ R) (ha31 : 31 ∉ Z) (ha32 : 32 ∉ Z) (ha33 : 33 ∉ Z) (ha34 : 34 ∉ Z) (ha35 : 35 ∉ Z) (ha36 : 36 ∉ Z) (ha37 : 37 ∉ Z) (ha38 : 38 ∉ Z) (ha39 : 39 ∉ Z) (ha40 : 40 ∉ Z) (ha41 : 41 ∉ Z) (ha42 : 42 ∉ Z) (ha43 : 43 ∉ Z) (ha44 : 44 ∉ Z) (ha45 : 45 ∉ Z) (ha46 : 46 ∉ Z) (ha68 : 68 ∉ Z) (ha69 : 69 ∉ Z) (ha70 : 70 ∉ Z) (ha71 : 71 ∉ Z) (z : kg S A k) : kg S' A' k := by
  obtain ⟨a1, a2, a3, a4, a5, -⟩ := h
  obtain ⟨z1, z2, z3, z4, z5, z6, z7, z8, z9, z10, z11, z12, z13, z14, z15, z16⟩ := z
  unfold kg
  simp only [a1, a2, a3 5 0 hi5_0, a3 5 1 hi5_1, a3 5 2 hi5_2, a3 5 3 hi5_3, a3 5 4 hi5_4, a3 5 5 hi5_5, a3 5 6 hi5_6, a3 5 7 hi5_7, a3 5 8 hi5_8, a3 5 10 hi5_10, a3 5 11 hi5_11, a3 5 13 hi5_13, a4 5 12 hr5_12, a4 5 14 hr5_14, a5 31 ha31, a5 32 ha32, a5 33 ha33, a5 34 ha34, a5 35 ha35, a5 36 ha36, a5 37 ha37, a5 38 ha38, a5 39 ha39, a5 40 ha40, a5 41 ha41, a5 42 ha42, a5 43 ha43, a5 44 ha44, a5 45 ha45, a5 46 ha46, a5 68 ha68, a5 69 ha69, a5 70 ha70, a5 71 ha71]
  refine ⟨z1, z2, z3, z4, z5, z6, z7, z8, z9, z10, z11, z12, z13, z14, z15, fun s hs => ?_⟩
  rw [a4 15 s (hm s hs)]
  exact z16 s hs
theorem k_pot.F {c g : Nat} {I R : List (Nat × Nat)} {Z : List Nat} {S S' : xm_S} {A A' : y_A} (h : kF c g I R Z S S' A A') {w : Nat} (i51 : (5, 1) ∉ I) (i52 : (5, 2) ∉ I) (i216 : (2, 16) ∉ I) (i23 : (2, 3) ∉ I) (r24 : (2, 4) ∉ R) (r21 : (2, 1) ∉ R) (r61 : (6, 1) ∉ R) (r10 : (10, 0) ∉ R) (z : k_pot S w) : k_pot S' w := by
  obtain ⟨a1, a2, a3, a4, -⟩ := h
  have e : ∀ q m n, k_cp S' q n m = k_cp S q n m := fun q m n => k_cp_rng q m n (fun i _ _ => ⟨by rw [a2], a3 5 1 i51 _, a3 5 2 i52 _⟩)
  have e2 : k_po S' = k_po S := by
    funext k
    unfold k_po k_mul
    simp only [a1, a3 5 1 i51, a3 5 2 i52, a3 2 16 i216, a3 2 3 i23, a4 2 4 r24, a4 2 1 r21, a4 6 1 r61, a4 10 0 r10, e]
  unfold k_pot at z ⊢
  rw [a1, e2]
  exact z
/-- another call stays -/
theorem kc.O {c g : Nat} {I R : List (Nat × Nat)} {Z : List Nat} {S S' : xm_S} {A A' : y_A} (h : kF c g I R Z S S' A A') {k : Nat} (hk : k ≠ c) (z : kc S A k) : kc S' A' k := by
  obtain ⟨a1, -, -, -, -, a6, -, a8, -⟩ := h
  unfold kc at z ⊢
  simp only [a1, fun j => (a6 k j hk).1, fun j => (a6 k j hk).2, a8 62 k (by decide) hk, a8 63 k (by decide) hk, a8 64 k (by decide) hk, a8 65 k (by decide) hk, a8 66 k (by decide) hk, a8 67 k (by decide) hk, a8 68 k (by decide) hk, a8 69 k (by decide) hk, a8 70 k (by decide) hk, a8 71 k (by decide) hk, a8 72 k (by decide) hk, a8 73 k (by decide) hk, a8 74 k (by decide) hk, a8 75 k (by decide) hk, a8 76 k (by decide) hk, a8 77 k (by decide) hk, a8 78 k (by decide) hk, a8 79 k (by decide) hk] at z ⊢
  exact z
/-- another guard stays (what is KEPT is told apart) -/
theorem kg.O {c g : Nat} {I R : List (Nat × Nat)} {Z : List Nat} {S S' : xm_S} {A A' : y_A} (h : kF c g I R Z S S' A A') {k : Nat} (hk : k ≠ g) (hm : ∀ j, j < 8 → (15, j) ∉ R) (ha43 : 43 ∉ Z) (ha44 : 44 ∉ Z) (ha45 : 45 ∉ Z) (ha46 : 46 ∉ Z) (ha68 : 68 ∉ Z) (ha69 : 69 ∉ Z) (ha70 : 70 ∉ Z) (ha71 : 71 ∉ Z) (z : kg S A k) : kg S' A' k := by
  obtain ⟨a1, a2, a3, a4, a5, -, a7, -, a9⟩ := h
  obtain ⟨z1, z2, z3, z4, z5, z6, z7, z8, z9, z10, z11, z12, z13, z14, z15, z16⟩ := z
  unfold kg
  simp only [a1, a2, fun j => (a7 k j hk).1, fun j => (a7 k j hk).2, a9 31 k (by decide) hk, a9 32 k (by decide) hk, a9 33 k (by decide) hk, a9 34 k (by decide) hk, a9 35 k (by decide) hk, a9 36 k (by decide) hk, a9 37 k (by decide) hk, a9 38 k (by decide) hk, a9 39 k (by decide) hk, a9 40 k (by decide) hk, a9 41 k (by decide) hk, a9 42 k (by decide) hk, a5 43 ha43, a5 44 ha44, a5 45 ha45, a5 46 ha46, a5 68 ha68, a5 69 ha69, a5 70 ha70, a5 71 ha71]
  refine ⟨z1, z2, z3, z4, z5, z6, z7, z8, z9, z10, z11, z12, z13, z14, z15, fun s hs => ?_⟩
  rw [a4 15 s (hm s hs)]
  exact z16 s hs
theorem kgr.O {c g : Nat} {I R : List (Nat × Nat)} {Z : List Nat} {S S' : xm_S} {A A' : y_A} (h : kF c g I R Z S S' A A') {k : Nat} (hk : k ≠ g) (z : kgr S A k) : kgr S' A' k := by
  obtain ⟨a1, -, -, -, -, -, -, -, a9⟩ := h
  unfold kgr at z ⊢
  simp only [a1, a9 31 k (by decide) hk, a9 32 k (by decide) hk, a9 33 k (by decide) hk, a9 34 k (by decide) hk, a9 35 k (by decide) hk, a9 42 k (by decide) hk] at z ⊢
  exact z
end
