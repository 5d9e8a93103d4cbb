/-! ===== CALLS ARE CHANGED: the equations of all else stay (printed by wip/whole/gen84.py out of 61) ===== -/
section
/-- nothing is changed but the call c (its fields; a guard's trial; the works' own counts) -/
def kdS (S S' : xm_S) (T : Nat → Prop) : Prop := xm_n S' = xm_n S ∧ xm_l S' = xm_l S ∧ (∀ p q j, (p = 2 ∧ T q) ∨ (p = 0 ∧ j ≠ 13) ∨ xm_i S' p q j = xm_i S p q j) ∧ ∀ p q j, (p = 2 ∧ T q) ∨ (p = 5 ∧ j = 9) ∨ xm_r S' p q j = xm_r S p q j
def kdA (A A' : y_A) (T : Nat → Prop) : Prop := ∀ x k, (62 ≤ x ∧ x ≤ 79 ∧ T k) ∨ (57 ≤ x ∧ x ≤ 60) ∨ (80 ≤ x ∧ x ≤ 82) ∨ A' x k = A x k
theorem kE.calls {S S' : xm_S} {A A' : y_A} {T : Nat → Prop} (h : kE S A) (hS : kdS S S' T) (hA : kdA A A' T) (hc : ∀ k, k < xm_n S 1 6 → T k → kc S' A' k) (hm : ∀ k, T k → A 69 k = 1 → A' 69 k = A 69 k ∧ A' 68 k = A 68 k ∧ A' 70 k = A 70 k ∧ A' 71 k = A 71 k) (hlv : ∀ k, T k → xm_i S' 2 k 8 = 0 → xm_i S 2 k 8 = 0) : kE S' A' := by
  obtain ⟨hC, hcnt, hb, hl, ht, hv, h1, h2, h3, h4, h5, h6, h7, h8, h9, h10, h11, h12⟩ := h
  obtain ⟨hn, hll, hi, hr⟩ := hS
  have i1 : xm_i S' 1 = xm_i S 1 := funext fun q => funext fun j => ((hi 1 q j).resolve_left (by omega)).resolve_left (by omega)
  have i3 : xm_i S' 3 = xm_i S 3 := funext fun q => funext fun j => ((hi 3 q j).resolve_left (by omega)).resolve_left (by omega)
  have i4 : xm_i S' 4 = xm_i S 4 := funext fun q => funext fun j => ((hi 4 q j).resolve_left (by omega)).resolve_left (by omega)
  have i5 : xm_i S' 5 = xm_i S 5 := funext fun q => funext fun j => ((hi 5 q j).resolve_left (by omega)).resolve_left (by omega)
  have i6 : xm_i S' 6 = xm_i S 6 := funext fun q => funext fun j => ((hi 6 q j).resolve_left (by omega)).resolve_left (by omega)
  have i7 : xm_i S' 7 = xm_i S 7 := funext fun q => funext fun j => ((hi 7 q j).resolve_left (by omega)).resolve_left (by omega)
  have i8 : xm_i S' 8 = xm_i S 8 := funext fun q => funext fun j => ((hi 8 q j).resolve_left (by omega)).resolve_left (by omega)
  have i9 : xm_i S' 9 = xm_i S 9 := funext fun q => funext fun j => ((hi 9 q j).resolve_left (by omega)).resolve_left (by omega)
  have r3 : xm_r S' 3 = xm_r S 3 := funext fun q => funext fun j => ((hr 3 q j).resolve_left (by omega)).resolve_left (by omega)
  have r4 : xm_r S' 4 = xm_r S 4 := funext fun q => funext fun j => ((hr 4 q j).resolve_left (by omega)).resolve_left (by omega)
  have r6 : xm_r S' 6 = xm_r S 6 := funext fun q => funext fun j => ((hr 6 q j).resolve_left (by omega)).resolve_left (by omega)
  have r7 : xm_r S' 7 = xm_r S 7 := funext fun q => funext fun j => ((hr 7 q j).resolve_left (by omega)).resolve_left (by omega)
  have r8 : xm_r S' 8 = xm_r S 8 := funext fun q => funext fun j => ((hr 8 q j).resolve_left (by omega)).resolve_left (by omega)
  have r10 : xm_r S' 10 = xm_r S 10 := funext fun q => funext fun j => ((hr 10 q j).resolve_left (by omega)).resolve_left (by omega)
  have r15 : xm_r S' 15 = xm_r S 15 := funext fun q => funext fun j => ((hr 15 q j).resolve_left (by omega)).resolve_left (by omega)
  have r5 : ∀ q j, j ≠ 9 → xm_r S' 5 q j = xm_r S 5 q j := fun q j hj => ((hr 5 q j).resolve_left (by omega)).resolve_left (fun z => hj z.2)
  have r0 : ∀ j, xm_r S' 0 0 j = xm_r S 0 0 j := fun j => ((hr 0 0 j).resolve_left (by omega)).resolve_left (by omega)
  have i0 : xm_i S' 0 0 13 = xm_i S 0 0 13 := ((hi 0 0 13).resolve_left (by omega)).resolve_left (fun z => z.2 rfl)
  have i2 : ∀ k, ¬ T k → ∀ j, xm_i S' 2 k j = xm_i S 2 k j := fun k hk j => ((hi 2 k j).resolve_left (fun z => hk z.2)).resolve_left (by omega)
  have r2 : ∀ k, ¬ T k → ∀ j, xm_r S' 2 k j = xm_r S 2 k j := fun k hk j => ((hr 2 k j).resolve_left (fun z => hk z.2)).resolve_left (by omega)
  have a0 : A' 0 = A 0 := funext fun k => (((hA 0 k).resolve_left (by omega)).resolve_left (by omega)).resolve_left (by omega)
  have a1 : A' 1 = A 1 := funext fun k => (((hA 1 k).resolve_left (by omega)).resolve_left (by omega)).resolve_left (by omega)
  have a5 : A' 5 = A 5 := funext fun k => (((hA 5 k).resolve_left (by omega)).resolve_left (by omega)).resolve_left (by omega)
  have a11 : A' 11 = A 11 := funext fun k => (((hA 11 k).resolve_left (by omega)).resolve_left (by omega)).resolve_left (by omega)
  have a17 : A' 17 = A 17 := funext fun k => (((hA 17 k).resolve_left (by omega)).resolve_left (by omega)).resolve_left (by omega)
  have a23 : A' 23 = A 23 := funext fun k => (((hA 23 k).resolve_left (by omega)).resolve_left (by omega)).resolve_left (by omega)
  have a30 : A' 30 = A 30 := funext fun k => (((hA 30 k).resolve_left (by omega)).resolve_left (by omega)).resolve_left (by omega)
  have a47 : A' 47 = A 47 := funext fun k => (((hA 47 k).resolve_left (by omega)).resolve_left (by omega)).resolve_left (by omega)
  have a50 : A' 50 = A 50 := funext fun k => (((hA 50 k).resolve_left (by omega)).resolve_left (by omega)).resolve_left (by omega)
  have a61 : A' 61 = A 61 := funext fun k => (((hA 61 k).resolve_left (by omega)).resolve_left (by omega)).resolve_left (by omega)
  have a89 : A' 89 = A 89 := funext fun k => (((hA 89 k).resolve_left (by omega)).resolve_left (by omega)).resolve_left (by omega)
  have a103 : A' 103 = A 103 := funext fun k => (((hA 103 k).resolve_left (by omega)).resolve_left (by omega)).resolve_left (by omega)
  have a2 : A' 2 = A 2 := funext fun k => (((hA 2 k).resolve_left (by omega)).resolve_left (by omega)).resolve_left (by omega)
  have a3 : A' 3 = A 3 := funext fun k => (((hA 3 k).resolve_left (by omega)).resolve_left (by omega)).resolve_left (by omega)
  have a4 : A' 4 = A 4 := funext fun k => (((hA 4 k).resolve_left (by omega)).resolve_left (by omega)).resolve_left (by omega)
  have a6 : A' 6 = A 6 := funext fun k => (((hA 6 k).resolve_left (by omega)).resolve_left (by omega)).resolve_left (by omega)
  have a7 : A' 7 = A 7 := funext fun k => (((hA 7 k).resolve_left (by omega)).resolve_left (by omega)).resolve_left (by omega)
  have a8 : A' 8 = A 8 := funext fun k => (((hA 8 k).resolve_left (by omega)).resolve_left (by omega)).resolve_left (by omega)
  have a9 : A' 9 = A 9 := funext fun k => (((hA 9 k).resolve_left (by omega)).resolve_left (by omega)).resolve_left (by omega)
  have a10 : A' 10 = A 10 := funext fun k => (((hA 10 k).resolve_left (by omega)).resolve_left (by omega)).resolve_left (by omega)
  have a12 : A' 12 = A 12 := funext fun k => (((hA 12 k).resolve_left (by omega)).resolve_left (by omega)).resolve_left (by omega)
  have a13 : A' 13 = A 13 := funext fun k => (((hA 13 k).resolve_left (by omega)).resolve_left (by omega)).resolve_left (by omega)
  have a14 : A' 14 = A 14 := funext fun k => (((hA 14 k).resolve_left (by omega)).resolve_left (by omega)).resolve_left (by omega)
  have a15 : A' 15 = A 15 := funext fun k => (((hA 15 k).resolve_left (by omega)).resolve_left (by omega)).resolve_left (by omega)
  have a16 : A' 16 = A 16 := funext fun k => (((hA 16 k).resolve_left (by omega)).resolve_left (by omega)).resolve_left (by omega)
  have a18 : A' 18 = A 18 := funext fun k => (((hA 18 k).resolve_left (by omega)).resolve_left (by omega)).resolve_left (by omega)
  have a19 : A' 19 = A 19 := funext fun k => (((hA 19 k).resolve_left (by omega)).resolve_left (by omega)).resolve_left (by omega)
  have a20 : A' 20 = A 20 := funext fun k => (((hA 20 k).resolve_left (by omega)).resolve_left (by omega)).resolve_left (by omega)
  have a21 : A' 21 = A 21 := funext fun k => (((hA 21 k).resolve_left (by omega)).resolve_left (by omega)).resolve_left (by omega)
  have a22 : A' 22 = A 22 := funext fun k => (((hA 22 k).resolve_left (by omega)).resolve_left (by omega)).resolve_left (by omega)
  have a24 : A' 24 = A 24 := funext fun k => (((hA 24 k).resolve_left (by omega)).resolve_left (by omega)).resolve_left (by omega)
  have a25 : A' 25 = A 25 := funext fun k => (((hA 25 k).resolve_left (by omega)).resolve_left (by omega)).resolve_left (by omega)
  have a26 : A' 26 = A 26 := funext fun k => (((hA 26 k).resolve_left (by omega)).resolve_left (by omega)).resolve_left (by omega)
  have a27 : A' 27 = A 27 := funext fun k => (((hA 27 k).resolve_left (by omega)).resolve_left (by omega)).resolve_left (by omega)
  have a28 : A' 28 = A 28 := funext fun k => (((hA 28 k).resolve_left (by omega)).resolve_left (by omega)).resolve_left (by omega)
  have a29 : A' 29 = A 29 := funext fun k => (((hA 29 k).resolve_left (by omega)).resolve_left (by omega)).resolve_left (by omega)
  have a31 : A' 31 = A 31 := funext fun k => (((hA 31 k).resolve_left (by omega)).resolve_left (by omega)).resolve_left (by omega)
  have a32 : A' 32 = A 32 := funext fun k => (((hA 32 k).resolve_left (by omega)).resolve_left (by omega)).resolve_left (by omega)
  have a33 : A' 33 = A 33 := funext fun k => (((hA 33 k).resolve_left (by omega)).resolve_left (by omega)).resolve_left (by omega)
  have a34 : A' 34 = A 34 := funext fun k => (((hA 34 k).resolve_left (by omega)).resolve_left (by omega)).resolve_left (by omega)
  have a35 : A' 35 = A 35 := funext fun k => (((hA 35 k).resolve_left (by omega)).resolve_left (by omega)).resolve_left (by omega)
  have a36 : A' 36 = A 36 := funext fun k => (((hA 36 k).resolve_left (by omega)).resolve_left (by omega)).resolve_left (by omega)
  have a37 : A' 37 = A 37 := funext fun k => (((hA 37 k).resolve_left (by omega)).resolve_left (by omega)).resolve_left (by omega)
  have a38 : A' 38 = A 38 := funext fun k => (((hA 38 k).resolve_left (by omega)).resolve_left (by omega)).resolve_left (by omega)
  have a39 : A' 39 = A 39 := funext fun k => (((hA 39 k).resolve_left (by omega)).resolve_left (by omega)).resolve_left (by omega)
  have a40 : A' 40 = A 40 := funext fun k => (((hA 40 k).resolve_left (by omega)).resolve_left (by omega)).resolve_left (by omega)
  have a41 : A' 41 = A 41 := funext fun k => (((hA 41 k).resolve_left (by omega)).resolve_left (by omega)).resolve_left (by omega)
  have a42 : A' 42 = A 42 := funext fun k => (((hA 42 k).resolve_left (by omega)).resolve_left (by omega)).resolve_left (by omega)
  have a43 : A' 43 = A 43 := funext fun k => (((hA 43 k).resolve_left (by omega)).resolve_left (by omega)).resolve_left (by omega)
  have a44 : A' 44 = A 44 := funext fun k => (((hA 44 k).resolve_left (by omega)).resolve_left (by omega)).resolve_left (by omega)
  have a45 : A' 45 = A 45 := funext fun k => (((hA 45 k).resolve_left (by omega)).resolve_left (by omega)).resolve_left (by omega)
  have a46 : A' 46 = A 46 := funext fun k => (((hA 46 k).resolve_left (by omega)).resolve_left (by omega)).resolve_left (by omega)
  have a48 : A' 48 = A 48 := funext fun k => (((hA 48 k).resolve_left (by omega)).resolve_left (by omega)).resolve_left (by omega)
  have a49 : A' 49 = A 49 := funext fun k => (((hA 49 k).resolve_left (by omega)).resolve_left (by omega)).resolve_left (by omega)
  have a51 : A' 51 = A 51 := funext fun k => (((hA 51 k).resolve_left (by omega)).resolve_left (by omega)).resolve_left (by omega)
  have a52 : A' 52 = A 52 := funext fun k => (((hA 52 k).resolve_left (by omega)).resolve_left (by omega)).resolve_left (by omega)
  have a53 : A' 53 = A 53 := funext fun k => (((hA 53 k).resolve_left (by omega)).resolve_left (by omega)).resolve_left (by omega)
  have a54 : A' 54 = A 54 := funext fun k => (((hA 54 k).resolve_left (by omega)).resolve_left (by omega)).resolve_left (by omega)
  have a55 : A' 55 = A 55 := funext fun k => (((hA 55 k).resolve_left (by omega)).resolve_left (by omega)).resolve_left (by omega)
  have a56 : A' 56 = A 56 := funext fun k => (((hA 56 k).resolve_left (by omega)).resolve_left (by omega)).resolve_left (by omega)
  have a90 : A' 90 = A 90 := funext fun k => (((hA 90 k).resolve_left (by omega)).resolve_left (by omega)).resolve_left (by omega)
  have a91 : A' 91 = A 91 := funext fun k => (((hA 91 k).resolve_left (by omega)).resolve_left (by omega)).resolve_left (by omega)
  have a92 : A' 92 = A 92 := funext fun k => (((hA 92 k).resolve_left (by omega)).resolve_left (by omega)).resolve_left (by omega)
  have a93 : A' 93 = A 93 := funext fun k => (((hA 93 k).resolve_left (by omega)).resolve_left (by omega)).resolve_left (by omega)
  have a94 : A' 94 = A 94 := funext fun k => (((hA 94 k).resolve_left (by omega)).resolve_left (by omega)).resolve_left (by omega)
  have a95 : A' 95 = A 95 := funext fun k => (((hA 95 k).resolve_left (by omega)).resolve_left (by omega)).resolve_left (by omega)
  have a96 : A' 96 = A 96 := funext fun k => (((hA 96 k).resolve_left (by omega)).resolve_left (by omega)).resolve_left (by omega)
  have a97 : A' 97 = A 97 := funext fun k => (((hA 97 k).resolve_left (by omega)).resolve_left (by omega)).resolve_left (by omega)
  have a98 : A' 98 = A 98 := funext fun k => (((hA 98 k).resolve_left (by omega)).resolve_left (by omega)).resolve_left (by omega)
  have a99 : A' 99 = A 99 := funext fun k => (((hA 99 k).resolve_left (by omega)).resolve_left (by omega)).resolve_left (by omega)
  have a100 : A' 100 = A 100 := funext fun k => (((hA 100 k).resolve_left (by omega)).resolve_left (by omega)).resolve_left (by omega)
  have a101 : A' 101 = A 101 := funext fun k => (((hA 101 k).resolve_left (by omega)).resolve_left (by omega)).resolve_left (by omega)
  have a102 : A' 102 = A 102 := funext fun k => (((hA 102 k).resolve_left (by omega)).resolve_left (by omega)).resolve_left (by omega)
  have a104 : A' 104 = A 104 := funext fun k => (((hA 104 k).resolve_left (by omega)).resolve_left (by omega)).resolve_left (by omega)
  have a105 : A' 105 = A 105 := funext fun k => (((hA 105 k).resolve_left (by omega)).resolve_left (by omega)).resolve_left (by omega)
  have a106 : A' 106 = A 106 := funext fun k => (((hA 106 k).resolve_left (by omega)).resolve_left (by omega)).resolve_left (by omega)
  have a107 : A' 107 = A 107 := funext fun k => (((hA 107 k).resolve_left (by omega)).resolve_left (by omega)).resolve_left (by omega)
  have a108 : A' 108 = A 108 := funext fun k => (((hA 108 k).resolve_left (by omega)).resolve_left (by omega)).resolve_left (by omega)
  have a109 : A' 109 = A 109 := funext fun k => (((hA 109 k).resolve_left (by omega)).resolve_left (by omega)).resolve_left (by omega)
  have ac : ∀ x, 62 ≤ x → x ≤ 79 → ∀ k, ¬ T k → A' x k = A x k := fun x h1 h2 k hk => (((hA x k).resolve_left (fun z => hk z.2.2)).resolve_left (by omega)).resolve_left (by omega)
  refine ⟨fun j hj => (r0 j).trans (hC j hj), ?_, ?_, ?_, ?_, ?_, ?_, ?_, ?_, ?_, ?_, ?_, ?_, ?_, ?_, ?_, ?_, ?_⟩
  · unfold k_cnt at hcnt ⊢; simp only [hn, a1, a5, a11, a30, a47, a50, a61, a23, a17, a89, a103]; exact hcnt
  · unfold k_bnd at hb ⊢; simp only [hn]; exact hb
  · unfold k_lst at hl ⊢; simp only [hn, hll]; exact hl
  · unfold k_top at ht ⊢; simp only [hn, i0, r0, a0]; exact ht
  · unfold k_live at hv ⊢; simp only [hn, hll]; exact ⟨hv.1, hv.2.1, fun e he h0 => hv.2.2 e he (by
      by_cases q : T e
      · exact hlv e q h0
      · rw [← i2 e q]; exact h0)⟩
  · intro k hk; rw [hn] at hk; have z := h1 k hk; unfold ks at z ⊢; simp only [hn, hll, i9, a2, a3, a4]; exact z
  · intro k hk; rw [hn] at hk
    by_cases hkc : T k
    · exact hc k hk hkc
    · have z := h2 k hk; unfold kc at z ⊢; simp only [hn, i2 k hkc, r2 k hkc, ac 62 (by decide) (by decide) k hkc, ac 63 (by decide) (by decide) k hkc, ac 64 (by decide) (by decide) k hkc, ac 65 (by decide) (by decide) k hkc, ac 66 (by decide) (by decide) k hkc, ac 67 (by decide) (by decide) k hkc, ac 68 (by decide) (by decide) k hkc, ac 69 (by decide) (by decide) k hkc, ac 70 (by decide) (by decide) k hkc, ac 71 (by decide) (by decide) k hkc, ac 72 (by decide) (by decide) k hkc, ac 73 (by decide) (by decide) k hkc, ac 74 (by decide) (by decide) k hkc, ac 75 (by decide) (by decide) k hkc, ac 76 (by decide) (by decide) k hkc, ac 77 (by decide) (by decide) k hkc, ac 78 (by decide) (by decide) k hkc, ac 79 (by decide) (by decide) k hkc]; exact z
  · intro k hk; rw [hn] at hk; have z := h3 k hk; unfold kg at z ⊢
    simp only [hn, hll, i5, r5 k 12 (by decide), r5 k 14 (by decide), r15, a31, a32, a33, a34, a35, a36, a37, a38, a39, a40, a41, a42, a43, a44, a45, a46]
    obtain ⟨z1, z2, z3, z4, z5, z6, z7, z8, z9, z10, z11, z12, z13, z14, z15, z16⟩ := z
    refine ⟨z1, z2, z3, z4, z5, z6, z7, z8, z9, z10, z11, z12, z13, z14, z15, fun s hs => ?_⟩
    rcases z16 s hs with y | ⟨e, y1, y2, y3, y4, y5, y6, y7⟩
    · exact Or.inl y
    · refine Or.inr ⟨e, y1, y2, ?_⟩
      by_cases hec : T e
      · obtain ⟨m1, m2, m3, m4⟩ := hm e hec y3
        rw [m1, m2, m3, m4]
        exact ⟨y3, y4, y5, y6, y7⟩
      · rw [ac 69 (by decide) (by decide) e hec, ac 68 (by decide) (by decide) e hec, ac 70 (by decide) (by decide) e hec, ac 71 (by decide) (by decide) e hec]
        exact ⟨y3, y4, y5, y6, y7⟩
  · intro k hk; rw [hn] at hk; have z := h4 k hk; unfold kf at z ⊢; simp only [hn, hll, i4, r4, a24, a25, a26, a27, a28, a29]; exact z
  · intro k hk; rw [hn] at hk; have z := h5 k hk; unfold ke at z ⊢; simp only [hn, hll, i3, r3, i6, a18, a19, a20, a21, a22]; exact z
  · intro k hk; rw [hn] at hk; have z := h6 k hk; unfold ko at z ⊢; simp only [hn, hll, i6, r6, a51, a52, a53, a54, a55]; exact z
  · intro k hk; rw [hn] at hk; have z := h7 k hk; unfold kp at z ⊢; simp only [hn, hll, i7, r7, a90, a91, a92, a93, a94, a95, a96, a97, a98, a99, a100, a101, a102]; exact z
  · intro k hk; rw [hn] at hk; have z := h8 k hk; unfold ka at z ⊢; simp only [hn, hll, i1, a104, a105, a106, a107, a108, a109]; exact z
  · have z := h9; unfold kt at z ⊢; simp only [hn, hll, r10, a48, a49]; exact z
  · intro k hk; rw [hn] at hk; have z := h10 k hk; unfold kt at z ⊢; simp only [hn, hll, r10, a48, a49]; exact z
  · intro k hk; rw [hn] at hk; have z := h11 k hk; unfold kw at z ⊢; simp only [hn, hll, i8, r8, a6, a7, a8, a9, a10] at z ⊢; exact z
  · intro k hk; rw [hn] at hk; have z := h12 k hk; unfold kw at z ⊢; simp only [hn, hll, i8, r8, a12, a13, a14, a15, a16] at z ⊢; exact z
end
