/-! ===== HOW MANY CALLS (printed by wip/whole/gen9g.py) ===== -/
section
def kMx : Nat → Bool → Bool → Bool → Nat
  | 0, _, _, _ => 1
  | n + 1, r, h, f => max (1 + kMx n r h f) (max (if r then 1 + 6 * kMx n false h f else 0) (max (if h then 1 + 2 * kMx n r false f else 0) (if f then 2 + kMx n r h false else 0)))
theorem kMx_67 : ∀ h, h ≤ 5 → kMx h true true true ≤ 67 := by
  intro h hh
  obtain rfl | rfl | rfl | rfl | rfl | rfl : h = 0 ∨ h = 1 ∨ h = 2 ∨ h = 3 ∨ h = 4 ∨ h = 5 := by omega
  all_goals decide
theorem k_cp_pos (S : xm_S) (q : Nat) : ∀ (m i : Nat), 1 ≤ k_cp S q i m
  | 0, i => Nat.le_refl _
  | m + 1, i => by
    show 1 ≤ 1 + _ + _
    omega
theorem k_cp_max {S : xm_S} {q : Nat} (hd : ∀ i j, i < j → j < xm_n S 1 q → xm_i S 5 (xm_l S q i).2 1 ≠ xm_i S 5 (xm_l S q j).2 1) (h4 : ∀ i, i < xm_n S 1 q → xm_i S 5 (xm_l S q i).2 1 = 4 → y_ix (xm_i S 5 (xm_l S q i).2 2) ≤ 6) : ∀ (m i : Nat) (r h f : Bool), i + m ≤ xm_n S 1 q → (r = false → ∀ j, i ≤ j → j < i + m → xm_i S 5 (xm_l S q j).2 1 ≠ 4) → (h = false → ∀ j, i ≤ j → j < i + m → xm_i S 5 (xm_l S q j).2 1 ≠ 5) → (f = false → ∀ j, i ≤ j → j < i + m → xm_i S 5 (xm_l S q j).2 1 ≠ 6) → k_cp S q i m ≤ kMx m r h f
  | 0, i, r, h, f, _, _, _, _ => Nat.le_refl _
  | m + 1, i, r, h, f, hm, hr, hh, hf => by
    have ih := k_cp_max hd h4 m (i + 1)
    have sub : ∀ {b : Bool} {v : Int32}, (b = false → ∀ j, i ≤ j → j < i + (m + 1) → xm_i S 5 (xm_l S q j).2 1 ≠ v) → (b = false → ∀ j, i + 1 ≤ j → j < i + 1 + m → xm_i S 5 (xm_l S q j).2 1 ≠ v) := fun z y j j1 j2 => z y j (by omega) (by omega)
    have nxt : ∀ {v : Int32}, xm_i S 5 (xm_l S q i).2 1 = v → ∀ j, i + 1 ≤ j → j < i + 1 + m → xm_i S 5 (xm_l S q j).2 1 ≠ v := fun z j j1 j2 y => hd i j (by omega) (by omega) (z.trans y.symm)
    show 1 + k_mul S (xm_l S q i).2 * k_cp S q (i + 1) m + (if xm_i S 5 (xm_l S q i).2 1 = 6 then 1 else 0) ≤ max _ _
    unfold k_mul
    by_cases c4 : xm_i S 5 (xm_l S q i).2 1 = 4
    · rw [if_pos c4, if_neg (by rw [c4]; decide)]
      have hrt : r = true := by
        cases r
        · exact absurd c4 (hr rfl i (Nat.le_refl _) (by omega))
        · rfl
      have i1 := ih false h f (by omega) (fun _ => nxt c4) (sub hh) (sub hf)
      have i2 := h4 i (by omega) c4
      have i3 : y_ix (xm_i S 5 (xm_l S q i).2 2) * k_cp S q (i + 1) m ≤ 6 * kMx m false h f := Nat.mul_le_mul i2 i1
      rw [if_pos hrt]
      omega
    · rw [if_neg c4]
      by_cases c5 : xm_i S 5 (xm_l S q i).2 1 = 5
      · rw [if_pos c5, if_neg (by rw [c5]; decide)]
        have hht : h = true := by
          cases h
          · exact absurd c5 (hh rfl i (Nat.le_refl _) (by omega))
          · rfl
        have i1 := ih r false f (by omega) (sub hr) (fun _ => nxt c5) (sub hf)
        rw [if_pos hht]
        omega
      · rw [if_neg c5]
        by_cases c6 : xm_i S 5 (xm_l S q i).2 1 = 6
        · rw [if_pos c6]
          have hft : f = true := by
            cases f
            · exact absurd c6 (hf rfl i (Nat.le_refl _) (by omega))
            · rfl
          have i1 := ih r h false (by omega) (sub hr) (sub hh) (fun _ => nxt c6)
          rw [if_pos hft]
          omega
        · rw [if_neg c6]
          have i1 := ih r h f (by omega) (sub hr) (sub hh) (sub hf)
          omega
theorem k_po.val {S : xm_S} {k g o u q : Nat} (h4 : xm_r S 2 k 4 = some g) (h1 : xm_r S 2 k 1 = some o) (h6 : xm_r S 6 o 1 = some u) (h10 : xm_r S 10 u 0 = some q) : k_po S k = (k_mul S g - y_ix (xm_i S 2 k 16)) * k_cp S q (y_ix (xm_i S 2 k 3) + 1) (xm_n S 1 q - (y_ix (xm_i S 2 k 3) + 1)) + (if xm_i S 5 g 1 = 6 ∧ y_ix (xm_i S 2 k 16) < 2 then 1 else 0) := by
  unfold k_po
  simp only [h4, h1, h6, h10]
theorem k_po.none {S : xm_S} {k : Nat} (h4 : xm_r S 2 k 4 = Option.none) : k_po S k = 0 := by
  unfold k_po
  simp only [h4]
/-- what the new call may bring, and what is in the tower behind -/
theorem kNs.cp {S S' : xm_S} {A : y_A} {X E B : Nat → Prop} {hb rb nb t w e1 e2 o d u q : Nat} {par gd st : Option Nat} {T D : Int32} (hM : kM S A X E B hb rb nb t w e1 e2) (hs : kNs S S' o d par gd st T D) (h6 : xm_r S 6 o 1 = some u) (hu : u < xm_n S 1 4) (h10 : xm_r S 10 u 0 = some q) (hd : d ≤ 5) (hgd : ∀ g, gd = some g → k_tw S o d g) : (∀ g, k_mul S' g = k_mul S g) ∧ xm_n S' 1 q = xm_n S 1 q ∧ (∀ i m, i + m ≤ xm_n S 1 q → k_cp S' q i m = k_cp S q i m) ∧ 1 + k_po S' (xm_n S 1 6) ≤ k_cp S q d (xm_n S 1 q - d) := by
  obtain ⟨fI, fR, ⟨n0, n1, n2, n2', n3⟩, fl, ⟨⟨i0, i3, i5, i7, i8, i9, i10, i12, i13, i14, i16, i19⟩, ⟨r1, r2, r4, r6, r11, r15, r17, r18⟩⟩, fp, ff⟩ := hs
  obtain ⟨q', y1, y2, y3, y4, y5, y6⟩ := hM.1.2.2.2.2.2.2.2.2.2.2.2.2.2.2.2.1 u hu
  obtain rfl : q' = q := Option.some.inj (y1.symm.trans h10)
  have oI : ∀ p q j, p ≠ 2 → xm_i S' p q j = xm_i S p q j := fun p q j z => fI p q j (fun y => z y.1) (fun y => z y.1)
  have hm : ∀ g, k_mul S' g = k_mul S g := fun g => by unfold k_mul; rw [oI 5 g 1 (by decide), oI 5 g 2 (by decide)]
  have hn : xm_n S' 1 q' = xm_n S 1 q' := by rw [n1, if_neg (by omega)]
  have hl : ∀ i, xm_l S' q' i = xm_l S q' i := fun i => by rw [fl, if_neg (by omega)]
  have hcp : ∀ i m, i + m ≤ xm_n S 1 q' → k_cp S' q' i m = k_cp S q' i m := fun i m him => k_cp_rng (S := S) (S' := S') q' _ _ (fun j hj1 hj2 => by
    obtain ⟨e, f1, -⟩ := y6 j (by omega)
    rw [f1]
    exact ⟨(hl j).trans f1, oI 5 e 1 (by decide), oI 5 e 2 (by decide)⟩)
  refine ⟨hm, hn, hcp, ?_⟩
  rcases hg : gd with _ | g
  · rw [k_po.none (r4.trans hg)]
    exact k_cp_pos S q' _ _
  · obtain ⟨u', q'', z1, z2, z3, z4⟩ := hgd g hg
    obtain rfl : u = u' := Option.some.inj (h6.symm.trans z1)
    obtain rfl : q' = q'' := Option.some.inj (h10.symm.trans z2)
    have e6 : xm_r S' 6 o 1 = some u := (fR 6 o 1 (fun y => absurd y.1 (by decide)) (fun y => absurd y.1 (by decide)) (fun y => absurd y.2.2.1 (by decide))).trans h6
    have e10 : xm_r S' 10 u 0 = some q' := (fR 10 u 0 (fun y => absurd y.1 (by decide)) (fun y => absurd y.1 (by decide)) (fun y => absurd y.1 (by decide))).trans h10
    rw [k_po.val (r4.trans hg) r1 e6 e10, i16, i3, y_ix_nI (show d < 2 ^ 31 by omega), hm, hn, hcp _ _ (by omega), oI 5 g 1 (by decide), show y_ix (0 : Int32) = 0 from rfl, Nat.sub_zero]
    obtain ⟨m, hm'⟩ : ∃ m, xm_n S 1 q' - d = m + 1 := ⟨xm_n S 1 q' - d - 1, by omega⟩
    rw [hm', show xm_n S 1 q' - (d + 1) = m by omega]
    show _ ≤ 1 + k_mul S (xm_l S q' d).2 * k_cp S q' (d + 1) m + (if xm_i S 5 (xm_l S q' d).2 1 = 6 then 1 else 0)
    rw [z4]
    dsimp only
    by_cases c6 : xm_i S 5 g 1 = 6
    · rw [if_pos ⟨c6, by decide⟩, if_pos c6]
      omega
    · rw [if_neg (fun y => c6 y.1), if_neg c6]
      omega
theorem kNs.po {S S' : xm_S} {A : y_A} {X E B : Nat → Prop} {hb rb nb t w e1 e2 o e p g m : Nat} {gd st : Option Nat} {T D : Int32} (hM : kM S A X E B hb rb nb t w e1 e2) (hs : kNs S S' o (e + 1) (some p) gd st T D) (ho : o < xm_n S 1 5) (hp : p < (xm_n S 1 6)) (h1 : xm_r S 2 p 1 = some o) (h3 : xm_i S 2 p 3 = nI e) (he : e ≤ 4) (h4 : xm_r S 2 p 4 = some g) (h16 : xm_i S 2 p 16 = nI m) (hm5 : m ≤ 5) (hgd : ∀ g, gd = some g → k_tw S o (e + 1) g) (hm : m < k_mul S g ∨ (xm_i S 5 g 1 = 6 ∧ m = 1 ∧ gd = none)) : 1 + k_po S' (xm_n S 1 6) + k_po S' p ≤ k_po S p := by
  obtain ⟨u, h6, hu, -⟩ := (hM.1.2.2.2.2.2.2.2.2.2.2.2.1 o ho).2.1
  obtain ⟨q, h10, -⟩ := hM.1.2.2.2.2.2.2.2.2.2.2.2.2.2.2.2.1 u hu
  obtain ⟨c1, c2, c3, c4⟩ := hs.cp hM h6 hu h10 (by omega) hgd
  obtain ⟨fI, fR, ⟨n0, n1, n2, n2', n3⟩, fl, ⟨-, ⟨r1, r2, r4, -⟩⟩, fp, ff⟩ := hs
  have f1 : xm_r S' 2 p 1 = some o := (fR 2 p 1 (by omega) (by omega) (fun y => absurd y.1 (by decide))).trans h1
  have f4 : xm_r S' 2 p 4 = some g := (fR 2 p 4 (by omega) (by omega) (fun y => absurd y.1 (by decide))).trans h4
  have f3 : xm_i S' 2 p 3 = nI e := (fI 2 p 3 (by omega) (by omega)).trans h3
  have f16 : xm_i S' 2 p 16 = nI (m + 1) := by rw [(fp p rfl).1, h16, nI_1]
  have f51 : xm_i S' 5 g 1 = xm_i S 5 g 1 := fI 5 g 1 (fun y => absurd y.1 (by decide)) (fun y => absurd y.1 (by decide))
  have e6 : xm_r S' 6 o 1 = some u := (fR 6 o 1 (fun y => absurd y.1 (by decide)) (fun y => absurd y.1 (by decide)) (fun y => absurd y.2.2.1 (by decide))).trans h6
  have e10 : xm_r S' 10 u 0 = some q := (fR 10 u 0 (fun y => absurd y.1 (by decide)) (fun y => absurd y.1 (by decide)) (fun y => absurd y.1 (by decide))).trans h10
  rw [k_po.val f4 f1 e6 e10, k_po.val h4 h1 h6 h10, f16, f3, h16, h3, y_ix_nI (show e < 2 ^ 31 by omega), y_ix_nI (show m < 2 ^ 31 by omega), y_ix_nI (show m + 1 < 2 ^ 31 by omega), c1, c2, f51]
  by_cases cq : e + 1 ≤ xm_n S 1 q
  · rw [c3 _ _ (by omega)]
    generalize k_cp S q (e + 1) (xm_n S 1 q - (e + 1)) = C at *
    rcases hm with hm | ⟨h61, hm1, hgn⟩
    · obtain ⟨r, hr⟩ : ∃ r, k_mul S g = m + 1 + r := ⟨k_mul S g - (m + 1), by omega⟩
      rw [hr, show m + 1 + r - (m + 1) = r by omega, show m + 1 + r - m = r + 1 by omega, Nat.add_mul, Nat.one_mul]
      by_cases c6 : xm_i S 5 g 1 = 6
      · by_cases cm : m + 1 < 2
        · rw [if_pos ⟨c6, cm⟩, if_pos ⟨c6, by omega⟩]; omega
        · rw [if_neg (fun y => cm y.2)]; omega
      · rw [if_neg (fun y => c6 y.1), if_neg (fun y => c6 y.1)]; omega
    · rw [k_po.none (r4.trans hgn), hm1, if_neg (show ¬ (xm_i S 5 g 1 = 6 ∧ 1 + 1 < 2) from fun y => absurd y.2 (by decide)), if_pos (show xm_i S 5 g 1 = 6 ∧ 1 < 2 from ⟨h61, by decide⟩)]
      have : k_mul S g = 1 := by unfold k_mul; rw [h61, if_neg (by decide), if_neg (by decide)]
      rw [this]
      omega
  · -- no guard behind
    have hz : xm_n S 1 q - (e + 1) = 0 := by omega
    rw [hz]
    rw [hz] at c4
    have k1 : ∀ S'' : xm_S, k_cp S'' q (e + 1) 0 = 1 := fun _ => rfl
    rw [k1] at c4
    rw [k1, k1]
    rcases hm with hm | ⟨h61, hm1, hgn⟩
    · by_cases c6 : xm_i S 5 g 1 = 6
      · by_cases cm : m + 1 < 2
        · rw [if_pos ⟨c6, cm⟩, if_pos ⟨c6, by omega⟩]; omega
        · rw [if_neg (fun y => cm y.2)]; omega
      · rw [if_neg (fun y => c6 y.1), if_neg (fun y => c6 y.1)]; omega
    · rw [k_po.none (r4.trans hgn), hm1, if_neg (show ¬ (xm_i S 5 g 1 = 6 ∧ 1 + 1 < 2) from fun y => absurd y.2 (by decide)), if_pos (show xm_i S 5 g 1 = 6 ∧ 1 < 2 from ⟨h61, by decide⟩)]
      have : k_mul S g = 1 := by unfold k_mul; rw [h61, if_neg (by decide), if_neg (by decide)]
      rw [this]
      decide
theorem kNs.po0 {S S' : xm_S} {A : y_A} {X E B : Nat → Prop} {hb rb nb t w e1 e2 o : Nat} {gd st : Option Nat} {T D : Int32} (hM : kM S A X E B hb rb nb t w e1 e2) (hs : kNs S S' o 0 none gd st T D) (ho : o < xm_n S 1 5) (hgd : ∀ g, gd = some g → k_tw S o 0 g) : k_po S' (xm_n S 1 6) ≤ 66 := by
  obtain ⟨u, h6, hu, -⟩ := (hM.1.2.2.2.2.2.2.2.2.2.2.2.1 o ho).2.1
  obtain ⟨q, h10, y2, y3, y4, y5, y6⟩ := hM.1.2.2.2.2.2.2.2.2.2.2.2.2.2.2.2.1 u hu
  obtain ⟨c1, c2, c3, c4⟩ := hs.cp hM h6 hu h10 (by omega) hgd
  have h3 := hM.1.2.2.2.2.2.2.2.2.1
  have j2 := hM.2.2.2.2.1
  have := k_cp_max (S := S) (q := q) (fun i j hij hj => by
    obtain ⟨g, a1, -⟩ := y6 i (by omega)
    obtain ⟨e, b1, -⟩ := y6 j hj
    rw [a1, b1]
    exact j2 u q (by omega) h10 i j g e hij hj a1 b1) (fun i hi h => by
    obtain ⟨g, a1, a2, -⟩ := y6 i hi
    rw [a1] at h ⊢
    have hkg := h3 g a2
    obtain ⟨b1, b2, -⟩ := (hM.2.2.1 g a2).2.2.2.2.2.2.2.2.1 (hkg.2.1.symm.trans h)
    obtain ⟨z, z1, z2, z3⟩ := k_rg (x := A 32 g) (a := 2) (b := 6) (by decide) b1 b2
    show y_ix (xm_i S 5 g 2) ≤ 6
    rw [hkg.2.2.1, z1, y_ix_nI (by omega)]
    exact z3) (xm_n S 1 q) 0 true true true (by omega) (fun z => by cases z) (fun z => by cases z) (fun z => by cases z)
  have h67 := kMx_67 _ y4
  rw [Nat.sub_zero] at c4
  omega
end
