/-! ===== lists in the relation ===== -/
theorem xm_rel.lst {D : va_G} {g : xm_G} {α : Nat → Nat → Nat} {base : Nat} {S S' : xm_S} {U : State} {H H1 : Heap} {k : Nat} (h : xm_rel D g α base S U H) (hk : k < xm_n S 0 12) (hcnt : ∀ c, c ≤ 17 → xm_n S' 0 c = xm_n S 0 c) (hi : xm_i S' = xm_i S) (hr : xm_r S' = xm_r S) (ha : ∀ c q, c ≤ 17 → xm_a S' c q = xm_a S c q) (hn : ∀ p q, p ≠ 0 → ¬ ((p = 1 ∨ p = 2) ∧ q = k) → xm_n S' p q = xm_n S p q) (hl : ∀ q, q ≠ k → xm_l S' q = xm_l S q) (ha18 : ∀ q, q ≠ k → xm_a S' 18 q = xm_a S 18 q)
    (hz : H1.size = xm_n S' 0 100) (hzz : H.size ≤ H1.size) (ho : ∀ q, q < H.size → q ≠ α 12 k → (10 ≤ xm_n S 2 k → q ≠ xm_a S 18 k) → H1[q]? = H[q]?) (hlob : xm_lob D g α S' k H1) (h18 : 10 ≤ xm_n S' 2 k → (xm_a S' 18 k = xm_a S 18 k ∧ 10 ≤ xm_n S 2 k) ∨ (xm_a S' 18 k = H.size ∧ H.size < H1.size)) : xm_rel D g α base S' U H1 := by
  obtain ⟨h1, h2, h3, h4, h5, h6⟩ := h
  refine ⟨⟨hz, by omega⟩, fun c q hc hq => ?_, fun c q c' q' hc hc' hq hq' e => ?_, fun q hq h10 => ?_, fun c q hc hq => ?_, fun c q hc hq => ?_⟩
  · rw [hcnt c (by omega)] at hq
    obtain ⟨a1, a2, a3⟩ := h2 c q hc hq
    rw [ha c q (by omega)]
    exact ⟨a1, a2, by omega⟩
  · rw [hcnt c (by omega)] at hq
    rw [hcnt c' (by omega)] at hq'
    exact h3 c q c' q' hc hc' hq hq' e
  · rw [hcnt 12 (by omega)] at hq
    by_cases hqk : q = k
    · subst hqk
      rcases h18 h10 with ⟨e1, e2⟩ | ⟨e1, e2⟩
      · obtain ⟨b1, b2, b3, b4⟩ := h4 q hq e2
        rw [e1]
        refine ⟨b1, by omega, fun c' k' hc' hk' => ?_, fun k' hk' h10' e => ?_⟩
        · rw [hcnt c' (by omega)] at hk'
          exact b3 c' k' hc' hk'
        · rw [hcnt 12 (by omega)] at hk'
          by_cases hkk : k' = q
          · exact hkk.symm
          · rw [hn 2 k' (by omega) (fun z => hkk z.2)] at h10'
            rw [ha18 k' hkk] at e
            exact b4 k' hk' h10' e
      · rw [e1]
        refine ⟨h1.2, e2, fun c' k' hc' hk' e => ?_, fun k' hk' h10' e => ?_⟩
        · rw [hcnt c' (by omega)] at hk'
          have := (h2 c' k' hc' hk').2.2
          omega
        · rw [hcnt 12 (by omega)] at hk'
          by_cases hkk : k' = q
          · exact hkk.symm
          · rw [hn 2 k' (by omega) (fun z => hkk z.2)] at h10'
            rw [ha18 k' hkk] at e
            have := (h4 k' hk' h10').2.1
            omega
    · rw [hn 2 q (by omega) (fun z => hqk z.2)] at h10
      obtain ⟨b1, b2, b3, b4⟩ := h4 q hq h10
      rw [ha18 q hqk]
      refine ⟨b1, by omega, fun c' k' hc' hk' => ?_, fun k' hk' h10' e => ?_⟩
      · rw [hcnt c' (by omega)] at hk'
        exact b3 c' k' hc' hk'
      · rw [hcnt 12 (by omega)] at hk'
        by_cases hkk : k' = k
        · subst hkk
          rcases h18 h10' with ⟨e1, e2⟩ | ⟨e1, e2⟩
          · rw [e1] at e
            exact b4 k' hk' e2 e
          · rw [e1] at e
            omega
        · rw [hn 2 k' (by omega) (fun z => hkk z.2)] at h10'
          rw [ha18 k' hkk] at e
          exact b4 k' hk' h10' e
  · rw [hcnt c (by omega)] at hq
    by_cases hqk : c = 12 ∧ q = k
    · obtain ⟨rfl, rfl⟩ := hqk
      exact hlob
    · have e1 : α c q ≠ α 12 k := fun z => hqk (h3 c q 12 k hc (by omega) hq hk z)
      refine (h5 c q hc hq).kept hc ⟨fun j => by rw [hi], fun j => by rw [hr], hn _ _ (by omega) (by omega), fun e12 => ?_⟩ (ho _ (h2 c q hc hq).2.2 e1 (fun h10 z => (h4 k hk h10).2.2.1 c q hc hq z.symm)) (fun e12 h10 => ?_)
      · have hqk2 : q ≠ k := fun z => hqk ⟨e12, z⟩
        exact ⟨hn 1 q (by omega) (fun z => hqk2 z.2), hn 2 q (by omega) (fun z => hqk2 z.2), ha18 q hqk2, fun j => by rw [hl q hqk2]⟩
      · subst e12
        have hqk2 : q ≠ k := fun z => hqk ⟨rfl, z⟩
        obtain ⟨b1, b2, b3, b4⟩ := h4 q hq h10
        exact ho _ b2 (b3 12 k (by omega) hk) (fun h10' z => hqk2 (b4 k hk h10' z))
  · rw [hcnt c (by omega)] at hq
    obtain ⟨b1, b2⟩ := h6 c q hc hq
    rw [hi, hn (10 + c) q (by omega) (by omega)]
    have hlt : α c q < H.size := by
      obtain ⟨scr, x1, -⟩ := b2
      exact (Array.getElem?_eq_some_iff.mp x1).1
    have g1 := (h2 12 k (by omega) hk).2.1
    exact ⟨b1, b2.kept (ho _ hlt (by omega) (fun h10 => by have := (h4 k hk h10).1; omega))⟩
theorem xm_lst {D : va_G} {g : xm_G} {α : Nat → Nat → Nat} {base : Nat} {S : xm_S} {U : State} {H : Heap} {k : Nat} (h : xm_rel D g α base S U H) (hk : k < xm_n S 0 12) : xm_lob D g α S k H := h.2.2.2.2.1 12 k (by decide) hk
/-- the cells of a list with an array -/
theorem xm_lP {D : va_G} {g : xm_G} {H : Heap} {a b n : Nat} {z : Int32} {mo : Int32} {f : Nat → Option Nat} (h1 : t_OB a (D.1 12) 3 (D.2 12) H (vp_V [.ref b, .int z, .int mo])) (h2 : H[b]? = some (arrV g.2.2.2.1 n (fun j => va_rf (f j)))) : va_P D xm_cl [xj_li a (.ref b) z mo, xj_at b g n f] H := by
  intro i q hq
  match i, hq with
  | 0, hq =>
    cases hq
    exact ⟨_, xm_cl_at 12 (by decide), h1⟩
  | 1, hq =>
    cases hq
    show H[b]? = some (vp_cell _ _)
    rw [vp_cell_q]
    exact h2
  | i + 2, hq => simp at hq
theorem xm_lP1 {D : va_G} {H : Heap} {a : Nat} {ed : Value} {z : Int32} {mo : Int32} (h1 : t_OB a (D.1 12) 3 (D.2 12) H (vp_V [ed, .int z, .int mo])) : va_P D xm_cl [xj_li a ed z mo] H := by
  intro i q hq
  match i, hq with
  | 0, hq =>
    cases hq
    exact ⟨_, xm_cl_at 12 (by decide), h1⟩
  | i + 1, hq => simp at hq
/-- back from the cells to the list -/
theorem xm_P_l {D : va_G} {H : Heap} {a : Nat} {ed : Value} {z : Int32} {mo : Int32} {ws : va_W} (h : va_P D xm_cl (xj_li a ed z mo :: ws) H) : t_OB a (D.1 12) 3 (D.2 12) H (vp_V [ed, .int z, .int mo]) := by
  obtain ⟨r, h1, h2⟩ := h 0 _ rfl
  rw [xm_cl_at 12 (by decide)] at h1
  cases h1
  exact h2
theorem xm_P_a {D : va_G} {g : xm_G} {H : Heap} {b n i : Nat} {f : Nat → Option Nat} {ws : va_W} (h : va_P D xm_cl ws H) (hi : ws[i]? = some (xj_at b g n f)) : H[b]? = some (arrV g.2.2.2.1 n (fun j => va_rf (f j))) := by
  have h1 : H[b]? = some (vp_cell _ _) := h i _ hi
  rw [vp_cell_q] at h1
  exact h1
theorem xm_D2 {a b : Nat} {e1 e2 : va_E} (h : a ≠ b) : va_D (fun _ => True) [(a, e1), (b, e2)] := by
  refine ⟨fun i j p q hp hq e => ?_, fun _ _ _ => trivial⟩
  match i, j, hp, hq with
  | 0, 0, _, _ => rfl
  | 0, 1, hp, hq => cases hp; cases hq; exact absurd e h
  | 1, 0, hp, hq => cases hp; cases hq; exact absurd e.symm h
  | 1, 1, _, _ => rfl
  | i + 2, _, hp, _ => simp at hp
  | 0, j + 2, _, hq => simp at hq
  | 1, j + 2, _, hq => simp at hq
theorem xm_D1 {a : Nat} {e1 : va_E} : va_D (fun _ => True) [(a, e1)] := by
  refine ⟨fun i j p q hp hq e => ?_, fun _ _ _ => trivial⟩
  match i, j, hp, hq with
  | 0, 0, _, _ => rfl
  | i + 1, _, hp, _ => simp at hp
  | 0, j + 1, _, hq => simp at hq
