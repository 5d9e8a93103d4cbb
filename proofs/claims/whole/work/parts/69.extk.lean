/-! ===== SOMETHING IS ADDED: all together; a new object and a list's new end ===== -/
section
theorem kK.ext {S S' : xm_S} {A A' : y_A} {t : Nat} (hE : kExt S S') (a : ∀ x k, kOld S x k → A' x k = A x k) (h : kK S A t) (hC' : xk_C S') (hcnt' : k_cnt S' A') (hb' : k_bnd S') (hl' : k_lst S') (ht' : k_top S' A')
    (s1 : ∀ k, xm_n S 1 0 ≤ k → k < xm_n S' 1 0 → ks S' A' k) (s3 : ∀ k, xm_n S 1 3 ≤ k → k < xm_n S' 1 3 → kg S' A' k) (s7 : ∀ k, xm_n S 1 10 ≤ k → k < xm_n S' 1 10 → kp S' A' k) (s8 : ∀ k, xm_n S 1 11 ≤ k → k < xm_n S' 1 11 → ka S' A' k) (s11 : ∀ k, xm_n S 1 1 ≤ k → k < xm_n S' 1 1 → kw S' A' 1 6 k) (s12 : ∀ k, xm_n S 1 2 ≤ k → k < xm_n S' 1 2 → kw S' A' 2 12 k)
    (own : k_own S') (obj : k_obj S') (cap : k_cap S') (pln : k_pln S' A' t 5000) (hi0 : xm_i S' 0 0 15 = xm_i S 0 0 15)
    (ng : ∀ g, xm_n S 1 3 ≤ g → g < xm_n S' 1 3 → xm_r S' 5 g 9 = none ∧ ∀ q, xm_r S' 5 g 12 = some q → xm_n S' 1 q = 0) (gr : ∀ g, xm_n S 1 3 ≤ g → g < xm_n S' 1 3 → kgr S' A' g) : kK S' A' t := by
  obtain ⟨⟨⟨hK, ho, hr⟩, hS, hgr⟩, hI⟩ := h
  have hO := hI.2.2.2.1
  have e1 := hK.ext hE hO a hC' hcnt' hb' hl' ht' s1 s3 s7 s8 s11 s12
  have e2 := hI.ext hE a hK own obj cap pln hi0 ng
  obtain ⟨-, ⟨m0, m1, m2, m3, m10, m11⟩, -, -, -, -, -, st16, st26, -⟩ := hE
  refine ⟨⟨⟨e1, fun o hoo => ?_, fun k hk h0 => ?_⟩, fun k hk => ⟨(st26 k).trans (hS k hk).1, fun j hj => (st16 k j).trans ((hS k hk).2 j hj)⟩, fun g hg => ?_⟩, e2⟩
  · exact e2.2.2.2.2.2.2.2.2.2.2.2.2.2.2.2.2.2 o (by omega)
  · refine (e2.2.2.2.2.2.2.1 k hk).1 (Or.inl ?_)
    rw [(e1.2.2.2.2.2.2.2.1 k hk).2.2.2.2.1]
    exact h0
  · by_cases hgo : g < xm_n S 1 3
    · have z := hgr g hgo
      unfold kgr at z ⊢
      simp only [a 31 g (by unfold kOld; omega), a 32 g (by unfold kOld; omega), a 33 g (by unfold kOld; omega), a 34 g (by unfold kOld; omega), a 35 g (by unfold kOld; omega), a 42 g (by unfold kOld; omega)]
      obtain ⟨z1, z2, z3, z4, z5⟩ := z
      refine ⟨z1, z2, z3, fun y => ?_, z5⟩
      rcases z4 y with w | ⟨w1, s, w2, w3⟩
      · exact Or.inl w
      · exact Or.inr ⟨w1, s, by omega, w3⟩
    · exact gr g (by omega) hg
/-- a list has one element more -/
def xk_psh (S : xm_S) (k : Nat) (x : Nat × Nat) (c2 c100 c101 : Nat) (a : Nat → Nat → Nat) : xm_S := (S.1, S.2.1, xm_u2 S.2.2.1 k (xm_n S 1 k) x, (fun p q => if p = 1 ∧ q = k then xm_n S 1 k + 1 else if p = 2 ∧ q = k then c2 else if p = 0 ∧ q = 100 then c100 else if p = 0 ∧ q = 101 then c101 else xm_n S p q), a)
theorem xm_push_x (S : xm_S) (k : Nat) (x : Nat × Nat) (h : xm_n S 2 k ≠ 0) : ∃ c2 c100 c101 a, xm_push k x S = xk_psh S k x c2 c100 c101 a ∧ c2 ≠ 0 ∧ ((xm_n S 2 k = 1 ∧ c2 = 10) ∨ (xm_n S 1 k = xm_n S 2 k ∧ c2 ≤ 2 * xm_n S 1 k) ∨ (xm_n S 2 k ≠ 1 ∧ xm_n S 1 k ≠ xm_n S 2 k ∧ c2 = xm_n S 2 k)) := by
  unfold xm_push xm_room
  by_cases h1 : xm_n S 2 k = 1
  · rw [if_pos h1]
    exact ⟨10, _, _, _, rfl, by decide, Or.inl ⟨h1, rfl⟩⟩
  · rw [if_neg h1]
    by_cases h2 : xm_n S 1 k = xm_n S 2 k
    · rw [if_pos h2]
      exact ⟨xm_n S 2 k + xm_n S 2 k / 2, _, _, _, rfl, by omega, Or.inr (Or.inl ⟨h2, by omega⟩)⟩
    · rw [if_neg h2]
      refine ⟨xm_n S 2 k, xm_n S 0 100, xm_n S 0 101, xm_a S, ?_, h, Or.inr (Or.inr ⟨h1, h2, rfl⟩)⟩
      have e : (fun p q => if p = 1 ∧ q = k then xm_n S 1 k + 1 else if p = 2 ∧ q = k then xm_n S 2 k else if p = 0 ∧ q = 100 then xm_n S 0 100 else if p = 0 ∧ q = 101 then xm_n S 0 101 else xm_n S p q) = xm_u2 (xm_n S) 1 k (xm_n S 1 k + 1) := by
        funext p q
        unfold xm_u2
        split
        · rfl
        · split
          · rename_i w; rw [w.1, w.2]
          · split
            · rename_i w; rw [w.1, w.2]
            · split
              · rename_i w; rw [w.1, w.2]
              · rfl
      unfold xk_psh
      rw [e]
      rfl
/-- a new object of a kind, its fields set -/
def kN (S S1 : xm_S) (c N : Nat) : Prop := (∀ p q j, (p = c ∧ q = xm_n S 0 c) ∨ (xm_i S1 p q j = xm_i S p q j ∧ xm_r S1 p q j = xm_r S p q j)) ∧ xm_l S1 = xm_l S ∧ xm_n S1 = xm_n (xm_mk c N S)
theorem kN.mk (S : xm_S) (c N : Nat) : kN S (xm_mk c N S) c N := by
  refine ⟨fun p q j => ?_, rfl, rfl⟩
  by_cases h : p = c ∧ q = xm_n S 0 c
  · exact Or.inl h
  · exact Or.inr ⟨if_neg h, if_neg h⟩
theorem kN.si {S S1 : xm_S} {c N : Nat} (h : kN S S1 c N) (j : Nat) (x : Int32) : kN S (xm_si S1 c (xm_n S 0 c) j x) c N := by
  refine ⟨fun p q i => ?_, h.2.1, h.2.2⟩
  rcases h.1 p q i with w | w
  · exact Or.inl w
  · by_cases e : p = c ∧ q = xm_n S 0 c
    · exact Or.inl e
    · exact Or.inr ⟨(if_neg (fun z => e ⟨z.1, z.2.1⟩)).trans w.1, w.2⟩
theorem kN.sr {S S1 : xm_S} {c N : Nat} (h : kN S S1 c N) (j : Nat) (x : Option Nat) : kN S (xm_sr S1 c (xm_n S 0 c) j x) c N := by
  refine ⟨fun p q i => ?_, h.2.1, h.2.2⟩
  rcases h.1 p q i with w | w
  · exact Or.inl w
  · by_cases e : p = c ∧ q = xm_n S 0 c
    · exact Or.inl e
    · exact Or.inr ⟨w.1, (if_neg (fun z => e ⟨z.1, z.2.1⟩)).trans w.2⟩
theorem kN.n {S S1 : xm_S} {c N : Nat} (h : kN S S1 c N) (p q : Nat) : xm_n S1 p q = if p = 0 ∧ q = c then xm_n S 0 c + 1 else if p = 0 ∧ q = 100 then xm_n S 0 100 + 1 else if p = 0 ∧ q = 101 then xm_n S 0 101 + N else if p = 10 + c ∧ q = xm_n S 0 c then N else if c = 12 ∧ (p = 1 ∨ p = 2) ∧ q = xm_n S 0 12 then 0 else xm_n S p q := by
  rw [h.2.2]
  rfl
/-- how the counts stand behind it -/
theorem kN.psh {S S1 : xm_S} {c N l : Nat} (h : kN S S1 c N) (hc : c = 1 ∨ c = 7 ∨ c = 8 ∨ c = 9) (x : Nat × Nat) (c2 c100 c101 : Nat) (a : Nat → Nat → Nat) : (∀ q, xm_n (xk_psh S1 l x c2 c100 c101 a) 1 q = if q = l then xm_n S 1 l + 1 else xm_n S 1 q) ∧ (∀ q, xm_n (xk_psh S1 l x c2 c100 c101 a) 2 q = if q = l then c2 else xm_n S 2 q) ∧ (∀ q, q < 100 → xm_n (xk_psh S1 l x c2 c100 c101 a) 0 q = if q = c then xm_n S 0 c + 1 else xm_n S 0 q) ∧ (∀ p q, 20 ≤ p → xm_n (xk_psh S1 l x c2 c100 c101 a) p q = xm_n S p q) := by
  have n := h.n
  have q : ∀ p q, xm_n (xk_psh S1 l x c2 c100 c101 a) p q = if p = 1 ∧ q = l then xm_n S1 1 l + 1 else if p = 2 ∧ q = l then c2 else if p = 0 ∧ q = 100 then c100 else if p = 0 ∧ q = 101 then c101 else xm_n S1 p q := fun _ _ => rfl
  have n1 : ∀ j, xm_n S1 1 j = xm_n S 1 j := fun j => by
    rw [n, if_neg (by omega), if_neg (by omega), if_neg (by omega), if_neg (by omega), if_neg (by omega)]
  have n2 : ∀ j, xm_n S1 2 j = xm_n S 2 j := fun j => by
    rw [n, if_neg (by omega), if_neg (by omega), if_neg (by omega), if_neg (by omega), if_neg (by omega)]
  refine ⟨fun j => ?_, fun j => ?_, fun j hj => ?_, fun p j hp => ?_⟩
  · rw [q]
    by_cases e : j = l
    · rw [if_pos ⟨rfl, e⟩, if_pos e, n1]
    · rw [if_neg (fun z => e z.2), if_neg (by omega), if_neg (by omega), if_neg (by omega), if_neg e, n1]
  · rw [q]
    by_cases e : j = l
    · rw [if_neg (by omega), if_pos ⟨rfl, e⟩, if_pos e]
    · rw [if_neg (by omega), if_neg (fun z => e z.2), if_neg (by omega), if_neg (by omega), if_neg e, n2]
  · rw [q, if_neg (by omega), if_neg (by omega), if_neg (by omega), if_neg (by omega), n]
    by_cases e : j = c
    · rw [if_pos ⟨rfl, e⟩, if_pos e]
    · rw [if_neg (fun z => e z.2), if_neg (by omega), if_neg (by omega), if_neg (by omega), if_neg (by omega), if_neg e]
  · rw [q, if_neg (by omega), if_neg (by omega), if_neg (by omega), if_neg (by omega), n, if_neg (by omega), if_neg (by omega), if_neg (by omega), if_neg (by omega), if_neg (by omega)]
theorem kExt.of {S S1 : xm_S} {c N l : Nat} (h : kN S S1 c N) (hc : c = 1 ∨ c = 7 ∨ c = 8 ∨ c = 9) (hl : l = 0 ∨ l = 1 ∨ l = 2 ∨ l = 10 ∨ l = 11) (x : Nat × Nat) (c2 c100 c101 : Nat) (a : Nat → Nat → Nat) : kExt S (xk_psh S1 l x c2 c100 c101 a) := by
  obtain ⟨p1, p2, p3, p4⟩ := h.psh (l := l) hc x c2 c100 c101 a
  have le1 : ∀ q, xm_n S 1 q ≤ xm_n (xk_psh S1 l x c2 c100 c101 a) 1 q := fun q => by
    rw [p1]
    split
    · rename_i e; rw [e]; omega
    · exact Nat.le_refl _
  have ll : ∀ q i, xm_l (xk_psh S1 l x c2 c100 c101 a) q i = if q = l ∧ i = xm_n S 1 l then x else xm_l S q i := fun q i => by
    show xm_u2 (xm_l S1) l (xm_n S1 1 l) x q i = _
    have n1 : xm_n S1 1 l = xm_n S 1 l := by
      rw [h.n, if_neg (by omega), if_neg (by omega), if_neg (by omega), if_neg (by omega), if_neg (by omega)]
    rw [h.2.1, n1]
    rfl
  refine ⟨fun p q j hp hq => ?_, ⟨le1 0, le1 1, le1 2, le1 3, le1 10, le1 11⟩, ⟨?_, ?_, ?_, ?_, ?_, ?_⟩, fun q h12 _ => ⟨by rw [p1, if_neg (by omega)], fun i => by rw [ll, if_neg (by omega)]⟩, fun q i _ hi => ?_, fun g _ => p4 25 g (by decide), ?_, fun k j => ?_, fun k => p4 26 k (by decide), ?_⟩
  · rcases h.1 p q j with w | w
    · rw [w.1, w.2] at hq
      exact absurd hq (Nat.lt_irrefl _)
    · exact w
  · rw [p1, if_neg (by omega)]
  · rw [p1, if_neg (by omega)]
  · rw [p1, if_neg (by omega)]
  · rw [p1, if_neg (by omega)]
  · rw [p1, if_neg (by omega)]
  · rw [p1, if_neg (by omega)]
  · rw [ll, if_neg]
    rintro ⟨rfl, rfl⟩
    exact Nat.lt_irrefl _ hi
  · rw [p3 12 (by decide)]
    split <;> omega
  · rcases h.1 16 k j with w | w
    · omega
    · exact w.1
  · rw [p3 8 (by decide)]
    split
    · rename_i e; rw [← e]; omega
    · exact Nat.le_refl _
end
