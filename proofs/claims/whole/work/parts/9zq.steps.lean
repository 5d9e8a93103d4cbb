/-! ===== THE REFERENCE, FROM NOTHING: the steps (printed by wip/whole/gen9zq.py) ===== -/
section
/-- the first x fields are set -/
def kMo (S0 S : xm_S) (x a b : Nat) : Prop := xm_n S 0 13 = a ∧ xm_n S 0 14 = b ∧ (∀ y, y < x → ((y_k y).1 = 11 → xm_i S 11 0 y = 0) ∧ ((y_k y).1 ≠ 11 → xm_r S 11 0 y = some (y_k y).2.1 ∧ xm_n S (10 + (y_k y).1) (y_k y).2.1 = (y_k y).2.2 ∧ ∀ k, xm_i S (y_k y).1 (y_k y).2.1 k = 0) ∧ (((y_k y).1 = 13 ∧ (y_k y).2.1 < a) ∨ ((y_k y).1 = 14 ∧ (y_k y).2.1 < b) ∨ (y_k y).1 = 11)) ∧ (∀ c, c < 100 → c ≠ 13 → c ≠ 14 → xm_n S 0 c = xm_n S0 0 c) ∧ (∀ p q, 1 ≤ p → p ≠ 23 → p ≠ 24 → xm_n S p q = xm_n S0 p q) ∧ (∀ p q r, p ≠ 11 → p ≠ 13 → p ≠ 14 → xm_i S p q r = xm_i S0 p q r ∧ xm_r S p q r = xm_r S0 p q r) ∧ xm_l S = xm_l S0
theorem kMo.i {S0 S S' : xm_S} {x a b : Nat} (h : kMo S0 S x a b) (hx : (y_k x).1 = 11) (e : S' = xm_si S 11 0 x 0) : kMo S0 S' (x + 1) a b := by
  obtain ⟨a1, a2, a3, a4, a5, a6, a7⟩ := h
  have I : ∀ p q r, ¬ (p = 11 ∧ q = 0 ∧ r = x) → xm_i S' p q r = xm_i S p q r := fun p q r z => by
    rw [e]
    by_cases c : p = 11 ∧ q = 0
    · exact xi_si (fun y => z ⟨c.1, c.2, y.2⟩)
    · exact xi_sk c
  have R : xm_r S' = xm_r S := by rw [e]; rfl
  have N : xm_n S' = xm_n S := by rw [e]; rfl
  refine ⟨by rw [N]; exact a1, by rw [N]; exact a2, fun y hy => ?_, by rw [N]; exact a4, by rw [N]; exact a5, fun p q r h1 h2 h3 => by rw [I p q r (fun z => h1 z.1), R]; exact a6 p q r h1 h2 h3, by rw [e]; exact a7⟩
  by_cases c : y = x
  · rw [c]
    exact ⟨fun _ => by rw [e]; exact xi_same, fun z => absurd hx z, Or.inr (Or.inr hx)⟩
  · obtain ⟨b1, b2, b3⟩ := a3 y (by omega)
    refine ⟨fun z => by rw [I 11 0 y (by omega)]; exact b1 z, fun z => ?_, b3⟩
    obtain ⟨c1, c2, c3⟩ := b2 z
    exact ⟨by rw [R]; exact c1, by rw [N]; exact c2, fun k => by rw [I _ _ _ (fun q => z q.1)]; exact c3 k⟩
theorem kMo.a13 {S0 S S1 S' : xm_S} {x a b k N : Nat} (h : kMo S0 S x a b) (hx : y_k x = (13, a, N)) (ek : k = xm_n S 0 13) (e1 : S1 = xm_mk 13 N S) (e : S' = xm_sr S1 11 0 x (some k)) : kMo S0 S' (x + 1) (a + 1) b := by
  obtain ⟨a1, a2, a3, a4, a5, a6, a7⟩ := h
  have hk : k = a := ek.trans a1
  have I : ∀ p q r, ¬ (p = 13 ∧ q = k) → xm_i S' p q r = xm_i S p q r := fun p q r z => by
    rw [e, e1]
    exact xi_mkn (N := N) (fun y => z ⟨y.1, y.2.trans ek.symm⟩)
  have I0 : ∀ r, xm_i S' 13 k r = 0 := fun r => by
    rw [e, e1, ek]
    exact if_pos ⟨rfl, rfl⟩
  have R : ∀ p q r, p ≠ 13 → ¬ (p = 11 ∧ q = 0 ∧ r = x) → xm_r S' p q r = xm_r S p q r := fun p q r hp z => by
    rw [e]
    have s : xm_r S1 p q r = xm_r S p q r := by rw [e1]; exact xr_mkn (N := N) (fun y => hp y.1)
    by_cases c : p = 11 ∧ q = 0
    · exact (xr_sr (fun y => z ⟨c.1, c.2, y.2⟩)).trans s
    · exact (xr_sk c).trans s
  have n : ∀ p q, xm_n S' p q = if p = 0 ∧ q = 13 then xm_n S 0 13 + 1 else if p = 0 ∧ q = 100 then xm_n S 0 100 + 1 else if p = 0 ∧ q = 101 then xm_n S 0 101 + N else if p = 10 + 13 ∧ q = xm_n S 0 13 then N else if 13 = 12 ∧ (p = 1 ∨ p = 2) ∧ q = xm_n S 0 12 then 0 else xm_n S p q := fun p q => by rw [e, e1]; rfl
  refine ⟨?_, ?_, fun y hy => ?_, fun q hq h1 h2 => ?_, fun p q h1 h2 h3 => ?_, fun p q r h1 h2 h3 => ⟨?_, ?_⟩, by rw [e, e1]; exact a7⟩
  · rw [n]; rw [if_pos ⟨rfl, rfl⟩, a1]
  · rw [n]; rw [if_neg (by omega), if_neg (by omega), if_neg (by omega), if_neg (by omega), if_neg (by omega)]; exact a2
  · by_cases c : y = x
    · rw [c, hx]
      refine ⟨fun z => absurd (show 13 = 11 from z) (by decide), fun _ => ⟨?_, ?_, fun r => ?_⟩, ?_⟩
      · rw [e, xr_same, hk]
      · show xm_n S' (10 + 13) a = N
        rw [n, if_neg (by omega), if_neg (by omega), if_neg (by omega), if_pos ⟨rfl, by omega⟩]
      · show xm_i S' 13 a r = 0
        rw [← hk]; exact I0 r
      · exact Or.inl ⟨rfl, Nat.lt_succ_self _⟩
    · obtain ⟨b1, b2, b3⟩ := a3 y (by omega)
      refine ⟨fun z => by rw [I 11 0 y (by omega)]; exact b1 z, fun z => ?_, ?_⟩
      · obtain ⟨c1, c2, c3⟩ := b2 z
        refine ⟨by rw [R 11 0 y (by decide) (by omega)]; exact c1, ?_, fun r => ?_⟩
        · rw [n, if_neg (by omega), if_neg (by omega), if_neg (by omega), if_neg (by rcases b3 with q | q | q <;> omega), if_neg (by omega)]
          exact c2
        · rw [I _ _ _ (by rcases b3 with q | q | q <;> omega)]
          exact c3 r
      · rcases b3 with q | q | q
        · exact Or.inl ⟨q.1, by omega⟩
        · exact Or.inr (Or.inl ⟨q.1, by omega⟩)
        · exact Or.inr (Or.inr q)
  · rw [n, if_neg (by omega), if_neg (by omega), if_neg (by omega), if_neg (by omega), if_neg (by omega)]
    exact a4 q hq h1 h2
  · rw [n, if_neg (by omega), if_neg (by omega), if_neg (by omega), if_neg (by omega), if_neg (by omega)]
    exact a5 p q h1 h2 h3
  · rw [I p q r (by omega)]; exact (a6 p q r h1 h2 h3).1
  · rw [R p q r (by omega) (by omega)]; exact (a6 p q r h1 h2 h3).2
theorem kMo.a14 {S0 S S1 S' : xm_S} {x a b k N : Nat} (h : kMo S0 S x a b) (hx : y_k x = (14, b, N)) (ek : k = xm_n S 0 14) (e1 : S1 = xm_mk 14 N S) (e : S' = xm_sr S1 11 0 x (some k)) : kMo S0 S' (x + 1) a (b + 1) := by
  obtain ⟨a1, a2, a3, a4, a5, a6, a7⟩ := h
  have hk : k = b := ek.trans a2
  have I : ∀ p q r, ¬ (p = 14 ∧ q = k) → xm_i S' p q r = xm_i S p q r := fun p q r z => by
    rw [e, e1]
    exact xi_mkn (N := N) (fun y => z ⟨y.1, y.2.trans ek.symm⟩)
  have I0 : ∀ r, xm_i S' 14 k r = 0 := fun r => by
    rw [e, e1, ek]
    exact if_pos ⟨rfl, rfl⟩
  have R : ∀ p q r, p ≠ 14 → ¬ (p = 11 ∧ q = 0 ∧ r = x) → xm_r S' p q r = xm_r S p q r := fun p q r hp z => by
    rw [e]
    have s : xm_r S1 p q r = xm_r S p q r := by rw [e1]; exact xr_mkn (N := N) (fun y => hp y.1)
    by_cases c : p = 11 ∧ q = 0
    · exact (xr_sr (fun y => z ⟨c.1, c.2, y.2⟩)).trans s
    · exact (xr_sk c).trans s
  have n : ∀ p q, xm_n S' p q = if p = 0 ∧ q = 14 then xm_n S 0 14 + 1 else if p = 0 ∧ q = 100 then xm_n S 0 100 + 1 else if p = 0 ∧ q = 101 then xm_n S 0 101 + N else if p = 10 + 14 ∧ q = xm_n S 0 14 then N else if 14 = 12 ∧ (p = 1 ∨ p = 2) ∧ q = xm_n S 0 12 then 0 else xm_n S p q := fun p q => by rw [e, e1]; rfl
  refine ⟨?_, ?_, fun y hy => ?_, fun q hq h1 h2 => ?_, fun p q h1 h2 h3 => ?_, fun p q r h1 h2 h3 => ⟨?_, ?_⟩, by rw [e, e1]; exact a7⟩
  · rw [n]; rw [if_neg (by omega), if_neg (by omega), if_neg (by omega), if_neg (by omega), if_neg (by omega)]; exact a1
  · rw [n]; rw [if_pos ⟨rfl, rfl⟩, a2]
  · by_cases c : y = x
    · rw [c, hx]
      refine ⟨fun z => absurd (show 14 = 11 from z) (by decide), fun _ => ⟨?_, ?_, fun r => ?_⟩, ?_⟩
      · rw [e, xr_same, hk]
      · show xm_n S' (10 + 14) b = N
        rw [n, if_neg (by omega), if_neg (by omega), if_neg (by omega), if_pos ⟨rfl, by omega⟩]
      · show xm_i S' 14 b r = 0
        rw [← hk]; exact I0 r
      · exact Or.inr (Or.inl ⟨rfl, Nat.lt_succ_self _⟩)
    · obtain ⟨b1, b2, b3⟩ := a3 y (by omega)
      refine ⟨fun z => by rw [I 11 0 y (by omega)]; exact b1 z, fun z => ?_, ?_⟩
      · obtain ⟨c1, c2, c3⟩ := b2 z
        refine ⟨by rw [R 11 0 y (by decide) (by omega)]; exact c1, ?_, fun r => ?_⟩
        · rw [n, if_neg (by omega), if_neg (by omega), if_neg (by omega), if_neg (by rcases b3 with q | q | q <;> omega), if_neg (by omega)]
          exact c2
        · rw [I _ _ _ (by rcases b3 with q | q | q <;> omega)]
          exact c3 r
      · rcases b3 with q | q | q
        · exact Or.inl ⟨q.1, by omega⟩
        · exact Or.inr (Or.inl ⟨q.1, by omega⟩)
        · exact Or.inr (Or.inr q)
  · rw [n, if_neg (by omega), if_neg (by omega), if_neg (by omega), if_neg (by omega), if_neg (by omega)]
    exact a4 q hq h1 h2
  · rw [n, if_neg (by omega), if_neg (by omega), if_neg (by omega), if_neg (by omega), if_neg (by omega)]
    exact a5 p q h1 h2 h3
  · rw [I p q r (by omega)]; exact (a6 p q r h1 h2 h3).1
  · rw [R p q r (by omega) (by omega)]; exact (a6 p q r h1 h2 h3).2
end
