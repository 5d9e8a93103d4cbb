/-! ===== THE CLASS'S CONSTRUCTOR: what it makes (printed by wip/whole/gen9zo.py) ===== -/
section
set_option maxRecDepth 40000
/-- j lists have been made, the rest is as in S0 -/
def kIni (S0 S : xm_S) (j : Nat) : Prop := xm_n S 0 12 = j ∧ (∀ i, i < j → xm_n S 2 i = 1 ∧ xm_n S 1 i = 0) ∧ (∀ c, c < 100 → c ≠ 12 → xm_n S 0 c = xm_n S0 0 c) ∧ (∀ p q, 25 ≤ p → xm_n S p q = xm_n S0 p q) ∧ (∀ i, i < j → i < 12 → xm_r S 0 0 i = some i) ∧ (∀ p q r, p ≠ 12 → xm_i S p q r = xm_i S0 p q r) ∧ (∀ p q r, p ≠ 12 → ¬ (p = 0 ∧ q = 0 ∧ r < 12) → xm_r S p q r = xm_r S0 p q r) ∧ xm_l S = xm_l S0
theorem kIni.z (S : xm_S) : xm_n (xm_mk 12 3 S) 2 (xm_n S 0 12) = 0 := by
  rw [xn_mk, if_neg (by omega), if_neg (by omega), if_neg (by omega), if_neg (by omega), if_pos ⟨rfl, Or.inr rfl, rfl⟩]
theorem kIni.mk {S0 S S3 S6 : xm_S} {j k : Nat} (h : kIni S0 S j) (ek : k = xm_n S 0 12) (e3 : S3 = xm_mk 12 3 S) (e6 : S6 = xm_sn S3 2 k 1) : k = j ∧ xm_n S6 0 12 = j + 1 ∧ (∀ i, i < j + 1 → xm_n S6 2 i = 1 ∧ xm_n S6 1 i = 0) ∧ (∀ c, c < 100 → c ≠ 12 → xm_n S6 0 c = xm_n S0 0 c) ∧ (∀ p q, 25 ≤ p → xm_n S6 p q = xm_n S0 p q) ∧ (∀ p q r, p ≠ 12 → xm_i S6 p q r = xm_i S p q r ∧ xm_r S6 p q r = xm_r S p q r) ∧ xm_l S6 = xm_l S := by
  obtain ⟨a1, a2, a3, a4, a5, a6, a7, a8⟩ := h
  have hk : k = j := ek.trans a1
  have n6 : ∀ p q, xm_n S6 p q = if p = 2 ∧ q = k then 1 else if p = 0 ∧ q = 12 then xm_n S 0 12 + 1 else if p = 0 ∧ q = 100 then xm_n S 0 100 + 1 else if p = 0 ∧ q = 101 then xm_n S 0 101 + 3 else if p = 10 + 12 ∧ q = xm_n S 0 12 then 3 else if 12 = 12 ∧ (p = 1 ∨ p = 2) ∧ q = xm_n S 0 12 then 0 else xm_n S p q := fun p q => by rw [e6, e3]; rfl
  refine ⟨hk, ?_, fun i hi => ⟨?_, ?_⟩, fun c hc h12 => ?_, fun p q hp => ?_, fun p q r hp => ⟨?_, ?_⟩, ?_⟩
  · rw [n6, if_neg (by omega), if_pos ⟨rfl, rfl⟩, a1]
  · rw [n6]
    by_cases e : i = j
    · rw [if_pos ⟨rfl, by omega⟩]
    · rw [if_neg (by omega), if_neg (by omega), if_neg (by omega), if_neg (by omega), if_neg (by omega), if_neg (by omega)]
      exact (a2 i (by omega)).1
  · rw [n6, if_neg (by omega), if_neg (by omega), if_neg (by omega), if_neg (by omega), if_neg (by omega)]
    by_cases e : i = j
    · rw [if_pos ⟨rfl, Or.inl rfl, by omega⟩]
    · rw [if_neg (by omega)]
      exact (a2 i (by omega)).2
  · rw [n6, if_neg (by omega), if_neg (by omega), if_neg (by omega), if_neg (by omega), if_neg (by omega), if_neg (by omega)]
    exact a3 c hc h12
  · rw [n6, if_neg (by omega), if_neg (by omega), if_neg (by omega), if_neg (by omega), if_neg (by omega), if_neg (by omega)]
    exact a4 p q hp
  · rw [e6, e3]
    exact xi_mkn (N := 3) (fun z => hp z.1)
  · rw [e6, e3]
    exact xr_mkn (N := 3) (fun z => hp z.1)
  · rw [e6, e3]; rfl
theorem kIni.s {S0 S S3 S6 S8 : xm_S} {j k : Nat} (h : kIni S0 S j) (hj : j < 12) (ek : k = xm_n S 0 12) (e3 : S3 = xm_mk 12 3 S) (e6 : S6 = xm_sn S3 2 k 1) (e8 : S8 = xm_sr S6 0 0 j (some k)) : kIni S0 S8 (j + 1) := by
  obtain ⟨b1, b2, b3, b4, b5, b6, b7⟩ := h.mk ek e3 e6
  obtain ⟨a1, a2, a3, a4, a5, a6, a7, a8⟩ := h
  have r8 : ∀ p q r, ¬ (p = 0 ∧ q = 0 ∧ r = j) → xm_r S8 p q r = xm_r S6 p q r := fun p q r z => by
    rw [e8]
    by_cases c : p = 0 ∧ q = 0
    · exact xr_sr (fun y => z ⟨c.1, c.2, y.2⟩)
    · exact xr_sk c
  refine ⟨by rw [e8]; exact b2, by rw [e8]; exact b3, by rw [e8]; exact b4, by rw [e8]; exact b5, fun i hi h12 => ?_, fun p q r hp => ?_, fun p q r hp hn => ?_, ?_⟩
  · by_cases e : i = j
    · rw [e8, e, xr_same, b1]
    · rw [r8 0 0 i (by omega), (b6 0 0 i (by decide)).2]
      exact a5 i (by omega) h12
  · rw [e8]
    exact (b6 p q r hp).1.trans (a6 p q r hp)
  · rw [r8 p q r (by omega), (b6 p q r hp).2]
    exact a7 p q r hp hn
  · rw [e8]
    exact b7.trans a8
end
