/-! ===== THE WORKS, FROM NOTHING (printed by wip/whole/gen9zp.py) ===== -/
section
set_option maxRecDepth 40000
def kNew (S0 S : xm_S) : Prop := xm_n S 0 12 = 13 ∧ (∀ i, i < 13 → xm_n S 2 i = 1 ∧ xm_n S 1 i = 0) ∧ xm_n S 0 10 = xm_n S0 0 10 + 1 ∧ (∀ c, c < 100 → c ≠ 12 → c ≠ 10 → xm_n S 0 c = xm_n S0 0 c) ∧ (∀ p q, 25 ≤ p → xm_n S p q = xm_n S0 p q) ∧ xk_C S ∧ xm_r S 0 0 12 = some (xm_n S0 0 10) ∧ xm_r S 10 (xm_n S0 0 10) 0 = some 12 ∧ xm_i S 0 0 13 = 0 ∧ xm_i S 0 0 14 = 0 ∧ xm_i S 0 0 15 = 0 ∧ (∀ p q r, p ≠ 12 → p ≠ 10 → p ≠ 0 → xm_i S p q r = xm_i S0 p q r ∧ xm_r S p q r = xm_r S0 p q r)
theorem c_new0 {d : Nat} {S : xm_S} (hz : xm_n S 0 12 = 0) : xc (d + 1) 0 [.inr (some (0, 0))] S (fun r S' => r = none ∧ kNew S S') := by
  have h0 : kIni S S 0 := ⟨hz, fun i hi => absurd hi (by omega), fun _ _ _ => rfl, fun _ _ _ => rfl, fun i hi => absurd hi (by omega), fun _ _ _ _ => rfl, fun _ _ _ _ _ => rfl, rfl⟩
  refine cw_new0 (d := d) ?_
  intro k0 ek0 S0a e0a
  refine ⟨by rw [e0a, ek0]; exact kIni.z _, ?_⟩
  intro S0b e0b S0c e0c
  have h1 := h0.s (by decide) ek0 e0a e0b e0c
  clear h0 ek0 e0a e0b e0c
  intro k1 ek1 S1a e1a
  refine ⟨by rw [e1a, ek1]; exact kIni.z _, ?_⟩
  intro S1b e1b S1c e1c
  have h2 := h1.s (by decide) ek1 e1a e1b e1c
  clear h1 ek1 e1a e1b e1c
  intro k2 ek2 S2a e2a
  refine ⟨by rw [e2a, ek2]; exact kIni.z _, ?_⟩
  intro S2b e2b S2c e2c
  have h3 := h2.s (by decide) ek2 e2a e2b e2c
  clear h2 ek2 e2a e2b e2c
  intro k3 ek3 S3a e3a
  refine ⟨by rw [e3a, ek3]; exact kIni.z _, ?_⟩
  intro S3b e3b S3c e3c
  have h4 := h3.s (by decide) ek3 e3a e3b e3c
  clear h3 ek3 e3a e3b e3c
  intro k4 ek4 S4a e4a
  refine ⟨by rw [e4a, ek4]; exact kIni.z _, ?_⟩
  intro S4b e4b S4c e4c
  have h5 := h4.s (by decide) ek4 e4a e4b e4c
  clear h4 ek4 e4a e4b e4c
  intro k5 ek5 S5a e5a
  refine ⟨by rw [e5a, ek5]; exact kIni.z _, ?_⟩
  intro S5b e5b S5c e5c
  have h6 := h5.s (by decide) ek5 e5a e5b e5c
  clear h5 ek5 e5a e5b e5c
  intro k6 ek6 S6a e6a
  refine ⟨by rw [e6a, ek6]; exact kIni.z _, ?_⟩
  intro S6b e6b S6c e6c
  have h7 := h6.s (by decide) ek6 e6a e6b e6c
  clear h6 ek6 e6a e6b e6c
  intro k7 ek7 S7a e7a
  refine ⟨by rw [e7a, ek7]; exact kIni.z _, ?_⟩
  intro S7b e7b S7c e7c
  have h8 := h7.s (by decide) ek7 e7a e7b e7c
  clear h7 ek7 e7a e7b e7c
  intro k8 ek8 S8a e8a
  refine ⟨by rw [e8a, ek8]; exact kIni.z _, ?_⟩
  intro S8b e8b S8c e8c
  have h9 := h8.s (by decide) ek8 e8a e8b e8c
  clear h8 ek8 e8a e8b e8c
  intro k9 ek9 S9a e9a
  refine ⟨by rw [e9a, ek9]; exact kIni.z _, ?_⟩
  intro S9b e9b S9c e9c
  have h10 := h9.s (by decide) ek9 e9a e9b e9c
  clear h9 ek9 e9a e9b e9c
  intro k10 ek10 S10a e10a
  refine ⟨by rw [e10a, ek10]; exact kIni.z _, ?_⟩
  intro S10b e10b S10c e10c
  have h11 := h10.s (by decide) ek10 e10a e10b e10c
  clear h10 ek10 e10a e10b e10c
  intro k11 ek11 S11a e11a
  refine ⟨by rw [e11a, ek11]; exact kIni.z _, ?_⟩
  intro S11b e11b S11c e11c
  have h12 := h11.s (by decide) ek11 e11a e11b e11c
  clear h11 ek11 e11a e11b e11c
  generalize S11c = T at *
  obtain ⟨a1, a2, a3, a4, a5, a6, a7, a8⟩ := h12
  intro k ek U eU
  have hk : k = xm_n S 0 10 := ek.trans (a3 10 (by decide) (by decide))
  have uR : ∀ p q r, p ≠ 10 → xm_r U p q r = xm_r T p q r := fun p q r hp => by rw [eU]; exact xr_mkn (N := 1) (fun z => hp z.1)
  have uI : ∀ p q r, p ≠ 10 → xm_i U p q r = xm_i T p q r := fun p q r hp => by rw [eU]; exact xi_mkn (N := 1) (fun z => hp z.1)
  have uN : ∀ p q, xm_n U p q = if p = 0 ∧ q = 10 then xm_n T 0 10 + 1 else if p = 0 ∧ q = 100 then xm_n T 0 100 + 1 else if p = 0 ∧ q = 101 then xm_n T 0 101 + 1 else if p = 10 + 10 ∧ q = xm_n T 0 10 then 1 else if 10 = 12 ∧ (p = 1 ∨ p = 2) ∧ q = xm_n T 0 12 then 0 else xm_n T p q := fun p q => by rw [eU]; rfl
  have u12 : xm_n U 0 12 = 12 := by rw [uN, if_neg (by omega), if_neg (by omega), if_neg (by omega), if_neg (by omega), if_neg (by omega)]; exact a1
  have hC : xk_C U := fun j hj => (uR 0 0 j (by decide)).trans (a5 j hj hj)
  have hU : kIni U U 12 := ⟨u12, fun i hi => by
    rw [uN, uN, if_neg (by omega), if_neg (by omega), if_neg (by omega), if_neg (by omega), if_neg (by omega), if_neg (by omega), if_neg (by omega), if_neg (by omega), if_neg (by omega), if_neg (by omega)]
    exact a2 i hi, fun _ _ _ => rfl, fun _ _ _ => rfl, fun i hi _ => hC i hi, fun _ _ _ _ => rfl, fun _ _ _ _ _ => rfl, rfl⟩
  refine cw_newTower hC ?_
  intro kt ekt V eV
  refine ⟨by rw [eV, ekt]; exact kIni.z _, ?_⟩
  intro W eW Y eY
  obtain ⟨b1, b2, b3, b4, b5, b6, b7⟩ := hU.mk ekt eV eW
  have yR : ∀ p q r, p ≠ 12 → p ≠ 10 → xm_r Y p q r = xm_r T p q r := fun p q r h1 h2 => by
    rw [eY, xr_sk (fun z => h2 z.1), (b6 p q r h1).2, uR p q r h2]
  have yI : ∀ p q r, p ≠ 12 → p ≠ 10 → xm_i Y p q r = xm_i T p q r := fun p q r h1 h2 => by
    rw [eY]
    exact (b6 p q r h1).1.trans (uI p q r h2)
  have yN : xm_n Y = xm_n W := by rw [eY]; rfl
  refine ⟨rfl, fun j hj => (yR 0 0 j (by decide) (by decide)).trans (a5 j hj hj), ?_⟩
  intro Z1 z1 Z2 z2 Z3 z3 Z4 z4
  have ZN : xm_n Z4 = xm_n W := by rw [z4, z3, z2, z1, ← yN]; rfl
  have ZR : ∀ p q r, ¬ (p = 0 ∧ q = 0 ∧ r = 12) → xm_r Z4 p q r = xm_r Y p q r := fun p q r h => by
    rw [z4, z3, z2, z1]
    show xm_r (xm_sr Y 0 0 12 (some k)) p q r = _
    by_cases c : p = 0 ∧ q = 0
    · exact xr_sr (fun y => h ⟨c.1, c.2, y.2⟩)
    · exact xr_sk c
  have ZI : ∀ p q r, p ≠ 0 → xm_i Z4 p q r = xm_i Y p q r := fun p q r h => by
    rw [z4, z3, z2, z1]
    exact (xi_sk (fun z => h z.1)).trans ((xi_sk (fun z => h z.1)).trans ((xi_sk (fun z => h z.1)).trans rfl))
  refine ⟨rfl, by rw [ZN]; exact b2, by rw [ZN]; exact b3, ?_, fun c hc h1 h2 => ?_, fun p q hp => ?_, fun j hj => ?_, ?_, ?_, ?_, ?_, ?_, fun p q r h1 h2 h3 => ⟨?_, ?_⟩⟩
  · rw [ZN, b4 10 (by decide) (by decide), uN, if_pos ⟨rfl, rfl⟩, a3 10 (by decide) (by decide)]
  · rw [ZN, b4 c hc h1, uN, if_neg (by omega), if_neg (by omega), if_neg (by omega), if_neg (by omega), if_neg (by omega)]
    exact a3 c hc h1
  · rw [ZN, b5 p q hp, uN, if_neg (by omega), if_neg (by omega), if_neg (by omega), if_neg (by omega), if_neg (by omega)]
    exact a4 p q hp
  · rw [ZR 0 0 j (by omega), yR 0 0 j (by decide) (by decide)]
    exact a5 j hj hj
  · rw [z4, z3, z2, z1, ← hk]
    exact xr_same
  · rw [ZR 10 _ 0 (by omega), ← hk, eY, xr_same, b1]
  · rw [z4, z3, z2]
    exact (xi_si (by decide)).trans ((xi_si (by decide)).trans xi_same)
  · rw [z4, z3]
    exact (xi_si (by decide)).trans xi_same
  · rw [z4]
    exact xi_same
  · rw [ZI p q r h3, yI p q r h1 h2]
    exact a6 p q r h1
  · rw [ZR p q r (by omega), yR p q r h1 h2]
    exact a7 p q r h1 (by omega)
end
