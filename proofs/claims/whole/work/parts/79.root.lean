/-! ===== THE FIRST CALL of an order ends ===== -/
section
set_option maxHeartbeats 400000
def kA0 (A : y_A) (c o : Nat) (h v b x : Int32) : y_A := xm_u2 (xm_u2 (xm_u2 (xm_u2 (kA1 A c h v b) 58 o x) 59 o v) 57 o (A 0 0)) 60 0 (A 60 0 + 1)
theorem kA0.F {c o : Nat} {I R : List (Nat × Nat)} {S S' : xm_S} {A : y_A} (h : kF c 0 I R [] S S' A A) (hw v b x : Int32) : kF c 0 I R [69, 70, 71, 68, 58, 59, 57, 60] S S' A (kA0 A c o hw v b x) := (((((kA1.F h hw v b).u 58 o _ (fun z => absurd z.1 (by decide)) (fun z => absurd z.2 (by decide))).u 59 o _ (fun z => absurd z.1 (by decide)) (fun z => absurd z.2 (by decide))).u 57 o _ (fun z => absurd z.1 (by decide)) (fun z => absurd z.2 (by decide))).u 60 0 _ (fun z => absurd z.1 (by decide)) (fun z => absurd z.2 (by decide))).w (fun _ z => z) (fun _ z => z) (by decide)
theorem kM.endr {S S' : xm_S} {A : y_A} {X E : Nat → Prop} {hb rb nb t w e1 e2 e1' e2' c o : Nat} {hw v b : Int32} (h : kM S A X (fun k => E k ∨ k = c) (fun _ => False) hb rb nb t w e1 e2) (hd : kEd S S' c hw v b) (hc : c < xm_n S 1 6) (h0 : xm_i S 2 c 8 = 0) (h75 : ¬ A 75 c = 1) (hX : ¬ X c) (hp : xm_r S 2 c 2 = none) (ho : xm_r S 2 c 1 = some o) (he : (hw = 1 ∧ e1 ≤ e1' + 1 ∧ e2 ≤ e2') ∨ (hw = 2 ∧ e1 ≤ e1' ∧ e2 ≤ e2' + 1)) :
    kM (xm_si S' 0 0 14 (xm_i S 0 0 14 + 1)) (kA0 A c o hw v b (k_how hw b)) X E (fun _ => False) hb rb nb t w e1' e2' := by
  obtain ⟨hE, hS, hgr, hI⟩ := h
  have hF0 := (kA0.F (o := o) (hd.1 A) hw v b (k_how hw b)).si 0 0 14 (xm_i S 0 0 14 + 1) (fun z => absurd z (by decide)) (fun z => absurd z (by decide))
  have hF := hF0.w (I' := [(2, 8), (2, 9), (2, 10), (2, 7), (0, 14)]) (R' := [(2, 11)]) (Z' := [69, 70, 71, 68, 58, 59, 57, 60]) (by decide) (by decide) (by decide)
  have hcc := hE.2.2.2.2.2.2.2.1 c hc
  have h10 := (hI.2.2.2.2.2.2.2.2.2.2.2.1).2.2.choose_spec.2.2.2 c hc
  have hv := kA1.v A c hw v b
  have hkc := hd.call hE.2.2.2.2.1.1 hcc h0 (h10.2.2 h0) hF (xi_si (by decide)) (xi_si (by decide)) (xi_si (by decide)) (xi_si (by decide)) rfl hv
  have h69 : A 69 c = 0 := by rw [← hcc.2.2.2.2.1]; exact h0
  have hne : xm_i S' 2 c 8 ≠ 0 := by
    rw [hd.2.1]
    rcases he with z | z
    · rw [z.1]; decide
    · rw [z.1]; decide
  have hne' : xm_i (xm_si S' 0 0 14 (xm_i S 0 0 14 + 1)) 2 c 8 ≠ 0 := fun z => hne ((xi_si (by decide)).symm.trans z)
  have hon : o < xm_n S 1 5 := by
    obtain ⟨o', w1, w2, -⟩ := hcc.2.2.2.2.2.2.2.2.2.1
    rw [ho] at w1
    cases w1
    exact w2
  have hEE : (fun k => E k ∨ (xm_r S 2 c 2 = some k ∧ ∃ g, xm_r S 2 k 4 = some g ∧ A 31 g = 3)) = E := by
    funext k
    rw [hp]
    exact propext ⟨fun z => z.resolve_right (fun y => by cases y.1), Or.inl⟩
  have hh : (xm_i (xm_si S' 0 0 14 (xm_i S 0 0 14 + 1)) 2 c 8 = 1 ∧ e1 ≤ e1' + 1 ∧ e2 ≤ e2') ∨ (xm_i (xm_si S' 0 0 14 (xm_i S 0 0 14 + 1)) 2 c 8 = 2 ∧ (∃ f, xm_r (xm_si S' 0 0 14 (xm_i S 0 0 14 + 1)) 2 c 11 = some f) ∧ e1 ≤ e1' ∧ e2 ≤ e2' + 1) := by
    have e8 : xm_i (xm_si S' 0 0 14 (xm_i S 0 0 14 + 1)) 2 c 8 = hw := (xi_si (by decide)).trans hd.2.1
    rcases he with ⟨z1, z2, z3⟩ | ⟨z1, z2, z3⟩
    · exact Or.inl ⟨e8.trans z1, z2, z3⟩
    · refine Or.inr ⟨e8.trans z1, ?_, z2, z3⟩
      rcases hd.2.2.2.2 with y | ⟨-, -, -, -, m, -, y, -⟩
      · rw [y.1] at z1; exact absurd z1 (by decide)
      · exact ⟨m, y⟩
  have hof : ∀ u, u + w < xm_n (xm_si S' 0 0 14 (xm_i S 0 0 14 + 1)) 1 5 → kof (xm_si S' 0 0 14 (xm_i S 0 0 14 + 1)) (kA0 A c o hw v b (k_how hw b)) u := fun u hu => by
    rw [hF.1] at hu
    obtain ⟨a1, a2, a3, a4, a5, a6, -, a8, -⟩ := hF
    obtain ⟨m, y1, y2, y3, y4, y5, y6, y7, y8⟩ := hI.2.2.2.2.2.2.2.2.2.2.2.2.2.2.2.2.2 u hu
    by_cases huo : u = o
    · have hmc : m = c := by
        have := ((hI.1 c hc).1 hp).2 o ho
        rw [← huo, y1] at this
        exact Option.some.inj this
      rw [hmc] at y1 y2 y3 y4 y7
      refine ⟨c, (a4 6 6 (by decide) u).trans y1, by rw [a1]; exact y2, (a4 2 1 (by decide) c).trans y3, (a4 2 2 (by decide) c).trans y4, ?_, fun _ => ?_, ?_, ?_⟩
      · rw [huo, show kA0 A c o hw v b (k_how hw b) 69 c = hw from hv.1, show kA0 A c o hw v b (k_how hw b) 71 c = b from hv.2.2.1]
        exact if_pos ⟨rfl, rfl⟩
      · rw [huo, show kA0 A c o hw v b (k_how hw b) 70 c = v from hv.2.1]
        exact if_pos ⟨rfl, rfl⟩
      · rw [a5 56 (by decide), a5 67 (by decide)]; exact y7
      · rw [huo, show kA0 A c o hw v b (k_how hw b) 68 c = A 0 0 from hv.2.2.2]
        exact if_pos ⟨rfl, rfl⟩
    · have hfc : m ≠ c := fun z => by
        rw [z, ho] at y3
        exact huo (Option.some.inj y3).symm
      refine ⟨m, (a4 6 6 (by decide) u).trans y1, by rw [a1]; exact y2, (a4 2 1 (by decide) m).trans y3, (a4 2 2 (by decide) m).trans y4, ?_, ?_, ?_, ?_⟩
      · rw [show kA0 A c o hw v b (k_how hw b) 58 u = A 58 u from (if_neg (fun z => huo z.2)), a8 69 m (by decide) hfc, a8 71 m (by decide) hfc]; exact y5
      · rw [show kA0 A c o hw v b (k_how hw b) 59 u = A 59 u from (if_neg (fun z => huo z.2)), a8 69 m (by decide) hfc, a8 70 m (by decide) hfc]; exact y6
      · rw [a5 56 (by decide), a8 67 m (by decide) hfc]; exact y7
      · rw [show kA0 A c o hw v b (k_how hw b) 57 u = A 57 u from (if_neg (fun z => huo z.2)), a8 68 m (by decide) hfc]; exact y8
  have hI' := kI.end (e1' := e1') (e2' := e2') hE hI hF hc h0 h75 hX hh hof
  rw [hEE] at hI'
  refine ⟨hE.call hF.kcS (fun x k => ?_) hkc (fun z => absurd (h69.symm.trans z) (by decide)) (fun z => absurd z hne'), kS.F hF (by decide) hS, fun g hg => ?_, hI'⟩
  · by_cases hx : x = 69 ∨ x = 70 ∨ x = 71 ∨ x = 68
    · by_cases hk : k = c
      · exact Or.inl ⟨by omega, by omega, hk⟩
      · exact Or.inr (Or.inr (Or.inr (hF.2.2.2.2.2.2.2.1 x k (by omega) hk)))
    · by_cases hx2 : 57 ≤ x ∧ x ≤ 60
      · exact Or.inr (Or.inl hx2)
      · refine Or.inr (Or.inr (Or.inr (hF.2.2.2.2.1 x ?_ k)))
        simp only [List.mem_cons, List.not_mem_nil, or_false]
        omega
  · rw [hF.1] at hg
    exact kgr.F hF (by decide) (by decide) (by decide) (by decide) (by decide) (by decide) (hgr g hg)
end
